/-! a whole line -/
def mhc (s : Nat) : Prop := s = 0 ∨ s = 1 ∨ s = 5 ∨ s = 6
theorem may_C : ∀ s : Nat, s ≤ 6 → ∀ μ : mm, f_8_mayHaveCond (nI s) μ = some (if s = 0 ∨ s = 1 ∨ s = 5 ∨ s = 6 then 1 else 0) := by
  intro s hs μ
  have e : s = 0 ∨ s = 1 ∨ s = 2 ∨ s = 3 ∨ s = 4 ∨ s = 5 ∨ s = 6 := by omega
  rcases e with rfl | rfl | rfl | rfl | rfl | rfl | rfl <;> (unfold f_8_mayHaveCond; decide)
theorem b64_rel {T : Nat → Nat} {n c i z y l s v : Nat} {w : Int32} {μ0 ν0 μ ν : mm} (hP : PS T n c i 0 z y μ ν) (hl : l < 10) (h0 : μ 26 0 = nI l) (h16 : ν 0 16 = nI l) (hL : ∀ k, k < l → LR z y μ ν k) (hs : s ≤ 6) (hv : v ≤ 999) (hv9 : s = 1 → v ≤ 9) (hw : w = if s = 5 then -9 else nI v) (e1 : ν 7 (4 * l) = nI s) (f1 : FL μ0 μ) (f2 : FN ν0 ν) : ∃ r μ' ν', f_8_readLine_b64 24 (nI s) (nI v) μ = some (r, μ') ∧ lt2 (nI (4 * l)) (nI s) (w, ν) = some ν' ∧ ((r = 1 ∧ ∃ i' z' y', i < i' ∧ PS T n c i' 0 z' y' μ' ν' ∧ μ' 26 0 = nI (l + 1) ∧ ν' 0 16 = nI l ∧ (∀ k, k < l + 1 → LR z' y' μ' ν' k) ∧ FL μ0 μ' ∧ FN ν0 ν') ∨ (r = 0 ∧ Bl T n c μ0 ν0 μ' ν')) := by
  have e5 := hP.1.2.2.2.2.1
  have e7 := hP.1.2.2.2.1
  obtain ⟨ν14, h14⟩ : ∃ ν14, ν14 = up (up ν 7 (4 * l + 1) w) 7 (4 * l + 2) (nI y) := ⟨_, rfl⟩
  have hP14 : PS T n c i 0 z y μ ν14 := by rw [h14]; exact PS_7 (PS_7 hP)
  have n7 : ∀ k, k ≠ 4 * l + 1 → k ≠ 4 * l + 2 → ν14 7 k = ν 7 k := fun k k1 k2 => by rw [h14, up_ns k2, up_ns k1]
  have e14a : ν14 7 (4 * l) = nI s := by rw [n7 _ (by omega) (by omega)]; exact e1
  have e14b : ν14 7 (4 * l + 1) = (if s = 5 then -9 else nI v) := by rw [h14, up_ns (by omega), up_at]; exact hw
  have e14c : ν14 7 (4 * l + 2) = nI y := by rw [h14, up_at]
  have e148 : ν14 8 = ν 8 := by rw [h14, up_ne (by decide), up_ne (by decide)]
  have e14d : ν14 0 = ν 0 := by rw [h14, up_ne (by decide), up_ne (by decide)]
  have f14 : FN ν0 ν14 := by rw [h14]; exact FN_t (FN_t f2 FN_7) FN_7
  have L14 : ∀ k, k < l → LR z y μ ν14 k := fun k hk => LR_cg (hL k hk) (Nat.le_refl _) (Nat.le_refl _) ⟨rfl, rfl, rfl, rfl⟩ (fun _ _ => rfl) (fun j hj => n7 j (by omega) (by omega)) (fun j _ => by rw [e148])
  have hn := name_M (k := 7) hP14.2.1 (by decide) hP14.2.2.1
  rw [show 1000 + wI 7 = 1014 from rfl] at hn
  have hM : lt2 (nI (4 * l)) (nI s) (w, ν) = (if (if cd T n (pz T n i) = nI 7 then (1 : Int32) else 0) = 0 then some ν14 else if nI s < 2 then (f_12_next 0 ν14).bind fun μ19 => (f_12_either_G 20 0 0 μ19).bind fun μ21 => some μ21 else if nI s ≤ 4 then some ν14 else (f_12_next 0 ν14).bind fun μ23 => (f_12_either_G 20 0 0 μ23).bind fun μ25 => some μ25).bind fun (z26 : mm) => lt1 (nI (4 * l)) (nI s) z26 := by
    unfold lt2
    dsimp only
    rw [nI_1, st7 (by omega), Option.bind_some, nI_p2, up_ne (by decide), hP.2.2.2.2.1, st7 (by omega), Option.bind_some, ← h14, hn, Option.bind_some]
  -- without a condition
  have plain : ∃ r μ' ν', f_8_readLine_b102 24 (nI s) (nI v) (nI z) μ = some (r, μ') ∧ lt1 (nI (4 * l)) (nI s) ν14 = some ν' ∧ ((r = 1 ∧ ∃ i' z' y', i < i' ∧ PS T n c i' 0 z' y' μ' ν' ∧ μ' 26 0 = nI (l + 1) ∧ ν' 0 16 = nI l ∧ (∀ k, k < l + 1 → LR z' y' μ' ν' k) ∧ FL μ0 μ' ∧ FN ν0 ν') ∨ (r = 0 ∧ Bl T n c μ0 ν0 μ' ν')) := by
    obtain ⟨r, μ', ν', a1, a2, a3⟩ := tail_rel (s := s) (v := v) (fm := y) (fc := z) (x := 0) hP14 hl h0 (by rw [e14d]; exact h16) L14 hs hv hv9 (Nat.le_refl _) (Nat.le_refl _) ⟨fun _ => rfl, fun _ => rfl⟩ (fun q => absurd q (by omega)) e14a e14b e14c f1 f14
    refine ⟨r, μ', ν', a1, a2, ?_⟩
    rcases a3 with ⟨b1, i', b2, b3⟩ | a3
    · exact Or.inl ⟨b1, i', z, y, b2, b3⟩
    · exact Or.inr a3
  by_cases c7 : cd T n (pz T n i) = nI 7
  · have m7 : μ 24 7 = 7 := e7.trans c7
    by_cases hc : s = 0 ∨ s = 1 ∨ s = 5 ∨ s = 6
    · obtain ⟨p1, p2⟩ := word_on (by decide) c7
      rw [show wl 7 = 2 from rfl] at p2
      obtain ⟨μ6, ν19, s1, s2, hP6, ⟨s4, s5⟩, ⟨s6, s7⟩⟩ := PS_step hP14 p1
      obtain ⟨r8, μ8, ν21, k1, k2, k3⟩ := cond_ok (c := c) 4 0 rfl 7 2 (i + 1) z y μ6 ν19 hP6
      rw [show 7 + 4 * 4 + 4 = 27 from rfl, show nI 0 = 0 from rfl] at k1
      rw [show 2 + 3 * 4 + 6 = 20 from rfl] at k2
      have hC : f_8_readLine_b64 24 (nI s) (nI v) μ = if r8 = 0 then some (0, μ8) else f_8_readLine_b102 24 (nI s) (nI v) (nI z) μ8 := by
        unfold f_8_readLine_b64 f_5_codeEnd
        rw [rf_24_2, e5, Option.bind_some, if_pos m7, may_C s hs, if_pos hc, Option.bind_some, if_neg (by decide), s1, Option.bind_some, k1, Option.bind_some]
      have hM2 : lt2 (nI (4 * l)) (nI s) (w, ν) = lt1 (nI (4 * l)) (nI s) ν21 := by
        rw [hM, if_pos c7, if_neg (by decide)]
        have : nI s < 2 ∨ (¬ nI s < 2 ∧ ¬ nI s ≤ 4) := by
          rcases hc with rfl | rfl | rfl | rfl
          · exact Or.inl (by decide)
          · exact Or.inl (by decide)
          · exact Or.inr ⟨by decide, by decide⟩
          · exact Or.inr ⟨by decide, by decide⟩
        rcases this with q | ⟨q1, q2⟩
        · rw [if_pos q, s2, Option.bind_some, k2, Option.bind_some, Option.bind_some]
        · rw [if_neg q1, if_neg q2, s2, Option.bind_some, k2, Option.bind_some, Option.bind_some]
      rw [hC, hM2]
      have fl8 : FL μ0 μ6 := FL_t f1 (FC_FL s4)
      have fn8 : FN ν0 ν19 := FN_t f14 (FM_FN s6)
      rcases k3 with ⟨rfl, i8, z8, y8, hP8, ⟨g1, g2, g3, g4, g5⟩, g6, g7, g8⟩ | ⟨rfl, hB⟩
      · obtain ⟨q1, q2⟩ := gq_ne g8
        have y8' : y < y8 := by
          rcases Nat.lt_or_ge y y8 with t | t
          · exact t
          · exact absurd (by rw [show y8 - y = 0 from by omega]; rfl) q1
        have z8' : z < z8 := by
          rcases Nat.lt_or_ge z z8 with t | t
          · exact t
          · exact absurd (by rw [show z8 - z = 0 from by omega]; rfl) q2
        have m26 : ∀ k, k ≠ 5 → μ8 26 k = μ 26 k := fun k hk => by rw [g6.2.2.1 k hk, s4.2.2.1 k hk]
        have n7' : ν21 7 = ν14 7 := by rw [g7.1 7 (by decide) (by decide), s6.1 7 (by decide) (by decide)]
        have cells : ∀ b, b ≠ 24 → b ≠ 26 → b ≠ 31 → μ8 b = μ b := fun b b1 b2 b3 => by rw [g6.1 b b1 b2 b3, s4.1 b b1 b2 b3]
        obtain ⟨r, μ', ν', a1, a2, a3⟩ := tail_rel (s := s) (v := v) (fm := y) (fc := z) (x := 0) hP8 hl (by rw [m26 0 (by decide)]; exact h0) (by rw [g7.2.1 16 (by omega), s6.2.1 16 (by omega), e14d]; exact h16) (fun k hk => LR_cg (L14 k hk) g2 g3 ⟨by rw [cells 27 (by decide) (by decide) (by decide)], by rw [cells 28 (by decide) (by decide) (by decide)], by rw [cells 29 (by decide) (by decide) (by decide)], by rw [cells 30 (by decide) (by decide) (by decide)]⟩ (fun j hj => by rw [g6.2.2.2 j hj, s5]) (fun j _ => by rw [n7']) (fun j hj => by rw [g7.2.2 j hj, s7])) hs hv hv9 (by omega) (by omega) ⟨fun q => absurd q (by omega), fun q => absurd q (by omega)⟩ (fun _ => gq_mono g8 (by decide)) (by rw [n7']; exact e14a) (by rw [n7']; exact e14b) (by rw [n7']; exact e14c) (FL_t fl8 (FC_FL g6)) (FN_t fn8 (FM_FN g7))
        refine ⟨r, μ', ν', ?_, a2, ?_⟩
        · rw [if_neg (by decide)]
          exact a1
        · rcases a3 with ⟨b1, i', b2, b3⟩ | a3
          · exact Or.inl ⟨b1, i', z8, y8, by omega, b3⟩
          · exact Or.inr a3
      · refine ⟨0, μ8, up ν21 7 (4 * l + 3) (ν21 0 15), ?_, lt1_X hl hB.2.1, Or.inr ⟨rfl, Bl_7 (Bl_t fl8 fn8 (Bd_Bl hB))⟩⟩
        rw [if_pos rfl]
    · have hC : f_8_readLine_b64 24 (nI s) (nI v) μ = f_8_readLine_b102 24 (nI s) (nI v) (nI z) μ := by
        unfold f_8_readLine_b64 f_5_codeEnd
        rw [rf_24_2, e5, Option.bind_some, if_pos m7, may_C s hs, if_neg hc, Option.bind_some, if_pos rfl]
      have hM2 : lt2 (nI (4 * l)) (nI s) (w, ν) = lt1 (nI (4 * l)) (nI s) ν14 := by
        rw [hM, if_pos c7, if_neg (by decide), if_neg (show ¬ nI s < 2 from nI_nlt (b := 2) (by omega) (by omega)), if_pos (show nI s ≤ 4 from nI_le (b := 4) (by omega) (by decide)), Option.bind_some]
      rw [hC, hM2]
      exact plain
  · have hC : f_8_readLine_b64 24 (nI s) (nI v) μ = f_8_readLine_b102 24 (nI s) (nI v) (nI z) μ := by
      unfold f_8_readLine_b64 f_5_codeEnd
      rw [rf_24_2, e5, Option.bind_some, if_neg (show ¬ μ 24 7 = 7 from fun t => c7 (e7.symm.trans t))]
    have hM2 : lt2 (nI (4 * l)) (nI s) (w, ν) = lt1 (nI (4 * l)) (nI s) ν14 := by
      rw [hM, if_neg c7, if_pos rfl, Option.bind_some]
    rw [hC, hM2]
    exact plain
theorem line_rel {T : Nat → Nat} {n c i z y l : Nat} {μ ν : mm} (hP : PS T n c i 0 z y μ ν) (hl : l < 10) (h0 : μ 26 0 = nI l) (h16 : ν 0 16 = nI l) (hL : ∀ k, k < l → LR z y μ ν k) : ∃ r μ' ν', f_8_readLine 24 μ = some (r, μ') ∧ f_12_lineAt 0 (nI (4 * l)) ν = some ν' ∧ ((r = 1 ∧ ∃ i' z' y', i < i' ∧ PS T n c i' 0 z' y' μ' ν' ∧ μ' 26 0 = nI (l + 1) ∧ ν' 0 16 = nI l ∧ (∀ k, k < l + 1 → LR z' y' μ' ν' k) ∧ FL μ μ' ∧ FN ν ν') ∨ (r = 0 ∧ Bl T n c μ ν μ' ν')) := by
  have e7 := hP.1.2.2.2.1
  have hf := hP.2.2.1
  by_cases a : ∃ s, s < 7 ∧ cd T n (pz T n i) = nI s
  · obtain ⟨s, hs, es⟩ := a
    obtain ⟨p1, p2⟩ := word_on (by omega) es
    obtain ⟨μ4, ν4, s1, s2, hP4, ⟨s4, s5⟩, ⟨s6, s7⟩⟩ := PS_step hP p1
    have hnm : ∀ j, j < 7 → f_12_isName 0 (1000 + j) ν = some (if j = s then 1 else 0) := fun j hj => by
      have := name_M (k := j) hP.2.1 (by omega) hf
      rw [wI_00 j hj, es] at this
      rw [this]
      by_cases q : j = s
      · rw [if_pos (by rw [q]), if_pos q]
      · rw [if_neg (fun t => q ((nI_eq (by omega) (by omega)).mp t).symm), if_neg q]
    have fy := sort_yes (A := nI (4 * l)) hs hnm 7 0 FU (-1) rfl (show 7 < 2000 by decide) (fun t => absurd t (by omega))
    rw [show nI 0 = 0 from rfl] at fy
    have in1 : f_11_isIn (μ 24 7) 0 6 μ = some 1 := by rw [e7, es]; exact isIn_t ⟨nI_pos' (by omega), nI_le (b := 6) (by omega) (by decide)⟩
    obtain ⟨ν6, h6⟩ : ∃ ν6, ν6 = up ν4 7 (4 * l) (nI s) := ⟨_, rfl⟩
    have hP6 : PS T n c (i + 1) 0 z y μ4 ν6 := by rw [h6]; exact PS_7 hP4
    have e6 : ν6 7 (4 * l) = nI s := by rw [h6, up_at]
    have e60 : ν6 0 16 = nI l := by rw [h6, up_ne (by decide), s6.2.1 16 (by omega)]; exact h16
    have fl4 : FL μ μ4 := FC_FL s4
    have fn6 : FN ν ν6 := by rw [h6]; exact FN_t (FM_FN s6) FN_7
    have L6 : ∀ k, k < l → LR z y μ4 ν6 k := fun k hk => LR_cg (hL k hk) (Nat.le_refl _) (Nat.le_refl _) ⟨by rw [s4.1 27 (by decide) (by decide) (by decide)], by rw [s4.1 28 (by decide) (by decide) (by decide)], by rw [s4.1 29 (by decide) (by decide) (by decide)], by rw [s4.1 30 (by decide) (by decide) (by decide)]⟩ (fun j _ => by rw [s5]) (fun j hj => by rw [h6, up_ns (by omega), s6.1 7 (by decide) (by decide)]) (fun j _ => by rw [h6, up_ne (by decide), s7])
    have h04 : μ4 26 0 = nI l := by rw [s4.2.2.1 0 (by decide)]; exact h0
    have hM0 : f_12_lineAt 0 (nI (4 * l)) ν = (if nI s = 5 then some ((-9 : Int32), ν6) else (if nI s = 1 then some 9 else some 999).bind fun (z8 : Int32) => (f_12_number 0 z8 ν6).bind fun z10 => some (z10.1, z10.2)).bind fun (z11 : Int32 × mm) => lt2 (nI (4 * l)) (nI s) z11 := by
      rw [line_eq, fy, Option.bind_some, if_neg (nI_pos (by omega)), Option.bind_some, need_Y hf, s2, Option.bind_some, st7 (by omega), Option.bind_some, ← h6]
    by_cases s5' : s = 5
    · subst s5'
      have hC0 : f_8_readLine 24 μ = f_8_readLine_b64 24 (nI 5) (nI 0) μ4 := by
        unfold f_8_readLine
        rw [in1, Option.bind_some, if_neg (by decide), s1, Option.bind_some, e7, es, if_pos (show nI 5 = 5 from rfl)]
        rfl
      obtain ⟨r, μ', ν', a1, a2, a3⟩ := b64_rel (s := 5) (v := 0) (w := -9) hP6 hl h04 e60 L6 (by decide) (by decide) (fun t => absurd t (by decide)) rfl e6 fl4 fn6
      refine ⟨r, μ', ν', by rw [hC0]; exact a1, by rw [hM0, if_pos (show nI 5 = 5 from rfl), Option.bind_some]; exact a2, ?_⟩
      rcases a3 with ⟨b1, i', z', y', b2, b3⟩ | a3
      · exact Or.inl ⟨b1, i', z', y', by omega, b3⟩
      · exact Or.inr a3
    · have n5 : ¬ nI s = 5 := fun t => s5' ((nI_eq (b := 5) (by omega) (by decide)).mp t)
      obtain ⟨M, hM, hM9, hMb, hMe⟩ : ∃ M, M ≤ 999 ∧ (s = 1 → M ≤ 9) ∧ (if nI s = 1 then some (9 : Int32) else some 999) = some (nI M) ∧ True := by
        by_cases q : s = 1
        · exact ⟨9, by decide, fun _ => Nat.le_refl _, if_pos (by rw [q]; rfl), trivial⟩
        · exact ⟨999, by decide, fun t => absurd t q, if_neg (show ¬ nI s = 1 from fun t => q ((nI_eq (b := 1) (by omega) (by decide)).mp t)), trivial⟩
      have hC0 : f_8_readLine 24 μ = (f_8_isNumberUpTo 24 (nI M) μ4).bind fun x7 => if x7 = 0 then some (0, μ4) else (ld μ4 34 (μ4 24 6)).bind fun x8 => (f_8_step 24 μ4).bind fun μ11 => f_8_readLine_b64 24 (nI s) x8 μ11 := by
        unfold f_8_readLine
        rw [in1, Option.bind_some, if_neg (by decide), s1, Option.bind_some, e7, es, if_neg n5, hMb, Option.bind_some, rf_24_5]
      have hM1 : f_12_lineAt 0 (nI (4 * l)) ν = (f_12_number 0 (nI M) ν6).bind fun z11 => lt2 (nI (4 * l)) (nI s) z11 := by
        rw [hM0, if_neg n5, hMb, Option.bind_some, bind_eta]
      obtain ⟨u1, u2⟩ := upTo (M := M) hP6 hM
      rcases number_M (M := M) hP6.2.1 hM hP6.2.2.1 with ⟨good, nm⟩ | ⟨bad, x, nm⟩
      · obtain ⟨u3, u4⟩ := u1 good
        obtain ⟨μ11, ν11, r1, r2, hP11, ⟨r4, r5⟩, ⟨r6, r7⟩⟩ := PS_step hP6 good.1
        obtain ⟨w, hw⟩ : ∃ w, w = vl T n (pz T n (i + 1)) := ⟨_, rfl⟩
        rw [← hw] at u4 nm good
        have hwM : w ≤ M := good.2.2
        obtain ⟨r, μ', ν', a1, a2, a3⟩ := b64_rel (s := s) (v := w) (w := nI w) (μ0 := μ) (ν0 := ν) hP11 hl (by rw [r4.2.2.1 0 (by decide)]; exact h04) (by rw [r6.2.1 16 (by omega)]; exact e60) (fun k hk => LR_cg (L6 k hk) (Nat.le_refl _) (Nat.le_refl _) ⟨by rw [r4.1 27 (by decide) (by decide) (by decide)], by rw [r4.1 28 (by decide) (by decide) (by decide)], by rw [r4.1 29 (by decide) (by decide) (by decide)], by rw [r4.1 30 (by decide) (by decide) (by decide)]⟩ (fun j _ => by rw [r5]) (fun j _ => by rw [r6.1 7 (by decide) (by decide)]) (fun j _ => by rw [r7])) (by omega) (by omega) (fun t => by have := hM9 t; omega) (if_neg s5').symm (by rw [r6.1 7 (by decide) (by decide)]; exact e6) (FL_t fl4 (FC_FL r4)) (FN_t fn6 (FM_FN r6))
        refine ⟨r, μ', ν', by rw [hC0, u3, Option.bind_some, if_neg (by decide), u4, Option.bind_some, r1, Option.bind_some]; exact a1, by rw [hM1, nm, r2, Option.bind_some, Option.bind_some]; exact a2, ?_⟩
        rcases a3 with ⟨b1, i', z', y', b2, b3⟩ | a3
        · exact Or.inl ⟨b1, i', z', y', by omega, b3⟩
        · exact Or.inr a3
      · obtain ⟨ν', t1, t2⟩ := lt2_X (l := l) (z1 := nI s) (x := x) hl (Bl_t fl4 fn6 (Bd_Bl (Bd_here hP6)))
        exact ⟨0, μ4, ν', by rw [hC0, u2 bad, Option.bind_some, if_pos rfl], by rw [hM1, nm, Option.bind_some]; exact t1, Or.inr ⟨rfl, t2⟩⟩
  · have na : ∀ j, j < 7 → ¬ cd T n (pz T n i) = nI j := fun j hj q => a ⟨j, hj, q⟩
    have hnm : ∀ j, j < 7 → f_12_isName 0 (1000 + j) ν = some 0 := fun j hj => by
      have := name_M (k := j) hP.2.1 (by omega) hf
      rw [wI_00 j hj, if_neg (na j hj)] at this
      exact this
    have fn := sort_no (A := nI (4 * l)) hnm 7 0 FU rfl (show 7 < 2000 by decide)
    rw [show nI 0 = 0 from rfl] at fn
    have in1 : f_11_isIn (μ 24 7) 0 6 μ = some 0 := isIn_f (fun q => by
      obtain ⟨j, hj, ej⟩ := nI_of (x := μ 24 7) (Int32.not_lt.mpr q.1)
      rw [ej] at q
      have q2 := (nI_leI (b := 6) hj (by decide)).mp q.2
      exact na j (by omega) (e7.symm.trans ej))
    have hB : Bl T n c μ ν μ (up (up ν 0 13 1) 7 (4 * l) (-1)) := Bl_7 (Bd_Bl (Bd_here hP))
    obtain ⟨ν', t1, t2⟩ := lt2_X (l := l) (z1 := -1) (x := 0) hl hB
    refine ⟨0, μ, ν', ?_, ?_, Or.inr ⟨rfl, t2⟩⟩
    · unfold f_8_readLine
      rw [in1, Option.bind_some, if_pos rfl]
    · rw [line_eq, fn, Option.bind_some, if_pos (by decide), Option.bind_some, need_N hf, Option.bind_some, st7 (by omega), Option.bind_some, if_neg (by decide), if_neg (by decide), Option.bind_some, number_X hB.2.1, Option.bind_some, Option.bind_some]
      exact t1
