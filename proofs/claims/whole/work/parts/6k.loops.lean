/-! conditions: and, or -/
theorem qall_l {T : Nat → Nat} {n c o d : Nat} {rc : Nat → Nat → Int32 → mm → Option (Int32 × mm)} {rm : Nat → Nat → mm → Option mm} (hrc : ∀ i z y μ ν, PS T n c i o z y μ ν → Rel T n c o d (rc 2 24 (nI o) μ) (rm 2 0 ν) μ ν i z y) {μ0 ν0 : mm} {i0 z0 y0 : Nat} : ∀ (m i z y v f1 f2 : Nat) (μ ν : mm), i + m = c → m < f1 → m < f2 → v ≤ i → GdE T n c o (d + 1) μ0 ν0 i0 z0 y0 μ ν i z y → ∃ r μ' ν', f_8_readAll_l8 rc 24 (nI o) f1 1 (nI v) μ = some (r, μ') ∧ f_12_all_l4 rm 0 f2 ν = some ν' ∧ ((r = 1 ∧ ∃ i' z' y', GdE T n c o (d + 1) μ0 ν0 i0 z0 y0 μ' ν' i' z' y') ∨ (r = 0 ∧ Bd T n c μ0 ν0 μ' ν')) := by
  intro m
  induction m using Nat.strongRecOn with
  | ind m ih =>
    intro i z y v f1 f2 μ ν h1 h2 h3 h4 hG
    obtain ⟨p, rfl⟩ : ∃ p, f1 = p + 1 := ⟨f1 - 1, by omega⟩
    obtain ⟨q, rfl⟩ : ∃ q, f2 = q + 1 := ⟨f2 - 1, by omega⟩
    have hP := hG.1
    have c300 := hP.1.1.1
    have e7 := hP.1.2.2.2.1
    have hn := name_M (k := 8) hP.2.1 (by decide) hP.2.2.1
    rw [show 1000 + wI 8 = 1016 from rfl] at hn
    by_cases ca : cd T n (pz T n i) = nI 8
    · obtain ⟨hpn, hon⟩ := word_on (by decide) ca
      rw [show wl 8 = 3 from rfl] at hon
      have hic := PS_ic hP hpn
      obtain ⟨μ2, ν2, s1, s2, s3, ⟨s4, s5⟩, ⟨s6, s7⟩⟩ := PS_step hP hpn
      obtain ⟨r4, μ4, ν4, k1, k2, k3⟩ := hrc (i + 1) z y μ2 ν2 s3
      obtain ⟨-, ⟨g1, g2, g3, g4, g5⟩, g6, g7, g8⟩ := hG
      have hC0 : f_8_readAll_l8 rc 24 (nI o) (p + 1) 1 (nI v) μ = (f_5_addCode 26 (-1) μ4).bind fun μ6 => f_8_readAll_l8 rc 24 (nI o) p r4 (nI (v + 1)) μ6 := by
        conv => lhs; unfold f_8_readAll_l8
        rw [if_neg (show ¬ (300 : Int32) ≤ nI v from nI_ge (b := 300) (by omega) (by decide)), if_neg (by decide), if_pos (show μ 24 7 = 8 from e7.trans ca), s1, Option.bind_some, k1, Option.bind_some, rf_24_2, nI_1]
      have hM0 : f_12_all_l4 rm 0 (q + 1) ν = (f_12_codes 0 30001 ν4).bind fun μ8 => f_12_all_l4 rm 0 q μ8 := by
        conv => lhs; unfold f_12_all_l4
        rw [hn, if_pos ca, Option.bind_some, if_neg (by decide), s2, Option.bind_some, k2, Option.bind_some]
      rw [hC0, hM0]
      rcases k3 with ⟨rfl, i4, z4, y4, hP4, ⟨e1, e2, e3, e4, e5⟩, e6, e7', e8⟩ | ⟨rfl, hB⟩
      · have hz5 := hP.1.2.2.2.2.2
        have hy5 := hP.2.2.2.2.2
        have q1 : slc (ν4 8) y0 (y4 - y0) = slc (ν 8) y0 (y - y0) ++ slc (ν4 8) y (y4 - y) := by
          rw [show y4 - y0 = (y - y0) + (y4 - y) from by omega, slc_app, show y0 + (y - y0) = y from by omega, slc_cg (f := ν4 8) (g := ν 8) (fun j a b => by rw [e7'.2.2 j (by omega), s7])]
        have q2 : slc (μ4 31) z0 (z4 - z0) = slc (μ 31) z0 (z - z0) ++ slc (μ4 31) z (z4 - z) := by
          rw [show z4 - z0 = (z - z0) + (z4 - z) from by omega, slc_app, show z0 + (z - z0) = z from by omega, slc_cg (f := μ4 31) (g := μ 31) (fun j a b => by rw [e6.2.2.2 j (by omega), s5])]
        obtain ⟨a1, a2, a3⟩ := GdE_add (d := d + 1) (u := 30001) (v := (-1)) (μ0 := μ0) (ν0 := ν0) (i0 := i0) (z0 := z0) (y0 := y0) hP4 (by omega) (by omega) ⟨by omega, by omega, by omega, by omega, by omega⟩ (FC_t g6 (FC_t s4 e6 (Nat.le_refl _)) g2) (FM_t g7 (FM_t s6 e7' (Nat.le_refl _)) g3) (by rw [q1, q2]; exact gq_and g8 e8 (Nat.le_refl _) (Nat.le_refl _))
        have hi4 := hP4.1.2.1
        obtain ⟨r, μ', ν', t1, t2, t3⟩ := ih (c - i4) (by omega) i4 (z4 + 1) (y4 + 1) (v + 1) p q _ _ (by omega) (by omega) (by omega) (by omega) a3
        exact ⟨r, μ', ν', by rw [a1, Option.bind_some]; exact t1, by rw [a2, Option.bind_some]; exact t2, t3⟩
      · obtain ⟨hi, hf, ⟨z', hz', ez'⟩, hB4, hB5⟩ := hB
        obtain ⟨μ6, a1, a2, a3, a4⟩ := addC_any (v := (-1)) ez' hz'
        obtain ⟨p, rfl⟩ : ∃ p', p = p' + 1 := ⟨p - 1, by omega⟩
        obtain ⟨q, rfl⟩ : ∃ q', q = q' + 1 := ⟨q - 1, by omega⟩
        refine ⟨0, μ6, ν4, ?_, ?_, Or.inr ⟨rfl, Bd_t (FC_t g6 s4 g2) (FM_t g7 s6 g3) ⟨?_, hf, a2, FC_t hB4 a3 (Nat.le_refl _), hB5⟩⟩⟩
        · rw [a1, Option.bind_some]
          unfold f_8_readAll_l8
          by_cases z : (300 : Int32) ≤ nI (v + 1)
          · rw [if_pos z]
          · rw [if_neg z, if_pos rfl]
        · rw [codes_X hf, Option.bind_some]
          unfold f_12_all_l4
          rw [name_F hf, Option.bind_some, if_pos rfl]
        · obtain ⟨i, j1, j2, j3⟩ := hi
          exact ⟨i, j1, by rw [a4]; exact j2, j3⟩
    · refine ⟨1, μ, ν, ?_, ?_, Or.inl ⟨rfl, i, z, y, hG⟩⟩
      · unfold f_8_readAll_l8
        by_cases z : (300 : Int32) ≤ nI v
        · rw [if_pos z]
        · rw [if_neg z, if_neg (by decide), if_neg (show ¬ μ 24 7 = 8 from fun t => ca (e7.symm.trans t))]
      · unfold f_12_all_l4
        rw [hn, if_neg ca, Option.bind_some, if_pos rfl]
theorem qall_ok {T : Nat → Nat} {n c o d : Nat} {rc : Nat → Nat → Int32 → mm → Option (Int32 × mm)} {rm : Nat → Nat → mm → Option mm} (hrc : ∀ i z y μ ν, PS T n c i o z y μ ν → Rel T n c o d (rc 2 24 (nI o) μ) (rm 2 0 ν) μ ν i z y) : ∀ i z y μ ν, PS T n c i o z y μ ν → Rel T n c o (d + 1) (f_8_readAll_b rc 24 (nI o) μ) (f_12_all_b rm 0 ν) μ ν i z y := by
  intro i z y μ ν hP
  have c300 := hP.1.1.1
  obtain ⟨r1, μ1, ν1, k1, k2, k3⟩ := hrc i z y μ ν hP
  rcases k3 with ⟨rfl, i1, z1, y1, g0, g1, g2, g3, g4⟩ | ⟨rfl, hB⟩
  · have hi1 := g0.1.2.1
    obtain ⟨r, μ', ν', t1, t2, t3⟩ := qall_l hrc (c - i1) i1 z1 y1 0 FU FU μ1 ν1 (by omega) (show c - i1 < 2000 by omega) (show c - i1 < 2000 by omega) (Nat.zero_le _) ⟨g0, g1, g2, g3, gq_mono g4 (Nat.le_succ _)⟩
    rw [show nI 0 = 0 from rfl] at t1
    refine ⟨r, μ', ν', ?_, ?_, t3⟩
    · unfold f_8_readAll_b
      rw [k1, Option.bind_some]
      dsimp only
      rw [t1, Option.bind_some]
      rcases t3 with ⟨rfl, -⟩ | ⟨rfl, -⟩
      · rw [gb_1, Option.bind_some]
      · rw [gb_0, Option.bind_some]
    · unfold f_12_all_b
      rw [k2, Option.bind_some, t2, Option.bind_some]
  · refine ⟨0, μ1, ν1, ?_, ?_, Or.inr ⟨rfl, hB⟩⟩
    · unfold f_8_readAll_b
      rw [k1, Option.bind_some]
      dsimp only
      rw [show f_8_readAll_l8 rc 24 (nI o) FU 0 0 μ1 = some (0, μ1) from ?_, Option.bind_some, gb_0, Option.bind_some]
      show f_8_readAll_l8 rc 24 (nI o) (1999 + 1) 0 0 μ1 = some (0, μ1)
      unfold f_8_readAll_l8
      rw [if_neg (by decide), if_pos rfl]
    · unfold f_12_all_b
      rw [k2, Option.bind_some, show f_12_all_l4 rm 0 FU ν1 = some ν1 from ?_, Option.bind_some]
      show f_12_all_l4 rm 0 (1999 + 1) ν1 = some ν1
      unfold f_12_all_l4
      rw [name_F hB.2.1, Option.bind_some, if_pos rfl]
theorem qcond_l {T : Nat → Nat} {n c o d : Nat} {rc : Nat → Nat → Int32 → mm → Option (Int32 × mm)} {rm : Nat → Nat → mm → Option mm} (hrc : ∀ i z y μ ν, PS T n c i o z y μ ν → Rel T n c o d (rc 1 24 (nI o) μ) (rm 1 0 ν) μ ν i z y) {μ0 ν0 : mm} {i0 z0 y0 : Nat} : ∀ (m i z y v f1 f2 : Nat) (μ ν : mm), i + m = c → m < f1 → m < f2 → v ≤ i → GdE T n c o (d + 1) μ0 ν0 i0 z0 y0 μ ν i z y → ∃ r μ' ν', f_8_readCond_l8 rc 24 (nI o) f1 1 (nI v) μ = some (r, μ') ∧ f_12_either_l4 rm 0 f2 ν = some ν' ∧ ((r = 1 ∧ ∃ i' z' y', GdE T n c o (d + 1) μ0 ν0 i0 z0 y0 μ' ν' i' z' y') ∨ (r = 0 ∧ Bd T n c μ0 ν0 μ' ν')) := by
  intro m
  induction m using Nat.strongRecOn with
  | ind m ih =>
    intro i z y v f1 f2 μ ν h1 h2 h3 h4 hG
    obtain ⟨p, rfl⟩ : ∃ p, f1 = p + 1 := ⟨f1 - 1, by omega⟩
    obtain ⟨q, rfl⟩ : ∃ q, f2 = q + 1 := ⟨f2 - 1, by omega⟩
    have hP := hG.1
    have c300 := hP.1.1.1
    have e7 := hP.1.2.2.2.1
    have hn := name_M (k := 9) hP.2.1 (by decide) hP.2.2.1
    rw [show 1000 + wI 9 = 1017 from rfl] at hn
    by_cases ca : cd T n (pz T n i) = nI 9
    · obtain ⟨hpn, hon⟩ := word_on (by decide) ca
      rw [show wl 9 = 2 from rfl] at hon
      have hic := PS_ic hP hpn
      obtain ⟨μ2, ν2, s1, s2, s3, ⟨s4, s5⟩, ⟨s6, s7⟩⟩ := PS_step hP hpn
      obtain ⟨r4, μ4, ν4, k1, k2, k3⟩ := hrc (i + 1) z y μ2 ν2 s3
      obtain ⟨-, ⟨g1, g2, g3, g4, g5⟩, g6, g7, g8⟩ := hG
      have hC0 : f_8_readCond_l8 rc 24 (nI o) (p + 1) 1 (nI v) μ = (f_5_addCode 26 (-2) μ4).bind fun μ6 => f_8_readCond_l8 rc 24 (nI o) p r4 (nI (v + 1)) μ6 := by
        conv => lhs; unfold f_8_readCond_l8
        rw [if_neg (show ¬ (300 : Int32) ≤ nI v from nI_ge (b := 300) (by omega) (by decide)), if_neg (by decide), if_pos (show μ 24 7 = 9 from e7.trans ca), s1, Option.bind_some, k1, Option.bind_some, rf_24_2, nI_1]
      have hM0 : f_12_either_l4 rm 0 (q + 1) ν = (f_12_codes 0 30002 ν4).bind fun μ8 => f_12_either_l4 rm 0 q μ8 := by
        conv => lhs; unfold f_12_either_l4
        rw [hn, if_pos ca, Option.bind_some, if_neg (by decide), s2, Option.bind_some, k2, Option.bind_some]
      rw [hC0, hM0]
      rcases k3 with ⟨rfl, i4, z4, y4, hP4, ⟨e1, e2, e3, e4, e5⟩, e6, e7', e8⟩ | ⟨rfl, hB⟩
      · have hz5 := hP.1.2.2.2.2.2
        have hy5 := hP.2.2.2.2.2
        have q1 : slc (ν4 8) y0 (y4 - y0) = slc (ν 8) y0 (y - y0) ++ slc (ν4 8) y (y4 - y) := by
          rw [show y4 - y0 = (y - y0) + (y4 - y) from by omega, slc_app, show y0 + (y - y0) = y from by omega, slc_cg (f := ν4 8) (g := ν 8) (fun j a b => by rw [e7'.2.2 j (by omega), s7])]
        have q2 : slc (μ4 31) z0 (z4 - z0) = slc (μ 31) z0 (z - z0) ++ slc (μ4 31) z (z4 - z) := by
          rw [show z4 - z0 = (z - z0) + (z4 - z) from by omega, slc_app, show z0 + (z - z0) = z from by omega, slc_cg (f := μ4 31) (g := μ 31) (fun j a b => by rw [e6.2.2.2 j (by omega), s5])]
        obtain ⟨a1, a2, a3⟩ := GdE_add (d := d + 1) (u := 30002) (v := (-2)) (μ0 := μ0) (ν0 := ν0) (i0 := i0) (z0 := z0) (y0 := y0) hP4 (by omega) (by omega) ⟨by omega, by omega, by omega, by omega, by omega⟩ (FC_t g6 (FC_t s4 e6 (Nat.le_refl _)) g2) (FM_t g7 (FM_t s6 e7' (Nat.le_refl _)) g3) (by rw [q1, q2]; exact gq_or g8 e8 (Nat.le_refl _) (Nat.le_refl _))
        have hi4 := hP4.1.2.1
        obtain ⟨r, μ', ν', t1, t2, t3⟩ := ih (c - i4) (by omega) i4 (z4 + 1) (y4 + 1) (v + 1) p q _ _ (by omega) (by omega) (by omega) (by omega) a3
        exact ⟨r, μ', ν', by rw [a1, Option.bind_some]; exact t1, by rw [a2, Option.bind_some]; exact t2, t3⟩
      · obtain ⟨hi, hf, ⟨z', hz', ez'⟩, hB4, hB5⟩ := hB
        obtain ⟨μ6, a1, a2, a3, a4⟩ := addC_any (v := (-2)) ez' hz'
        obtain ⟨p, rfl⟩ : ∃ p', p = p' + 1 := ⟨p - 1, by omega⟩
        obtain ⟨q, rfl⟩ : ∃ q', q = q' + 1 := ⟨q - 1, by omega⟩
        refine ⟨0, μ6, ν4, ?_, ?_, Or.inr ⟨rfl, Bd_t (FC_t g6 s4 g2) (FM_t g7 s6 g3) ⟨?_, hf, a2, FC_t hB4 a3 (Nat.le_refl _), hB5⟩⟩⟩
        · rw [a1, Option.bind_some]
          unfold f_8_readCond_l8
          by_cases z : (300 : Int32) ≤ nI (v + 1)
          · rw [if_pos z]
          · rw [if_neg z, if_pos rfl]
        · rw [codes_X hf, Option.bind_some]
          unfold f_12_either_l4
          rw [name_F hf, Option.bind_some, if_pos rfl]
        · obtain ⟨i, j1, j2, j3⟩ := hi
          exact ⟨i, j1, by rw [a4]; exact j2, j3⟩
    · refine ⟨1, μ, ν, ?_, ?_, Or.inl ⟨rfl, i, z, y, hG⟩⟩
      · unfold f_8_readCond_l8
        by_cases z : (300 : Int32) ≤ nI v
        · rw [if_pos z]
        · rw [if_neg z, if_neg (by decide), if_neg (show ¬ μ 24 7 = 9 from fun t => ca (e7.symm.trans t))]
      · unfold f_12_either_l4
        rw [hn, if_neg ca, Option.bind_some, if_pos rfl]
theorem qcond_ok {T : Nat → Nat} {n c o d : Nat} {rc : Nat → Nat → Int32 → mm → Option (Int32 × mm)} {rm : Nat → Nat → mm → Option mm} (hrc : ∀ i z y μ ν, PS T n c i o z y μ ν → Rel T n c o d (rc 1 24 (nI o) μ) (rm 1 0 ν) μ ν i z y) : ∀ i z y μ ν, PS T n c i o z y μ ν → Rel T n c o (d + 1) (f_8_readCond_b rc 24 (nI o) μ) (f_12_either_b rm 0 ν) μ ν i z y := by
  intro i z y μ ν hP
  have c300 := hP.1.1.1
  obtain ⟨r1, μ1, ν1, k1, k2, k3⟩ := hrc i z y μ ν hP
  rcases k3 with ⟨rfl, i1, z1, y1, g0, g1, g2, g3, g4⟩ | ⟨rfl, hB⟩
  · have hi1 := g0.1.2.1
    obtain ⟨r, μ', ν', t1, t2, t3⟩ := qcond_l hrc (c - i1) i1 z1 y1 0 FU FU μ1 ν1 (by omega) (show c - i1 < 2000 by omega) (show c - i1 < 2000 by omega) (Nat.zero_le _) ⟨g0, g1, g2, g3, gq_mono g4 (Nat.le_succ _)⟩
    rw [show nI 0 = 0 from rfl] at t1
    refine ⟨r, μ', ν', ?_, ?_, t3⟩
    · unfold f_8_readCond_b
      rw [k1, Option.bind_some]
      dsimp only
      rw [t1, Option.bind_some]
      rcases t3 with ⟨rfl, -⟩ | ⟨rfl, -⟩
      · rw [gb_1, Option.bind_some]
      · rw [gb_0, Option.bind_some]
    · unfold f_12_either_b
      rw [k2, Option.bind_some, t2, Option.bind_some]
  · refine ⟨0, μ1, ν1, ?_, ?_, Or.inr ⟨rfl, hB⟩⟩
    · unfold f_8_readCond_b
      rw [k1, Option.bind_some]
      dsimp only
      rw [show f_8_readCond_l8 rc 24 (nI o) FU 0 0 μ1 = some (0, μ1) from ?_, Option.bind_some, gb_0, Option.bind_some]
      show f_8_readCond_l8 rc 24 (nI o) (1999 + 1) 0 0 μ1 = some (0, μ1)
      unfold f_8_readCond_l8
      rw [if_neg (by decide), if_pos rfl]
    · unfold f_12_either_b
      rw [k2, Option.bind_some, show f_12_either_l4 rm 0 FU ν1 = some ν1 from ?_, Option.bind_some]
      show f_12_either_l4 rm 0 (1999 + 1) ν1 = some ν1
      unfold f_12_either_l4
      rw [name_F hB.2.1, Option.bind_some, if_pos rfl]
