/-! conditions: nots, brackets, all of it -/
theorem nots_rel {T : Nat → Nat} {n c o z y : Nat} {rc : Nat → Nat → Int32 → mm → Option (Int32 × mm)} {rm : Nat → Nat → mm → Option mm} : ∀ (m i t f1 f2 : Nat) (μ ν : mm), i + m = c → m < f1 → m < f2 → t ≤ i → PS T n c i o z y μ ν → ∃ t' i' μ' ν', f_8_readOne_l4 rc 24 (nI o) f1 (nI (t % 2)) (nI t) μ = some (nI (t' % 2), μ') ∧ f_12_one_l2 rm 0 f2 (nI t) ν = some (nI t', ν') ∧ PS T n c i' o z y μ' ν' ∧ (t ≤ t' ∧ t' - t = i' - i ∧ i ≤ i' ∧ 3 * (t' - t) + pz T n i ≤ pz T n i') ∧ FC z μ μ' ∧ FM y ν ν' := by
  intro m
  induction m with
  | zero =>
    intro i t f1 f2 μ ν h1 h2 h3 h4 hP
    obtain ⟨p, rfl⟩ : ∃ p, f1 = p + 1 := ⟨f1 - 1, by omega⟩
    obtain ⟨q, rfl⟩ : ∃ q, f2 = q + 1 := ⟨f2 - 1, by omega⟩
    have e7 := hP.1.2.2.2.1
    have nw : ¬ cd T n (pz T n i) = nI 10 := fun t => by
      have := PS_ic hP (word_on (by decide) t).1
      omega
    have hn := name_M (k := 10) hP.2.1 (by decide) hP.2.2.1
    rw [show 1000 + wI 10 = 1015 from rfl, if_neg nw] at hn
    refine ⟨t, i, μ, ν, ?_, ?_, hP, ⟨Nat.le_refl _, by omega, Nat.le_refl _, by omega⟩, FC_r, FM_r⟩
    · unfold f_8_readOne_l4
      by_cases w : (300 : Int32) ≤ nI t
      · rw [if_pos w]
      · rw [if_neg w, if_neg (show ¬ μ 24 7 = 10 from fun s => nw (e7.symm.trans s))]
    · unfold f_12_one_l2
      rw [hn, Option.bind_some, if_pos rfl]
  | succ m ih =>
    intro i t f1 f2 μ ν h1 h2 h3 h4 hP
    obtain ⟨p, rfl⟩ : ∃ p, f1 = p + 1 := ⟨f1 - 1, by omega⟩
    obtain ⟨q, rfl⟩ : ∃ q, f2 = q + 1 := ⟨f2 - 1, by omega⟩
    have e7 := hP.1.2.2.2.1
    have c300 := hP.1.1.1
    have hn := name_M (k := 10) hP.2.1 (by decide) hP.2.2.1
    rw [show 1000 + wI 10 = 1015 from rfl] at hn
    by_cases ca : cd T n (pz T n i) = nI 10
    · obtain ⟨p1, p2⟩ := word_on (by decide) ca
      rw [show wl 10 = 3 from rfl] at p2
      obtain ⟨μ2, ν2, s1, s2, hP2, ⟨s4, s5⟩, ⟨s6, s7⟩⟩ := PS_step hP p1
      obtain ⟨t', i', μ', ν', k1, k2, k3, ⟨k4, k5, k6, k7⟩, k8, k9⟩ := ih (i + 1) (t + 1) p q μ2 ν2 (by omega) (by omega) (by omega) (by omega) hP2
      refine ⟨t', i', μ', ν', ?_, ?_, k3, ⟨by omega, by omega, by omega, by omega⟩, FC_t s4 k8 (Nat.le_refl _), FM_t s6 k9 (Nat.le_refl _)⟩
      · unfold f_8_readOne_l4
        rw [if_neg (show ¬ (300 : Int32) ≤ nI t from nI_ge (b := 300) (by omega) (by decide)), if_pos (show μ 24 7 = 10 from e7.trans ca), s1, Option.bind_some, nI_1]
        have t2 : t % 2 = 0 ∨ t % 2 = 1 := by omega
        rcases t2 with e | e
        · rw [e, if_pos (show nI 0 = 0 from rfl)]
          rw [show (t + 1) % 2 = 1 from by omega] at k1
          exact k1
        · rw [e, if_neg (show ¬ nI 1 = 0 from by decide)]
          rw [show (t + 1) % 2 = 0 from by omega] at k1
          exact k1
      · unfold f_12_one_l2
        rw [hn, if_pos ca, Option.bind_some, if_neg (by decide), s2, Option.bind_some, nI_1]
        exact k2
    · refine ⟨t, i, μ, ν, ?_, ?_, hP, ⟨Nat.le_refl _, by omega, Nat.le_refl _, by omega⟩, FC_r, FM_r⟩
      · unfold f_8_readOne_l4
        by_cases w : (300 : Int32) ≤ nI t
        · rw [if_pos w]
        · rw [if_neg w, if_neg (show ¬ μ 24 7 = 10 from fun s => ca (e7.symm.trans s))]
      · unfold f_12_one_l2
        rw [hn, if_neg ca, Option.bind_some, if_pos rfl]
theorem Bd_14 {T : Nat → Nat} {n c : Nat} {x : Int32} {μ0 ν0 μ ν : mm} (h : Bd T n c μ0 ν0 μ ν) : Bd T n c μ0 ν0 μ (up ν 0 14 x) := by
  obtain ⟨⟨i, a, b, e⟩, h2, h3, h4, h5⟩ := h
  exact ⟨⟨i, a, b, by rw [up_ns (by decide)]; exact e⟩, by rw [up_ns (by decide)]; exact h2, h3, h4, ⟨fun b b1 b2 => by rw [up_ne b1]; exact h5.1 b b1 b2, fun k k1 => by rw [up_ns (by omega)]; exact h5.2.1 k k1, fun k hk => absurd hk (by omega)⟩⟩
theorem PS_14 {T : Nat → Nat} {n c i o o' z y : Nat} {μ ν : mm} (h : PS T n c i o z y μ ν) : PS T n c i o' z y μ (up ν 0 14 (nI o')) := by
  obtain ⟨hC, hM, m1, m2, m3, m4⟩ := h
  exact ⟨hC, MP_cg hM (fun k hk => up_ns (by omega)) (up_ne (by decide)), by rw [up_ns (by decide)]; exact m1, up_at, by rw [up_ns (by decide)]; exact m3, m4⟩
theorem FM_14 {y : Nat} {x : Int32} {ν : mm} : FM y ν (up ν 0 14 x) := ⟨fun b b1 _ => up_ne b1, fun k k1 => up_ns (by omega), fun k _ => by rw [up_ne (by decide)]⟩
theorem br_rel {T : Nat → Nat} {n c o d : Nat} {rc : Nat → Nat → Int32 → mm → Option (Int32 × mm)} {rm : Nat → Nat → mm → Option mm} (ho : o ≤ 4) (hc : o < 4 → ∀ i z y μ ν, PS T n c i (o + 1) z y μ ν → Rel T n c (o + 1) d (rc 0 24 (nI (o + 1)) μ) (rm 0 0 ν) μ ν i z y) (hx : o = 4 → ∀ ν : mm, ν 0 13 = 1 → rm 0 0 ν = some ν) {i z y : Nat} {μ ν : mm} (hP : PS T n c i o z y μ ν) (hp : cd T n (pz T n i) = nI 40) : Rel T n c o d (f_8_readBrackets_b rc 24 (nI o) μ) (obr rm 0 ν) μ ν i z y := by
  have hpn := ((cd_g (v := 40) (by omega)).mp hp).1
  have hf := hP.2.2.1
  have e14 := hP.2.2.2.1
  have hP0 : PS T n c i (o + 1) z y μ (up ν 0 14 (nI (o + 1))) := PS_14 hP
  have hf0 := hP0.2.2.1
  by_cases c4 : o < 4
  · obtain ⟨μ2, ν2, s1, s2, hP2, ⟨s4, s5⟩, ⟨s6, s7⟩⟩ := PS_step hP0 hpn
    obtain ⟨r4, μ4, ν4, k1, k2, k3⟩ := hc c4 (i + 1) z y μ2 ν2 hP2
    have hO : obr rm 0 ν = (f_12_isSign 0 41 ν4).bind fun x36 => (f_12_need 0 x36 ν4).bind fun μ38 => (pf μ38 0 14 ((μ38 0 14) - 1)).bind fun μ39 => some μ39 := by
      unfold obr
      rw [pf_eq, Option.bind_some, e14, nI_1, up_at, if_neg (show ¬ (4 : Int32) < nI (o + 1) from Int32.not_lt.mpr (nI_le (b := 4) (by omega) (by decide))), Option.bind_some, need_Y hf0, s2, Option.bind_some, k2, Option.bind_some]
    have hC : f_8_readBrackets_b rc 24 (nI o) μ = if r4 = 0 then some (0, μ4) else if (μ4 24 7) = 41 then (f_8_step 24 μ4).bind fun μ6 => some (1, μ6) else some (0, μ4) := by
      unfold f_8_readBrackets_b
      rw [if_pos (lt_4 c4), s1, Option.bind_some, nI_1, k1, Option.bind_some]
    rw [hO, hC]
    rcases k3 with ⟨rfl, i4, z4, y4, hP4, ⟨e1, e2, e3, e4, e5⟩, e6, e7, e8⟩ | ⟨rfl, hB⟩
    · have sg := sign_M (v := 41) hP4.2.1 (by omega) hP4.2.2.1
      rw [show nI 41 = 41 from rfl] at sg
      have p2 := sign_on hpn
      by_cases c41 : cd T n (pz T n i4) = nI 41
      · have hpn4 := ((cd_g (v := 41) (by omega)).mp c41).1
        obtain ⟨μ5, ν5, t1, t2, hP5, ⟨t4, t5⟩, ⟨t6, t7⟩⟩ := PS_step hP4 hpn4
        have p5 := sign_on hpn4
        have e145 : ν5 0 14 = nI (o + 1) := hP5.2.2.2.1
        refine ⟨1, μ5, up ν5 0 14 (nI o), ?_, ?_, Or.inl ⟨rfl, i4 + 1, z4, y4, PS_14 hP5, ⟨by omega, by omega, by omega, by omega, by omega⟩, FC_t s4 (FC_t e6 t4 e2) (Nat.le_refl _), FM_t FM_14 (FM_t s6 (FM_t e7 (FM_t t6 FM_14 (Nat.le_refl _)) e3) (Nat.le_refl _)) (Nat.le_refl _), ?_⟩⟩
        · rw [if_neg (by decide), if_pos (show μ4 24 7 = 41 from hP4.1.2.2.2.1.trans c41), t1, Option.bind_some]
        · rw [sg, if_pos (show cd T n (pz T n i4) = 41 from c41), Option.bind_some, need_Y hP4.2.2.1, t2, Option.bind_some, pf_eq, Option.bind_some, e145, nI_pred]
        · rw [up_ne (by decide), t7, t5]
          exact e8
      · refine ⟨0, μ4, up (up ν4 0 13 1) 0 14 (up ν4 0 13 1 0 14 - 1), ?_, ?_, Or.inr ⟨rfl, Bd_14 (Bd_t (FC_t s4 e6 (Nat.le_refl _)) (FM_t FM_14 (FM_t s6 e7 (Nat.le_refl _)) (Nat.zero_le y)) (Bd_here hP4))⟩⟩
        · rw [if_neg (by decide), if_neg (show ¬ μ4 24 7 = 41 from fun t => c41 (hP4.1.2.2.2.1.symm.trans t))]
        · rw [sg, if_neg (show ¬ cd T n (pz T n i4) = 41 from c41), Option.bind_some, need_N hP4.2.2.1, Option.bind_some, pf_eq, Option.bind_some]
    · have hB1 := hB.2.1
      refine ⟨0, μ4, up ν4 0 14 (ν4 0 14 - 1), ?_, ?_, Or.inr ⟨rfl, Bd_14 (Bd_t s4 (FM_t FM_14 s6 (Nat.zero_le y)) hB)⟩⟩
      · rw [if_pos rfl]
      · rw [sign_F hB1, Option.bind_some, need_X hB1, Option.bind_some, pf_eq, Option.bind_some]
  · obtain rfl : o = 4 := by omega
    have n0 : up (up ν 0 14 (nI (4 + 1))) 0 13 1 0 13 = 1 := up_at
    refine ⟨0, μ, up (up (up ν 0 14 (nI (4 + 1))) 0 13 1) 0 14 (up (up ν 0 14 (nI (4 + 1))) 0 13 1 0 14 - 1), ?_, ?_, Or.inr ⟨rfl, Bd_14 (Bd_t (FC_r (z := z)) (FM_14 (y := y)) (Bd_here hP0))⟩⟩
    · unfold f_8_readBrackets_b
      rw [if_neg (by decide)]
    · unfold obr
      rw [pf_eq, Option.bind_some, e14, nI_1, up_at, if_pos (by decide), Option.bind_some, need_N hf0, Option.bind_some, hx rfl _ n0, Option.bind_some, sign_F n0, Option.bind_some, need_X n0, Option.bind_some, pf_eq, Option.bind_some]
theorem one_rel {T : Nat → Nat} {n c o d : Nat} {rc : Nat → Nat → Int32 → mm → Option (Int32 × mm)} {rm : Nat → Nat → mm → Option mm} (hd : 1 ≤ d) (hb : ∀ i z y μ ν, PS T n c i o z y μ ν → cd T n (pz T n i) = nI 40 → Rel T n c o d (rc 3 24 (nI o) μ) (obr rm 0 ν) μ ν i z y) : ∀ i z y μ ν, PS T n c i o z y μ ν → Rel T n c o d (f_8_readOne_b rc 24 (nI o) μ) (f_12_one_b rm 0 ν) μ ν i z y := by
  intro i z y μ ν hP
  have c300 := hP.1.1.1
  have hic := hP.1.2.1
  obtain ⟨t, i1, μ1, ν1, k1, k2, hP1, ⟨-, k5, k6, k7⟩, k8, k9⟩ := nots_rel (rc := rc) (rm := rm) (c - i) i 0 FU FU μ ν (by omega) (show c - i < 2000 by omega) (show c - i < 2000 by omega) (Nat.zero_le _) hP
  rw [show nI (0 % 2) = 0 from rfl] at k1
  rw [show nI 0 = 0 from rfl] at k2
  rw [Nat.sub_zero] at k5 k7
  have hi1 := hP1.1.2.1
  have e7 := hP1.1.2.2.2.1
  have sg := sign_M (v := 40) hP1.2.1 (by omega) hP1.2.2.1
  rw [show nI 40 = 40 from rfl] at sg
  have mid : ∃ r μ7 ν7, (if (μ1 24 7) = 40 then (rc 3 24 (nI o) μ1).bind fun z6 => some (z6.1, z6.2) else (f_8_readTest 24 μ1).bind fun z4 => some (z4.1, z4.2)) = some (r, μ7) ∧ (if (if cd T n (pz T n i1) = 40 then (1 : Int32) else 0) = 0 then otst rm 0 (nI t) ν1 else obr rm 0 ν1) = some ν7 ∧ ((r = 1 ∧ ∃ i7 z7 y7, GdE T n c o d μ1 ν1 i1 z y μ7 ν7 i7 z7 y7) ∨ (r = 0 ∧ Bd T n c μ1 ν1 μ7 ν7)) := by
    by_cases c40 : cd T n (pz T n i1) = nI 40
    · obtain ⟨r, μ7, ν7, a1, a2, a3⟩ := hb i1 z y μ1 ν1 hP1 c40
      refine ⟨r, μ7, ν7, ?_, ?_, a3⟩
      · rw [if_pos (show μ1 24 7 = 40 from e7.trans c40), bind_eta]
        exact a1
      · rw [if_pos (show cd T n (pz T n i1) = 40 from c40), if_neg (by decide)]
        exact a2
    · obtain ⟨r, μ7, ν7, a1, a2, a3⟩ := test_rel (rc := rm) (A := nI t) hP1
      refine ⟨r, μ7, ν7, ?_, ?_, ?_⟩
      · rw [if_neg (show ¬ μ1 24 7 = 40 from fun s => c40 (e7.symm.trans s)), bind_eta]
        exact a1
      · rw [if_neg (show ¬ cd T n (pz T n i1) = 40 from c40), if_pos rfl]
        exact a2
      · rcases a3 with ⟨b1, i7, z7, y7, b2, b3, b4, b5, b6⟩ | a3
        · exact Or.inl ⟨b1, i7, z7, y7, b2, b3, b4, b5, gq_mono b6 hd⟩
        · exact Or.inr a3
  obtain ⟨r, μ7, ν7, a1, a2, a3⟩ := mid
  have hC : f_8_readOne_b rc 24 (nI o) μ = if r = 0 then (gb r).bind fun _ => some (r, μ7) else if nI (t % 2) = 0 then (gb r).bind fun _ => some (r, μ7) else (f_5_addCode 26 (-3) μ7).bind fun μ11 => (gb r).bind fun _ => some (r, μ11) := by
    unfold f_8_readOne_b
    rw [k1, Option.bind_some]
    dsimp only
    rw [a1, Option.bind_some, rf_24_2]
  have hM : f_12_one_b rm 0 ν = (f_12_one_l224 rm 0 (nI t) FU 0 ν7).bind fun z42 => some z42 := by
    rw [one_eq, k2, Option.bind_some]
    dsimp only
    rw [sg, Option.bind_some, a2, Option.bind_some]
  rw [hC, hM]
  rcases a3 with ⟨rfl, i7, z7, y7, hP7, ⟨e1, e2, e3, e4, e5⟩, e6, e7', e8⟩ | ⟨rfl, hB⟩
  · have hz := hP.1.2.2.2.2.2
    have hy := hP.2.2.2.2.2
    have hpn := pz_le (T := T) (n := n) i7
    have hn := hP.2.1.1.1
    obtain ⟨ν8, m1, m2, m3, m4, m5, m6⟩ := nts_M (rc := rm) (t := t) (y := y7) (by omega) t 0 FU ν7 (by omega) (show t < 2000 by omega) hP7.2.2.1 (by rw [Nat.add_zero]; exact hP7.2.2.2.2.1)
    rw [show nI 0 = 0 from rfl] at m1
    have lM : slc (ν8 8) y (y7 + t - y) = slc (ν7 8) y (y7 - y) ++ nts t := by
      rw [show y7 + t - y = (y7 - y) + t from by omega, slc_app, show y + (y7 - y) = y7 from by omega, slc_cg (f := ν8 8) (g := ν7 8) (fun j a b => m5 j (by omega)), slc_rep (f := ν8 8) (x := 30000) t y7 (fun k a b => m6 k (by omega) b)]
      rfl
    have hM8 : MP T n (pz T n i7) ν8 := MP_cg hP7.2.1 (fun k hk => m3 k (by omega)) (m4 4 (by decide) (by decide))
    have fM : FM y ν ν8 := FM_t k9 (FM_t e7' (⟨fun b b1 b2 => m4 b b1 b2, fun k k1 => m3 k (by omega), fun k hk => m5 k (by omega)⟩ : FM y7 ν7 ν8) e3) (Nat.le_refl _)
    have t2 : t % 2 = 0 ∨ t % 2 = 1 := by omega
    rcases t2 with te | te
    · refine ⟨1, μ7, ν8, ?_, by rw [m1, Option.bind_some], Or.inl ⟨rfl, i7, z7, y7 + t, ⟨hP7.1, hM8, by rw [m3 13 (by decide)]; exact hP7.2.2.1, by rw [m3 14 (by decide)]; exact hP7.2.2.2.1, m2, by omega⟩, ⟨by omega, e2, by omega, by omega, by omega⟩, FC_t k8 e6 (Nat.le_refl _), fM, ?_⟩⟩
      · rw [if_neg (by decide), te, if_pos (show nI 0 = 0 from rfl), gb_1, Option.bind_some]
      · rw [lM, show slc (μ7 31) z (z7 - z) = slc (μ7 31) z (z7 - z) ++ ntc t from by unfold ntc; rw [if_neg (by omega), List.append_nil]]
        exact gq_nots e8 t
    · obtain ⟨v1, v2, v3⟩ := PS_addC (v := -3) hP7 (by omega)
      refine ⟨1, up (up μ7 31 z7 (-3)) 26 5 (nI (z7 + 1)), ν8, ?_, by rw [m1, Option.bind_some], Or.inl ⟨rfl, i7, z7 + 1, y7 + t, ⟨v2.1, hM8, by rw [m3 13 (by decide)]; exact hP7.2.2.1, by rw [m3 14 (by decide)]; exact hP7.2.2.2.1, m2, by omega⟩, ⟨by omega, by omega, by omega, by omega, by omega⟩, FC_t k8 (FC_t e6 v3 e2) (Nat.le_refl _), fM, ?_⟩⟩
      · rw [if_neg (by decide), te, if_neg (show ¬ nI 1 = 0 from by decide), v1, Option.bind_some, gb_1, Option.bind_some]
      · have lC : slc (up (up μ7 31 z7 (-3)) 26 5 (nI (z7 + 1)) 31) z (z7 + 1 - z) = slc (μ7 31) z (z7 - z) ++ ntc t := by
          rw [show z7 + 1 - z = (z7 - z) + 1 from by omega, slc_app, slc_o, show z + (z7 - z) = z7 from by omega, up_ne (by decide), up_at, slc_cg (f := up μ7 31 z7 (-3) 31) (g := μ7 31) (fun j a b => up_ns (by omega))]
          unfold ntc
          rw [if_pos te]
        rw [lM, lC]
        exact gq_nots e8 t
  · refine ⟨0, μ7, ν7, ?_, ?_, Or.inr ⟨rfl, Bd_t k8 k9 hB⟩⟩
    · rw [if_pos rfl, gb_0, Option.bind_some]
    · rw [show (0 : Int32) = nI 0 from rfl, nts_X hB.2.1 (by omega) t 0 FU (by omega) (show t < 2000 by omega), Option.bind_some]
theorem cond_ok {T : Nat → Nat} {n c : Nat} : ∀ (j o : Nat), o + j = 4 → ∀ (a b i z y : Nat) (μ ν : mm), PS T n c i o z y μ ν → Rel T n c o (3 + 2 * j) (f_8_readCond_G (a + 4 * j + 4) 0 24 (nI o) μ) (f_12_either_G (b + 3 * j + 6) 0 0 ν) μ ν i z y := by
  intro j
  induction j with
  | zero =>
    intro o ho a b
    obtain rfl : o = 4 := by omega
    have h1 : ∀ i z y μ ν, PS T n c i 4 z y μ ν → Rel T n c 4 1 (f_8_readCond_G (a + 2) 2 24 (nI 4) μ) (f_12_either_G (b + 4) 2 0 ν) μ ν i z y := one_rel (rc := f_8_readCond_G (a + 1)) (rm := f_12_either_G (b + 3)) (Nat.le_refl _) (fun i z y μ ν hP hc => br_rel (rc := f_8_readCond_G a) (rm := f_12_either_G (b + 3)) (Nat.le_refl _) (fun q => absurd q (by omega)) (fun _ ν hν => eitherG_X hν) hP hc)
    have h2 : ∀ i z y μ ν, PS T n c i 4 z y μ ν → Rel T n c 4 2 (f_8_readCond_G (a + 3) 1 24 (nI 4) μ) (f_12_either_G (b + 5) 1 0 ν) μ ν i z y := qall_ok (rc := f_8_readCond_G (a + 2)) (rm := f_12_either_G (b + 4)) h1
    exact qcond_ok (rc := f_8_readCond_G (a + 3)) (rm := f_12_either_G (b + 5)) h2
  | succ j ih =>
    intro o ho a b
    have h0 := ih (o + 1) (by omega) a b
    obtain ⟨A, hA⟩ : ∃ A, A = a + 4 * j + 4 := ⟨_, rfl⟩
    obtain ⟨B, hB⟩ : ∃ B, B = b + 3 * j + 6 := ⟨_, rfl⟩
    rw [← hA, ← hB] at h0
    rw [show a + 4 * (j + 1) + 4 = A + 4 from by omega, show b + 3 * (j + 1) + 6 = B + 3 from by omega, show 3 + 2 * (j + 1) = 3 + 2 * j + 1 + 1 from by omega]
    have h1 : ∀ i z y μ ν, PS T n c i o z y μ ν → Rel T n c o (3 + 2 * j) (f_8_readCond_G (A + 2) 2 24 (nI o) μ) (f_12_either_G (B + 1) 2 0 ν) μ ν i z y := one_rel (rc := f_8_readCond_G (A + 1)) (rm := f_12_either_G B) (by omega) (fun i z y μ ν hP hc => br_rel (rc := f_8_readCond_G A) (rm := f_12_either_G B) (by omega) (fun _ => h0) (fun q => absurd q (by omega)) hP hc)
    have h2 : ∀ i z y μ ν, PS T n c i o z y μ ν → Rel T n c o (3 + 2 * j + 1) (f_8_readCond_G (A + 3) 1 24 (nI o) μ) (f_12_either_G (B + 2) 1 0 ν) μ ν i z y := qall_ok (rc := f_8_readCond_G (A + 2)) (rm := f_12_either_G (B + 1)) h1
    exact qcond_ok (rc := f_8_readCond_G (A + 3)) (rm := f_12_either_G (B + 2)) h2
