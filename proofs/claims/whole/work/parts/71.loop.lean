/-! the law's loop: every call's answers are the same -/
theorem Cp_join {μ ν μ' ν' : mm} (h : Cp μ ν) (hm : ∀ b, 23 ≤ b → μ' b = μ b) (hn : ∀ b, b < 23 → ν' b = ν b) : Cp μ' ν' := by
  obtain ⟨hV, hI, ⟨k1, k2, k3⟩, ht, hr, hs, hv, hc⟩ := h
  refine ⟨?_, ?_, ⟨?_, ?_, fun e => ?_⟩, ?_, ?_, ?_, ?_, ?_⟩
  · rw [hn 1 (by decide)]
    exact VP_congr (fun _ _ => rfl) (fun b a1 a2 => hm b (by omega)) (IV_nn hI) hV
  · rw [hn 1 (by decide)]; exact hI
  · rw [hm 23 (by decide), hn 0 (by decide)]; exact k1
  · rw [hm 23 (by decide)]; exact k2
  · rw [hm 23 (by decide)] at e
    obtain ⟨q1, q2⟩ := k3 e
    rw [hn 2 (by decide)]
    exact ⟨VP_congr (fun _ _ => rfl) (fun b a1 a2 => hm b (by omega)) (IV_nn q2) q1, q2⟩
  · unfold Tp
    rw [hm 24 (by decide), hm 25 (by decide), hn 0 (by decide), hn 4 (by decide)]
    exact ht
  · unfold Rw
    rw [hm 23 (by decide), hm 37 (by decide), hm 38 (by decide), hn 0 (by decide), hn 5 (by decide), hn 6 (by decide)]
    exact hr
  · exact Sh_cg (fun b q => hm b (by omega)) (fun b q => hn b (by omega)) hs
  · exact Sv_cg (fun b q => hm b (by omega)) (fun b q => hn b (by omega)) hv
  · exact Tc_cg ⟨hm 35 (by decide), hm 36 (by decide)⟩ ⟨by rw [hn 0 (by decide)], hn 22 (by decide)⟩ hc
theorem J2L {A B : mm → Option (Int32 × mm)} {N : mm → Option Int32} {μ : mm} (hN : ∀ μ, Cp μ μ → N μ = some 1) (h : Cp μ μ) (hT : ∀ ν, Cp μ ν → Ok (A μ) fun z => Ok (B ν) fun w => z.1 = w.1 ∧ Cp z.2 w.2) (fa : ∀ r, A μ = some r → Fc μ r.2) (fb : ∀ ν r, B ν = some r → Fm ν r.2) : ((A μ).bind fun z => (B z.2).bind fun w => if z.1 = w.1 then N w.2 else some 0) = some 1 := by
  obtain ⟨z, e1, -⟩ := hT μ h
  obtain ⟨z', e2, w, e3, e4, e5⟩ := hT z.2 (Cp_join h (fun _ _ => rfl) (fa z e1))
  obtain rfl : z = z' := Option.some.inj (e1.symm.trans e2)
  rw [e1, Option.bind_some, e3, Option.bind_some, if_pos e4]
  exact hN _ (Cp_join e5 (fb _ _ e3) (fun _ _ => rfl))
theorem J1L {a b : Option Int32} {N : mm → Option Int32} {μ : mm} (hN : ∀ μ, Cp μ μ → N μ = some 1) (h : Cp μ μ) (hT : Ok a fun z => Ok b fun w => z = w) : (a.bind fun z => b.bind fun w => if z = w then N μ else some 0) = some 1 := by
  obtain ⟨z, e1, w, e2, e3⟩ := hT
  rw [e1, Option.bind_some, e2, Option.bind_some, if_pos e3]
  exact hN _ h
theorem J3L {a : Option Int32} {B : mm → Option (Int32 × mm)} {N : mm → Option Int32} {μ : mm} (hN : ∀ μ, Cp μ μ → N μ = some 1) (hT : Ok a fun z => Ok (B μ) fun w => z = w.1 ∧ Cp μ w.2) (fb : ∀ r, B μ = some r → Fm μ r.2) : (a.bind fun z => (B μ).bind fun w => if z = w.1 then N w.2 else some 0) = some 1 := by
  obtain ⟨z, e1, w, e2, e3, e4⟩ := hT
  rw [e1, Option.bind_some, e2, Option.bind_some, if_pos e3]
  exact hN _ (Cp_join e4 (fb _ e2) (fun _ _ => rfl))
theorem ite_1 {c : Prop} [Decidable c] {a b : Option Int32} (h1 : c → a = some 1) (h2 : ¬ c → b = some 1) : (if c then a else b) = some 1 := by
  by_cases h : c
  · rw [if_pos h]; exact h1 h
  · rw [if_neg h]; exact h2 h
theorem ite_some {c : Prop} [Decidable c] {a b : Int32} : (if c then some a else some b) = some (if c then a else b) := by
  by_cases h : c
  · rw [if_pos h, if_pos h]
  · rw [if_neg h, if_neg h]
theorem ldx_ok {L : Nat} {xs : Nat → Int32} {j : Nat} (h : j < L) (hL : L < 2 ^ 31) : ldx L xs (nI j) = some (xs j) := by
  unfold ldx
  rw [if_neg (nI_in h hL), nI_clamp (by omega)]
set_option maxHeartbeats 4000000 in
set_option maxRecDepth 100000 in
theorem law_1 {L : Nat} {xs : Nat → Int32} (hL : L ≤ 3072) : ∀ (m i fuel : Nat) (μ : mm), L ≤ i + 6 * m + 5 → i ≤ 6000 → m < fuel → Cp μ μ → f_L_law_l18 L xs 6000 23 0 fuel (nI i) μ = some 1 := by
  have stop : ∀ (i f : Nat) (μ : mm), L ≤ i + 5 → i ≤ 6000 → f_L_law_l18 L xs 6000 23 0 (f + 1) (nI i) μ = some 1 := by
    intro i f μ h1 h2
    unfold f_L_law_l18
    refine ite_1 (fun _ => rfl) (fun q => absurd ?_ q)
    rw [Int32.lt_iff_toInt_lt, nI_toInt (by omega), show (Int32.ofNat L - 6 : Int32) = nI L - nI 6 from rfl, pk_sub_toInt (by omega) (by omega)]
    omega
  intro m
  induction m with
  | zero =>
    intro i fuel μ h1 h2 h3 h
    obtain ⟨f, rfl⟩ : ∃ f, fuel = f + 1 := ⟨fuel - 1, by omega⟩
    exact stop i f μ (by omega) h2
  | succ m ih =>
    intro i fuel μ h1 h2 h3 h
    obtain ⟨f, rfl⟩ : ∃ f, fuel = f + 1 := ⟨fuel - 1, by omega⟩
    by_cases c : L ≤ i + 5
    · exact stop i f μ c h2
    have hN : ∀ μ, Cp μ μ → f_L_law_l18 L xs 6000 23 0 f (nI i + 6) μ = some 1 := fun μ' hμ => by
      rw [nI_p6]
      exact ih (i + 6) f μ' (by omega) (by omega) (by omega) hμ
    have x0 : ldx L xs (nI i) = some (xs i) := ldx_ok (by omega) (by omega)
    have x1 : ldx L xs (nI i + 1) = some (xs (i + 1)) := by rw [nI_1]; exact ldx_ok (by omega) (by omega)
    have x2 : ldx L xs (nI i + 2) = some (xs (i + 2)) := by rw [nI_p2]; exact ldx_ok (by omega) (by omega)
    have x3 : ldx L xs (nI i + 3) = some (xs (i + 3)) := by rw [nI_p3]; exact ldx_ok (by omega) (by omega)
    have x4 : ldx L xs (nI i + 4) = some (xs (i + 4)) := by rw [nI_p4]; exact ldx_ok (by omega) (by omega)
    have x5 : ldx L xs (nI i + 5) = some (xs (i + 5)) := by rw [nI_p5]; exact ldx_ok (by omega) (by omega)
    unfold f_L_law_l18
    refine ite_1 (fun _ => rfl) (fun _ => ?_)
    simp only [x0, x1, x2, x3, x4, x5, bs, ite_some]
    refine ite_1 (fun _ => J2L (A := f_11_days 23 _) (B := f_12_days 0 _) hN h (fun ν hν => T_days _ hν) (fun r hr => fr_11_days hr kd_23) (fun ν r hr => fr_12_days hr kd_0)) (fun _ => ?_)
    refine ite_1 (fun _ => J2L (A := f_11_village 23) (B := f_12_village 0) hN h (fun ν hν => T_village hν) (fun r hr => fr_11_village hr kd_23) (fun ν r hr => fr_12_village hr kd_0)) (fun _ => ?_)
    refine ite_1 (fun _ => J2L (A := f_11_road 23 _ _ _) (B := f_12_road 0 _ _ _) hN h (fun ν hν => T_road _ _ _ hν) (fun r hr => fr_11_road hr kd_23) (fun ν r hr => fr_12_road hr kd_0)) (fun _ => ?_)
    refine ite_1 (fun _ => J2L (A := f_11_pit 23 _ _ _ _) (B := f_12_pit 0 _ _ _ _) hN h (fun ν hν => T_pit _ _ _ _ hν) (fun r hr => fr_11_pit hr kd_23) (fun ν r hr => fr_12_pit hr kd_0)) (fun _ => ?_)
    refine ite_1 (fun _ => J2L (A := f_11_shop 23 _ _) (B := f_12_shop 0 _ _) hN h (fun ν hν => T_shop _ _ hν) (fun r hr => fr_11_shop hr kd_23) (fun ν r hr => fr_12_shop hr kd_0)) (fun _ => ?_)
    refine ite_1 (fun _ => J2L (A := f_11_household 23 _ _ _ _ _) (B := f_12_household 0 _ _ _ _ _) hN h (fun ν hν => T_household _ _ _ _ _ hν) (fun r hr => fr_11_household hr kd_23) (fun ν r hr => fr_12_household hr kd_0)) (fun _ => ?_)
    refine ite_1 (fun _ => J3L (B := f_12_of 0 _ _) hN (T_of _ _ h) (fun r hr => fr_12_of hr kd_0)) (fun _ => ?_)
    refine ite_1 (fun _ => J1L (N := f_L_law_l18 L xs 6000 23 0 f (nI i + 6)) hN h (T_pitOf _ _ h)) (fun _ => ?_)
    refine ite_1 (fun _ => J1L (N := f_L_law_l18 L xs 6000 23 0 f (nI i + 6)) hN h (T_shopOf _ _ h)) (fun _ => ?_)
    refine ite_1 (fun _ => J2L (A := f_11_set 23 _ _) (B := f_12_set 0 _ _) hN h (fun ν hν => T_set _ _ hν) (fun r hr => fr_11_set hr kd_23) (fun ν r hr => fr_12_set hr kd_0)) (fun _ => ?_)
    refine ite_1 (fun _ => J2L (A := f_11_gift 23 _ _) (B := f_12_gift 0 _ _) hN h (fun ν hν => T_gift _ _ hν) (fun r hr => fr_11_gift hr kd_23) (fun ν r hr => fr_12_gift hr kd_0)) (fun _ => ?_)
    refine ite_1 (fun _ => J2L (A := f_11_ship 23 _ _) (B := f_12_ship 0 _ _) hN h (fun ν hν => T_ship _ _ hν) (fun r hr => fr_11_ship hr kd_23) (fun ν r hr => fr_12_ship hr kd_0)) (fun _ => ?_)
    refine ite_1 (fun _ => J2L (A := f_11_feed 23 _ _) (B := f_12_feed 0 _ _) hN h (fun ν hν => T_feed _ _ hν) (fun r hr => fr_11_feed hr kd_23) (fun ν r hr => fr_12_feed hr kd_0)) (fun _ => ?_)
    refine ite_1 (fun _ => J2L (A := f_11_read 23 _) (B := f_12_read 0 _) hN h (fun ν hν => T_read _ hν) (fun r hr => fr_11_read hr kd_23) (fun ν r hr => fr_12_read hr kd_0)) (fun _ => ?_)
    refine ite_1 (fun _ => J1L (N := f_L_law_l18 L xs 6000 23 0 f (nI i + 6)) hN h (T_line _ _ _ h)) (fun _ => ?_)
    refine ite_1 (fun _ => J1L (N := f_L_law_l18 L xs 6000 23 0 f (nI i + 6)) hN h (T_rule _ h)) (fun _ => ?_)
    refine ite_1 (fun _ => J3L (B := f_12_why 0 _ _) hN (T_why _ _ h) (fun r hr => fr_12_why hr kd_0)) (fun _ => ?_)
    refine ite_1 (fun _ => J2L (A := f_11_news 23 _ _) (B := f_12_news 0 _ _) hN h (fun ν hν => T_news _ _ hν) (fun r hr => fr_11_news hr kd_23) (fun ν r hr => fr_12_news hr kd_0)) (fun _ => ?_)
    refine ite_1 (fun _ => J1L (N := f_L_law_l18 L xs 6000 23 0 f (nI i + 6)) hN h (T_hears _ _ h)) (fun _ => ?_)
    refine ite_1 (fun _ => J2L (A := f_11_press 23 _) (B := f_12_press 0 _) hN h (fun ν hν => T_press _ hν) (fun r hr => fr_11_press hr kd_23) (fun ν r hr => fr_12_press hr kd_0)) (fun _ => ?_)
    refine ite_1 (fun _ => J2L (A := f_11_paper 23 _) (B := f_12_paper 0 _) hN h (fun ν hν => T_paper _ hν) (fun r hr => fr_11_paper hr kd_23) (fun ν r hr => fr_12_paper hr kd_0)) (fun _ => ?_)
    refine ite_1 (fun _ => J2L (A := f_11_evict 23 _) (B := f_12_evict 0 _) hN h (fun ν hν => T_evict _ hν) (fun r hr => fr_11_evict hr kd_23) (fun ν r hr => fr_12_evict hr kd_0)) (fun _ => ?_)
    refine ite_1 (fun _ => J2L (A := f_11_draws 23 _) (B := f_12_draws 0 _) hN h (fun ν hν => T_draws _ hν) (fun r hr => fr_11_draws hr kd_23) (fun ν r hr => fr_12_draws hr kd_0)) (fun _ => ?_)
    refine ite_1 (fun _ => J3L (B := f_12_least 0 _) hN (T_least _ h) (fun r hr => fr_12_least hr kd_0)) (fun _ => ?_)
    refine ite_1 (fun _ => J2L (A := f_11_last 23 _) (B := f_12_last 0 _) hN h (fun ν hν => T_last _ hν) (fun r hr => fr_11_last hr kd_23) (fun ν r hr => fr_12_last hr kd_0)) (fun _ => ?_)
    refine ite_1 (fun _ => J2L (A := f_11_post 23 _ _) (B := f_12_post 0 _ _) hN h (fun ν hν => T_post _ _ hν) (fun r hr => fr_11_post hr kd_23) (fun ν r hr => fr_12_post hr kd_0)) (fun _ => ?_)
    refine ite_1 (fun _ => J2L (A := f_11_watch 23 _) (B := f_12_watch 0 _) hN h (fun ν hν => T_watch _ hν) (fun r hr => fr_11_watch hr kd_23) (fun ν r hr => fr_12_watch hr kd_0)) (fun _ => ?_)
    refine ite_1 (fun _ => J1L (N := f_L_law_l18 L xs 6000 23 0 f (nI i + 6)) hN h (T_row _ _ h)) (fun _ => ?_)
    refine ite_1 (fun _ => J2L (A := f_11_alterRow 23 _ _ _) (B := f_12_alterRow 0 _ _ _) hN h (fun ν hν => T_alterRow _ _ _ hν) (fun r hr => fr_11_alterRow hr kd_23) (fun ν r hr => fr_12_alterRow hr kd_0)) (fun _ => ?_)
    refine ite_1 (fun _ => J2L (A := f_11_dropRow 23) (B := f_12_dropRow 0) hN h (fun ν hν => T_dropRow hν) (fun r hr => fr_11_dropRow hr kd_23) (fun ν r hr => fr_12_dropRow hr kd_0)) (fun _ => ?_)
    refine ite_1 (fun _ => J1L (N := f_L_law_l18 L xs 6000 23 0 f (nI i + 6)) hN h (T_judge h)) (fun _ => ?_)
    refine ite_1 (fun _ => J2L (A := f_11_clause 23 _) (B := f_12_clause 0 _) hN h (fun ν hν => T_clause _ hν) (fun r hr => fr_11_clause hr kd_23) (fun ν r hr => fr_12_clause hr kd_0)) (fun _ => ?_)
    refine ite_1 (fun _ => J2L (A := f_11_worth 23 _ _ _) (B := f_12_worth 0 _ _ _) hN h (fun ν hν => T_worth _ _ _ hν) (fun r hr => fr_11_worth hr kd_23) (fun ν r hr => fr_12_worth hr kd_0)) (fun _ => ?_)
    refine ite_1 (fun _ => J2L (A := f_11_ballot 23 _ _) (B := f_12_ballot 0 _ _) hN h (fun ν hν => T_ballot _ _ hν) (fun r hr => fr_11_ballot hr kd_23) (fun ν r hr => fr_12_ballot hr kd_0)) (fun _ => ?_)
    refine ite_1 (fun _ => J2L (A := f_11_offer 23) (B := f_12_offer 0) hN h (fun ν hν => T_offer hν) (fun r hr => fr_11_offer hr kd_23) (fun ν r hr => fr_12_offer hr kd_0)) (fun _ => ?_)
    refine ite_1 (fun _ => J2L (A := f_11_sheet 23 _ _ _) (B := f_12_sheet 0 _ _ _) hN h (fun ν hν => T_sheet _ _ _ hν) (fun r hr => fr_11_sheet hr kd_23) (fun ν r hr => fr_12_sheet hr kd_0)) (fun _ => ?_)
    refine ite_1 (fun _ => J2L (A := f_11_put 23 _ _ _) (B := f_12_put 0 _ _ _) hN h (fun ν hν => T_put _ _ _ hν) (fun r hr => fr_11_put hr kd_23) (fun ν r hr => fr_12_put hr kd_0)) (fun _ => ?_)
    refine ite_1 (fun _ => J1L (N := f_L_law_l18 L xs 6000 23 0 f (nI i + 6)) hN h (T_item _ _ _ h)) (fun _ => ?_)
    refine ite_1 (fun _ => J2L (A := f_11_comes 23 _ _) (B := f_12_comes 0 _ _) hN h (fun ν hν => T_comes _ _ hν) (fun r hr => fr_11_comes hr kd_23) (fun ν r hr => fr_12_comes hr kd_0)) (fun _ => ?_)
    refine ite_1 (fun _ => J2L (A := f_11_shelf 23 _ _ _) (B := f_12_shelf 0 _ _ _) hN h (fun ν hν => T_shelf _ _ _ hν) (fun r hr => fr_11_shelf hr kd_23) (fun ν r hr => fr_12_shelf hr kd_0)) (fun _ => ?_)
    refine ite_1 (fun _ => J1L (N := f_L_law_l18 L xs 6000 23 0 f (nI i + 6)) hN h (T_taken _ _ h)) (fun _ => ?_)
    refine ite_1 (fun _ => J2L (A := f_11_deal 23 _ _ _) (B := f_12_deal 0 _ _ _) hN h (fun ν hν => T_deal _ _ _ hν) (fun r hr => fr_11_deal hr kd_23) (fun ν r hr => fr_12_deal hr kd_0)) (fun _ => ?_)
    refine ite_1 (fun _ => J1L (N := f_L_law_l18 L xs 6000 23 0 f (nI i + 6)) hN h (T_trace _ h)) (fun _ => ?_)
    refine ite_1 (fun _ => J1L (N := f_L_law_l18 L xs 6000 23 0 f (nI i + 6)) hN h (T_many _ h)) (fun _ => ?_)
    refine ite_1 (fun _ => J2L (A := f_11_keep 23) (B := f_12_keep 0) hN h (fun ν hν => T_keep hν) (fun r hr => fr_11_keep hr kd_23) (fun ν r hr => fr_12_keep hr kd_0)) (fun _ => ?_)
    refine ite_1 (fun _ => J2L (A := f_11_again 23) (B := f_12_again 0) hN h (fun ν hν => T_again hν) (fun r hr => fr_11_again hr kd_23) (fun ν r hr => fr_12_again hr kd_0)) (fun _ => ?_)
    exact hN μ h
theorem law_ok {L : Nat} {xs : Nat → Int32} (hL : L ≤ 3072) {μ : mm} (h : Cp μ μ) : f_L_law L xs μ = some 1 := law_1 hL 512 0 FU μ (by omega) (by omega) (show 512 < 2000 by decide) h
