/-! who votes how; ballot and offer -/
def VV (t : Nat → Nat) (n : Nat) (μ : mm) : Prop := μ 85 3 = nI (cn t 1 n) ∧ μ 85 4 = nI (cn t 2 n) ∧ ∀ p, p < 4 → μ 97 p = nI (cn t (3 + p) n)
theorem vk_0 {γ : Nat → Int32} {h : Nat} (b : ¬ γ (106 + 12 * h) = 0) : vk γ h = 0 := if_neg b
theorem vk_m {γ : Nat → Int32} {h : Nat} (b : γ (106 + 12 * h) = 0) (m : mvS γ h = 0) : vk γ h = 0 := (if_pos b).trans (if_pos m)
theorem vk_1 {γ : Nat → Int32} {h : Nat} (b : γ (106 + 12 * h) = 0) (m : ¬ mvS γ h = 0) (w : ¬ 10 ≤ γ (101 + 12 * h)) : vk γ h = 1 := (if_pos b).trans ((if_neg m).trans (if_neg w))
theorem vk_2 {γ : Nat → Int32} {h : Nat} (b : γ (106 + 12 * h) = 0) (m : ¬ mvS γ h = 0) (w : 10 ≤ γ (101 + 12 * h)) (u : ¬ γ (101 + 12 * h) ≤ 90) : vk γ h = 2 := (if_pos b).trans ((if_neg m).trans ((if_pos w).trans (if_neg u)))
theorem vk_3 {γ : Nat → Int32} {h q : Nat} (b : γ (106 + 12 * h) = 0) (m : ¬ mvS γ h = 0) (w : 10 ≤ γ (101 + 12 * h)) (u : γ (101 + 12 * h) ≤ 90) (e : γ (97 + 12 * h) = nI q) (hq : q < 4) : vk γ h = 3 + q := (if_pos b).trans ((if_neg m).trans ((if_pos w).trans ((if_pos u).trans (by rw [e, nn_nI (by omega)]))))
theorem call_l {C P H : Nat} {μ0 ν : mm} (hB : BS C P H μ0 ν) : ∀ (m i f : Nat) (μ : mm), i + m = H → m < f → (∀ b, b ≠ 85 → b ≠ 97 → μ b = μ0 b) → μ 85 0 = μ0 85 0 → VV (vk (ν 1)) i μ → ∃ μ', f_2_callVoters_l20 85 49 f (nI i) μ = some μ' ∧ (∀ b, b ≠ 85 → b ≠ 97 → μ' b = μ0 b) ∧ μ' 85 0 = μ0 85 0 ∧ VV (vk (ν 1)) H μ' := by
  intro m
  induction m with
  | zero =>
    intro i f μ h1 h2 hm h0 hV
    obtain ⟨p, rfl⟩ : ∃ p, f = p + 1 := ⟨f - 1, by omega⟩
    obtain rfl : i = H := by omega
    refine ⟨μ, ?_, hm, h0, hV⟩
    unfold f_2_callVoters_l20
    rw [hm 49 (by decide) (by decide), hB.2.2.2.1.1, if_pos (Int32.le_refl _)]
  | succ m ih =>
    intro i f μ h1 h2 hm h0 hV
    obtain ⟨p, rfl⟩ : ∃ p, f = p + 1 := ⟨f - 1, by omega⟩
    have hB1 := BS_cg (ν' := ν) hB hm h0 rfl
    have hH := hB.1.2.2
    obtain ⟨hHS, q, hq, eq⟩ := hB1.2.2.2.2.2.2.2 i (by omega)
    have hP := hB.1.2.1
    have e10 := hHS.2 10 (by decide)
    have e5 := hHS.2 5 (by decide)
    have e1 := hHS.2 1 (by decide)
    rw [show 96 + 12 * i + 10 = 106 + 12 * i from by omega, show 49 + 60 + i = 109 + i from by omega] at e10
    rw [show 96 + 12 * i + 5 = 101 + 12 * i from by omega, show 49 + 60 + i = 109 + i from by omega] at e5
    rw [show 96 + 12 * i + 1 = 97 + 12 * i from by omega, show 49 + 60 + i = 109 + i from by omega, eq] at e1
    have hmv : f_9_mayVote 49 (109 + i) μ = some (mvS (ν 1) i) := by
      have := C_vote hB1.2.2.2.2.2.2.1 hHS
      rw [show 49 + 60 + i = 109 + i from by omega] at this
      exact this
    obtain ⟨v1, v2, v3⟩ := hV
    have hd : f_2_callVoters_l20 85 49 (p + 1) (nI i) μ = if ν 1 (106 + 12 * i) = 0 then (if mvS (ν 1) i = 0 then f_2_callVoters_l20 85 49 p (nI (i + 1)) μ else if 10 ≤ ν 1 (101 + 12 * i) then (if ν 1 (101 + 12 * i) ≤ 90 then f_2_callVoters_l20 85 49 p (nI (i + 1)) (up μ 97 q (μ 97 q + 1)) else f_2_callVoters_l20 85 49 p (nI (i + 1)) (up μ 85 4 (μ 85 4 + 1))) else f_2_callVoters_l20 85 49 p (nI (i + 1)) (up μ 85 3 (μ 85 3 + 1))) else f_2_callVoters_l20 85 49 p (nI (i + 1)) μ := by
      conv => lhs; unfold f_2_callVoters_l20
      rw [hB1.2.2.2.1.1, if_neg (lt_n1 (by omega) (by omega)), show rf 49 10 = 59 from by decide, show lda 59 (nI i) = some (109 + i) from by rw [show 109 + i = 49 + 60 + i from by omega]; exact aV_10 isV_now (by omega), Option.bind_some, ← e10, hmv, Option.bind_some, ← e5, ← e1, rf_85_5, ldL len_97 (by omega) (by decide), Option.bind_some, stoL len_97 (by omega) (by decide), Option.bind_some, pf_eq, Option.bind_some, pf_eq, Option.bind_some, nI_1]
    by_cases b : ν 1 (106 + 12 * i) = 0
    · by_cases mv : mvS (ν 1) i = 0
      · rw [hd, if_pos b, if_pos mv]
        have t := vk_m b mv
        refine ih (i + 1) p μ (by omega) (by omega) hm h0 ⟨?_, ?_, fun j hj => ?_⟩
        · rw [v1, cn_s, t, if_neg (by decide), Nat.add_zero]
        · rw [v2, cn_s, t, if_neg (by decide), Nat.add_zero]
        · rw [v3 j hj, cn_s, t, if_neg (by omega), Nat.add_zero]
      · by_cases w : 10 ≤ ν 1 (101 + 12 * i)
        · by_cases u : ν 1 (101 + 12 * i) ≤ 90
          · rw [hd, if_pos b, if_neg mv, if_pos w, if_pos u]
            have t := vk_3 b mv w u eq (by omega)
            refine ih (i + 1) p _ (by omega) (by omega) (fun b b1 b2 => by rw [up_ne b2]; exact hm b b1 b2) (by rw [up_ne (by decide)]; exact h0) ⟨?_, ?_, fun j hj => ?_⟩
            · rw [up_ne (by decide), v1, cn_s, t, if_neg (by omega), Nat.add_zero]
            · rw [up_ne (by decide), v2, cn_s, t, if_neg (by omega), Nat.add_zero]
            · by_cases c : j = q
              · subst c
                rw [up_at, v3 j hj, cn_s, t, if_pos rfl, nI_1]
              · rw [up_ns c, v3 j hj, cn_s, t, if_neg (by omega), Nat.add_zero]
          · rw [hd, if_pos b, if_neg mv, if_pos w, if_neg u]
            have t := vk_2 b mv w u
            refine ih (i + 1) p _ (by omega) (by omega) (fun b b1 b2 => by rw [up_ne b1]; exact hm b b1 b2) (by rw [up_ns (by decide)]; exact h0) ⟨?_, ?_, fun j hj => ?_⟩
            · rw [up_ns (by decide), v1, cn_s, t, if_neg (by omega), Nat.add_zero]
            · rw [up_at, v2, cn_s, t, if_pos rfl, nI_1]
            · rw [up_ne (by decide), v3 j hj, cn_s, t, if_neg (by omega), Nat.add_zero]
        · rw [hd, if_pos b, if_neg mv, if_neg w]
          have t := vk_1 b mv w
          refine ih (i + 1) p _ (by omega) (by omega) (fun b b1 b2 => by rw [up_ne b1]; exact hm b b1 b2) (by rw [up_ns (by decide)]; exact h0) ⟨?_, ?_, fun j hj => ?_⟩
          · rw [up_at, v1, cn_s, t, if_pos rfl, nI_1]
          · rw [up_ns (by decide), v2, cn_s, t, if_neg (by omega), Nat.add_zero]
          · rw [up_ne (by decide), v3 j hj, cn_s, t, if_neg (by omega), Nat.add_zero]
    · rw [hd, if_neg b]
      have t := vk_0 b
      refine ih (i + 1) p μ (by omega) (by omega) hm h0 ⟨?_, ?_, fun j hj => ?_⟩
      · rw [v1, cn_s, t, if_neg (by decide), Nat.add_zero]
      · rw [v2, cn_s, t, if_neg (by decide), Nat.add_zero]
      · rw [v3 j hj, cn_s, t, if_neg (by omega), Nat.add_zero]
theorem call_rel {C P H : Nat} {μ ν : mm} (hB : BS C P H μ ν) : ∃ μ', f_2_callVoters 85 49 μ = some μ' ∧ (∀ b, b ≠ 85 → b ≠ 97 → μ' b = μ b) ∧ μ' 85 0 = μ 85 0 ∧ VV (vk (ν 1)) H μ' := by
  obtain ⟨μ', k1, k2, k3, k4⟩ := call_l hB H 0 FU (flM (up (up μ 85 3 0) 85 4 0) 97 0 4 0) (by omega) (show H < 2000 by have := hB.1.2.2; omega) (fun b b1 b2 => by rw [flM_ne b2, up_ne b1, up_ne b1]) (by rw [flM_ne (by decide), up_ns (by decide), up_ns (by decide)]) ⟨by rw [flM_ne (by decide), up_ns (by decide), up_at]; rfl, by rw [flM_ne (by decide), up_at]; rfl, fun p hp => by rw [flM_in (by omega)]; rfl⟩
  rw [show nI 0 = 0 from rfl] at k1
  refine ⟨μ', ?_, k2, k3, k4⟩
  unfold f_2_callVoters
  rw [pf_eq, Option.bind_some, pf_eq, Option.bind_some, rf_85_5, fill_eq len_97 (by decide), Option.bind_some, k1, Option.bind_some]
theorem say_l {C P H K : Nat} {μ ν : mm} {cc : Nat → Nat} {a : Int32} (hB : BS C P H μ ν) (hK : K < 16) (ha : (a = 1 ∧ cc = cy (vk (ν 1)) (fun j => decide (bi K j))) ∨ (a = 0 ∧ cc = cz (vk (ν 1)) (fun j => decide (bi K j)))) : ∀ (m i f : Nat) (ν1 : mm), i + m = H → m < f → (∀ b, b ≠ 9 → ν1 b = ν b) → ∃ ν', f_12_say_l5 0 (nI K) a f (nI (cc i)) (nI i) ν1 = some (nI (cc H), ν') ∧ (∀ b, b ≠ 9 → ν' b = ν b) := by
  intro m
  induction m with
  | zero =>
    intro i f ν1 h1 h2 hn
    obtain ⟨p, rfl⟩ : ∃ p, f = p + 1 := ⟨f - 1, by omega⟩
    obtain rfl : i = H := by omega
    refine ⟨ν1, ?_, hn⟩
    unfold f_12_say_l5
    rw [rf_0_0, l_11, hn 1 (by decide), hB.2.2.2.1.2, Option.bind_some, if_pos (Int32.le_refl _)]
  | succ m ih =>
    intro i f ν1 h1 h2 hn
    obtain ⟨p, rfl⟩ : ∃ p, f = p + 1 := ⟨f - 1, by omega⟩
    have e1 := hn 1 (by decide)
    have hB1 := BS_cg (ν' := ν1) hB (fun _ _ _ => rfl) rfl e1
    have hH := hB.1.2.2
    have hP := hB.1.2.1
    obtain ⟨hHS, q, hq, eq⟩ := hB1.2.2.2.2.2.2.2 i (by omega)
    rw [e1] at eq
    have w5 : f_12_house 0 (nI i) 5 ν1 = some (ν 1 (101 + 12 * i)) := by rw [show f_12_house 0 (nI i) 5 ν1 = _ from house1 (f := 5) (by omega), e1, show 96 + 12 * i + 5 = 101 + 12 * i from by omega]
    have w1 : f_12_house 0 (nI i) 1 ν1 = some (nI q) := by rw [show f_12_house 0 (nI i) 1 ν1 = _ from house1 (f := 1) (by omega), e1, show 96 + 12 * i + 1 = 97 + 12 * i from by omega, eq]
    have w10 : f_12_house 0 (nI i) 10 ν1 = some (ν 1 (106 + 12 * i)) := by rw [show f_12_house 0 (nI i) 10 ν1 = _ from house1 (f := 10) (by omega), e1, show 96 + 12 * i + 10 = 106 + 12 * i from by omega]
    obtain ⟨ν2, g1, g2⟩ := M_vote hB1.2.2.2.2.2.2.1 hHS
    rw [e1] at g1
    have hn2 : ∀ b, b ≠ 9 → ν2 b = ν b := fun b hb => by rw [g2 b hb, hn b hb]
    have hs : ∃ z : Int32, (if ν 1 (101 + 12 * i) < 10 then some (1 : Int32) else if 90 < ν 1 (101 + 12 * i) then some 0 else (f_12_house 0 (nI i) 1 ν1).bind fun x6 => if (nI K >>> (x6 &&& 31)) &&& 1 = (1 : Int32) then some 1 else some 0) = some z ∧ ((ν 1 (106 + 12 * i) = 0 → ¬ mvS (ν 1) i = 0 → (z = a ∧ cc (i + 1) = cc i + 1) ∨ (¬ z = a ∧ cc (i + 1) = cc i))) := by
      by_cases w : 10 ≤ ν 1 (101 + 12 * i)
      · rw [if_neg (Int32.not_lt.mpr w)]
        by_cases u : ν 1 (101 + 12 * i) ≤ 90
        · rw [if_neg (Int32.not_lt.mpr u), w1, Option.bind_some]
          by_cases c : bi K q
          · refine ⟨1, if_pos ((wq_shr K hK q (by omega)).mpr c), fun b mv => ?_⟩
            have t := vk_3 b mv w u eq (by omega)
            rcases ha with ⟨rfl, rfl⟩ | ⟨rfl, rfl⟩
            · refine Or.inl ⟨rfl, ?_⟩
              rw [cy_s, t, if_pos (Or.inr ⟨by omega, by rw [show 3 + q - 3 = q from by omega]; exact decide_eq_true c⟩)]
            · refine Or.inr ⟨by decide, ?_⟩
              rw [cz_s, t, if_neg (fun z => ?_), Nat.add_zero]
              rcases z with z | ⟨-, z⟩
              · omega
              · rw [show 3 + q - 3 = q from by omega] at z
                exact absurd c (of_decide_eq_false z)
          · refine ⟨0, if_neg (fun z => c ((wq_shr K hK q (by omega)).mp z)), fun b mv => ?_⟩
            have t := vk_3 b mv w u eq (by omega)
            rcases ha with ⟨rfl, rfl⟩ | ⟨rfl, rfl⟩
            · refine Or.inr ⟨by decide, ?_⟩
              rw [cy_s, t, if_neg (fun z => ?_), Nat.add_zero]
              rcases z with z | ⟨-, z⟩
              · omega
              · rw [show 3 + q - 3 = q from by omega] at z
                exact absurd (of_decide_eq_true z) c
            · refine Or.inl ⟨rfl, ?_⟩
              rw [cz_s, t, if_pos (Or.inr ⟨by omega, by rw [show 3 + q - 3 = q from by omega]; exact decide_eq_false c⟩)]
        · rw [if_pos (Int32.not_le.mp u)]
          refine ⟨0, rfl, fun b mv => ?_⟩
          have t := vk_2 b mv w u
          rcases ha with ⟨rfl, rfl⟩ | ⟨rfl, rfl⟩
          · exact Or.inr ⟨by decide, by rw [cy_s, t, if_neg (by omega), Nat.add_zero]⟩
          · exact Or.inl ⟨rfl, by rw [cz_s, t, if_pos (Or.inl rfl)]⟩
      · rw [if_pos (Int32.not_le.mp w)]
        refine ⟨1, rfl, fun b mv => ?_⟩
        have t := vk_1 b mv w
        rcases ha with ⟨rfl, rfl⟩ | ⟨rfl, rfl⟩
        · exact Or.inl ⟨rfl, by rw [cy_s, t, if_pos (Or.inl rfl)]⟩
        · exact Or.inr ⟨by decide, by rw [cz_s, t, if_neg (by omega), Nat.add_zero]⟩
    have h0 : vk (ν 1) i = 0 → cc (i + 1) = cc i := fun t => by
      rcases ha with ⟨-, rfl⟩ | ⟨-, rfl⟩
      · rw [cy_s, t, if_neg (by omega), Nat.add_zero]
      · rw [cz_s, t, if_neg (by omega), Nat.add_zero]
    obtain ⟨z, z1, z2⟩ := hs
    have hd : f_12_say_l5 0 (nI K) a (p + 1) (nI (cc i)) (nI i) ν1 = if ν 1 (106 + 12 * i) = 0 then (if mvS (ν 1) i = 0 then f_12_say_l5 0 (nI K) a p (nI (cc i)) (nI (i + 1)) ν2 else if z = a then f_12_say_l5 0 (nI K) a p (nI (cc i + 1)) (nI (i + 1)) ν2 else f_12_say_l5 0 (nI K) a p (nI (cc i)) (nI (i + 1)) ν2) else f_12_say_l5 0 (nI K) a p (nI (cc i)) (nI (i + 1)) ν1 := by
      conv => lhs; unfold f_12_say_l5
      rw [rf_0_0, l_11, e1, hB.2.2.2.1.2, Option.bind_some, if_neg (lt_n1 (by omega) (by omega)), w5, Option.bind_some, z1, Option.bind_some, w10, Option.bind_some, g1, Option.bind_some, nI_p0, nI_1, nI_1]
    by_cases b : ν 1 (106 + 12 * i) = 0
    · by_cases mv : mvS (ν 1) i = 0
      · rw [hd, if_pos b, if_pos mv, ← h0 (vk_m b mv)]
        exact ih (i + 1) p ν2 (by omega) (by omega) hn2
      · rcases z2 b mv with ⟨y1, y2⟩ | ⟨y1, y2⟩
        · rw [hd, if_pos b, if_neg mv, if_pos y1, ← y2]
          exact ih (i + 1) p ν2 (by omega) (by omega) hn2
        · rw [hd, if_pos b, if_neg mv, if_neg y1, ← y2]
          exact ih (i + 1) p ν2 (by omega) (by omega) hn2
    · rw [hd, if_neg b, ← h0 (vk_0 b)]
      exact ih (i + 1) p ν1 (by omega) (by omega) hn
theorem say_rel {C P H K : Nat} {μ ν : mm} {cc : Nat → Nat} {a : Int32} (hB : BS C P H μ ν) (hK : K < 16) (ha : (a = 1 ∧ cc = cy (vk (ν 1)) (fun j => decide (bi K j))) ∨ (a = 0 ∧ cc = cz (vk (ν 1)) (fun j => decide (bi K j)))) : ∃ ν', f_12_say 0 (nI K) a ν = some (nI (cc H), ν') ∧ (∀ b, b ≠ 9 → ν' b = ν b) := by
  obtain ⟨ν', k1, k2⟩ := say_l hB hK ha H 0 FU ν (by omega) (show H < 2000 by have := hB.1.2.2; omega) (fun _ _ => rfl)
  have c0 : cc 0 = 0 := by rcases ha with ⟨-, rfl⟩ | ⟨-, rfl⟩ <;> rfl
  rw [c0, show nI 0 = 0 from rfl] at k1
  exact ⟨ν', by unfold f_12_say; rw [k1, Option.bind_some], k2⟩
def ys (B : Nat → Bool) (c : Nat → Nat) : Nat → Nat → Nat
  | 0, _ => 0
  | m + 1, p => (if B p = true then c p else 0) + ys B c m (p + 1)
theorem yes_l {K : Nat} {μ : mm} {c : Nat → Nat} (hK : K < 16) (h : ∀ p, p < 4 → μ 97 p = nI (c p)) : ∀ (m p f x : Nat), p + m = 4 → m < f → f_2_yesOf_l7 85 (nI K) μ f (nI x) (nI p) = some (nI (x + ys (fun j => decide (bi K j)) c m p)) := by
  intro m
  induction m with
  | zero =>
    intro p f x h1 h2
    obtain ⟨q, rfl⟩ : ∃ q, f = q + 1 := ⟨f - 1, by omega⟩
    obtain rfl : p = 4 := by omega
    unfold f_2_yesOf_l7
    rw [if_pos (show (4 : Int32) ≤ nI 4 from Int32.le_refl _)]
    rfl
  | succ m ih =>
    intro p f x h1 h2
    obtain ⟨q, rfl⟩ : ∃ q, f = q + 1 := ⟨f - 1, by omega⟩
    unfold f_2_yesOf_l7
    rw [if_neg (nle_4 (by omega)), rf_85_5, ldL len_97 (by omega) (by decide), Option.bind_some, h p (by omega), nI_add, nI_1, show ys (fun j => decide (bi K j)) c (m + 1) p = (if decide (bi K p) = true then c p else 0) + ys (fun j => decide (bi K j)) c m (p + 1) from rfl]
    by_cases b : bi K p
    · rw [if_neg (fun z => ((wq_and K hK p (by omega)).mp z) b), ih (p + 1) q _ (by omega) (by omega), if_pos (decide_eq_true b), Nat.add_assoc]
    · rw [if_pos ((wq_and K hK p (by omega)).mpr b), ih (p + 1) q _ (by omega) (by omega), if_neg (fun z => b (of_decide_eq_true z)), Nat.zero_add]
theorem votes_l {μ : mm} {c : Nat → Nat} (h : ∀ p, p < 4 → μ 97 p = nI (c p)) : ∀ (m p f x : Nat), p + m = 4 → m < f → f_2_votes_l12 85 μ f (nI x) (nI p) = some (nI (x + ys (fun _ => true) c m p)) := by
  intro m
  induction m with
  | zero =>
    intro p f x h1 h2
    obtain ⟨q, rfl⟩ : ∃ q, f = q + 1 := ⟨f - 1, by omega⟩
    obtain rfl : p = 4 := by omega
    unfold f_2_votes_l12
    rw [if_pos (show (4 : Int32) ≤ nI 4 from Int32.le_refl _)]
    rfl
  | succ m ih =>
    intro p f x h1 h2
    obtain ⟨q, rfl⟩ : ∃ q, f = q + 1 := ⟨f - 1, by omega⟩
    unfold f_2_votes_l12
    rw [if_neg (nle_4 (by omega)), rf_85_5, ldL len_97 (by omega) (by decide), Option.bind_some, h p (by omega), nI_add, nI_1, ih (p + 1) q _ (by omega) (by omega), show ys (fun _ => true) c (m + 1) p = c p + ys (fun _ => true) c m (p + 1) from rfl, Nat.add_assoc]
theorem vk_7 {C P H : Nat} {μ ν : mm} (hB : BS C P H μ ν) : ∀ h, h < H → vk (ν 1) h < 7 := fun h hh => by
  obtain ⟨-, q, hq, eq⟩ := hB.2.2.2.2.2.2.2 h hh
  have hP := hB.1.2.1
  unfold vk
  rw [eq, nn_nI (by omega)]
  split
  · split
    · omega
    · split
      · split <;> omega
      · omega
  · omega
theorem yes_eq {C P H K : Nat} {μ ν : mm} (hB : BS C P H μ ν) (hK : K < 16) (hV : VV (vk (ν 1)) H μ) : f_2_yesOf 85 (nI K) μ = some (nI (cy (vk (ν 1)) (fun j => decide (bi K j)) H)) := by
  obtain ⟨v1, v2, v3⟩ := hV
  have k := yes_l hK v3 4 0 FU (cn (vk (ν 1)) 1 H) rfl (show 4 < 2000 by omega)
  rw [show nI 0 = 0 from rfl] at k
  unfold f_2_yesOf
  have e : cn (vk (ν 1)) 1 H + ys (fun j => decide (bi K j)) (fun p => cn (vk (ν 1)) (3 + p) H) 4 0 = cn (vk (ν 1)) 1 H + (if decide (bi K 0) = true then cn (vk (ν 1)) 3 H else 0) + (if decide (bi K 1) = true then cn (vk (ν 1)) 4 H else 0) + (if decide (bi K 2) = true then cn (vk (ν 1)) 5 H else 0) + (if decide (bi K 3) = true then cn (vk (ν 1)) 6 H else 0) := by
    show cn (vk (ν 1)) 1 H + ((if decide (bi K 0) = true then cn (vk (ν 1)) 3 H else 0) + ((if decide (bi K 1) = true then cn (vk (ν 1)) 4 H else 0) + ((if decide (bi K 2) = true then cn (vk (ν 1)) 5 H else 0) + ((if decide (bi K 3) = true then cn (vk (ν 1)) 6 H else 0) + 0)))) = _
    rw [Nat.add_zero, Nat.add_assoc, Nat.add_assoc, Nat.add_assoc]
  rw [v1, k, Option.bind_some, (cyz (B := fun j => decide (bi K j)) H (vk_7 hB)).1, e]
theorem votes_eq {C P H K : Nat} {μ ν : mm} (hB : BS C P H μ ν) (hV : VV (vk (ν 1)) H μ) : f_2_votes 85 μ = some (nI (cy (vk (ν 1)) (fun j => decide (bi K j)) H + cz (vk (ν 1)) (fun j => decide (bi K j)) H)) := by
  obtain ⟨v1, v2, v3⟩ := hV
  have k := votes_l v3 4 0 FU (cn (vk (ν 1)) 1 H + cn (vk (ν 1)) 2 H) rfl (show 4 < 2000 by omega)
  rw [show nI 0 = 0 from rfl] at k
  unfold f_2_votes
  have e : cn (vk (ν 1)) 1 H + cn (vk (ν 1)) 2 H + ys (fun _ => true) (fun p => cn (vk (ν 1)) (3 + p) H) 4 0 = cn (vk (ν 1)) 1 H + cn (vk (ν 1)) 2 H + cn (vk (ν 1)) 3 H + cn (vk (ν 1)) 4 H + cn (vk (ν 1)) 5 H + cn (vk (ν 1)) 6 H := by
    show cn (vk (ν 1)) 1 H + cn (vk (ν 1)) 2 H + (cn (vk (ν 1)) 3 H + (cn (vk (ν 1)) 4 H + (cn (vk (ν 1)) 5 H + (cn (vk (ν 1)) 6 H + 0)))) = _
    omega
  rw [v1, v2, nI_add, k, Option.bind_some, (cyz (B := fun j => decide (bi K j)) H (vk_7 hB)).2, e]
theorem cy_le {t : Nat → Nat} {B : Nat → Bool} : ∀ n, cy t B n ≤ n ∧ cz t B n ≤ n
  | 0 => ⟨Nat.le_refl _, Nat.le_refl _⟩
  | n + 1 => by
    have := cy_le (t := t) (B := B) n
    rw [cy_s, cz_s]
    constructor <;> split <;> omega
theorem carry_rel {C P H K s : Nat} {μ ν : mm} (hB : BS C P H μ ν) (hK : K < 16) (hV : VV (vk (ν 1)) H μ) (hc : f_12_contentBy 0 (nI s) ν = some (nI K)) : ∃ r ν', f_2_isCarried 85 (nI K) 49 μ = some r ∧ f_12_isCarried 0 (nI s) ν = some (r, ν') ∧ (r = 0 ∨ r = 1) ∧ (∀ b, b ≠ 9 → ν' b = ν b) := by
  obtain ⟨ν1, a1, a2⟩ := say_rel hB hK (Or.inl ⟨rfl, rfl⟩)
  have hB1 := BS_cg (ν' := ν1) hB (fun _ _ _ => rfl) rfl (a2 1 (by decide))
  have e1 := a2 1 (by decide)
  obtain ⟨ν2, b1, b2⟩ := say_rel hB1 hK (Or.inr ⟨rfl, rfl⟩)
  have e2 : ν2 1 = ν 1 := by rw [b2 1 (by decide), e1]
  rw [e1] at b1
  have hB2 := BS_cg (ν' := ν2) hB (fun _ _ _ => rfl) rfl e2
  obtain ⟨y, hy⟩ : ∃ y, y = cy (vk (ν 1)) (fun j => decide (bi K j)) H := ⟨_, rfl⟩
  obtain ⟨z, hz⟩ : ∃ z, z = cz (vk (ν 1)) (fun j => decide (bi K j)) H := ⟨_, rfl⟩
  have hyz := cy_le (t := vk (ν 1)) (B := fun j => decide (bi K j)) H
  have hH := hB.1.2.2
  have q1 := yes_eq hB hK hV
  have q2 := votes_eq (K := K) hB hV
  rw [← hy] at q1 a1 hyz
  rw [← hy, ← hz] at q2
  rw [← hz] at b1 hyz
  have i1 : (nI (y + z) * 100 : Int32) = nI (100 * (y + z)) := by rw [show (100 : Int32) = nI 100 from rfl, pk_mul, Nat.mul_comm]
  have i2 : (100 * nI (y + z) : Int32) = nI (100 * (y + z)) := by rw [show (100 : Int32) = nI 100 from rfl, pk_mul]
  have i3 : nI (y + z) - nI y = nI z := by rw [pk_sub (by omega), show y + z - y = z from by omega]
  have mq := M_ruled0 hB2.2.2.2.2.2.2.1
  rw [e2] at mq
  refine ⟨if nI (100 * (y + z)) < noS (ν 1) 0 3 50 * nI H then 0 else if nI y ≤ nI z then 0 else 1, ν2, ?_, ?_, ?_, fun b hb => by rw [b2 b hb, a2 b hb]⟩
  · unfold f_2_isCarried
    rw [q2, Option.bind_some, q1, Option.bind_some, C_quorum hB.2.2.2.2.2.2.1, Option.bind_some, i1, i3, hB.2.2.2.1.1]
    by_cases c : nI (100 * (y + z)) < noS (ν 1) 0 3 50 * nI H
    · rw [if_pos c, if_pos c]
    · rw [if_neg c, if_neg c]
      by_cases d : nI y ≤ nI z
      · rw [if_pos d, if_pos d]
      · rw [if_neg d, if_neg d]
  · unfold f_12_isCarried
    rw [hc, Option.bind_some, a1, Option.bind_some]
    dsimp only
    rw [b1, Option.bind_some]
    dsimp only
    rw [mq, Option.bind_some, rf_0_0, l_11, e2, hB.2.2.2.1.2, Option.bind_some, nI_add, i2]
    by_cases c : nI (100 * (y + z)) < noS (ν 1) 0 3 50 * nI H
    · rw [if_pos c, if_pos c]
    · rw [if_neg c, if_neg c]
      by_cases d : nI y ≤ nI z
      · rw [if_pos d, if_pos d]
      · rw [if_neg d, if_neg d]
  · by_cases c : nI (100 * (y + z)) < noS (ν 1) 0 3 50 * nI H
    · rw [if_pos c]; exact Or.inl rfl
    · rw [if_neg c]
      by_cases d : nI y ≤ nI z
      · rw [if_pos d]; exact Or.inl rfl
      · rw [if_neg d]; exact Or.inr rfl
theorem Cp_vote {μ μ' ν ν' : mm} (h : Cp μ ν) (hm : ∀ b, b ≠ 85 → b ≠ 97 → μ' b = μ b) (h0 : μ' 85 0 = μ 85 0) (hn : ∀ b, b ≠ 9 → ν' b = ν b) : Cp μ' ν' := Cp_scr h (fun b hb => hm b (by omega) (by omega)) h0 (fun b hb => hn b (by omega))
theorem T_ballot {μ ν : mm} (a b : Int32) (h : Cp μ ν) : Ok (f_11_ballot 23 a b μ) fun z => Ok (f_12_ballot 0 a b ν) fun w => z.1 = w.1 ∧ Cp z.2 w.2 := by
  obtain ⟨C, P, H, hB⟩ := Cp_BS h
  have hC := hB.1.1
  have one := ob_one C (by omega)
  have le := ob_le C (by omega)
  obtain ⟨S, hS⟩ : ∃ S, S = 2 ^ C := ⟨_, rfl⟩
  rw [← hS] at one le
  have eS : f_2_setCount 85 μ = some (nI S) := by
    unfold f_2_setCount
    rw [hB.2.1.1, one]
  by_cases c1 : 0 ≤ a ∧ a ≤ nI S - 1
  · obtain ⟨s, hs, rfl⟩ := in_of (by omega) c1
    have k1 : ¬ nI s < 0 := nI_pos (by omega)
    have k2 : ¬ nI S ≤ nI s := lt_n1 hs (by omega)
    by_cases c2 : 0 ≤ b ∧ b ≤ 4
    · obtain ⟨μ', v1, v2, v3, v4⟩ := call_rel hB
      have hB1 := BS_cg (ν' := ν) hB v2 v3 rfl
      obtain ⟨K, hK, m1, m2⟩ := cont_rel (s := s) hB1 (by omega)
      have hCp : Cp μ' ν := Cp_vote h v2 v3 (fun _ _ => rfl)
      by_cases b0 : b = 0
      · subst b0
        obtain ⟨ν1, a1, a2⟩ := say_rel hB1 hK (Or.inl ⟨rfl, rfl⟩)
        exact Ok_of (y := (_, μ')) (by unfold f_11_ballot; rw [rf_23_0, rf_49_15, eS, Option.bind_some, isIn_t c1, Option.bind_some, if_neg (show ¬ (1 : Int32) = 0 by decide), isIn_t c2, Option.bind_some, if_neg (show ¬ (1 : Int32) = 0 by decide), v1, Option.bind_some, m1, Option.bind_some, if_pos rfl, yes_eq hB1 hK v4, Option.bind_some]) (Ok_of (y := (_, ν1)) (by unfold f_12_ballot; rw [if_neg k1, rf_0_0, l_17, hB.2.1.2, Option.bind_some, one, if_neg k2, within_t c2, Option.bind_some, if_neg (show ¬ (1 : Int32) = 0 by decide), m2, Option.bind_some, if_pos rfl, a1, Option.bind_some]) ⟨rfl, Cp_vote h v2 v3 a2⟩)
      by_cases b1 : b = 1
      · subst b1
        obtain ⟨ν1, a1, a2⟩ := say_rel hB1 hK (Or.inr ⟨rfl, rfl⟩)
        exact Ok_of (y := (_, μ')) (by unfold f_11_ballot; rw [rf_23_0, rf_49_15, eS, Option.bind_some, isIn_t c1, Option.bind_some, if_neg (show ¬ (1 : Int32) = 0 by decide), isIn_t c2, Option.bind_some, if_neg (show ¬ (1 : Int32) = 0 by decide), v1, Option.bind_some, m1, Option.bind_some, if_neg (by decide), if_pos rfl, votes_eq (K := K) hB1 v4, Option.bind_some, yes_eq hB1 hK v4, Option.bind_some, pk_sub (by omega), Nat.add_sub_cancel_left]) (Ok_of (y := (_, ν1)) (by unfold f_12_ballot; rw [if_neg k1, rf_0_0, l_17, hB.2.1.2, Option.bind_some, one, if_neg k2, within_t c2, Option.bind_some, if_neg (show ¬ (1 : Int32) = 0 by decide), m2, Option.bind_some, if_neg (by decide), if_pos rfl, a1, Option.bind_some]) ⟨rfl, Cp_vote h v2 v3 a2⟩)
      by_cases b2 : b = 2
      · subst b2
        obtain ⟨r, ν1, a1, a2, a3, a4⟩ := carry_rel hB1 hK v4 m2
        refine Ok_of (y := (r, μ')) (by unfold f_11_ballot; rw [rf_23_0, rf_49_15, eS, Option.bind_some, isIn_t c1, Option.bind_some, if_neg (show ¬ (1 : Int32) = 0 by decide), isIn_t c2, Option.bind_some, if_neg (show ¬ (1 : Int32) = 0 by decide), v1, Option.bind_some, m1, Option.bind_some, if_neg (by decide), if_neg (by decide), if_pos rfl, a1, Option.bind_some]; unfold f_11_asBit; rcases a3 with rfl | rfl <;> rfl) (Ok_of (y := (r, ν1)) (by unfold f_12_ballot; rw [if_neg k1, rf_0_0, l_17, hB.2.1.2, Option.bind_some, one, if_neg k2, within_t c2, Option.bind_some, if_neg (show ¬ (1 : Int32) = 0 by decide), m2, Option.bind_some, if_neg (by decide), if_neg (by decide), if_pos rfl, a2, Option.bind_some]; rcases a3 with rfl | rfl <;> rfl) ⟨rfl, Cp_vote h v2 v3 a4⟩)
      by_cases b3 : b = 3
      · subst b3
        exact Ok_of (y := (nI K, μ')) (by unfold f_11_ballot; rw [rf_23_0, rf_49_15, eS, Option.bind_some, isIn_t c1, Option.bind_some, if_neg (show ¬ (1 : Int32) = 0 by decide), isIn_t c2, Option.bind_some, if_neg (show ¬ (1 : Int32) = 0 by decide), v1, Option.bind_some, m1, Option.bind_some, if_neg (by decide), if_neg (by decide), if_neg (by decide), if_pos rfl]) (Ok_of (y := (nI K, ν)) (by unfold f_12_ballot; rw [if_neg k1, rf_0_0, l_17, hB.2.1.2, Option.bind_some, one, if_neg k2, within_t c2, Option.bind_some, if_neg (show ¬ (1 : Int32) = 0 by decide), m2, Option.bind_some, if_neg (by decide), if_neg (by decide), if_neg (by decide), if_pos rfl]) ⟨rfl, hCp⟩)
      · obtain ⟨y, y1, y2⟩ := cost_rel (s := s) hB1 (by omega)
        exact Ok_of (y := (y, μ')) (by unfold f_11_ballot; rw [rf_23_0, rf_49_15, eS, Option.bind_some, isIn_t c1, Option.bind_some, if_neg (show ¬ (1 : Int32) = 0 by decide), isIn_t c2, Option.bind_some, if_neg (show ¬ (1 : Int32) = 0 by decide), v1, Option.bind_some, m1, Option.bind_some, if_neg b0, if_neg b1, if_neg b2, if_neg b3, y1, Option.bind_some]) (Ok_of (y := (y, ν)) (by unfold f_12_ballot; rw [if_neg k1, rf_0_0, l_17, hB.2.1.2, Option.bind_some, one, if_neg k2, within_t c2, Option.bind_some, if_neg (show ¬ (1 : Int32) = 0 by decide), m2, Option.bind_some, if_neg b0, if_neg b1, if_neg b2, if_neg b3, y2, Option.bind_some]) ⟨rfl, hCp⟩)
    · refine Ok_of (y := (-1, μ)) ?_ (Ok_of (y := (-1, ν)) ?_ ⟨rfl, h⟩)
      · unfold f_11_ballot
        rw [rf_23_0, rf_49_15, eS, Option.bind_some, isIn_t c1, Option.bind_some, if_neg (by decide), isIn_f c2, Option.bind_some, if_pos rfl]
      · unfold f_12_ballot
        rw [if_neg k1, rf_0_0, l_17, hB.2.1.2, Option.bind_some, one, if_neg k2, within_f c2, Option.bind_some, if_pos rfl]
  · refine Ok_of (y := (-1, μ)) ?_ (Ok_of (y := (-1, ν)) ?_ ⟨rfl, h⟩)
    · unfold f_11_ballot
      rw [rf_23_0, rf_49_15, eS, Option.bind_some, isIn_f c1, Option.bind_some, if_pos rfl]
    · unfold f_12_ballot
      by_cases d : a < 0
      · rw [if_pos d]
      · rw [if_neg d, rf_0_0, l_17, hB.2.1.2, Option.bind_some, one, if_pos]
        obtain ⟨j, hj, rfl⟩ := nI_of d
        by_cases e : j < S
        · exact absurd (of_in (by omega) e) c1
        · exact nI_le (by omega) hj
