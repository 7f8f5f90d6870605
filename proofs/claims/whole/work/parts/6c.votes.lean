/-! offers: sums over clauses, contentment, voters -/
theorem ob_bit : ∀ s, s < 512 → ∀ c, c < 9 → (nI s &&& ((1 : Int32) <<< (nI c &&& 31)) = 0 ↔ ¬ (nI s >>> (nI c &&& 31)) &&& 1 = (1 : Int32)) := by decide +kernel
theorem ob_one : ∀ g, g < 10 → (1 : Int32) <<< (nI g &&& 31) = nI (2 ^ g) := by decide +kernel
theorem ob_le : ∀ g, g < 10 → 1 ≤ 2 ^ g ∧ 2 ^ g ≤ 512 := by decide +kernel
theorem ob_or : ∀ k, k < 16 → ∀ p, p < 4 → ∃ j, j < 16 ∧ nI k ||| ((1 : Int32) <<< (nI p &&& 31)) = nI j := by decide +kernel
/-- how a household votes: not, always for, always against, or as its pit does -/
def vk (γ : Nat → Int32) (h : Nat) : Nat := if γ (106 + 12 * h) = 0 then (if mvS γ h = 0 then 0 else if 10 ≤ γ (101 + 12 * h) then (if γ (101 + 12 * h) ≤ 90 then 3 + nn (γ (97 + 12 * h)) else 2) else 1) else 0
def BS (C P H : Nat) (μ ν : mm) : Prop := (C ≤ 9 ∧ P ≤ 4 ∧ H ≤ 16) ∧ (μ 85 0 = nI C ∧ ν 1 17 = nI C) ∧ (μ 49 2 = nI P ∧ ν 1 9 = nI P) ∧ (μ 49 4 = nI H ∧ ν 1 11 = nI H) ∧ (∀ c, c < C → ν 1 (867 + 5 * c) = μ 86 c ∧ ∀ p, p < 4 → ν 1 (867 + 5 * c + 1 + p) = μ (88 + c) p) ∧ (∀ p, p < P → ν 1 (56 + 7 * p + 6) = μ (101 + p) 6) ∧ RS 49 μ ν ∧ ∀ h, h < H → HS 49 μ ν h ∧ ∃ q, q < P ∧ ν 1 (97 + 12 * h) = nI q
theorem BS_cg {C P H : Nat} {μ ν μ' ν' : mm} (h : BS C P H μ ν) (hm : ∀ b, b ≠ 85 → b ≠ 97 → μ' b = μ b) (h0 : μ' 85 0 = μ 85 0) (hn : ν' 1 = ν 1) : BS C P H μ' ν' := by
  obtain ⟨⟨b0, b1, b2⟩, b3, b4, b5, b6, b7, b8, b9⟩ := h
  refine ⟨⟨b0, b1, b2⟩, by rw [h0, hn]; exact b3, by rw [hm 49 (by decide) (by decide), hn]; exact b4, by rw [hm 49 (by decide) (by decide), hn]; exact b5, fun c hc => ?_, fun p hp => ?_, RS_scr b8 (fun b q1 q2 => hm b (by omega) (by omega)) hn, fun k hk => ⟨HS_scr (b9 k hk).1 (hm _ (by omega) (by omega)) hn, by rw [hn]; exact (b9 k hk).2⟩⟩
  · rw [hn, hm 86 (by decide) (by decide), hm (88 + c) (by omega) (by omega)]
    exact b6 c hc
  · rw [hn, hm (101 + p) (by omega) (by omega)]
    exact b7 p hp
theorem Cp_BS {μ ν : mm} (h : Cp μ ν) : ∃ C P H, BS C P H μ ν := by
  obtain ⟨C, hC, eC, nC⟩ := cnt_of (m := 9) (by decide) h.2.1.2.1.2.2.2.2.2.2.2.2.2
  obtain ⟨P, hP, eP, nP⟩ := cnt_of (m := 4) (by decide) h.2.1.2.1.2.1
  obtain ⟨H, hH, eH, nH⟩ := cnt_of (m := 16) (by decide) h.2.1.2.1.2.2.2.1
  refine ⟨C, P, H, ⟨hC, hP, hH⟩, ⟨(h.1.1 17 (by decide)).symm.trans eC, eC⟩, ⟨(h.1.1 9 (by decide)).symm.trans eP, eP⟩, ⟨(h.1.1 11 (by decide)).symm.trans eH, eH⟩, fun c hc => h.1.2.2.2.2.2.2.2.2.2.2.1 c (by omega), fun p hp => h.1.2.2.1 p 6 (by omega) (by decide), Cp_RS h, fun k hk => ⟨Cp_HS h (by omega), ?_⟩⟩
  have r := (h.2.1.2.2.2.2.2.1 k (by omega)).2.1
  rw [eP] at r
  exact vil_of (by omega) r
theorem sum_cost {C P H s : Nat} {μ ν : mm} (hB : BS C P H μ ν) (hs : s < 512) : ∀ (m c f1 f2 : Nat) (x : Int32), c + m = C → m < f1 → m < f2 → ∃ y, f_2_costOf_l4 85 (nI s) μ f1 x (nI c) = some y ∧ f_12_sumOf_l5 0 (nI s) 0 ν f2 x (nI c) = some y := by
  obtain ⟨⟨hC, hP, hH⟩, ⟨e1, e2⟩, -, -, b6, -⟩ := hB
  intro m
  induction m with
  | zero =>
    intro c f1 f2 x h1 h2 h3
    obtain ⟨p, rfl⟩ : ∃ p, f1 = p + 1 := ⟨f1 - 1, by omega⟩
    obtain ⟨q, rfl⟩ : ∃ q, f2 = q + 1 := ⟨f2 - 1, by omega⟩
    obtain rfl : c = C := by omega
    refine ⟨x, ?_, ?_⟩
    · unfold f_2_costOf_l4
      rw [e1, if_pos (Int32.le_refl _)]
    · unfold f_12_sumOf_l5
      rw [rf_0_0, l_17, e2, Option.bind_some, if_pos (Int32.le_refl _)]
  | succ m ih =>
    intro c f1 f2 x h1 h2 h3
    obtain ⟨p, rfl⟩ : ∃ p, f1 = p + 1 := ⟨f1 - 1, by omega⟩
    obtain ⟨q, rfl⟩ : ∃ q, f2 = q + 1 := ⟨f2 - 1, by omega⟩
    have d : ¬ nI C ≤ nI c := lt_n1 (by omega) (by omega)
    unfold f_2_costOf_l4 f_12_sumOf_l5
    rw [e1, if_neg d, rf_0_0, l_17, e2, Option.bind_some, if_neg d, rf_85_1, ldL len_86 (by omega) (by decide), Option.bind_some, ix_867_, show nI (867 + 5 * c) + 0 = nI (867 + 5 * c) from nI_p0 _, ld1 (by omega), Option.bind_some, (b6 c (by omega)).1, Int32.add_zero, nI_1]
    by_cases b : (nI s >>> (nI c &&& 31)) &&& 1 = (1 : Int32)
    · rw [if_pos b, if_neg (fun z => (ob_bit s hs c (by omega)).mp z b)]
      exact ih (c + 1) p q _ (by omega) (by omega) (by omega)
    · rw [if_neg b, if_pos ((ob_bit s hs c (by omega)).mpr b)]
      exact ih (c + 1) p q _ (by omega) (by omega) (by omega)
theorem sum_worth {C P H s p : Nat} {μ ν : mm} {k : Int32} (hB : BS C P H μ ν) (hs : s < 512) (hp : p < 4) : ∀ (m c f1 f2 : Nat) (x : Int32), c + m = C → m < f1 → m < f2 → ∃ y, f_2_contentPits_l20 85 (nI s) 49 k (nI p) μ f1 x (nI c) = some y ∧ f_12_sumOf_l5 0 (nI s) (1 + nI p) ν f2 x (nI c) = some y := by
  obtain ⟨⟨hC, hP, hH⟩, ⟨e1, e2⟩, -, -, b6, -⟩ := hB
  intro m
  induction m with
  | zero =>
    intro c f1 f2 x h1 h2 h3
    obtain ⟨p', rfl⟩ : ∃ p', f1 = p' + 1 := ⟨f1 - 1, by omega⟩
    obtain ⟨q, rfl⟩ : ∃ q, f2 = q + 1 := ⟨f2 - 1, by omega⟩
    obtain rfl : c = C := by omega
    refine ⟨x, ?_, ?_⟩
    · unfold f_2_contentPits_l20
      rw [e1, if_pos (Int32.le_refl _)]
    · unfold f_12_sumOf_l5
      rw [rf_0_0, l_17, e2, Option.bind_some, if_pos (Int32.le_refl _)]
  | succ m ih =>
    intro c f1 f2 x h1 h2 h3
    obtain ⟨p', rfl⟩ : ∃ p', f1 = p' + 1 := ⟨f1 - 1, by omega⟩
    obtain ⟨q, rfl⟩ : ∃ q, f2 = q + 1 := ⟨f2 - 1, by omega⟩
    have d : ¬ nI C ≤ nI c := lt_n1 (by omega) (by omega)
    have l87 : lda 87 (nI c) = some (88 + c) := ldaL len_87 (rf_87_ c (by omega)) (by omega) (by decide)
    have e1p : (1 + nI p : Int32) = nI (1 + p) := by rw [show (1 : Int32) = nI 1 from rfl, nI_add]
    unfold f_2_contentPits_l20 f_12_sumOf_l5
    rw [e1, if_neg d, rf_0_0, l_17, e2, Option.bind_some, if_neg d, rf_85_2, l87, Option.bind_some, ldL (len_88_ c (by omega)) hp (by decide), Option.bind_some, ix_867_, e1p, nI_add, ld1 (by omega), Option.bind_some, show 867 + 5 * c + (1 + p) = 867 + 5 * c + 1 + p from by omega, (b6 c (by omega)).2 p hp, Int32.add_zero, nI_1]
    by_cases b : (nI s >>> (nI c &&& 31)) &&& 1 = (1 : Int32)
    · rw [if_pos b, if_neg (fun z => (ob_bit s hs c (by omega)).mp z b), ← e1p]
      exact ih (c + 1) p' q _ (by omega) (by omega) (by omega)
    · rw [if_neg b, if_pos ((ob_bit s hs c (by omega)).mpr b), ← e1p]
      exact ih (c + 1) p' q _ (by omega) (by omega) (by omega)
theorem cost_rel {C P H s : Nat} {μ ν : mm} (hB : BS C P H μ ν) (hs : s < 512) : ∃ y, f_2_costOf 85 (nI s) μ = some y ∧ f_12_sumOf 0 (nI s) 0 ν = some y := by
  obtain ⟨y, y1, y2⟩ := sum_cost hB hs C 0 FU FU 0 (by omega) (show C < 2000 by have := hB.1.1; omega) (show C < 2000 by have := hB.1.1; omega)
  rw [show nI 0 = 0 from rfl] at y1 y2
  exact ⟨y, by unfold f_2_costOf; rw [y1, Option.bind_some], by unfold f_12_sumOf; rw [y2, Option.bind_some]⟩
theorem cont_l {C P H s : Nat} {μ ν : mm} (hB : BS C P H μ ν) (hs : s < 512) : ∀ (m p f1 f2 k : Nat), p + m = P → m < f1 → m < f2 → k < 16 → ∃ K, K < 16 ∧ f_2_contentPits_l5 85 (nI s) 49 μ f1 (nI k) (nI p) = some (nI K) ∧ f_12_contentBy_l4 0 (nI s) ν f2 (nI k) (nI p) = some (nI K) := by
  have hB' := hB
  obtain ⟨⟨hC, hP, hH⟩, -, ⟨e1, e2⟩, -, -, b7, -⟩ := hB
  intro m
  induction m with
  | zero =>
    intro p f1 f2 k h1 h2 h3 hk
    obtain ⟨p', rfl⟩ : ∃ p', f1 = p' + 1 := ⟨f1 - 1, by omega⟩
    obtain ⟨q, rfl⟩ : ∃ q, f2 = q + 1 := ⟨f2 - 1, by omega⟩
    obtain rfl : p = P := by omega
    refine ⟨k, hk, ?_, ?_⟩
    · unfold f_2_contentPits_l5
      rw [e1, if_pos (Int32.le_refl _)]
    · unfold f_12_contentBy_l4
      rw [rf_0_0, l_9, e2, Option.bind_some, if_pos (Int32.le_refl _)]
  | succ m ih =>
    intro p f1 f2 k h1 h2 h3 hk
    obtain ⟨p', rfl⟩ : ∃ p', f1 = p' + 1 := ⟨f1 - 1, by omega⟩
    obtain ⟨q, rfl⟩ : ∃ q, f2 = q + 1 := ⟨f2 - 1, by omega⟩
    have d : ¬ nI P ≤ nI p := lt_n1 (by omega) (by omega)
    obtain ⟨y, y1, y2⟩ := sum_worth (k := nI k) hB' hs (show p < 4 by omega) C 0 FU FU 0 (by omega) (show C < 2000 by omega) (show C < 2000 by omega)
    rw [show nI 0 = 0 from rfl] at y1 y2
    obtain ⟨K, hK, eK⟩ := ob_or k hk p (by omega)
    unfold f_2_contentPits_l5 f_12_contentBy_l4 f_12_sumOf
    rw [e1, if_neg d, y1, Option.bind_some, show rf 49 8 = 57 from by decide, show lda 57 (nI p) = some (101 + p) from aV_8 isV_now (by omega), Option.bind_some, rf_0_0, l_9, e2, Option.bind_some, if_neg d, y2, Option.bind_some, Option.bind_some, show f_12_ofPit (nI p) 6 ν = _ from pit1 (f := 6), Option.bind_some, ld1 (by omega), Option.bind_some, b7 p (by omega), Int32.or_zero, eK, nI_1]
    by_cases b : y < μ (101 + p) 6
    · rw [if_pos b, if_pos b]
      exact ih (p + 1) p' q k (by omega) (by omega) (by omega) hk
    · rw [if_neg b, if_neg b]
      exact ih (p + 1) p' q K (by omega) (by omega) (by omega) hK
theorem cont_rel {C P H s : Nat} {μ ν : mm} (hB : BS C P H μ ν) (hs : s < 512) : ∃ K, K < 16 ∧ f_2_contentPits 85 (nI s) 49 μ = some (nI K) ∧ f_12_contentBy 0 (nI s) ν = some (nI K) := by
  obtain ⟨K, hK, y1, y2⟩ := cont_l hB hs P 0 FU FU 0 (by omega) (show P < 2000 by have := hB.1.2.1; omega) (show P < 2000 by have := hB.1.2.1; omega) (by omega)
  rw [show nI 0 = 0 from rfl] at y1 y2
  exact ⟨K, hK, by unfold f_2_contentPits; rw [y1, Option.bind_some], by unfold f_12_contentBy; rw [y2, Option.bind_some]⟩
/-! counts of voters -/
def cn (t : Nat → Nat) (v : Nat) : Nat → Nat
  | 0 => 0
  | n + 1 => cn t v n + if t n = v then 1 else 0
def cy (t : Nat → Nat) (B : Nat → Bool) : Nat → Nat
  | 0 => 0
  | n + 1 => cy t B n + if t n = 1 ∨ (3 ≤ t n ∧ B (t n - 3) = true) then 1 else 0
def cz (t : Nat → Nat) (B : Nat → Bool) : Nat → Nat
  | 0 => 0
  | n + 1 => cz t B n + if t n = 2 ∨ (3 ≤ t n ∧ B (t n - 3) = false) then 1 else 0
theorem cn_le {t : Nat → Nat} {v : Nat} : ∀ n, cn t v n ≤ n
  | 0 => Nat.le_refl _
  | n + 1 => by
    have := cn_le (t := t) (v := v) n
    unfold cn
    split <;> omega
theorem cn_s {t : Nat → Nat} {v n : Nat} : cn t v (n + 1) = cn t v n + if t n = v then 1 else 0 := rfl
theorem cy_s {t : Nat → Nat} {B : Nat → Bool} {n : Nat} : cy t B (n + 1) = cy t B n + if t n = 1 ∨ (3 ≤ t n ∧ B (t n - 3) = true) then 1 else 0 := rfl
theorem cz_s {t : Nat → Nat} {B : Nat → Bool} {n : Nat} : cz t B (n + 1) = cz t B n + if t n = 2 ∨ (3 ≤ t n ∧ B (t n - 3) = false) then 1 else 0 := rfl
theorem cyz {t : Nat → Nat} {B : Nat → Bool} : ∀ n, (∀ h, h < n → t h < 7) → cy t B n = cn t 1 n + (if B 0 = true then cn t 3 n else 0) + (if B 1 = true then cn t 4 n else 0) + (if B 2 = true then cn t 5 n else 0) + (if B 3 = true then cn t 6 n else 0) ∧ cy t B n + cz t B n = cn t 1 n + cn t 2 n + cn t 3 n + cn t 4 n + cn t 5 n + cn t 6 n
  | 0, _ => by simp [cy, cz, cn]
  | n + 1, h => by
    obtain ⟨i1, i2⟩ := cyz (t := t) (B := B) n (fun k hk => h k (by omega))
    have h7 := h n (by omega)
    rw [cy_s, cz_s, cn_s, cn_s, cn_s, cn_s, cn_s, cn_s]
    have e : t n = 0 ∨ t n = 1 ∨ t n = 2 ∨ t n = 3 ∨ t n = 4 ∨ t n = 5 ∨ t n = 6 := by omega
    rcases e with e | e | e | e | e | e | e <;> rw [e] <;> cases b0 : B 0 <;> cases b1 : B 1 <;> cases b2 : B 2 <;> cases b3 : B 3 <;> simp [b0, b1, b2, b3] at i1 ⊢ <;> omega
