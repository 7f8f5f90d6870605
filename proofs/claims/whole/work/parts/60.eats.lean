/-! what a household hears; how it eats -/
def wayS (g : Nat → Int32) (j h : Nat) : Int32 := if g (771 + 3 * j) = g (96 + 12 * h) then 1 else g (20 + 6 * nn (g (771 + 3 * j)) + nn (g (96 + 12 * h)))
def hdS (g : Nat → Int32) (h : Nat) : Nat → Nat → Int32 → Int32
  | 0, _, x => x
  | m + 1, j, x => if g (771 + 3 * j + 1) + wayS g j h = g 0 then hdS g h m (j + 1) (x + g (771 + 3 * j + 2)) else hdS g h m (j + 1) x
def hd (g : Nat → Int32) (h : Nat) : Int32 := if g (107 + 12 * h) = 0 then hdS g h (nn (g 12)) 0 0 else 0
/-- where news were told, and where the household lives -/
def HP (g : Nat → Int32) (h : Nat) : Prop := h < 16 ∧ (∃ n, n ≤ 12 ∧ g 12 = nI n ∧ ∀ j, j < n → ∃ u, u < 6 ∧ g (771 + 3 * j) = nI u) ∧ (∃ w, w < 6 ∧ g (96 + 12 * h) = nI w) ∧ (g (107 + 12 * h) = 0 ∨ g (107 + 12 * h) = 1)
theorem HP_cg {g g' : Nat → Int32} {h : Nat} (hp : HP g h) (hg : ∀ k, (k < 84 ∨ 288 ≤ k ∨ k = 96 + 12 * h ∨ k = 107 + 12 * h) → g' k = g k) : HP g' h := by
  obtain ⟨h1, ⟨n, hn, en, hu⟩, hw, hb⟩ := hp
  refine ⟨h1, ⟨n, hn, by rw [hg 12 (by omega)]; exact en, fun j hj => by rw [hg _ (by omega)]; exact hu j hj⟩, by rw [hg _ (by omega)]; exact hw, by rw [hg _ (by omega)]; exact hb⟩
theorem hd_cg {g g' : Nat → Int32} {h : Nat} (hp : HP g h) (hg : ∀ k, (k < 84 ∨ 288 ≤ k ∨ k = 96 + 12 * h ∨ k = 107 + 12 * h) → g' k = g k) : hd g' h = hd g h := by
  obtain ⟨h1, ⟨n, hn, en, hu⟩, ⟨w, hw, ew⟩, hb⟩ := hp
  have key : ∀ m j x, j + m ≤ n → hdS g' h m j x = hdS g h m j x := by
    intro m
    induction m with
    | zero => intro j x _; rfl
    | succ m ih =>
      intro j x hj
      obtain ⟨u, hu1, eu⟩ := hu j (by omega)
      have e : wayS g' j h = wayS g j h := by
        unfold wayS
        rw [hg (771 + 3 * j) (by omega), hg (96 + 12 * h) (by omega), eu, ew, nn_nI (by omega), nn_nI (by omega), hg _ (by omega)]
      unfold hdS
      rw [e, hg (771 + 3 * j + 1) (by omega), hg 0 (by omega), hg (771 + 3 * j + 2) (by omega), ih (j + 1) _ (by omega), ih (j + 1) _ (by omega)]
  unfold hd
  rw [hg (107 + 12 * h) (by omega), hg 12 (by omega), en, nn_nI (by omega), key n 0 0 (by omega)]
theorem M_heard {ν : mm} {h : Nat} (hp : HP (ν 1) h) : f_12_heardNow 0 (nI h) ν = some (hd (ν 1) h) := by
  obtain ⟨h1, ⟨n, hn, en, hu⟩, ⟨w, hw, ew⟩, hb⟩ := hp
  have h11 : f_12_house 0 (nI h) 11 ν = some (ν 1 (107 + 12 * h)) := by rw [show 107 + 12 * h = 96 + 12 * h + 11 from by omega]; exact house1 (f := 11) (by omega)
  have h0 : f_12_house 0 (nI h) 0 ν = some (nI w) := by rw [← ew]; exact house1 (f := 0) (by omega)
  have key : ν 1 (107 + 12 * h) = 0 → ∀ m j fuel x, j + m = n → m < fuel → f_12_heardNow_l4 0 (nI h) ν fuel x (nI j) = some (hdS (ν 1) h m j x) := by
    intro b0 m
    induction m with
    | zero =>
      intro j fuel x h2 h3
      obtain ⟨f, rfl⟩ : ∃ f, fuel = f + 1 := ⟨fuel - 1, by omega⟩
      obtain rfl : j = n := by omega
      unfold f_12_heardNow_l4
      rw [rf_0_0, l_12, en, Option.bind_some, if_pos (Int32.le_refl _)]
      rfl
    | succ m ih =>
      intro j fuel x h2 h3
      obtain ⟨f, rfl⟩ : ∃ f, fuel = f + 1 := ⟨fuel - 1, by omega⟩
      obtain ⟨u, hu1, eu⟩ := hu j (by omega)
      have hw2 := way_eq (ν := ν) (show j < 12 by omega) hw hu1 eu
      have e : wayS (ν 1) j h = if u = w then 1 else ν 1 (20 + 6 * u + w) := by
        unfold wayS
        rw [eu, ew, nn_nI (by omega), nn_nI (by omega)]
        by_cases c : u = w
        · rw [if_pos c, if_pos (by rw [c])]
        · rw [if_neg c, if_neg (fun z => c ((nI_eq (by omega) (by omega)).mp z))]
      unfold f_12_heardNow_l4 hdS
      rw [rf_0_0, l_12, en, Option.bind_some, if_neg (lt_n1 (by omega) (by omega)), h11, Option.bind_some, if_pos b0, ix_771_, nI_1, ld1 (by omega), Option.bind_some, h0, Option.bind_some, hw2, Option.bind_some, l_0, Option.bind_some, ← e, nI_p2, ld1 (by omega), nI_1]
      by_cases c : ν 1 (771 + 3 * j + 1) + wayS (ν 1) j h = ν 1 0
      · rw [if_pos c, if_pos c, Option.bind_some]
        exact ih (j + 1) f _ (by omega) (by omega)
      · rw [if_neg c, if_neg c, Int32.add_zero]
        exact ih (j + 1) f _ (by omega) (by omega)
  unfold f_12_heardNow hd
  rcases hb with b0 | b0
  · rw [if_pos b0, en, nn_nI (by omega)]
    have k := key b0 n 0 FU 0 (by omega) (show n < 2000 by omega)
    rw [show nI 0 = 0 from rfl] at k
    rw [k]
    rfl
  · rw [if_neg (by rw [b0]; decide)]
    obtain ⟨f, hf⟩ : ∃ f, FU = f + 1 := ⟨1999, rfl⟩
    rw [hf]
    unfold f_12_heardNow_l4
    rw [rf_0_0, l_12, en, Option.bind_some, h11, Option.bind_some, b0, if_neg (show ¬ (1 : Int32) = 0 by decide)]
    by_cases c : nI n ≤ 0
    · rw [if_pos c]
      rfl
    · rw [if_neg c]
      rfl
theorem C_heard {v h : Nat} {μ ν : mm} (hv : isV v) (hp : HP (ν 1) h) (e0 : ν 1 0 = μ v 0) (e12 : ν 1 12 = μ (v + 15) 0) (v2 : V2 v μ (ν 1)) (v6 : V6 v μ (ν 1)) (f0 : ν 1 (96 + 12 * h) = μ (v + 60 + h) 0) (f11 : ν 1 (107 + 12 * h) = μ (v + 60 + h) 11) : f_7_weightHeard (v + 15) (v + 60 + h) (μ v 0) (v + 1) μ = some (hd (ν 1) h) := by
  obtain ⟨h1, ⟨n, hn, en, hu⟩, ⟨w, hw, ew⟩, hb⟩ := hp
  have em : μ (v + 15) 0 = nI n := e12.symm.trans en
  have nn0 : nn (ν 1 12) = n := by rw [en, nn_nI (by omega)]
  have key : ∀ m j fuel x, j + m = n → m < fuel → f_7_weightHeard_l15 (v + 15) (v + 60 + h) (μ v 0) (v + 1) μ fuel x (nI j) = some (hdS (ν 1) h m j x) := by
    intro m
    induction m with
    | zero =>
      intro j fuel x h2 h3
      obtain ⟨f, rfl⟩ : ∃ f, fuel = f + 1 := ⟨fuel - 1, by omega⟩
      obtain rfl : j = n := by omega
      unfold f_7_weightHeard_l15
      rw [em, if_pos (Int32.le_refl _)]
      rfl
    | succ m ih =>
      intro j fuel x h2 h3
      obtain ⟨f, rfl⟩ : ∃ f, fuel = f + 1 := ⟨fuel - 1, by omega⟩
      obtain ⟨u, hu1, eu⟩ := hu j (by omega)
      obtain ⟨q1, q2, q3⟩ := v6 j (by omega)
      have hd2 := dayH_eq (v := v) (μ := μ) hv (show j < 12 by omega) hw hu1 (q1.symm.trans eu)
      have q4 := v2 u w hu1 hw
      have e : wayS (ν 1) j h = if u = w then 1 else ν 1 (20 + 6 * u + w) := by
        unfold wayS
        rw [eu, ew, nn_nI (by omega), nn_nI (by omega)]
        by_cases c : u = w
        · rw [if_pos c, if_pos (by rw [c])]
        · rw [if_neg c, if_neg (fun z => c ((nI_eq (by omega) (by omega)).mp z))]
      unfold f_7_weightHeard_l15 hdS
      rw [em, if_neg (lt_n1 (by omega) (by omega)), ← f0, ew, hd2, Option.bind_some, ← q2, ← q4, ← e, ← e0, rV_15_2 hv, ldL (lV_17 hv) (by omega) (by decide), ← q3, nI_1]
      by_cases c : ν 1 (771 + 3 * j + 1) + wayS (ν 1) j h = ν 1 0
      · rw [if_pos c, if_pos c, Option.bind_some, e0]
        exact ih (j + 1) f _ (by omega) (by omega)
      · rw [if_neg c, if_neg c, e0]
        exact ih (j + 1) f _ (by omega) (by omega)
  unfold f_7_weightHeard hd
  rw [← f11]
  by_cases b0 : ν 1 (107 + 12 * h) = 0
  · rw [if_pos b0, if_pos b0, en, nn_nI (by omega)]
    have k := key n 0 FU 0 (by omega) (show n < 2000 by omega)
    rw [show nI 0 = 0 from rfl] at k
    rw [k]
    rfl
  · rw [if_neg b0, if_neg b0]
/-! shops lend -/
theorem mn_nI {a b : Nat} (ha : a < 2 ^ 30) (hb : b < 2 ^ 30) : mn (nI a) (nI b) = nI (min a b) := by
  by_cases c : a ≤ b
  · rw [mn_l (nI_le c (by omega)), Nat.min_eq_left c]
  · rw [mn_r (nI_ge (by omega) (by omega)), Nat.min_eq_right (by omega)]
theorem mx0_nI {a b : Nat} (ha : a < 2 ^ 30) (hb : b < 2 ^ 30) : mx 0 (nI a - nI b) = nI (a - b) := by
  unfold mx
  by_cases c : b ≤ a
  · rw [pk_sub c]
    by_cases e : a - b = 0
    · rw [e, if_neg (by decide)]
      rfl
    · rw [if_pos (show 0 < nI (a - b) from nI_lt (a := 0) (b := a - b) (by omega) (by omega))]
  · have : ¬ 0 < nI a - nI b := fun z => by
      have := pk_sneg (a := a) (b := b) (by omega) (by omega)
      exact absurd (Int32.lt_trans z this) (by decide)
    rw [if_neg this, show a - b = 0 from by omega]
    rfl
/-- the shops of the village lend: class and model; k lacks, l is still lacking -/
theorem lend_M0 {ν : mm} {h n : Nat} {a2 : Int32} (hh : h < 16) (hn : n ≤ 4) (en : ν 1 10 = nI n) (i5 : I5 (ν 1)) : ∀ (m i fuel : Nat), i + m = n → m < fuel → f_12_lent_l5 0 (nI h) a2 fuel (nI 0) (nI i) ν = some (nI 0, ν) := by
  intro m
  induction m with
  | zero =>
    intro i fuel h1 h2
    obtain ⟨f, rfl⟩ : ∃ f, fuel = f + 1 := ⟨fuel - 1, by omega⟩
    obtain rfl : i = n := by omega
    unfold f_12_lent_l5
    rw [rf_0_0, l_10, en, Option.bind_some, if_pos (Int32.le_refl _)]
  | succ m ih =>
    intro i fuel h1 h2
    obtain ⟨f, rfl⟩ : ∃ f, fuel = f + 1 := ⟨fuel - 1, by omega⟩
    have r := i5 i (by rw [en, nn_nI (by omega)]; omega)
    obtain ⟨c, hc, ec, -⟩ := cnt_of (m := 999) (x := ν 1 (85 + 3 * i)) (by decide) ⟨Int32.le_trans r.2.2.1 r.2.2.2, r.2.1⟩
    obtain ⟨d, hd, ed, -⟩ := cnt_of (m := 999) (x := ν 1 (86 + 3 * i)) (by decide) ⟨r.2.2.1, Int32.le_trans r.2.2.2 r.2.1⟩
    have hdc : d ≤ c := by
      have := r.2.2.2
      rw [ed, ec] at this
      exact (nI_leI (by omega) (by omega)).mp this
    have s0 : f_12_house 0 (nI h) 0 ν = some (ν 1 (96 + 12 * h)) := house1 (f := 0) (by omega)
    have x1 : ld ν 1 (nI (84 + 3 * i) + 1) = some (nI c) := by rw [nI_1, ld1 (by omega), show 84 + 3 * i + 1 = 85 + 3 * i from by omega, ec]
    have x2 : ld ν 1 (nI (84 + 3 * i) + 2) = some (nI d) := by rw [nI_p2, ld1 (by omega), show 84 + 3 * i + 2 = 86 + 3 * i from by omega, ed]
    have x0 : ld ν 1 (nI (84 + 3 * i) + 0) = some (ν 1 (84 + 3 * i)) := by rw [nI_p0, ld1 (by omega)]
    have z : ∀ z17 : Int32, z17 = 0 → sto ν 1 (nI (84 + 3 * i) + 2) (nI d + z17) = some ν := by
      rintro z17 rfl
      rw [nI_p2, sto1 (by omega), Int32.add_zero, up_same (by rw [show 84 + 3 * i + 2 = 86 + 3 * i from by omega, ed])]
    have m0 : mn (nI 0) (nI c - nI d) = 0 := by
      rw [pk_sub hdc, mn_nI (by omega) (by omega), Nat.zero_min]
      rfl
    unfold f_12_lent_l5 f_12_ofShop
    simp only [rf_0_0, l_10, en, Option.bind_some, if_neg (lt_n1 (show i < n by omega) (show n < 1000 by omega)), ix_84_, x1, x2, x0, s0, m0]
    by_cases c1 : ν 1 (84 + 3 * i) = ν 1 (96 + 12 * h)
    · simp only [if_pos c1, Option.bind_some, z 0 rfl, nI_1]
      exact ih (i + 1) f (by omega) (by omega)
    · simp only [if_neg c1, Option.bind_some, z 0 rfl, nI_1]
      exact ih (i + 1) f (by omega) (by omega)
