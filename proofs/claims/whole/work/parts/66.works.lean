/-! works, and the call days -/
/-- a stock with the ships of day d, m ships from i on -/
def fo (g : Nat → Int32) (d : Int32) : Nat → Nat → Int32 → Int32
  | 0, _, s => s
  | m + 1, i, s => fo g d m (i + 1) (if g (843 + 2 * i) = d then mn 99999 (s + g (843 + 2 * i + 1)) else s)
theorem fo_s {g : Nat → Int32} {d s : Int32} {m i : Nat} : fo g d (m + 1) i s = fo g d m (i + 1) (if g (843 + 2 * i) = d then mn 99999 (s + g (843 + 2 * i + 1)) else s) := rfl
theorem fo_cg {g g' : Nat → Int32} {d : Int32} : ∀ (m i : Nat) (s : Int32), (∀ j, i ≤ j → j < i + m → g' (843 + 2 * j) = g (843 + 2 * j) ∧ g' (843 + 2 * j + 1) = g (843 + 2 * j + 1)) → fo g' d m i s = fo g d m i s
  | 0, _, _, _ => rfl
  | m + 1, i, s, h => by
    rw [fo_s, fo_s, (h i (Nat.le_refl _) (by omega)).1, (h i (Nat.le_refl _) (by omega)).2]
    exact fo_cg m (i + 1) _ (fun j q1 q2 => h j (by omega) (by omega))
theorem fo_app {g : Nat → Int32} {d : Int32} : ∀ (a i : Nat) (s : Int32), fo g d (a + 1) i s = if g (843 + 2 * (i + a)) = d then mn 99999 (fo g d a i s + g (843 + 2 * (i + a) + 1)) else fo g d a i s
  | 0, i, s => rfl
  | a + 1, i, s => by
    rw [fo_s, fo_app a (i + 1), fo_s, show i + 1 + a = i + (a + 1) from by omega]
theorem fo_rg {g : Nat → Int32} {d : Int32} : ∀ (m i : Nat) (s : Int32), (0 ≤ s ∧ s ≤ 99999) → (∀ j, i ≤ j → j < i + m → 1 ≤ g (843 + 2 * j + 1) ∧ g (843 + 2 * j + 1) ≤ 9999) → 0 ≤ fo g d m i s ∧ fo g d m i s ≤ 99999
  | 0, _, _, h, _ => h
  | m + 1, i, s, h, hl => by
    rw [fo_s]
    refine fo_rg m (i + 1) _ ?_ (fun j q1 q2 => hl j (by omega) (by omega))
    have q := hl i (Nat.le_refl _) (by omega)
    split
    · exact mn_rg h.1 h.2 q.1 q.2
    · exact h
theorem C_l15 {v n : Nat} {μ : mm} {g : Nat → Int32} {d : Int32} (hv : isV v) (hn : n ≤ 6) (em : μ (v + 12) 2 = nI n) (v8 : ∀ j, j < n → g (843 + 2 * j) = μ (v + 13) j ∧ g (843 + 2 * j + 1) = μ (v + 14) j) : ∀ (m i fuel : Nat) (s : Int32), i + m = n → m < fuel → f_10_stockAfter_l15 (v + 12) d 1 μ fuel s (nI i) = some (fo g d m i s) := by
  intro m
  induction m with
  | zero =>
    intro i fuel s h1 h2
    obtain ⟨f, rfl⟩ : ∃ f, fuel = f + 1 := ⟨fuel - 1, by omega⟩
    obtain rfl : i = n := by omega
    unfold f_10_stockAfter_l15
    rw [em, if_pos (Int32.le_refl _)]
    rfl
  | succ m ih =>
    intro i fuel s h1 h2
    obtain ⟨f, rfl⟩ : ∃ f, fuel = f + 1 := ⟨fuel - 1, by omega⟩
    obtain ⟨q1, q2⟩ := v8 i (by omega)
    unfold f_10_stockAfter_l15
    rw [em, if_neg (lt_n1 (by omega) (by omega)), if_neg (by decide), rV_12_3 hv, rV_12_4 hv, ldL (lV_13 hv) (by omega) (by decide), Option.bind_some, ← q1, ldL (lV_14 hv) (by omega) (by decide), ← q2, fo_s, nI_1]
    by_cases c : g (843 + 2 * i) = d
    · rw [if_pos c, if_pos c, Option.bind_some]
      exact ih (i + 1) f _ (by omega) (by omega)
    · rw [if_neg c, if_neg c]
      exact ih (i + 1) f _ (by omega) (by omega)
/-- the model's works: i ships are seen, a of them stay -/
theorem M_l27 {n t : Nat} {g0 : Nat → Int32} (hn : n ≤ 6) (ht : t < 2000) (hr : ∀ j, j < n → (nI t ≤ g0 (843 + 2 * j) ∧ g0 (843 + 2 * j) ≤ 999) ∧ (1 ≤ g0 (843 + 2 * j + 1) ∧ g0 (843 + 2 * j + 1) ≤ 9999)) : ∀ (m i a fuel : Nat) (s : Int32) (ν : mm), i + m = n → a ≤ i → m < fuel → ν 1 14 = nI n → ν 1 0 = nI t → ν 1 2 = s → (∀ j, i ≤ j → j < n → ν 1 (843 + 2 * j) = g0 (843 + 2 * j) ∧ ν 1 (843 + 2 * j + 1) = g0 (843 + 2 * j + 1)) → (∀ j, j < a → (nI t < ν 1 (843 + 2 * j) ∧ ν 1 (843 + 2 * j) ≤ 999) ∧ (1 ≤ ν 1 (843 + 2 * j + 1) ∧ ν 1 (843 + 2 * j + 1) ≤ 9999)) → ∃ a' ν', f_12_worksGo_l27 0 1 fuel (nI a) (nI i) ν = some (nI a', ν') ∧ a' ≤ n ∧ ν' 1 2 = fo g0 (nI t) m i s ∧ (∀ b, b ≠ 1 → ν' b = ν b) ∧ (∀ k, k ≠ 2 → ¬ (843 ≤ k ∧ k < 855) → ν' 1 k = ν 1 k) ∧ (∀ j, j < a' → (nI t < ν' 1 (843 + 2 * j) ∧ ν' 1 (843 + 2 * j) ≤ 999) ∧ (1 ≤ ν' 1 (843 + 2 * j + 1) ∧ ν' 1 (843 + 2 * j + 1) ≤ 9999)) ∧ (∀ d s0, d ≠ nI t → fo (ν' 1) d a' 0 s0 = fo (ν 1) d m i (fo (ν 1) d a 0 s0)) := by
  intro m
  induction m with
  | zero =>
    intro i a fuel s ν h1 h2 h3 en e0 e2 hD hA
    obtain ⟨f, rfl⟩ : ∃ f, fuel = f + 1 := ⟨fuel - 1, by omega⟩
    obtain rfl : i = n := by omega
    refine ⟨a, ν, ?_, h2, e2, fun _ _ => rfl, fun _ _ _ => rfl, hA, fun _ _ _ => rfl⟩
    unfold f_12_worksGo_l27
    rw [rf_0_0, l_14, en, Option.bind_some, if_pos (Int32.le_refl _)]
  | succ m ih =>
    intro i a fuel s ν h1 h2 h3 en e0 e2 hD hA
    obtain ⟨f, rfl⟩ : ∃ f, fuel = f + 1 := ⟨fuel - 1, by omega⟩
    obtain ⟨q1, q2⟩ := hD i (Nat.le_refl _) (by omega)
    have r := hr i (by omega)
    unfold f_12_worksGo_l27
    rw [rf_0_0, l_14, en, Option.bind_some, if_neg (lt_n1 (by omega) (by omega)), if_neg (by decide), ix_843_, ld1 (by omega), Option.bind_some, nI_1, ld1 (by omega), Option.bind_some, l_0, Option.bind_some, e0, q1, q2, l_2, e2]
    by_cases c : g0 (843 + 2 * i) = nI t
    · rw [if_pos c, Option.bind_some, s_2, Option.bind_some, nI_1]
      obtain ⟨a', ν', g1, g2, g3, g4, g5, g6, g7⟩ := ih (i + 1) a f (mn 99999 (s + g0 (843 + 2 * i + 1))) (up ν 1 2 (mn 99999 (s + g0 (843 + 2 * i + 1)))) (by omega) (by omega) (by omega) (by rw [up_ns (by decide)]; exact en) (by rw [up_ns (by decide)]; exact e0) up_at (fun j p1 p2 => by rw [up_ns (by omega), up_ns (by omega)]; exact hD j (by omega) p2) (fun j hj => by rw [up_ns (by omega), up_ns (by omega)]; exact hA j hj)
      refine ⟨a', ν', g1, g2, by rw [g3, fo_s, if_pos c], fun b hb => by rw [g4 b hb, up_ne hb], fun k p1 p2 => by rw [g5 k p1 p2, up_ns p1], g6, fun d s0 hd => ?_⟩
      rw [g7 d s0 hd, fo_s, if_neg (by rw [q1, c]; exact fun z => hd z.symm), fo_cg m (i + 1) _ (fun j p1 p2 => ⟨up_ns (by omega), up_ns (by omega)⟩), fo_cg a 0 _ (fun j p1 p2 => ⟨up_ns (by omega), up_ns (by omega)⟩)]
    · rw [if_neg c, nI_1, ix_843_, nI_1, sto1 (by omega), Option.bind_some, sto1 (by omega), Option.bind_some, nI_1]
      have hu : ∀ k, k ≠ 843 + 2 * a → k ≠ 843 + 2 * a + 1 → up (up ν 1 (843 + 2 * a) (g0 (843 + 2 * i))) 1 (843 + 2 * a + 1) (g0 (843 + 2 * i + 1)) 1 k = ν 1 k := fun k p1 p2 => by rw [up_ns p2, up_ns p1]
      have ha1 : up (up ν 1 (843 + 2 * a) (g0 (843 + 2 * i))) 1 (843 + 2 * a + 1) (g0 (843 + 2 * i + 1)) 1 (843 + 2 * a) = g0 (843 + 2 * i) := by rw [up_ns (by omega), up_at]
      have ha2 : up (up ν 1 (843 + 2 * a) (g0 (843 + 2 * i))) 1 (843 + 2 * a + 1) (g0 (843 + 2 * i + 1)) 1 (843 + 2 * a + 1) = g0 (843 + 2 * i + 1) := up_at
      have hlt : nI t < g0 (843 + 2 * i) := fa_le_ne r.1.1 (fun z => c z.symm)
      obtain ⟨a', ν', g1, g2, g3, g4, g5, g6, g7⟩ := ih (i + 1) (a + 1) f s (up (up ν 1 (843 + 2 * a) (g0 (843 + 2 * i))) 1 (843 + 2 * a + 1) (g0 (843 + 2 * i + 1))) (by omega) (by omega) (by omega) (by rw [hu 14 (by omega) (by omega)]; exact en) (by rw [hu 0 (by omega) (by omega)]; exact e0) (by rw [hu 2 (by omega) (by omega)]; exact e2) (fun j p1 p2 => by rw [hu _ (by omega) (by omega), hu _ (by omega) (by omega)]; exact hD j (by omega) p2) (fun j hj => by
          by_cases e : j = a
          · subst e
            rw [ha1, ha2]
            exact ⟨⟨hlt, r.1.2⟩, r.2⟩
          · rw [hu _ (by omega) (by omega), hu _ (by omega) (by omega)]
            exact hA j (by omega))
      refine ⟨a', ν', g1, g2, by rw [g3, fo_s, if_neg c], fun b hb => by rw [g4 b hb, up_ne hb, up_ne hb], fun k p1 p2 => by rw [g5 k p1 p2, hu k (by omega) (by omega)], g6, fun d s0 hd => ?_⟩
      rw [g7 d s0 hd, fo_app, Nat.zero_add, ha1, ha2, fo_s, q1, q2, fo_cg m (i + 1) _ (fun j p1 p2 => ⟨hu _ (by omega) (by omega), hu _ (by omega) (by omega)⟩), fo_cg a 0 _ (fun j p1 p2 => ⟨hu _ (by omega) (by omega), hu _ (by omega) (by omega)⟩)]
/-- the class throws out the ships of the day just as the model does -/
theorem keep_rel {v n t : Nat} (hv : isV v) (hn : n ≤ 6) (ht : t < 2000) : ∀ (m i a f1 f2 a' : Nat) (μ ν ν' : mm), i + m = n → a ≤ i → m < f1 → m < f2 → μ (v + 12) 2 = nI n → ν 1 14 = nI n → ν 1 0 = nI t → (∀ j, i ≤ j → j < n → ν 1 (843 + 2 * j) = μ (v + 13) j ∧ ν 1 (843 + 2 * j + 1) = μ (v + 14) j) → (∀ j, j < a → ν 1 (843 + 2 * j) = μ (v + 13) j ∧ ν 1 (843 + 2 * j + 1) = μ (v + 14) j) → a' ≤ n → f_12_worksGo_l27 0 1 f2 (nI a) (nI i) ν = some (nI a', ν') → ∃ μ', f_10_goOn_l18 (v + 12) (nI t) f1 (nI a) (nI i) μ = some (nI a', μ') ∧ (∀ b, b ≠ v + 13 → b ≠ v + 14 → μ' b = μ b) ∧ (∀ j, j < a' → ν' 1 (843 + 2 * j) = μ' (v + 13) j ∧ ν' 1 (843 + 2 * j + 1) = μ' (v + 14) j) := by
  intro m
  induction m with
  | zero =>
    intro i a f1 f2 a' μ ν ν' h1 h2 h3 h4 em en e0 hD hA ha' hM
    obtain ⟨p, rfl⟩ : ∃ p, f1 = p + 1 := ⟨f1 - 1, by omega⟩
    obtain ⟨q, rfl⟩ : ∃ q, f2 = q + 1 := ⟨f2 - 1, by omega⟩
    obtain rfl : i = n := by omega
    unfold f_12_worksGo_l27 at hM
    rw [rf_0_0, l_14, en, Option.bind_some, if_pos (Int32.le_refl _)] at hM
    have hM := Prod.mk.inj (Option.some.inj hM)
    have : a' = a := ((nI_eq (by omega) (by omega)).mp hM.1).symm
    subst this
    refine ⟨μ, ?_, fun _ _ _ => rfl, by rw [← hM.2]; exact hA⟩
    unfold f_10_goOn_l18
    rw [em, if_pos (Int32.le_refl _)]
  | succ m ih =>
    intro i a f1 f2 a' μ ν ν' h1 h2 h3 h4 em en e0 hD hA ha' hM
    obtain ⟨p, rfl⟩ : ∃ p, f1 = p + 1 := ⟨f1 - 1, by omega⟩
    obtain ⟨q, rfl⟩ : ∃ q, f2 = q + 1 := ⟨f2 - 1, by omega⟩
    obtain ⟨q1, q2⟩ := hD i (Nat.le_refl _) (by omega)
    unfold f_12_worksGo_l27 at hM
    rw [rf_0_0, l_14, en, Option.bind_some, if_neg (lt_n1 (by omega) (by omega)), if_neg (by decide), ix_843_, ld1 (by omega), Option.bind_some, nI_1, ld1 (by omega), Option.bind_some, l_0, Option.bind_some, e0, q1, q2] at hM
    unfold f_10_goOn_l18
    rw [em, if_neg (lt_n1 (by omega) (by omega)), rV_12_3 hv, rV_12_4 hv, ldL (lV_13 hv) (by omega) (by decide), Option.bind_some, Option.bind_some]
    by_cases c : μ (v + 13) i = nI t
    · rw [if_pos c, l_2, Option.bind_some, s_2, Option.bind_some, nI_1] at hM
      rw [if_pos c, nI_1]
      refine ih (i + 1) a p q a' μ _ ν' (by omega) (by omega) (by omega) (by omega) em (by rw [up_ns (by decide)]; exact en) (by rw [up_ns (by decide)]; exact e0) (fun j p1 p2 => by rw [up_ns (by omega), up_ns (by omega)]; exact hD j (by omega) p2) (fun j hj => by rw [up_ns (by omega), up_ns (by omega)]; exact hA j hj) ha' hM
    · rw [if_neg c, nI_1, ix_843_, nI_1, sto1 (by omega), Option.bind_some, sto1 (by omega), Option.bind_some, nI_1] at hM
      rw [if_neg c, stoL (lV_13 hv) (by omega) (by decide), Option.bind_some, ldL (lV_14 hv) (by omega) (by decide), Option.bind_some, stoL (lV_14 hv) (by omega) (by decide), Option.bind_some, nI_1, nI_1, up_nc (by omega)]
      have hu : ∀ k, k ≠ 843 + 2 * a → k ≠ 843 + 2 * a + 1 → up (up ν 1 (843 + 2 * a) (μ (v + 13) i)) 1 (843 + 2 * a + 1) (μ (v + 14) i) 1 k = ν 1 k := fun k p1 p2 => by rw [up_ns p2, up_ns p1]
      obtain ⟨μ', g1, g2, g3⟩ := ih (i + 1) (a + 1) p q a' (up (up μ (v + 13) a (μ (v + 13) i)) (v + 14) a (μ (v + 14) i)) (up (up ν 1 (843 + 2 * a) (μ (v + 13) i)) 1 (843 + 2 * a + 1) (μ (v + 14) i)) ν' (by omega) (by omega) (by omega) (by omega) (by rw [up_nc (by omega), up_nc (by omega)]; exact em) (by rw [hu 14 (by omega) (by omega)]; exact en) (by rw [hu 0 (by omega) (by omega)]; exact e0) (fun j p1 p2 => by rw [hu _ (by omega) (by omega), hu _ (by omega) (by omega), up_nc (a := v + 14) (b := v + 13) (by omega), up_ns (by omega), up_ns (by omega), up_nc (by omega)]; exact hD j (by omega) p2) (fun j hj => by
          rw [up_nc (a := v + 14) (b := v + 13) (by omega)]
          by_cases e : j = a
          · subst e
            rw [up_ns (a := 1) (by omega), up_at, up_at, up_at, up_at]
            exact ⟨rfl, rfl⟩
          · rw [hu _ (by omega) (by omega), hu _ (by omega) (by omega), up_ns e, up_ns e, up_nc (by omega)]
            exact hA j (by omega)) ha' hM
      exact ⟨μ', g1, fun b p1 p2 => by rw [g2 b p1 p2, up_ne p2, up_ne p1], g3⟩
