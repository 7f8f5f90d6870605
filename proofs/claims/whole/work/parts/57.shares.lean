/-! shares by ranks: the loops of both sides -/
/-- sums over those of one rank -/
def sR (f rk : Nat → Nat) (r : Nat) : Nat → Nat := fb_sm (fun i => if rk i = r then f i else 0)
theorem sR_s {f rk : Nat → Nat} {r i : Nat} : sR f rk r (i + 1) = sR f rk r i + (if rk i = r then f i else 0) := rfl
theorem sR_0 {f rk : Nat → Nat} {r : Nat} : sR f rk r 0 = 0 := rfl
theorem sR_le {f rk : Nat → Nat} {r i n : Nat} (h : i ≤ n) : sR f rk r i ≤ sR f rk r n := by
  obtain ⟨m, rfl⟩ : ∃ m, n = i + m := ⟨n - i, by omega⟩
  exact fb_sm_mono _ i m
theorem sR_bd {f rk : Nat → Nat} {r c : Nat} : ∀ n, (∀ i, i < n → f i ≤ c) → sR f rk r n ≤ n * c
  | 0, _ => Nat.zero_le _
  | n + 1, h => by
    have a := sR_bd (rk := rk) (r := r) n (fun i hi => h i (by omega))
    have b := h n (by omega)
    rw [sR_s, Nat.succ_mul]
    split <;> omega
/-- shares rounded down are no more than is there, and lack at most one for each that wants -/
theorem sR_dn {t rk : Nat → Nat} {r g W : Nat} (hW : 0 < W) : ∀ n, W * sR (fun i => g * t i / W) rk r n ≤ g * sR t rk r n ∧ g * sR t rk r n ≤ W * sR (fun i => g * t i / W) rk r n + W * fb_ct (fun i => decide (rk i = r ∧ 0 < t i)) n
  | 0 => ⟨Nat.le_refl _, Nat.zero_le _⟩
  | n + 1 => by
    obtain ⟨a, b⟩ := sR_dn hW n
    rw [sR_s, sR_s, fb_ct_succ]
    by_cases c : rk n = r
    · rw [if_pos c, if_pos c, Nat.mul_add, Nat.mul_add]
      have d1 : W * (g * t n / W) ≤ g * t n := Nat.mul_div_le _ _
      have d2 : g * t n < W * (g * t n / W) + W := Nat.lt_mul_div_succ _ hW
      refine ⟨Nat.add_le_add a d1, ?_⟩
      by_cases z : 0 < t n
      · rw [if_pos (by simp [c, z]), Nat.mul_add, Nat.mul_one]
        generalize W * (g * t n / W) = A at *
        generalize g * t n = B at *
        generalize W * sR (fun i => g * t i / W) rk r n = C at *
        generalize g * sR t rk r n = E at *
        generalize W * fb_ct (fun i => decide (rk i = r ∧ 0 < t i)) n = F at *
        omega
      · have z0 : g * t n = 0 := by rw [show t n = 0 from by omega, Nat.mul_zero]
        rw [if_neg (by simp; intro _; omega), Nat.add_zero, z0, Nat.add_zero]
        exact Nat.le_trans b (Nat.add_le_add_right (Nat.le_add_right _ _) _)
    · rw [if_neg c, if_neg c, if_neg (by simp [c])]
      exact ⟨a, b⟩
/-- the lists that shares are reckoned from, on both sides -/
def TR (v n : Nat) (t rk : Nat → Nat) (μ ν : mm) : Prop := μ v 4 = nI n ∧ ν 1 11 = nI n ∧ ∀ i, i < n → (μ (v + 50) i = nI (t i) ∧ ν 10 i = nI (t i) ∧ t i ≤ 999) ∧ (μ (v + 51) i = nI (rk i) ∧ ν 11 i = nI (rk i) ∧ rk i ≤ 9)
def DR (v n : Nat) (dr : Nat → Nat) (μ ν : mm) : Prop := ∀ i, i < n → μ (v + 49) i = nI (dr i) ∧ ν 12 i = nI (dr i)
theorem TR_cg {v n : Nat} {t rk : Nat → Nat} {μ ν μ' ν' : mm} (h : TR v n t rk μ ν) (hm : ∀ b, b ≠ v + 49 → μ' b = μ b) (hn : ∀ b, b ≠ 12 → ν' b = ν b) : TR v n t rk μ' ν' := by
  unfold TR
  rw [hm v (by omega), hm (v + 50) (by omega), hm (v + 51) (by omega), hn 1 (by decide), hn 10 (by decide), hn 11 (by decide)]
  exact h
theorem eq_rk {a b : Nat} (ha : a ≤ 9) (hb : b ≤ 9) : nI a = nI b ↔ a = b := nI_eq (by omega) (by omega)
theorem want_C {v n r : Nat} {t rk : Nat → Nat} {μ ν : mm} {a2 : Int32} (hv : isV v) (hn : n ≤ 16) (hr : r ≤ 9) (h : TR v n t rk μ ν) : ∀ (m i fuel : Nat), i + m = n → m < fuel → f_9_drawByRank_l5 v (nI r) a2 μ fuel (nI (sR t rk r i)) (nI i) = some (nI (sR t rk r n)) := by
  intro m
  induction m with
  | zero =>
    intro i fuel h1 h2
    obtain ⟨f, rfl⟩ : ∃ f, fuel = f + 1 := ⟨fuel - 1, by omega⟩
    obtain rfl : i = n := by omega
    unfold f_9_drawByRank_l5
    rw [h.1, if_pos (Int32.le_refl _)]
  | succ m ih =>
    intro i fuel h1 h2
    obtain ⟨f, rfl⟩ : ∃ f, fuel = f + 1 := ⟨fuel - 1, by omega⟩
    obtain ⟨⟨q1, -, -⟩, q2, -, q3⟩ := h.2.2 i (by omega)
    have e := ih (i + 1) f (by omega) (by omega)
    rw [sR_s] at e
    unfold f_9_drawByRank_l5
    rw [h.1, if_neg (lt_n1 (by omega) (by omega)), rV_0_18 hv, rV_0_17 hv, ldL (lV_51 hv) (by omega) (by decide), Option.bind_some, q2]
    by_cases c : rk i = r
    · rw [if_pos ((eq_rk q3 hr).mpr c), ldL (lV_50 hv) (by omega) (by decide), Option.bind_some, q1, nI_add, nI_1]
      rw [if_pos c] at e
      exact e
    · rw [if_neg (fun z => c ((eq_rk q3 hr).mp z)), nI_1]
      rw [if_neg c, Nat.add_zero] at e
      exact e
theorem want_M {v n r : Nat} {t rk : Nat → Nat} {μ ν : mm} {a1 : Int32} (hn : n ≤ 16) (hr : r ≤ 9) (h : TR v n t rk μ ν) : ∀ (m i fuel : Nat), i + m = n → m < fuel → f_12_findDraws_l90 0 a1 (nI r) ν fuel (nI (sR t rk r i)) (nI i) = some (nI (sR t rk r n)) := by
  intro m
  induction m with
  | zero =>
    intro i fuel h1 h2
    obtain ⟨f, rfl⟩ : ∃ f, fuel = f + 1 := ⟨fuel - 1, by omega⟩
    obtain rfl : i = n := by omega
    unfold f_12_findDraws_l90
    rw [rf_0_0, l_11, h.2.1, Option.bind_some, if_pos (Int32.le_refl _)]
  | succ m ih =>
    intro i fuel h1 h2
    obtain ⟨f, rfl⟩ : ∃ f, fuel = f + 1 := ⟨fuel - 1, by omega⟩
    obtain ⟨⟨-, q1, -⟩, -, q2, q3⟩ := h.2.2 i (by omega)
    have e := ih (i + 1) f (by omega) (by omega)
    rw [sR_s] at e
    unfold f_12_findDraws_l90
    rw [rf_0_0, l_11, h.2.1, Option.bind_some, if_neg (lt_n1 (by omega) (by omega)), rf_0_21, rf_0_20, ldL len_11 (by omega) (by decide), Option.bind_some, q2]
    by_cases c : rk i = r
    · rw [if_pos ((eq_rk q3 hr).mpr c), ldL len_10 (by omega) (by decide), Option.bind_some, q1, nI_add, nI_1]
      rw [if_pos c] at e
      exact e
    · rw [if_neg (fun z => c ((eq_rk q3 hr).mp z)), nI_1, nI_p0]
      rw [if_neg c, Nat.add_zero] at e
      exact e
/-- the class lays g * t / W to those of a rank -/
theorem lay_C {v n r g W X : Nat} {t rk : Nat → Nat} (hv : isV v) (hn : n ≤ 16) (hr : r ≤ 9) (hg : g ≤ 99999) (hW : 0 < W) (hW2 : W < 100000) (hX : sR (fun i => g * t i / W) rk r n ≤ X) (hX2 : X < 2 ^ 30) : ∀ (m i fuel : Nat) (μ ν : mm), i + m = n → m < fuel → TR v n t rk μ ν → ∃ μ', f_9_drawByRank_l61 v (nI r) (nI W) (nI g) fuel (nI (X - sR (fun i => g * t i / W) rk r i)) (nI i) μ = some (nI (X - sR (fun i => g * t i / W) rk r n), μ') ∧ (∀ b, b ≠ v + 49 → μ' b = μ b) ∧ ∀ j, j < n → μ' (v + 49) j = if i ≤ j ∧ rk j = r then nI (g * t j / W) else μ (v + 49) j := by
  intro m
  induction m with
  | zero =>
    intro i fuel μ ν h1 h2 h
    obtain ⟨f, rfl⟩ : ∃ f, fuel = f + 1 := ⟨fuel - 1, by omega⟩
    obtain rfl : i = n := by omega
    refine ⟨μ, ?_, fun _ _ => rfl, fun j hj => by rw [if_neg (by omega)]⟩
    unfold f_9_drawByRank_l61
    rw [h.1, if_pos (Int32.le_refl _)]
  | succ m ih =>
    intro i fuel μ ν h1 h2 h
    obtain ⟨f, rfl⟩ : ∃ f, fuel = f + 1 := ⟨fuel - 1, by omega⟩
    obtain ⟨⟨q1, -, q4⟩, q2, -, q3⟩ := h.2.2 i (by omega)
    unfold f_9_drawByRank_l61
    rw [h.1, if_neg (lt_n1 (by omega) (by omega)), rV_0_18 hv, rV_0_17 hv, rV_0_16 hv, ldL (lV_51 hv) (by omega) (by decide), Option.bind_some, q2]
    by_cases c : rk i = r
    · have hgt : g * t i ≤ 99999 * 999 := Nat.mul_le_mul hg q4
      have hd : g * t i / W ≤ g * t i := Nat.div_le_self _ _
      have hq : nI g * nI (t i) / nI W = nI (g * t i / W) := by rw [pk_mul, pk_div (by omega) hW (by omega)]
      have hgd : gd (nI W) = some (nI W) := by unfold gd; rw [if_neg (nI_ne0 hW (by omega))]
      have hs := sR_le (f := fun i => g * t i / W) (rk := rk) (r := r) (show i + 1 ≤ n by omega)
      rw [sR_s, if_pos c] at hs
      rw [if_pos ((eq_rk q3 hr).mpr c), ldL (lV_50 hv) (by omega) (by decide), Option.bind_some, q1, hgd, Option.bind_some, hq, stoL (lV_49 hv) (by omega) (by decide), Option.bind_some, ldL (lV_49 hv) (by omega) (by decide), Option.bind_some, up_at, pk_sub (by omega), nI_1]
      obtain ⟨μ', g1, g2, g3⟩ := ih (i + 1) f (up μ (v + 49) i (nI (g * t i / W))) ν (by omega) (by omega) (TR_cg h (fun b hb => up_ne hb) (fun _ _ => rfl))
      rw [sR_s, if_pos c] at g1
      refine ⟨μ', ?_, fun b hb => by rw [g2 b hb, up_ne hb], fun j hj => ?_⟩
      · rw [show X - sR (fun i => g * t i / W) rk r i - g * t i / W = X - (sR (fun i => g * t i / W) rk r i + g * t i / W) from by omega]
        exact g1
      · rw [g3 j hj]
        by_cases e : j = i
        · subst e
          rw [if_neg (by omega), up_at, if_pos ⟨Nat.le_refl _, c⟩]
        · rw [up_ns e]
          by_cases e2 : i + 1 ≤ j ∧ rk j = r
          · rw [if_pos e2, if_pos ⟨by omega, e2.2⟩]
          · rw [if_neg e2, if_neg (fun z => e2 ⟨by omega, z.2⟩)]
    · rw [if_neg (fun z => c ((eq_rk q3 hr).mp z)), nI_1]
      obtain ⟨μ', g1, g2, g3⟩ := ih (i + 1) f μ ν (by omega) (by omega) h
      rw [sR_s, if_neg c, Nat.add_zero] at g1
      refine ⟨μ', g1, g2, fun j hj => ?_⟩
      rw [g3 j hj]
      by_cases e : j = i
      · subst e
        rw [if_neg (by omega), if_neg (fun z => c z.2)]
      · by_cases e2 : i + 1 ≤ j ∧ rk j = r
        · rw [if_pos e2, if_pos ⟨by omega, e2.2⟩]
        · rw [if_neg e2, if_neg (fun z => e2 ⟨by omega, z.2⟩)]
theorem half_M {L W x : Nat} (hL : L ≤ 99999) (hx : x ≤ 999) (hW : 0 < W) (hW2 : W < 100000) : (((nI x).toInt64 * (nI L).toInt64) / (nI W).toInt64).toInt32 = nI (L * x / W) := by
  have h1 : x * L ≤ 999 * 99999 := Nat.mul_le_mul hx hL
  rw [nI_l (by omega), nI_l (by omega), nI_l (by omega), lN_mul, pk_lDiv (by omega) hW (by omega), lN_i, Nat.mul_comm]
theorem gdL_ok {W : Nat} (hW : 0 < W) (hW2 : W < 100000) : gdL (nI W).toInt64 = some (nI W).toInt64 := by
  unfold gdL
  rw [if_neg]
  rw [nI_l (by omega), show (0 : Int64) = lN 0 from rfl, pk_lEQ (by omega) (by decide)]
  omega
/-- the model lays val to those of a rank -/
theorem lay_M {v n r L W X : Nat} {t rk val : Nat → Nat} {z3 : Int32} (hn : n ≤ 16) (hr : r ≤ 9) (hL : L ≤ 99999) (hX : sR val rk r n ≤ X) (hX2 : X < 2 ^ 30) (hz : z3 = 1 ∧ (∀ i, i < n → val i = t i) ∨ z3 = 0 ∧ 0 < W ∧ W < 100000 ∧ ∀ i, i < n → val i = L * t i / W) : ∀ (m i fuel : Nat) (μ ν : mm), i + m = n → m < fuel → TR v n t rk μ ν → ∃ ν', f_12_findDraws_l153 0 z3 (nI r) (nI W) (nI L) fuel (nI (X - sR val rk r i)) (nI i) ν = some (nI (X - sR val rk r n), ν') ∧ (∀ b, b ≠ 12 → ν' b = ν b) ∧ ∀ j, j < n → ν' 12 j = if i ≤ j ∧ rk j = r then nI (val j) else ν 12 j := by
  intro m
  induction m with
  | zero =>
    intro i fuel μ ν h1 h2 h
    obtain ⟨f, rfl⟩ : ∃ f, fuel = f + 1 := ⟨fuel - 1, by omega⟩
    obtain rfl : i = n := by omega
    refine ⟨ν, ?_, fun _ _ => rfl, fun j hj => by rw [if_neg (by omega)]⟩
    unfold f_12_findDraws_l153
    rw [rf_0_0, l_11, h.2.1, Option.bind_some, if_pos (Int32.le_refl _)]
  | succ m ih =>
    intro i fuel μ ν h1 h2 h
    obtain ⟨f, rfl⟩ : ∃ f, fuel = f + 1 := ⟨fuel - 1, by omega⟩
    obtain ⟨⟨-, q1, q4⟩, -, q2, q3⟩ := h.2.2 i (by omega)
    unfold f_12_findDraws_l153
    rw [rf_0_0, l_11, h.2.1, Option.bind_some, if_neg (lt_n1 (by omega) (by omega)), rf_0_21, rf_0_20, rf_0_22, ldL len_11 (by omega) (by decide), Option.bind_some, q2]
    by_cases c : rk i = r
    · have hv : (if z3 = 0 then (ld ν 10 (nI i)).bind fun x5 => (gdL (nI W).toInt64).bind fun _ => some (((x5.toInt64 * (nI L).toInt64) / (nI W).toInt64).toInt32) else (ld ν 10 (nI i)).bind fun x8 => some x8) = some (nI (val i)) := by
        rw [ldL len_10 (by omega) (by decide), q1]
        rcases hz with ⟨rfl, hv⟩ | ⟨rfl, hW, hW2, hv⟩
        · rw [if_neg (by decide), hv i (by omega)]
          rfl
        · rw [if_pos rfl, Option.bind_some, gdL_ok hW hW2, Option.bind_some, half_M hL q4 hW hW2, hv i (by omega)]
      have hs := sR_le (f := val) (rk := rk) (r := r) (show i + 1 ≤ n by omega)
      rw [sR_s, if_pos c] at hs
      rw [if_pos ((eq_rk q3 hr).mpr c), hv, Option.bind_some, stoL len_12 (by omega) (by decide), Option.bind_some, ldL len_12 (by omega) (by decide), Option.bind_some, up_at, pk_sub (by omega), nI_1]
      obtain ⟨ν', g1, g2, g3⟩ := ih (i + 1) f μ (up ν 12 i (nI (val i))) (by omega) (by omega) (TR_cg h (fun _ _ => rfl) (fun b hb => up_ne hb))
      rw [sR_s, if_pos c] at g1
      refine ⟨ν', ?_, fun b hb => by rw [g2 b hb, up_ne hb], fun j hj => ?_⟩
      · rw [show X - sR val rk r i - val i = X - (sR val rk r i + val i) from by omega]
        exact g1
      · rw [g3 j hj]
        by_cases e : j = i
        · subst e
          rw [if_neg (by omega), up_at, if_pos ⟨Nat.le_refl _, c⟩]
        · rw [up_ns e]
          by_cases e2 : i + 1 ≤ j ∧ rk j = r
          · rw [if_pos e2, if_pos ⟨by omega, e2.2⟩]
          · rw [if_neg e2, if_neg (fun z => e2 ⟨by omega, z.2⟩)]
    · rw [if_neg (fun z => c ((eq_rk q3 hr).mp z)), nI_1]
      obtain ⟨ν', g1, g2, g3⟩ := ih (i + 1) f μ ν (by omega) (by omega) h
      rw [sR_s, if_neg c, Nat.add_zero] at g1
      refine ⟨ν', g1, g2, fun j hj => ?_⟩
      rw [g3 j hj]
      by_cases e : j = i
      · subst e
        rw [if_neg (by omega), if_neg (fun z => c z.2)]
      · by_cases e2 : i + 1 ≤ j ∧ rk j = r
        · rw [if_pos e2, if_pos ⟨by omega, e2.2⟩]
        · rw [if_neg e2, if_neg (fun z => e2 ⟨by omega, z.2⟩)]
/-- with nothing left the model's pass does nothing -/
theorem pass0_M {v n r : Nat} {t rk : Nat → Nat} {μ ν : mm} (hn : n ≤ 16) (hr : r ≤ 9) (h : TR v n t rk μ ν) : ∀ (m i fuel : Nat), i + m = n → m < fuel → f_12_findDraws_l233 0 0 (nI r) fuel (nI 0) (nI i) ν = some (nI 0, ν) := by
  intro m
  induction m with
  | zero =>
    intro i fuel h1 h2
    obtain ⟨f, rfl⟩ : ∃ f, fuel = f + 1 := ⟨fuel - 1, by omega⟩
    obtain rfl : i = n := by omega
    unfold f_12_findDraws_l233
    rw [rf_0_0, l_11, h.2.1, Option.bind_some, if_pos (Int32.le_refl _)]
  | succ m ih =>
    intro i fuel h1 h2
    obtain ⟨f, rfl⟩ : ∃ f, fuel = f + 1 := ⟨fuel - 1, by omega⟩
    obtain ⟨⟨-, q1, q4⟩, -, q2, q3⟩ := h.2.2 i (by omega)
    unfold f_12_findDraws_l233
    rw [rf_0_0, l_11, h.2.1, Option.bind_some, if_neg (lt_n1 (by omega) (by omega)), if_pos rfl, rf_0_21, ldL len_11 (by omega) (by decide), Option.bind_some, q2, nI_1]
    by_cases c : nI (rk i) = nI r
    · rw [if_pos c, if_pos (show nI 0 ≤ 0 from by decide)]
      exact ih (i + 1) f (by omega) (by omega)
    · rw [if_neg c]
      exact ih (i + 1) f (by omega) (by omega)
/-- one more to each that still wants, as long as something is left -/
theorem pass_rel {v n r : Nat} {t rk d0 : Nat → Nat} {a4 : Int32} (hv : isV v) (hn : n ≤ 16) (hr : r ≤ 9) : ∀ (m i f1 f2 x : Nat) (dr : Nat → Nat) (μ ν : mm), i + m = n → m < f1 → m < f2 → TR v n t rk μ ν → DR v n dr μ ν → (∀ j, j < n → dr j ≤ t j) → (∀ j, i ≤ j → dr j = d0 j) → x + fb_ct (fun j => decide (rk j = r ∧ d0 j < t j)) i ≤ fb_ct (fun j => decide (rk j = r ∧ d0 j < t j)) n → ∃ dr' μ' ν', f_9_drawByRank_l121 v (nI r) a4 f1 (nI x) (nI i) μ = some μ' ∧ f_12_findDraws_l233 0 0 (nI r) f2 (nI x) (nI i) ν = some (nI 0, ν') ∧ DR v n dr' μ' ν' ∧ (∀ j, j < n → dr' j ≤ t j) ∧ (∀ j, rk j ≠ r → dr' j = dr j) ∧ fb_sm dr' n = fb_sm dr n + x ∧ (∀ b, b ≠ v + 49 → μ' b = μ b) ∧ (∀ b, b ≠ 12 → ν' b = ν b) := by
  intro m
  induction m with
  | zero =>
    intro i f1 f2 x dr μ ν h1 h2 h3 h hd hle hq hx
    obtain ⟨a, rfl⟩ : ∃ a, f1 = a + 1 := ⟨f1 - 1, by omega⟩
    obtain ⟨b, rfl⟩ : ∃ b, f2 = b + 1 := ⟨f2 - 1, by omega⟩
    obtain rfl : i = n := by omega
    obtain rfl : x = 0 := by omega
    refine ⟨dr, μ, ν, ?_, ?_, hd, hle, fun _ _ => rfl, rfl, fun _ _ => rfl, fun _ _ => rfl⟩
    · unfold f_9_drawByRank_l121
      rw [h.1, if_pos (Int32.le_refl _)]
    · unfold f_12_findDraws_l233
      rw [rf_0_0, l_11, h.2.1, Option.bind_some, if_pos (Int32.le_refl _)]
  | succ m ih =>
    intro i f1 f2 x dr μ ν h1 h2 h3 h hd hle hq hx
    obtain ⟨a, rfl⟩ : ∃ a, f1 = a + 1 := ⟨f1 - 1, by omega⟩
    by_cases x0 : x = 0
    · subst x0
      refine ⟨dr, μ, ν, ?_, pass0_M hn hr h (m + 1) i f2 h1 h3, hd, hle, fun _ _ => rfl, rfl, fun _ _ => rfl, fun _ _ => rfl⟩
      unfold f_9_drawByRank_l121
      rw [h.1, if_neg (lt_n1 (by omega) (by omega)), if_pos (show nI 0 ≤ 0 from by decide)]
    · obtain ⟨b, rfl⟩ : ∃ b, f2 = b + 1 := ⟨f2 - 1, by omega⟩
      obtain ⟨⟨q1, p1, q4⟩, q2, p2, q3⟩ := h.2.2 i (by omega)
      obtain ⟨d1, d2⟩ := hd i (by omega)
      have hct := fb_ct_le (fun j => decide (rk j = r ∧ d0 j < t j)) n
      have hxp : ¬ nI x ≤ 0 := nI_nle (by omega) (by omega)
      have hdi := hle i (by omega)
      have hq' : ∀ j, i + 1 ≤ j → dr j = d0 j := fun j hj => hq j (by omega)
      have hc1 := fb_ct_succ (fun j => decide (rk j = r ∧ d0 j < t j)) i
      unfold f_9_drawByRank_l121 f_12_findDraws_l233
      rw [h.1, if_neg (lt_n1 (by omega) (by omega)), if_neg hxp, rV_0_18 hv, rV_0_17 hv, rV_0_16 hv, ldL (lV_51 hv) (by omega) (by decide), Option.bind_some, q2, rf_0_0, l_11, h.2.1, Option.bind_some, if_neg (lt_n1 (by omega) (by omega)), if_pos rfl, rf_0_21, rf_0_20, rf_0_22, ldL len_11 (by omega) (by decide), Option.bind_some, p2, nI_1]
      by_cases c : rk i = r
      · rw [if_pos ((eq_rk q3 hr).mpr c), if_pos ((eq_rk q3 hr).mpr c), if_neg hxp, ldL (lV_49 hv) (by omega) (by decide), Option.bind_some, ldL (lV_50 hv) (by omega) (by decide), Option.bind_some, ldL len_12 (by omega) (by decide), Option.bind_some, ldL len_10 (by omega) (by decide), Option.bind_some, d1, d2, q1, p1, Option.bind_some, Option.bind_some]
        have kk : nI (t i) ≤ nI (dr i) ↔ t i ≤ dr i := nI_leI (by omega) (by omega)
        by_cases e : t i ≤ dr i
        · rw [if_pos (kk.mpr e), if_pos (kk.mpr e)]
          refine ih (i + 1) a b x dr μ ν (by omega) (by omega) (by omega) h hd hle hq' ?_
          have hd0 := hq i (Nat.le_refl _)
          rw [hc1, if_neg (by simp; intro _; omega)]
          omega
        · rw [if_neg (fun z => e (kk.mp z)), if_neg (fun z => e (kk.mp z)), nI_1, stoL (lV_49 hv) (by omega) (by decide), Option.bind_some, stoL len_12 (by omega) (by decide), Option.bind_some]
          obtain ⟨y, rfl⟩ : ∃ y, x = y + 1 := ⟨x - 1, by omega⟩
          rw [pk_m1]
          have hd0 := hq i (Nat.le_refl _)
          have hsm := fb_sm_upd dr (dr i + 1) (show i < n by omega)
          obtain ⟨dr', μ', ν', g1, g2, g3, g4, g5, g6, g7, g8⟩ := ih (i + 1) a b y (fun k => if k = i then dr i + 1 else dr k) (up μ (v + 49) i (nI (dr i + 1))) (up ν 12 i (nI (dr i + 1))) (by omega) (by omega) (by omega) (TR_cg h (fun b hb => up_ne hb) (fun b hb => up_ne hb)) (fun j hj => by
              dsimp only
              by_cases z : j = i
              · subst z
                rw [up_at, up_at, if_pos rfl]
                exact ⟨rfl, rfl⟩
              · rw [up_ns z, up_ns z, if_neg z]
                exact hd j hj) (fun j hj => by
              by_cases z : j = i
              · subst z
                rw [if_pos rfl]
                omega
              · rw [if_neg z]
                exact hle j hj) (fun j hj => by
              rw [if_neg (by omega)]
              exact hq j (by omega)) (by rw [hc1, if_pos (by simp; exact ⟨c, by omega⟩)]; omega)
          refine ⟨dr', μ', ν', g1, g2, g3, g4, fun j hj => ?_, by omega, fun b hb => by rw [g7 b hb, up_ne hb], fun b hb => by rw [g8 b hb, up_ne hb]⟩
          rw [g5 j hj, if_neg (fun z => hj (by rw [z]; exact c))]
      · rw [if_neg (fun z => c ((eq_rk q3 hr).mp z)), if_neg (fun z => c ((eq_rk q3 hr).mp z))]
        refine ih (i + 1) a b x dr μ ν (by omega) (by omega) (by omega) h hd hle hq' ?_
        rw [hc1, if_neg (by simp; intro z; exact absurd z c)]
        omega
