/-! rules: codes run on both sides -/
theorem bx1 {e c : Nat} (hc : c ≤ 1) : (2 * e + c) ^^^ 1 = 2 * e + (1 - c) := by
  apply Nat.eq_of_testBit_eq
  intro i
  cases i with
  | zero =>
    have : c = 0 ∨ c = 1 := by omega
    rw [Nat.testBit_xor, Nat.testBit_zero, Nat.testBit_zero, Nat.testBit_zero]
    rcases this with rfl | rfl
    · rw [show (2 * e + 0) % 2 = 0 from by omega, show (2 * e + (1 - 0)) % 2 = 1 from by omega]; rfl
    · rw [show (2 * e + 1) % 2 = 1 from by omega, show (2 * e + (1 - 1)) % 2 = 0 from by omega]; rfl
  | succ i =>
    rw [Nat.testBit_xor, Nat.testBit_succ, Nat.testBit_succ, Nat.testBit_succ, show (2 * e + c) / 2 = e from by omega, show (2 * e + (1 - c)) / 2 = e from by omega]
    simp
theorem bo1 {e a b : Nat} (ha : a ≤ 1) (hb : b ≤ 1) : (2 * e + a) ||| b = 2 * e + max a b := by
  apply Nat.eq_of_testBit_eq
  intro i
  have h1 : a = 0 ∨ a = 1 := by omega
  have h2 : b = 0 ∨ b = 1 := by omega
  cases i with
  | zero =>
    rw [Nat.testBit_or, Nat.testBit_zero, Nat.testBit_zero, Nat.testBit_zero]
    rcases h1 with rfl | rfl <;> rcases h2 with rfl | rfl
    · rw [show (2 * e + 0) % 2 = 0 from by omega, show (2 * e + max 0 0) % 2 = 0 from by omega]; rfl
    · rw [show (2 * e + 0) % 2 = 0 from by omega, show (2 * e + max 0 1) % 2 = 1 from by omega]; rfl
    · rw [show (2 * e + 1) % 2 = 1 from by omega, show (2 * e + max 1 0) % 2 = 1 from by omega]; rfl
    · rw [show (2 * e + 1) % 2 = 1 from by omega, show (2 * e + max 1 1) % 2 = 1 from by omega]; rfl
  | succ i =>
    rw [Nat.testBit_or, Nat.testBit_succ, Nat.testBit_succ, Nat.testBit_succ, show (2 * e + a) / 2 = e from by omega, show b / 2 = 0 from by omega, show (2 * e + max a b) / 2 = e from by omega]
    simp
theorem ba1 {e a : Nat} (ha : a ≤ 1) (he : e < 2 ^ 31) : (2 * e + a) &&& 4294967294 = 2 * e := by
  apply Nat.eq_of_testBit_eq
  intro i
  cases i with
  | zero =>
    rw [Nat.testBit_and, Nat.testBit_zero, Nat.testBit_zero, Nat.testBit_zero, show (4294967294 : Nat) % 2 = 0 from rfl, show (2 * e) % 2 = 0 from by omega]
    simp
  | succ i =>
    rw [Nat.testBit_and, Nat.testBit_succ, Nat.testBit_succ, Nat.testBit_succ, show (2 * e + a) / 2 = e from by omega, show (2 * e) / 2 = e from by omega, show (4294967294 : Nat) / 2 = 2 ^ 31 - 1 from rfl, Nat.testBit_two_pow_sub_one]
    by_cases hi : i < 31
    · simp [hi]
    · have : e.testBit i = false := Nat.testBit_lt_two_pow (Nat.lt_of_lt_of_le he (Nat.pow_le_pow_right (by decide) (by omega)))
      rw [this]
      simp
/-- a pile as a number: the latest finding lowest -/
def enc : List Int32 → Nat
  | [] => 0
  | a :: r => 2 * enc r + (if a = 1 then 1 else 0)
def bts (S : List Int32) : Prop := ∀ a ∈ S, a = 0 ∨ a = 1
theorem enc_lt : ∀ S : List Int32, enc S < 2 ^ S.length
  | [] => by decide
  | a :: r => by
    have := enc_lt r
    unfold enc
    rw [List.length_cons, Nat.pow_succ]
    by_cases h : a = 1
    · rw [if_pos h]; omega
    · rw [if_neg h]; omega
theorem enc_lt20 {S : List Int32} (h : S.length ≤ 20) : enc S < 2 ^ 20 := Nat.lt_of_lt_of_le (enc_lt S) (Nat.pow_le_pow_right (by decide) h)
theorem slc_0 {f : Nat → Int32} {k : Nat} : slc f k 0 = [] := rfl
theorem slc_1 {f : Nat → Int32} {k m : Nat} : slc f k (m + 1) = f k :: slc f (k + 1) m := by
  unfold slc
  rw [List.range_succ_eq_map, List.map_cons, List.map_map]
  congr 1
  apply List.map_congr_left
  intro i _
  show f (k + (i + 1)) = f (k + 1 + i)
  congr 1
  omega
theorem slc_mem {f : Nat → Int32} {k m : Nat} {P : Int32 → Prop} (h : ∀ c ∈ slc f k (m + 1), P c) : P (f k) ∧ ∀ c ∈ slc f (k + 1) m, P c := by
  rw [slc_1] at h
  exact ⟨h _ (List.mem_cons_self ..), fun c hc => h c (List.mem_cons_of_mem _ hc)⟩
def fO (k : Nat) : Nat := [2, 7, 5, 4, 8, 1].getD k 0
theorem fO_lt : ∀ k, fO k < 12
  | 0 => by decide
  | 1 => by decide
  | 2 => by decide
  | 3 => by decide
  | 4 => by decide
  | 5 => by decide
  | _ + 6 => show (0 : Nat) < 12 by decide
/-- the facts of a household, by their numbers in codes -/
def fct (g : Nat → Int32) (h : Nat) : Nat → Int32 := fun k => g (96 + 12 * h + fO k)
theorem fact7 : ∀ j, j < 7 → ∀ μ, f_12_factOf (nI j) μ = some (nI (fO j)) := by
  intro j hj μ
  have : j = 0 ∨ j = 1 ∨ j = 2 ∨ j = 3 ∨ j = 4 ∨ j = 5 ∨ j = 6 := by omega
  rcases this with rfl | rfl | rfl | rfl | rfl | rfl | rfl <;> rfl
theorem factC {a : Nat} {μ : mm} : ∀ j, j < 7 → f_1_fact a (nI j) μ = some (μ a (fO j)) := by
  intro j hj
  have : j = 0 ∨ j = 1 ∨ j = 2 ∨ j = 3 ∨ j = 4 ∨ j = 5 ∨ j = 6 := by omega
  rcases this with rfl | rfl | rfl | rfl | rfl | rfl | rfl <;> rfl
theorem ts_bit' (F : Nat → Int32) (c : Int32) : tsM F c = 0 ∨ tsM F c = 1 := by
  unfold tsM
  split
  · split
    · exact Or.inr rfl
    · exact Or.inl rfl
  · split
    · split
      · exact Or.inr rfl
      · exact Or.inl rfl
    · split
      · exact Or.inr rfl
      · exact Or.inl rfl
theorem isTrue_eq {F : Nat → Int32} {c x : Int32} {μ : mm} (hx : x = F (nn (c / 3000))) : f_5_isTrue x c μ = some (tsM F c) := by
  subst hx
  unfold f_5_isTrue tsM
  by_cases a : c / 1000 - c / 1000 / 3 * 3 = 0
  · rw [if_pos a, if_pos a]
    by_cases b : c - c / 1000 * 1000 ≤ F (nn (c / 3000))
    · rw [if_pos b, if_neg (Int32.not_lt.mpr b)]
    · rw [if_neg b, if_pos (Int32.not_le.mp b)]
  · rw [if_neg a, if_neg a]
    by_cases a1 : c / 1000 - c / 1000 / 3 * 3 = 1
    · rw [if_pos a1, if_pos a1]
      by_cases b : F (nn (c / 3000)) = c - c / 1000 * 1000
      · rw [if_pos b, if_pos b]
      · rw [if_neg b, if_neg b]
    · rw [if_neg a1, if_neg a1]
      by_cases b : F (nn (c / 3000)) ≤ c - c / 1000 * 1000
      · rw [if_pos b, if_neg (Int32.not_lt.mpr b)]
      · rw [if_neg b, if_pos (Int32.not_le.mp b)]
theorem code_of {c : Int32} (h : 0 ≤ c ∧ c < 21000) : ∃ m : Nat, m < 21000 ∧ c = nI m := by
  obtain ⟨j, hj, rfl⟩ := nI_of (Int32.not_lt.mpr h.1)
  exact ⟨j, (nI_ltI (b := 21000) hj (by decide)).mp h.2, rfl⟩
theorem d3000 {m : Nat} (h : m < 21000) : nI m / 3000 = nI (m / 3000) := pk_div (d := 3000) (by omega) (by decide) (by decide)
theorem d1000 {m : Nat} (h : m < 21000) : nI m / 1000 / 3 = nI (m / 3000) := by
  rw [show nI m / 1000 = nI (m / 1000) from pk_div (d := 1000) (by omega) (by decide) (by decide), show nI (m / 1000) / 3 = nI (m / 1000 / 3) from pk_div (d := 3) (by omega) (by decide) (by decide), Nat.div_div_eq_div_mul]
/-! the model's run -/
def pl (μ : mm) : List Int32 → Prop
  | [] => True
  | a :: r => μ 9 r.length = a ∧ pl μ r
theorem pl_up {μ : mm} {k : Nat} {x : Int32} : ∀ {S : List Int32}, S.length ≤ k → pl μ S → pl (up μ 9 k x) S
  | [], _, _ => trivial
  | a :: r, h, hp => by
    rw [List.length_cons] at h
    exact ⟨by rw [up_ns (by omega)]; exact hp.1, pl_up (by omega) hp.2⟩
theorem same9 {μ ν : mm} {k : Nat} {x : Int32} (h : ∀ b, b ≠ 9 → μ b = ν b) : ∀ b, b ≠ 9 → up μ 9 k x b = ν b := fun b hb => by rw [up_ne hb]; exact h b hb
set_option maxHeartbeats 1000000 in
theorem M_l25 {ν : mm} {s h tm : Nat} {a4 : Int32} (hs : s < 3) (hh : h < 16) (ht : tm ≤ 120) : ∀ (m k fuel : Nat) (S : List Int32) (μ : mm) (D H : Nat), k + m = tm → m < fuel → D ≤ 120 → (∀ b, b ≠ 9 → μ b = ν b) → pl μ S → S.length ≤ D → (∀ c ∈ slc (fun i => ν 1 (288 + 161 * s + 41 + i)) k m, okM c) → htM D (slc (fun i => ν 1 (288 + 161 * s + 41 + i)) k m) S.length = some H → ∃ μ', f_12_holds_l25 0 (nI s) (nI h) a4 (nI tm) fuel (nI S.length) (nI k) μ = some μ' ∧ (∀ b, b ≠ 9 → μ' b = ν b) ∧ pl μ' (evM (fct (ν 1) h) (slc (fun i => ν 1 (288 + 161 * s + 41 + i)) k m) S) := by
  intro m
  induction m with
  | zero =>
    intro k fuel S μ D H h1 h2 hD hb hp hl hok hht
    obtain ⟨f, rfl⟩ : ∃ f, fuel = f + 1 := ⟨fuel - 1, by omega⟩
    obtain rfl : k = tm := by omega
    refine ⟨μ, ?_, hb, hp⟩
    unfold f_12_holds_l25
    rw [if_pos (Int32.le_refl _)]
  | succ m ih =>
    intro k fuel S μ D H h1 h2 hD hb hp hl hok hht
    obtain ⟨f, rfl⟩ : ∃ f, fuel = f + 1 := ⟨fuel - 1, by omega⟩
    obtain ⟨ok1, ok2⟩ := slc_mem hok
    rw [slc_1] at hht ⊢
    have d1 : ¬ nI tm ≤ nI k := lt_n1 (by omega) (by omega)
    have ix : (288 + 161 * nI s + 41 + nI k : Int32) = nI (288 + 161 * s + 41 + k) := by rw [ix_288, show (41 : Int32) = nI 41 from rfl, nI_add, nI_add]
    have l0 : ld μ 1 (nI (288 + 161 * s + 41 + k)) = some (ν 1 (288 + 161 * s + 41 + k)) := by rw [ld1 (by omega), hb 1 (by decide)]
    generalize hc : ν 1 (288 + 161 * s + 41 + k) = c at ok1 hht l0 ⊢
    unfold f_12_holds_l25
    rw [if_neg d1, rf_0_0, ix, l0, rf_0_19, Option.bind_some]
    rcases ok1 with ok1 | rfl | rfl | rfl
    · obtain ⟨q, hq, rfl⟩ := code_of ok1
      have c1 : nI q < 30000 := nI_lt (b := 30000) (by omega) (by decide)
      have c2 : ¬ 30000 ≤ nI q := Int32.not_le.mpr c1
      have hd := d3000 hq
      have hj : q / 3000 < 7 := by omega
      have hf := fact7 (q / 3000) hj μ
      have hf2 := fO_lt (q / 3000)
      have hho : f_12_house 0 (nI h) (nI (fO (q / 3000))) μ = some (fct (ν 1) h (nn (nI q / 3000))) := by
        rw [house1 (by omega), hb 1 (by decide), hd, nn_nI (by omega)]
        rfl
      unfold htM at hht
      rw [if_pos c1] at hht
      by_cases hS : S.length < D
      · rw [if_pos hS] at hht
        have hst : sto μ 9 (nI S.length) (tsM (fct (ν 1) h) (nI q)) = some (up μ 9 S.length (tsM (fct (ν 1) h) (nI q))) := stoL len_9 (by omega) (by decide)
        obtain ⟨μ', g1, g2, g3⟩ := ih (k + 1) f (tsM (fct (ν 1) h) (nI q) :: S) (up μ 9 S.length (tsM (fct (ν 1) h) (nI q))) D H (by omega) (by omega) hD (same9 hb) ⟨up_at, pl_up (Nat.le_refl _) hp⟩ hS ok2 hht
        refine ⟨μ', ?_, g2, ?_⟩
        · have ht := isTrue_eq (F := fct (ν 1) h) (c := nI q) (μ := μ) rfl
          unfold f_5_isTrue at ht
          rw [if_neg c2, hd, hf, Option.bind_some, hho, Option.bind_some, ht, Option.bind_some, hst, Option.bind_some, nI_1, nI_1]
          exact g1
        · unfold evM st1M
          rw [if_pos c1]
          exact g3
      · rw [if_neg hS] at hht
        cases hht
    · unfold htM at hht
      rw [if_neg (by decide), if_pos rfl] at hht
      match S, hp, hl, hht with
      | [], hp, hl, hht => rw [if_neg (by decide)] at hht; cases hht
      | a :: r, hp, hl, hht =>
        rw [if_pos (by rw [List.length_cons]; omega)] at hht
        rw [List.length_cons] at hl
        have hst : ∀ x, sto μ 9 (nI r.length) x = some (up μ 9 r.length x) := fun x => stoL len_9 (by omega) (by decide)
        have hld : ld μ 9 (nI r.length) = some a := by rw [ldL len_9 (by omega) (by decide), hp.1]
        obtain ⟨μ', g1, g2, g3⟩ := ih (k + 1) f ((1 - a) :: r) (up μ 9 r.length (1 - a)) D H (by omega) (by omega) hD (same9 hb) ⟨up_at, pl_up (Nat.le_refl _) hp.2⟩ (by rw [List.length_cons]; omega) ok2 hht
        refine ⟨μ', ?_, g2, ?_⟩
        · rw [if_pos (by decide), if_pos rfl, List.length_cons, nI_pred, hld, Option.bind_some, hst, Option.bind_some, nI_1]
          exact g1
        · unfold evM st1M
          rw [if_neg (by decide), if_pos rfl]
          exact g3
    · unfold htM at hht
      rw [if_neg (by decide), if_neg (by decide)] at hht
      match S, hp, hl, hht with
      | [], hp, hl, hht => rw [if_neg (by decide)] at hht; cases hht
      | [_], hp, hl, hht => rw [List.length_singleton, if_neg (by decide)] at hht; cases hht
      | b :: a :: r, hp, hl, hht =>
        rw [if_pos (by rw [List.length_cons, List.length_cons]; omega)] at hht
        rw [List.length_cons, List.length_cons] at hl
        have hst : ∀ x, sto μ 9 (nI r.length) x = some (up μ 9 r.length x) := fun x => stoL len_9 (by omega) (by decide)
        have hld : ld μ 9 (nI r.length) = some a := by rw [ldL len_9 (by omega) (by decide), hp.2.1]
        have hld2 : ld μ 9 (nI (r.length + 1)) = some b := by
          rw [ldL len_9 (by omega) (by decide)]
          exact congrArg some hp.1
        obtain ⟨μ', g1, g2, g3⟩ := ih (k + 1) f ((a &&& b) :: r) (up μ 9 r.length (a &&& b)) D H (by omega) (by omega) hD (same9 hb) ⟨up_at, pl_up (Nat.le_refl _) hp.2.2⟩ (by rw [List.length_cons]; omega) ok2 hht
        refine ⟨μ', ?_, g2, ?_⟩
        · rw [if_pos (by decide), if_neg (by decide)]
          simp only [List.length_cons, pk_m1, nI_pred, hld, hld2, hst, Option.bind_some, nI_1]
          simp only [show ((30002 : Int32) = 30001) = False from by decide, if_true, if_false, hst, Option.bind_some]
          exact g1
        · unfold evM st1M
          rw [if_neg (by decide), if_neg (by decide)]
          exact g3
    · unfold htM at hht
      rw [if_neg (by decide), if_neg (by decide)] at hht
      match S, hp, hl, hht with
      | [], hp, hl, hht => rw [if_neg (by decide)] at hht; cases hht
      | [_], hp, hl, hht => rw [List.length_singleton, if_neg (by decide)] at hht; cases hht
      | b :: a :: r, hp, hl, hht =>
        rw [if_pos (by rw [List.length_cons, List.length_cons]; omega)] at hht
        rw [List.length_cons, List.length_cons] at hl
        have hst : ∀ x, sto μ 9 (nI r.length) x = some (up μ 9 r.length x) := fun x => stoL len_9 (by omega) (by decide)
        have hld : ld μ 9 (nI r.length) = some a := by rw [ldL len_9 (by omega) (by decide), hp.2.1]
        have hld2 : ld μ 9 (nI (r.length + 1)) = some b := by
          rw [ldL len_9 (by omega) (by decide)]
          exact congrArg some hp.1
        obtain ⟨μ', g1, g2, g3⟩ := ih (k + 1) f ((a ||| b) :: r) (up μ 9 r.length (a ||| b)) D H (by omega) (by omega) hD (same9 hb) ⟨up_at, pl_up (Nat.le_refl _) hp.2.2⟩ (by rw [List.length_cons]; omega) ok2 hht
        refine ⟨μ', ?_, g2, ?_⟩
        · rw [if_pos (by decide), if_neg (by decide)]
          simp only [List.length_cons, pk_m1, nI_pred, hld, hld2, hst, Option.bind_some, nI_1]
          simp only [show ((30002 : Int32) = 30001) = False from by decide, if_true, if_false, hst, Option.bind_some]
          exact g1
        · unfold evM st1M
          rw [if_neg (by decide), if_neg (by decide)]
          exact g3
