/-! pure: answers that are there, numbers, the coupling -/
def Ok {α : Type} (x : Option α) (P : α → Prop) : Prop := ∃ y, x = some y ∧ P y
theorem Ok_some {α : Type} {y : α} {P : α → Prop} : Ok (some y) P ↔ P y := ⟨fun ⟨_, h, p⟩ => by cases h; exact p, fun p => ⟨y, rfl, p⟩⟩
theorem Ok_bind {α β : Type} {x : Option α} {f : α → Option β} {P : β → Prop} : Ok (x.bind f) P ↔ Ok x (fun y => Ok (f y) P) := by
  cases x with
  | none => exact ⟨fun ⟨_, h, _⟩ => by cases h, fun ⟨_, h, _⟩ => by cases h⟩
  | some y => exact ⟨fun h => ⟨y, rfl, h⟩, fun ⟨_, h, p⟩ => by cases h; exact p⟩
theorem Ok_ite {α : Type} {c : Prop} [Decidable c] {a b : Option α} {P : α → Prop} : Ok (if c then a else b) P ↔ (c → Ok a P) ∧ (¬ c → Ok b P) := by
  by_cases h : c <;> simp [h]
theorem Ok_mono {α : Type} {x : Option α} {P Q : α → Prop} (h : Ok x P) (k : ∀ y, P y → Q y) : Ok x Q := by
  obtain ⟨y, e, p⟩ := h
  exact ⟨y, e, k y p⟩
theorem Ok_of {α : Type} {x : Option α} {y : α} {P : α → Prop} (e : x = some y) (p : P y) : Ok x P := ⟨y, e, p⟩
abbrev nn (x : Int32) : Nat := x.toNatClampNeg
theorem ld_nI {μ : mm} {a k : Nat} (h : k < len a) (h2 : len a < 2 ^ 31) : ld μ a (nI k) = some (μ a k) := by
  unfold ld
  rw [if_neg (nI_in h h2), nI_clamp (by omega)]
theorem sto_nI {μ : mm} {a k : Nat} {v : Int32} (h : k < len a) (h2 : len a < 2 ^ 31) : sto μ a (nI k) v = some (up μ a k v) := by
  unfold sto
  rw [if_neg (nI_in h h2), nI_clamp (by omega)]
theorem lda_nI {a k : Nat} (h : k < len a) (h2 : len a < 2 ^ 31) : lda a (nI k) = some (rf a k) := by
  unfold lda
  rw [if_neg (nI_in h h2), nI_clamp (by omega)]
theorem up_at {μ : mm} {a k : Nat} {v : Int32} : up μ a k v a k = v := by simp [up, upd]
theorem up_nc {μ : mm} {a k b j : Nat} {v : Int32} (h : b ≠ a) : up μ a k v b j = μ b j := by simp [up, h]
theorem up_ns {μ : mm} {a k b j : Nat} {v : Int32} (h : j ≠ k) : up μ a k v b j = μ b j := by
  by_cases e : b = a
  · subst e; simp [up, upd, h]
  · simp [up, e]
theorem gb_0 : gb 0 = some 0 := rfl
theorem gb_1 : gb 1 = some 1 := rfl
theorem isIn_eq (a b c : Int32) (μ : mm) : f_11_isIn a b c μ = some (if b ≤ a ∧ a ≤ c then 1 else 0) := by
  unfold f_11_isIn
  by_cases h1 : a < b
  · rw [if_pos h1, if_neg]
    intro q
    exact absurd h1 (Int32.not_lt.mpr q.1)
  · rw [if_neg h1]
    by_cases h2 : c < a
    · rw [if_pos h2, if_neg]
      intro q
      exact absurd h2 (Int32.not_lt.mpr q.2)
    · rw [if_neg h2, if_pos ⟨Int32.not_lt.mp h1, Int32.not_lt.mp h2⟩]
theorem within_eq (a b c : Int32) (μ : mm) : f_12_within a b c μ = some (if b ≤ a ∧ a ≤ c then 1 else 0) := isIn_eq a b c μ
/-- a number from 0 on below a count -/
theorem in_of {x : Int32} {n : Nat} (hn : n < 1000) (h : 0 ≤ x ∧ x ≤ nI n - 1) : ∃ j, j < n ∧ x = nI j := by
  have h0 : ¬ x < 0 := Int32.not_lt.mpr h.1
  obtain ⟨j, hj, rfl⟩ := nI_of h0
  refine ⟨j, ?_, rfl⟩
  have h1 := Int32.le_iff_toInt_le.mp h.2
  rw [nI_toInt hj, show (1 : Int32) = nI 1 from rfl, pk_sub_toInt (by omega) (by omega)] at h1
  omega
theorem of_in {j n : Nat} (hn : n < 1000) (h : j < n) : 0 ≤ nI j ∧ nI j ≤ nI n - 1 := by
  refine ⟨nI_pos' (by omega), ?_⟩
  rw [Int32.le_iff_toInt_le, nI_toInt (by omega), show (1 : Int32) = nI 1 from rfl, pk_sub_toInt (by omega) (by omega)]
  omega
/-! a valley of the class and a row of the model -/
def so (k : Nat) : Nat := [0, 0, 12, 0, 12, 22, 15, 15, 0, 0, 0, 0, 15, 15, 12, 22, 22, 36].getD k 0
def ss (k : Nat) : Nat := [0, 5, 0, 6, 1, 0, 8, 9, 1, 2, 3, 4, 0, 4, 2, 1, 2, 0].getD k 0
def pm (f : Nat) : Nat := [0, 4, 1, 2, 3, 5, 6].getD f 0
def pv (f : Nat) (x : Int32) : Int32 := if f = 5 ∧ x = -1 then -3 else x
def RC (v : Nat) (μ : mm) (g : Nat → Int32) (s : Nat) : Prop := g (288 + 161 * s) = μ (v + 76 + 6 * s) 0
def VP (v : Nat) (μ : mm) (g : Nat → Int32) : Prop :=
  (∀ k, k < 18 → g k = μ (v + so k) (ss k)) ∧
  (∀ a b, a < 6 → b < 6 → g (20 + 6 * a + b) = μ (v + 2 + a) b) ∧
  (∀ p f, p < nn (g 9) → f < 7 → g (56 + 7 * p + f) = pv f (μ (v + 52 + p) (pm f))) ∧
  (∀ s f, s < nn (g 10) → f < 3 → g (84 + 3 * s + f) = μ (v + 56 + s) f) ∧
  (∀ h f, h < nn (g 11) → f < 12 → g (96 + 12 * h + f) = μ (v + 60 + h) f) ∧
  (∀ j, j < nn (g 12) → g (771 + 3 * j) = μ (v + 16) j ∧ g (771 + 3 * j + 1) = μ (v + 18) j ∧ g (771 + 3 * j + 2) = μ (v + 17) j) ∧
  (∀ j, j < nn (g 13) → g (807 + 3 * j) = μ (v + 19) j ∧ g (807 + 3 * j + 1) = μ (v + 20) j ∧ g (807 + 3 * j + 2) = μ (v + 21) j) ∧
  (∀ j, j < nn (g 14) → g (843 + 2 * j) = μ (v + 13) j ∧ g (843 + 2 * j + 1) = μ (v + 14) j) ∧
  (∀ j, j < nn (g 15) → g (855 + j) = μ (v + 23) j) ∧
  (∀ j, j < nn (g 16) → g (859 + j) = μ (v + 24) j) ∧
  (∀ c, c < nn (g 17) → g (867 + 5 * c) = μ (v + 37) c ∧ ∀ p, p < 4 → g (867 + 5 * c + 1 + p) = μ (v + 39 + c) p) ∧
  (∀ s, s < 3 → RC v μ g s)
/-- a trial of grind: the count of villages goes up -/
theorem VP_try {v : Nat} {μ : mm} {g : Nat → Int32} {x : Int32} (h : VP v μ g) : VP v (up μ v 1 x) (upd g 8 x) := by
  obtain ⟨h1, h2, h3, h4, h5, h6, h7, h8, h9, h10, h11, h12⟩ := h
  refine ⟨?_, ?_, ?_, ?_, ?_, ?_, ?_, ?_, ?_, ?_, ?_, ?_⟩
  · intro k hk
    have := h1 k hk
    by_cases e : k = 8
    · subst e; simp [upd, up, so, ss]
    · have : ¬ (so k = 0 ∧ ss k = 1) := by
        revert e; revert k; decide +kernel
      grind [upd, up]
  · grind [upd, up]
  · grind [upd, up]
  · grind [upd, up]
  · grind [upd, up]
  · grind [upd, up]
  · grind [upd, up]
  · grind [upd, up]
  · grind [upd, up]
  · grind [upd, up]
  · grind [upd, up]
  · unfold RC at *; grind [upd, up]
