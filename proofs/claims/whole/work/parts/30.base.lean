/-! pure: answers that are there, numbers, the coupling -/
def Ok {α : Type} (x : Option α) (P : α → Prop) : Prop := ∃ y, x = some y ∧ P y
theorem Ok_some {α : Type} {y : α} {P : α → Prop} : Ok (some y) P ↔ P y := ⟨fun ⟨_, h, p⟩ => by cases h; exact p, fun p => ⟨y, rfl, p⟩⟩
theorem Ok_bind {α β : Type} {x : Option α} {f : α → Option β} {P : β → Prop} : Ok (x.bind f) P ↔ Ok x (fun y => Ok (f y) P) := by
  cases x with
  | none => exact ⟨(fun ⟨_, h, _⟩ => by cases h), (fun ⟨_, h, _⟩ => by cases h)⟩
  | some y => exact ⟨fun h => ⟨y, rfl, h⟩, fun ⟨_, h, p⟩ => by cases h; exact p⟩
theorem Ok_ite {α : Type} {c : Prop} [Decidable c] {a b : Option α} {P : α → Prop} : Ok (if c then a else b) P ↔ (c → Ok a P) ∧ (¬ c → Ok b P) := by
  by_cases h : c <;> simp [h]
theorem Ok_mono {α : Type} {x : Option α} {P Q : α → Prop} (h : Ok x P) (k : ∀ y, P y → Q y) : Ok x Q := by
  obtain ⟨y, e, p⟩ := h
  exact ⟨y, e, k y p⟩
theorem Ok_of {α : Type} {x : Option α} {y : α} {P : α → Prop} (e : x = some y) (p : P y) : Ok x P := ⟨y, e, p⟩
abbrev nn (x : Int32) : Nat := x.toNatClampNeg
theorem ld_nI {μ : mm} {a k : Nat} (h : k < len a) (h2 : len a < 2 ^ 31) : ld μ a (nI k) = some (μ a k) := by
  unfold ld
  rw [if_neg (nI_in h h2), nI_clamp (by omega)]
theorem sto_nI {μ : mm} {a k : Nat} {v : Int32} (h : k < len a) (h2 : len a < 2 ^ 31) : sto μ a (nI k) v = some (up μ a k v) := by
  unfold sto
  rw [if_neg (nI_in h h2), nI_clamp (by omega)]
theorem lda_nI {a k : Nat} (h : k < len a) (h2 : len a < 2 ^ 31) : lda a (nI k) = some (rf a k) := by
  unfold lda
  rw [if_neg (nI_in h h2), nI_clamp (by omega)]
theorem up_at {μ : mm} {a k : Nat} {v : Int32} : up μ a k v a k = v := by simp [up, upd]
theorem up_nc {μ : mm} {a k b j : Nat} {v : Int32} (h : b ≠ a) : up μ a k v b j = μ b j := by simp [up, h]
theorem up_ns {μ : mm} {a k b j : Nat} {v : Int32} (h : j ≠ k) : up μ a k v b j = μ b j := by
  by_cases e : b = a
  · subst e; simp [up, upd, h]
  · simp [up, e]
theorem up_app {μ : mm} {a k b j : Nat} {v : Int32} : up μ a k v b j = if b = a ∧ j = k then v else μ b j := by
  by_cases e : b = a
  · subst e
    by_cases e2 : j = k
    · subst e2; simp [up, upd]
    · simp [up, upd, e2]
  · simp [up, e]
theorem upd_app {f : Nat → Int32} {k j : Nat} {v : Int32} : upd f k v j = if j = k then v else f j := rfl
theorem gb_0 : gb 0 = some 0 := rfl
theorem gb_1 : gb 1 = some 1 := rfl
theorem isIn_eq (a b c : Int32) (μ : mm) : f_11_isIn a b c μ = some (if b ≤ a ∧ a ≤ c then 1 else 0) := by
  unfold f_11_isIn
  by_cases h1 : a < b
  · rw [if_pos h1, if_neg]
    intro q
    exact absurd h1 (Int32.not_lt.mpr q.1)
  · rw [if_neg h1]
    by_cases h2 : c < a
    · rw [if_pos h2, if_neg]
      intro q
      exact absurd h2 (Int32.not_lt.mpr q.2)
    · rw [if_neg h2, if_pos ⟨Int32.not_lt.mp h1, Int32.not_lt.mp h2⟩]
theorem within_eq (a b c : Int32) (μ : mm) : f_12_within a b c μ = some (if b ≤ a ∧ a ≤ c then 1 else 0) := isIn_eq a b c μ
/-- a number from 0 on below a count -/
theorem in_of {x : Int32} {n : Nat} (hn : n < 1000) (h : 0 ≤ x ∧ x ≤ nI n - 1) : ∃ j, j < n ∧ x = nI j := by
  have h0 : ¬ x < 0 := Int32.not_lt.mpr h.1
  obtain ⟨j, hj, rfl⟩ := nI_of h0
  refine ⟨j, ?_, rfl⟩
  have h1 := Int32.le_iff_toInt_le.mp h.2
  rw [nI_toInt hj, show (1 : Int32) = nI 1 from rfl, pk_sub_toInt (by omega) (by omega)] at h1
  omega
theorem of_in {j n : Nat} (hn : n < 1000) (h : j < n) : 0 ≤ nI j ∧ nI j ≤ nI n - 1 := by
  refine ⟨nI_pos' (by omega), ?_⟩
  rw [Int32.le_iff_toInt_le, nI_toInt (by omega), show (1 : Int32) = nI 1 from rfl, pk_sub_toInt (by omega) (by omega)]
  omega
/-! a valley of the class and a row of the model -/
def so (k : Nat) : Nat := [0, 0, 12, 0, 12, 22, 15, 15, 0, 0, 0, 0, 15, 15, 12, 22, 22, 36].getD k 0
def ss (k : Nat) : Nat := [0, 5, 0, 6, 1, 0, 8, 9, 1, 2, 3, 4, 0, 4, 2, 1, 2, 0].getD k 0
def pm (f : Nat) : Nat := [0, 4, 1, 2, 3, 5, 6].getD f 0
def pv (f : Nat) (x : Int32) : Int32 := if f = 5 ∧ x = -1 then -3 else if f = 5 ∧ x = -3 then -1 else x
/-- what codes do to a pile of findings: the model's codes (30000 not, 30001 and, 30002 or, else a test) on a list, the latest finding first -/
def tsM (F : Nat → Int32) (c : Int32) : Int32 := if c / 1000 - c / 1000 / 3 * 3 = 0 then (if F (nn (c / 3000)) < c - c / 1000 * 1000 then 1 else 0) else if c / 1000 - c / 1000 / 3 * 3 = 1 then (if F (nn (c / 3000)) = c - c / 1000 * 1000 then 1 else 0) else (if c - c / 1000 * 1000 < F (nn (c / 3000)) then 1 else 0)
def st1M (F : Nat → Int32) (c : Int32) (S : List Int32) : List Int32 :=
  if c < 30000 then tsM F c :: S else if c = 30000 then (match S with
    | a :: r => (1 - a) :: r
    | [] => []) else (match S with
    | b :: a :: r => (if c = 30001 then a &&& b else a ||| b) :: r
    | r => r)
def evM (F : Nat → Int32) : List Int32 → List Int32 → List Int32
  | [], S => S
  | c :: r, S => evM F r (st1M F c S)
/-- the class's codes (-3 not, -1 and, -2 or, else a test) on the same pile -/
def st1C (F : Nat → Int32) (c : Int32) (S : List Int32) : List Int32 :=
  if c = -3 then (match S with
    | a :: r => (1 - a) :: r
    | [] => []) else if c = -1 ∨ c = -2 then (match S with
    | b :: a :: r => (if c = -1 then a &&& b else a ||| b) :: r
    | r => r) else tsM F c :: S
def evC (F : Nat → Int32) : List Int32 → List Int32 → List Int32
  | [], S => S
  | c :: r, S => evC F r (st1C F c S)
def slc (f : Nat → Int32) (a n : Nat) : List Int32 := (List.range n).map (fun i => f (a + i))
/-- how high the pile is behind codes: none where it falls below what they need or rises above D -/
def htM (D : Nat) : List Int32 → Nat → Option Nat
  | [], h => some h
  | c :: r, h => if c < 30000 then (if h < D then htM D r (h + 1) else none) else if c = 30000 then (if 1 ≤ h then htM D r h else none) else (if 2 ≤ h then htM D r (h - 1) else none)
def htC (D : Nat) : List Int32 → Nat → Option Nat
  | [], h => some h
  | c :: r, h => if c = -3 then (if 1 ≤ h then htC D r h else none) else if c = -1 ∨ c = -2 then (if 2 ≤ h then htC D r (h - 1) else none) else (if h < D then htC D r (h + 1) else none)
def okM (c : Int32) : Prop := (0 ≤ c ∧ c < 21000) ∨ c = 30000 ∨ c = 30001 ∨ c = 30002
def okC (c : Int32) : Prop := -3 ≤ c ∧ c < 21000
/-- codes that never take more than they laid, pile at most d findings, and leave one -/
def gdM (d : Nat) (cs : List Int32) (φ : (Nat → Int32) → Int32) : Prop := (∀ c ∈ cs, okM c) ∧ (∀ k, htM (k + d) cs k = some (k + 1)) ∧ ∀ F, (φ F = 0 ∨ φ F = 1) ∧ ∀ S, evM F cs S = φ F :: S
def gdC (d : Nat) (cs : List Int32) (φ : (Nat → Int32) → Int32) : Prop := (∀ c ∈ cs, okC c) ∧ (∀ k, htC (k + d) cs k = some (k + 1)) ∧ ∀ F, (φ F = 0 ∨ φ F = 1) ∧ ∀ S, evC F cs S = φ F :: S
def RC (v : Nat) (μ : mm) (g : Nat → Int32) (s : Nat) : Prop := ∃ n z : Nat, n ≤ 10 ∧ z ≤ 300 ∧ g (288 + 161 * s) = nI n ∧ μ (v + 76 + 6 * s) 0 = nI n ∧ μ (v + 76 + 6 * s) 5 = nI z ∧ ∀ l, l < n →
  g (288 + 161 * s + 1 + 4 * l) = μ (v + 77 + 6 * s) l ∧ (0 ≤ μ (v + 77 + 6 * s) l ∧ μ (v + 77 + 6 * s) l ≤ 6) ∧
  g (288 + 161 * s + 2 + 4 * l) = (if μ (v + 77 + 6 * s) l = 5 then -9 else μ (v + 78 + 6 * s) l) ∧ (0 ≤ μ (v + 78 + 6 * s) l ∧ μ (v + 78 + 6 * s) l ≤ 999) ∧ (μ (v + 77 + 6 * s) l = 1 → μ (v + 78 + 6 * s) l ≤ 9) ∧
  ∃ fm tm fc tc : Nat, g (288 + 161 * s + 3 + 4 * l) = nI fm ∧ g (288 + 161 * s + 4 + 4 * l) = nI tm ∧ μ (v + 79 + 6 * s) l = nI fc ∧ μ (v + 80 + 6 * s) l = nI tc ∧ fm ≤ tm ∧ tm ≤ 120 ∧ fc ≤ tc ∧ tc ≤ z ∧ (fm = tm ↔ fc = tc) ∧
    (fm < tm → ∃ φ, gdM 20 (slc (fun i => g (288 + 161 * s + 41 + i)) fm (tm - fm)) φ ∧ gdC 20 (slc (μ (v + 81 + 6 * s)) fc (tc - fc)) φ)
def VP (v : Nat) (μ : mm) (g : Nat → Int32) : Prop :=
  (∀ k, k < 18 → g k = μ (v + so k) (ss k)) ∧
  (∀ a b, a < 6 → b < 6 → g (20 + 6 * a + b) = μ (v + 2 + a) b) ∧
  (∀ p f, p < nn (g 9) → f < 7 → g (56 + 7 * p + f) = pv f (μ (v + 52 + p) (pm f))) ∧
  (∀ s f, s < nn (g 10) → f < 3 → g (84 + 3 * s + f) = μ (v + 56 + s) f) ∧
  (∀ h f, h < nn (g 11) → f < 12 → g (96 + 12 * h + f) = μ (v + 60 + h) f) ∧
  (∀ j, j < nn (g 12) → g (771 + 3 * j) = μ (v + 16) j ∧ g (771 + 3 * j + 1) = μ (v + 18) j ∧ g (771 + 3 * j + 2) = μ (v + 17) j) ∧
  (∀ j, j < 12 → (μ (v + 21) j = 0 ∨ μ (v + 21) j = 1) ∧ (j < nn (g 13) → g (807 + 3 * j) = μ (v + 19) j ∧ g (807 + 3 * j + 1) = μ (v + 20) j ∧ g (807 + 3 * j + 2) = μ (v + 21) j)) ∧
  (∀ j, j < nn (g 14) → g (843 + 2 * j) = μ (v + 13) j ∧ g (843 + 2 * j + 1) = μ (v + 14) j) ∧
  (∀ j, j < nn (g 15) → g (855 + j) = μ (v + 23) j) ∧
  (∀ j, j < nn (g 16) → g (859 + j) = μ (v + 24) j) ∧
  (∀ c, c < nn (g 17) → g (867 + 5 * c) = μ (v + 37) c ∧ ∀ p, p < 4 → g (867 + 5 * c + 1 + p) = μ (v + 39 + c) p) ∧
  (∀ s, s < 3 → RC v μ g s)
theorem RC_congr {v s : Nat} {μ μ' : mm} {g g' : Nat → Int32} (hs : s < 3) (hg : ∀ k, 288 ≤ k → k < 771 → g' k = g k) (hm : ∀ b, v + 76 ≤ b → b < v + 94 → μ' b = μ b) (h : RC v μ g s) : RC v μ' g' s := by
  obtain ⟨n, z, h1, hz, h2, h3, h5, h4⟩ := h
  refine ⟨n, z, h1, hz, ?_, ?_, ?_, fun l hl => ?_⟩
  · rw [hg _ (by omega) (by omega)]; exact h2
  · rw [hm _ (by omega) (by omega)]; exact h3
  · rw [hm _ (by omega) (by omega)]; exact h5
  · obtain ⟨a1, a2, a3, a4, a5, fm, tm, fc, tc, b1, b2, b3, b4, b5, b6, b7, b8, b9, b0⟩ := h4 l hl
    have e1 := hm (v + 77 + 6 * s) (by omega) (by omega)
    have e2 := hm (v + 78 + 6 * s) (by omega) (by omega)
    have e3 := hm (v + 79 + 6 * s) (by omega) (by omega)
    have e4 := hm (v + 80 + 6 * s) (by omega) (by omega)
    have e5 := hm (v + 81 + 6 * s) (by omega) (by omega)
    rw [e1, e2, e3, e4, e5, hg _ (by omega) (by omega), hg _ (by omega) (by omega)]
    refine ⟨a1, a2, a3, a4, a5, fm, tm, fc, tc, ?_, ?_, b3, b4, b5, b6, b7, b8, b9, fun hf => ?_⟩
    · rw [hg _ (by omega) (by omega)]; exact b1
    · rw [hg _ (by omega) (by omega)]; exact b2
    · obtain ⟨φ, p1, p2⟩ := b0 hf
      refine ⟨φ, ?_, p2⟩
      have e6 : slc (fun i => g' (288 + 161 * s + 41 + i)) fm (tm - fm) = slc (fun i => g (288 + 161 * s + 41 + i)) fm (tm - fm) := by
        unfold slc
        apply List.map_congr_left
        intro i hi
        have := List.mem_range.mp hi
        exact hg _ (by omega) (by omega)
      rw [e6]
      exact p1
theorem so_lt : ∀ k, k < 18 → so k < 52 := by decide +kernel
theorem VP_congr {v : Nat} {μ μ' : mm} {g g' : Nat → Int32} (hg : ∀ k, k < 912 → g' k = g k) (hm : ∀ b, v ≤ b → b < v + 94 → μ' b = μ b) (hc : nn (g 9) ≤ 4 ∧ nn (g 10) ≤ 4 ∧ nn (g 11) ≤ 16 ∧ nn (g 12) ≤ 12 ∧ nn (g 13) ≤ 12 ∧ nn (g 14) ≤ 6 ∧ nn (g 15) ≤ 4 ∧ nn (g 16) ≤ 8 ∧ nn (g 17) ≤ 9) (h : VP v μ g) : VP v μ' g' := by
  obtain ⟨h1, h2, h3, h4, h5, h6, h7, h8, h9, h10, h11, h12⟩ := h
  refine ⟨?_, ?_, ?_, ?_, ?_, ?_, ?_, ?_, ?_, ?_, ?_, ?_⟩
  · intro k hk
    have := so_lt k hk
    rw [hg _ (by omega), hm _ (by omega) (by omega)]
    exact h1 k hk
  · intro a b ha hb
    rw [hg _ (by omega), hm _ (by omega) (by omega)]
    exact h2 a b ha hb
  · intro p f hp hf
    rw [hg 9 (by omega)] at hp
    rw [hg _ (by omega), hm _ (by omega) (by omega)]
    exact h3 p f hp hf
  · intro p f hp hf
    rw [hg 10 (by omega)] at hp
    rw [hg _ (by omega), hm _ (by omega) (by omega)]
    exact h4 p f hp hf
  · intro p f hp hf
    rw [hg 11 (by omega)] at hp
    rw [hg _ (by omega), hm _ (by omega) (by omega)]
    exact h5 p f hp hf
  · intro j hj
    rw [hg 12 (by omega)] at hj
    rw [hg _ (by omega), hg _ (by omega), hg _ (by omega), hm _ (by omega) (by omega), hm _ (by omega) (by omega), hm _ (by omega) (by omega)]
    exact h6 j hj
  · intro j hj
    rw [hm (v + 21) (by omega) (by omega)]
    refine ⟨(h7 j hj).1, fun hj2 => ?_⟩
    rw [hg 13 (by omega)] at hj2
    rw [hg _ (by omega), hg _ (by omega), hg _ (by omega), hm _ (by omega) (by omega), hm _ (by omega) (by omega)]
    exact (h7 j hj).2 hj2
  · intro j hj
    rw [hg 14 (by omega)] at hj
    rw [hg _ (by omega), hg _ (by omega), hm _ (by omega) (by omega), hm _ (by omega) (by omega)]
    exact h8 j hj
  · intro j hj
    rw [hg 15 (by omega)] at hj
    rw [hg _ (by omega), hm _ (by omega) (by omega)]
    exact h9 j hj
  · intro j hj
    rw [hg 16 (by omega)] at hj
    rw [hg _ (by omega), hm _ (by omega) (by omega)]
    exact h10 j hj
  · intro c hc1
    rw [hg 17 (by omega)] at hc1
    obtain ⟨q1, q2⟩ := h11 c hc1
    refine ⟨?_, fun p hp => ?_⟩
    · rw [hg _ (by omega), hm _ (by omega) (by omega)]
      exact q1
    · rw [hg _ (by omega), hm _ (by omega) (by omega)]
      exact q2 p hp
  · intro s hs
    exact RC_congr hs (fun k a b => hg k (by omega)) (fun b a c => hm b (by omega) (by omega)) (h12 s hs)
/-- ranges of the model's row -/
def IV (g : Nat → Int32) : Prop :=
  ((0 ≤ g 0 ∧ g 0 ≤ 999) ∧ (0 ≤ g 1 ∧ g 1 ≤ 99999) ∧ (0 ≤ g 2 ∧ g 2 ≤ 99999) ∧ (g 3 = 0 ∨ g 3 = 1) ∧ (0 ≤ g 4 ∧ g 4 ≤ 999) ∧ (0 ≤ g 5 ∧ g 5 ≤ 9) ∧ (0 ≤ g 6 ∧ g 6 ≤ 99999) ∧ (0 ≤ g 7 ∧ g 7 ≤ 99999)) ∧
  ((0 ≤ g 8 ∧ g 8 ≤ 6) ∧ (0 ≤ g 9 ∧ g 9 ≤ 4) ∧ (0 ≤ g 10 ∧ g 10 ≤ 4) ∧ (0 ≤ g 11 ∧ g 11 ≤ 16) ∧ (0 ≤ g 12 ∧ g 12 ≤ 12) ∧ (0 ≤ g 13 ∧ g 13 ≤ 12) ∧ (0 ≤ g 14 ∧ g 14 ≤ 6) ∧ (0 ≤ g 15 ∧ g 15 ≤ 4) ∧ (0 ≤ g 16 ∧ g 16 ≤ 8) ∧ (0 ≤ g 17 ∧ g 17 ≤ 9)) ∧
  (∀ a b, a < 6 → b < 6 → 0 ≤ g (20 + 6 * a + b) ∧ g (20 + 6 * a + b) ≤ 9) ∧
  (∀ p, p < nn (g 9) → (0 ≤ g (56 + 7 * p) ∧ g (56 + 7 * p) < g 8) ∧ (0 ≤ g (57 + 7 * p) ∧ g (57 + 7 * p) ≤ 20000) ∧ (1 ≤ g (58 + 7 * p) ∧ g (58 + 7 * p) ≤ 50) ∧ (0 ≤ g (59 + 7 * p) ∧ g (59 + 7 * p) ≤ 50) ∧ (1 ≤ g (60 + 7 * p) ∧ g (60 + 7 * p) ≤ 9999) ∧ (g (61 + 7 * p) = -3 ∨ (0 ≤ g (61 + 7 * p) ∧ g (61 + 7 * p) ≤ 999)) ∧ (g (61 + 7 * p) = -3 → g (57 + 7 * p) ≤ g (60 + 7 * p)) ∧ (0 ≤ g (62 + 7 * p) ∧ g (62 + 7 * p) ≤ 900)) ∧
  (∀ s, s < nn (g 10) → (0 ≤ g (84 + 3 * s) ∧ g (84 + 3 * s) < g 8) ∧ g (85 + 3 * s) ≤ 999 ∧ 0 ≤ g (86 + 3 * s) ∧ g (86 + 3 * s) ≤ g (85 + 3 * s)) ∧
  (∀ h, h < nn (g 11) → (0 ≤ g (96 + 12 * h) ∧ g (96 + 12 * h) < g 8) ∧ (0 ≤ g (97 + 12 * h) ∧ g (97 + 12 * h) < g 9) ∧ (1 ≤ g (98 + 12 * h) ∧ g (98 + 12 * h) ≤ 9) ∧ (0 ≤ g (99 + 12 * h) ∧ g (99 + 12 * h) ≤ 9) ∧ (0 ≤ g (100 + 12 * h) ∧ g (100 + 12 * h) ≤ 99) ∧ (0 ≤ g (101 + 12 * h) ∧ g (101 + 12 * h) ≤ 99) ∧ (0 ≤ g (102 + 12 * h) ∧ g (102 + 12 * h) ≤ 999) ∧ (g (106 + 12 * h) = 0 ∨ g (106 + 12 * h) = 1) ∧ (g (107 + 12 * h) = 0 ∨ g (107 + 12 * h) = 1) ∧ (g (107 + 12 * h) = 1 → g (99 + 12 * h) = 0)) ∧
  (∀ j, j < nn (g 12) → (0 ≤ g (771 + 3 * j) ∧ g (771 + 3 * j) < g 8) ∧ (0 ≤ g (772 + 3 * j) ∧ g (772 + 3 * j) ≤ 999) ∧ (-20 ≤ g (773 + 3 * j) ∧ g (773 + 3 * j) ≤ 20)) ∧
  (∀ j, j < nn (g 13) → (0 ≤ g (807 + 3 * j) ∧ g (807 + 3 * j) < g 11) ∧ (0 ≤ g (808 + 3 * j) ∧ g (808 + 3 * j) ≤ 999) ∧ (g (809 + 3 * j) = 0 ∨ g (809 + 3 * j) = 1)) ∧
  (∀ j, j < nn (g 14) → (g 0 < g (843 + 2 * j) ∧ g (843 + 2 * j) ≤ 999) ∧ (1 ≤ g (844 + 2 * j) ∧ g (844 + 2 * j) ≤ 9999)) ∧
  (∀ j, j < nn (g 15) → 0 ≤ g (855 + j) ∧ g (855 + j) < g 8) ∧
  (∀ j, j < nn (g 16) → 0 ≤ g (859 + j) ∧ g (859 + j) < g 8) ∧
  (∀ c, c < nn (g 17) → (0 ≤ g (867 + 5 * c) ∧ g (867 + 5 * c) ≤ 99) ∧ ∀ p, p < 4 → (0 ≤ g (868 + 5 * c + p) ∧ g (868 + 5 * c + p) ≤ 99) ∧ (nn (g 9) ≤ p → g (868 + 5 * c + p) = 0))
theorem nn_le {x : Int32} {n : Nat} (hn : n < 2 ^ 31) (h0 : 0 ≤ x) (h : x ≤ nI n) : nn x ≤ n := by
  obtain ⟨j, hj, rfl⟩ := nI_of (Int32.not_lt.mpr h0)
  rw [show nn (nI j) = j from nI_clamp hj]
  exact (nI_leI hj hn).mp h
theorem IV_nn {g : Nat → Int32} (h : IV g) : nn (g 9) ≤ 4 ∧ nn (g 10) ≤ 4 ∧ nn (g 11) ≤ 16 ∧ nn (g 12) ≤ 12 ∧ nn (g 13) ≤ 12 ∧ nn (g 14) ≤ 6 ∧ nn (g 15) ≤ 4 ∧ nn (g 16) ≤ 8 ∧ nn (g 17) ≤ 9 := by
  obtain ⟨-, ⟨-, ⟨a, b⟩, ⟨c, d⟩, ⟨e, f⟩, ⟨i, j⟩, ⟨k, l⟩, ⟨m, n⟩, ⟨o, p⟩, ⟨q, r⟩, ⟨s, t⟩⟩, -⟩ := h
  exact ⟨nn_le (by decide) a b, nn_le (by decide) c d, nn_le (by decide) e f, nn_le (by decide) i j, nn_le (by decide) k l, nn_le (by decide) m n, nn_le (by decide) o p, nn_le (by decide) q r, nn_le (by decide) s t⟩
/-! the rest: what is kept, the tape, rows, sheets, shelves, the trace -/
def Kp (μ ν : mm) : Prop := μ 23 3 = ν 0 3 ∧ (μ 23 3 = 0 ∨ μ 23 3 = 1) ∧ (μ 23 3 = 1 → VP 143 μ (ν 2) ∧ IV (ν 2))
def Tp (μ ν : mm) : Prop := ∃ n : Nat, n ≤ 300 ∧ μ 24 1 = nI n ∧ ν 0 5 = nI n ∧ ∀ k, k < n → (0 ≤ ν 4 k ∧ ν 4 k ≤ 255) ∧ μ 25 k = (ν 4 k).toInt8.toInt32
def Rw (μ ν : mm) : Prop := ∃ r t : Nat, r ≤ t ∧ t ≤ 4 ∧ μ 23 8 = nI r ∧ ν 0 8 = nI r ∧ (∀ k, k < 2 * r → μ 37 k = ν 5 k) ∧ ((μ 23 10 = 0 ∧ ν 0 9 = -1 ∧ r = 0) ∨ (μ 23 10 = 1 ∧ ν 0 9 = nI t ∧ μ 23 9 = nI t ∧ ∀ k, k < 2 * t → μ 38 k = ν 6 k))
def Sh (μ ν : mm) : Prop := ∀ s, s < 4 → (-1 ≤ ν 16 s ∧ ν 16 s ≤ 4) ∧ μ 39 s = ν 16 s ∧ (0 ≤ ν 16 s → (0 ≤ ν 17 s ∧ ν 17 s ≤ 40) ∧ μ 40 s = ν 17 s ∧ ∀ k, k < 40 → μ (42 + s) k = ν 18 (40 * s + k))
def Sv (μ ν : mm) : Prop := ∀ s, s < 4 → (0 ≤ μ 46 s ∧ μ 46 s ≤ 4) ∧ (μ 46 s = 4 → ν 19 s = 0) ∧ (μ 46 s ≠ 4 → ν 19 s = μ 46 s + 1 ∧ ν 20 s = μ 47 s ∧ (0 ≤ μ 47 s ∧ μ 47 s ≤ 15)) ∧ (μ 46 s = 3 → ν 21 s = μ 48 s ∧ μ 47 s ≤ 4)
def Tc (μ ν : mm) : Prop := ∃ n : Nat, n ≤ 30 ∧ μ 35 1 = nI n ∧ ν 0 33 = nI n ∧ ∀ k, k < n → μ 36 k = ν 22 k
def Cp (μ ν : mm) : Prop := VP 49 μ (ν 1) ∧ IV (ν 1) ∧ Kp μ ν ∧ Tp μ ν ∧ Rw μ ν ∧ Sh μ ν ∧ Sv μ ν ∧ Tc μ ν
/-- a call that changes the valley now alone -/
theorem Cp_now {μ μ' ν ν' : mm} (h : Cp μ ν) (hm : ∀ b, (b < 49 ∨ 143 ≤ b) → μ' b = μ b) (hn : ∀ b, b ≠ 1 → ν' b = ν b) (hV : VP 49 μ' (ν' 1)) (hI : IV (ν' 1)) : Cp μ' ν' := by
  obtain ⟨-, -, ⟨k1, k2, k3⟩, ht, hr, hs, hv, hc⟩ := h
  have m23 := hm 23 (by omega)
  have n0 := hn 0 (by omega)
  refine ⟨hV, hI, ⟨by rw [m23, n0]; exact k1, by rw [m23]; exact k2, fun e => ?_⟩, ?_, ?_, ?_, ?_, ?_⟩
  · rw [m23] at e
    obtain ⟨q1, q2⟩ := k3 e
    rw [hn 2 (by omega)]
    exact ⟨VP_congr (fun _ _ => rfl) (fun b h1 h2 => hm b (by omega)) (IV_nn q2) q1, q2⟩
  · unfold Tp
    rw [hm 24 (by omega), hm 25 (by omega), n0, hn 4 (by omega)]
    exact ht
  · unfold Rw
    rw [m23, n0, hm 37 (by omega), hm 38 (by omega), hn 5 (by omega), hn 6 (by omega)]
    exact hr
  · intro s hs1
    rw [hm 39 (by omega), hm 40 (by omega), hm (42 + s) (by omega), hn 16 (by omega), hn 17 (by omega), hn 18 (by omega)]
    exact hs s hs1
  · intro s hs1
    rw [hm 46 (by omega), hm 47 (by omega), hm 48 (by omega), hn 19 (by omega), hn 20 (by omega), hn 21 (by omega)]
    exact hv s hs1
  · unfold Tc
    rw [hm 35 (by omega), hm 36 (by omega), n0, hn 22 (by omega)]
    exact hc
