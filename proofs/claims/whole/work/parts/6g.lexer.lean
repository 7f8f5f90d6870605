/-! the tape in its parts: places, words, numbers -/
def eR (T : Nat → Nat) (lo hi : Nat) : Nat → Nat → Nat
  | 0, p => p
  | m + 1, p => if lo ≤ T p ∧ T p ≤ hi then eR T lo hi m (p + 1) else p
/-- where a run of bytes ends -/
def er (T : Nat → Nat) (n lo hi p : Nat) : Nat := eR T lo hi (n - p) p
theorem er_n {T : Nat → Nat} {n lo hi p : Nat} (h : n ≤ p) : er T n lo hi p = p := by
  unfold er
  rw [show n - p = 0 from by omega]
  rfl
theorem er_s {T : Nat → Nat} {n lo hi p : Nat} (h : p < n) (hc : lo ≤ T p ∧ T p ≤ hi) : er T n lo hi p = er T n lo hi (p + 1) := by
  unfold er
  rw [show n - p = n - (p + 1) + 1 from by omega]
  show (if lo ≤ T p ∧ T p ≤ hi then eR T lo hi (n - (p + 1)) (p + 1) else p) = _
  rw [if_pos hc]
theorem er_x {T : Nat → Nat} {n lo hi p : Nat} (hc : ¬ (lo ≤ T p ∧ T p ≤ hi)) : er T n lo hi p = p := by
  unfold er
  cases e : n - p with
  | zero => rfl
  | succ m =>
    show (if lo ≤ T p ∧ T p ≤ hi then eR T lo hi m (p + 1) else p) = _
    rw [if_neg hc]
theorem er_ok {T : Nat → Nat} {n lo hi : Nat} : ∀ (m p : Nat), p + m = n → p ≤ er T n lo hi p ∧ er T n lo hi p ≤ n ∧ (er T n lo hi p < n → ¬ (lo ≤ T (er T n lo hi p) ∧ T (er T n lo hi p) ≤ hi)) ∧ ∀ j, p ≤ j → j < er T n lo hi p → lo ≤ T j ∧ T j ≤ hi
  | 0, p, h => by
    rw [er_n (by omega)]
    exact ⟨Nat.le_refl _, by omega, fun q => absurd q (by omega), fun j a b => absurd a (by omega)⟩
  | m + 1, p, h => by
    by_cases c : lo ≤ T p ∧ T p ≤ hi
    · rw [er_s (by omega) c]
      obtain ⟨i1, i2, i3, i4⟩ := er_ok (T := T) (n := n) (lo := lo) (hi := hi) m (p + 1) (by omega)
      refine ⟨by omega, i2, i3, fun j a b => ?_⟩
      by_cases e : j = p
      · subst e; exact c
      · exact i4 j (by omega) b
    · rw [er_x c]
      exact ⟨Nat.le_refl _, by omega, fun _ => c, fun j a b => absurd a (by omega)⟩
def isL (t : Nat) : Prop := 97 ≤ t ∧ t ≤ 122
def isD (t : Nat) : Prop := 48 ≤ t ∧ t ≤ 57
/-- where the part at p ends -/
def te (T : Nat → Nat) (n p : Nat) : Nat := if p < n then (if 97 ≤ T p ∧ T p ≤ 122 then er T n 97 122 p else if 48 ≤ T p ∧ T p ≤ 57 then er T n 48 57 p else p + 1) else n
theorem te_ok {T : Nat → Nat} {n p : Nat} (h : p < n) : p < te T n p ∧ te T n p ≤ n := by
  unfold te
  rw [if_pos h]
  by_cases c : 97 ≤ T p ∧ T p ≤ 122
  · rw [if_pos c, er_s h c]
    obtain ⟨i1, i2, -⟩ := er_ok (T := T) (n := n) (lo := 97) (hi := 122) (n - (p + 1)) (p + 1) (by omega)
    omega
  · rw [if_neg c]
    by_cases d : 48 ≤ T p ∧ T p ≤ 57
    · rw [if_pos d, er_s h d]
      obtain ⟨i1, i2, -⟩ := er_ok (T := T) (n := n) (lo := 48) (hi := 57) (n - (p + 1)) (p + 1) (by omega)
      omega
    · rw [if_neg d]
      omega
theorem te_n {T : Nat → Nat} {n p : Nat} (h : n ≤ p) : te T n p = n := if_neg (by omega)
def sk (T : Nat → Nat) (n p : Nat) : Nat := er T n 32 32 p
theorem sk_ok {T : Nat → Nat} {n p : Nat} (h : p ≤ n) : p ≤ sk T n p ∧ sk T n p ≤ n ∧ (sk T n p < n → ¬ T (sk T n p) = 32) := by
  obtain ⟨i1, i2, i3, -⟩ := er_ok (T := T) (n := n) (lo := 32) (hi := 32) (n - p) p (by omega)
  exact ⟨i1, i2, fun q z => i3 q (by unfold sk at z; omega)⟩
/-- the place of part i -/
def pz (T : Nat → Nat) (n : Nat) : Nat → Nat
  | 0 => sk T n 0
  | i + 1 => sk T n (te T n (pz T n i))
theorem te_le {T : Nat → Nat} {n p : Nat} : te T n p ≤ n := by
  by_cases h : p < n
  · exact (te_ok h).2
  · rw [te_n (by omega)]; exact Nat.le_refl _
theorem pz_le {T : Nat → Nat} {n : Nat} : ∀ i, pz T n i ≤ n
  | 0 => (sk_ok (Nat.zero_le _)).2.1
  | i + 1 => (sk_ok te_le).2.1
theorem pz_s {T : Nat → Nat} {n i : Nat} : pz T n (i + 1) = sk T n (te T n (pz T n i)) := rfl
theorem pz_lt {T : Nat → Nat} {n i : Nat} (h : pz T n i < n) : te T n (pz T n i) ≤ pz T n (i + 1) ∧ pz T n i < pz T n (i + 1) := by
  have h1 := te_ok (T := T) h
  have h2 := (sk_ok (T := T) (n := n) (p := te T n (pz T n i)) te_le).1
  rw [pz_s]
  omega
theorem pz_end {T : Nat → Nat} {n i : Nat} (h : pz T n i = n) : pz T n (i + 1) = n := by
  rw [pz_s, h, te_n (Nat.le_refl _)]
  exact er_n (Nat.le_refl _)
theorem pz_ge {T : Nat → Nat} {n : Nat} : ∀ i, pz T n i = n ∨ i ≤ pz T n i
  | 0 => Or.inr (Nat.zero_le _)
  | i + 1 => by
    by_cases c : pz T n i = n
    · exact Or.inl (pz_end c)
    · have h := pz_lt (T := T) (n := n) (i := i) (by have := pz_le (T := T) (n := n) i; omega)
      rcases pz_ge (T := T) (n := n) i with e | e
      · exact absurd e c
      · exact Or.inr (by omega)
theorem pz_stay {T : Nat → Nat} {n i : Nat} (h : pz T n i = n) : ∀ j, pz T n (i + j) = n
  | 0 => h
  | j + 1 => pz_end (pz_stay h j)
theorem pz_mono {T : Nat → Nat} {n i : Nat} : ∀ j, pz T n i ≤ pz T n (i + j)
  | 0 => Nat.le_refl _
  | j + 1 => by
    have h := pz_mono (T := T) (n := n) (i := i) j
    by_cases c : pz T n (i + j) = n
    · rw [show i + (j + 1) = i + j + 1 from rfl, pz_end c]; exact pz_le i
    · have := pz_lt (T := T) (n := n) (i := i + j) (by have := pz_le (T := T) (n := n) (i + j); omega)
      rw [show i + (j + 1) = i + j + 1 from rfl]
      omega
/-! words -/
def wI (k : Nat) : Nat := [0, 1, 2, 3, 4, 5, 6, 14, 16, 17, 15, 7, 8, 9, 10, 11, 12, 13].getD k 0
def wl (k : Nat) : Nat := (strT.getD (wI k) []).length
def wc (k j : Nat) : Nat := nn ((strT.getD (wI k) []).getD j 0)
def wS (k : Nat) : Nat := [0, 7, 12, 19, 26, 32, 37, 44, 47, 51, 54, 58, 65, 70, 75, 80, 87, 91, 99].getD k 0
theorem wl_b : ∀ k, k < 18 → 2 ≤ wl k ∧ wl k ≤ 7 ∧ wS (k + 1) = wS k + wl k + 1 ∧ slen (1000 + wI k) = nI (wl k) ∧ wS k ≤ 91 := by decide +kernel
theorem wl_3 : ∀ k, k < 18 → k ≠ 7 → k ≠ 9 → 3 ≤ wl k := by decide +kernel
theorem w_all : slen 1018 = nI 99 := by decide +kernel
theorem wc_b : ∀ k, k < 18 → ∀ j, j < 7 → j < wl k → (97 ≤ wc k j ∧ wc k j ≤ 122) ∧ sch (1000 + wI k) (nI j) = some (nI (wc k j)) ∧ sch 1018 (nI (wS k + j)) = some (nI (wc k j)) := by decide +kernel
theorem wc_e : ∀ k, k < 18 → sch 1018 (nI (wS k + wl k)) = some 32 := by decide +kernel
theorem w_ne : ∀ k, k < 18 → ∀ q, q < 18 → k ≠ q → wl k = wl q → ∃ j, j < 7 ∧ j < wl k ∧ wc k j ≠ wc q j := by decide +kernel
/-- the word k stands from p to e -/
abbrev isw (T : Nat → Nat) (p e k : Nat) : Prop := e = p + wl k ∧ ∀ j, j < wl k → T (p + j) = wc k j
theorem isw_one {T : Nat → Nat} {p e k q : Nat} (hk : k < 18) (hq : q < 18) (h1 : isw T p e k) (h2 : isw T p e q) : k = q := by
  by_cases c : k = q
  · exact c
  · obtain ⟨j, j1, j2, j3⟩ := w_ne k hk q hq c (by have := h1.1; have := h2.1; omega)
    exact absurd ((h1.2 j j2).symm.trans (h2.2 j (by have := h1.1; have := h2.1; omega))) j3
def wdF (T : Nat → Nat) (p e : Nat) : Nat → Nat → Int32
  | 0, _ => -3
  | m + 1, k => if isw T p e k then nI k else wdF T p e m (k + 1)
theorem wdF_ok {T : Nat → Nat} {p e : Nat} : ∀ m k, k + m = 18 → (∃ j, k ≤ j ∧ j < 18 ∧ isw T p e j ∧ wdF T p e m k = nI j) ∨ ((∀ j, k ≤ j → j < 18 → ¬ isw T p e j) ∧ wdF T p e m k = -3)
  | 0, k, h => Or.inr ⟨fun j a b => absurd a (by omega), rfl⟩
  | m + 1, k, h => by
    by_cases c : isw T p e k
    · exact Or.inl ⟨k, Nat.le_refl _, by omega, c, if_pos c⟩
    · have e2 : wdF T p e (m + 1) k = wdF T p e m (k + 1) := if_neg c
      rw [e2]
      rcases wdF_ok (T := T) (p := p) (e := e) m (k + 1) (by omega) with ⟨j, j1, j2, j3⟩ | ⟨j1, j2⟩
      · exact Or.inl ⟨j, by omega, j2, j3⟩
      · refine Or.inr ⟨fun j a b => ?_, j2⟩
        by_cases q : j = k
        · subst q; exact c
        · exact j1 j (by omega) b
def wd (T : Nat → Nat) (p e : Nat) : Int32 := wdF T p e 18 0
theorem wd_iff {T : Nat → Nat} {p e k : Nat} (hk : k < 18) : wd T p e = nI k ↔ isw T p e k := by
  rcases wdF_ok (T := T) (p := p) (e := e) 18 0 rfl with ⟨j, -, j2, j3, j4⟩ | ⟨j1, j2⟩
  · unfold wd
    rw [j4, nI_eq (by omega) (by omega)]
    exact ⟨fun z => z ▸ j3, fun z => isw_one j2 hk j3 z⟩
  · unfold wd
    rw [j2]
    exact ⟨fun z => absurd z.symm (ne_m3 (by omega)), fun z => absurd z (j1 k (by omega) hk)⟩
theorem wd_rg {T : Nat → Nat} {p e : Nat} : (∃ k, k < 18 ∧ wd T p e = nI k) ∨ wd T p e = -3 := by
  rcases wdF_ok (T := T) (p := p) (e := e) 18 0 rfl with ⟨j, -, j2, j3, j4⟩ | ⟨j1, j2⟩
  · exact Or.inl ⟨j, j2, j4⟩
  · exact Or.inr j2
/-- what part stands at p: a word's number, -2 a number, a sign's byte, -3 what is none of them, -1 the end -/
def cd (T : Nat → Nat) (n p : Nat) : Int32 := if p < n then (if 97 ≤ T p ∧ T p ≤ 122 then wd T p (te T n p) else if 48 ≤ T p ∧ T p ≤ 57 then -2 else if T p = 59 ∨ T p = 40 ∨ T p = 41 ∨ (60 ≤ T p ∧ T p ≤ 62) then nI (T p) else -3) else -1
def nvN (T : Nat → Nat) : Nat → Nat → Nat → Nat
  | 0, _, a => a
  | m + 1, p, a => nvN T m (p + 1) (10 * a + (T p - 48))
def vl (T : Nat → Nat) (n p : Nat) : Nat := if te T n p - p ≤ 3 then nvN T (te T n p - p) p 0 else 1000
theorem nvN_lt {T : Nat → Nat} {e : Nat} : ∀ m p a, p + m = e → (∀ j, p ≤ j → j < e → 48 ≤ T j ∧ T j ≤ 57) → nvN T m p a < (a + 1) * 10 ^ m
  | 0, p, a, _, _ => by show a < (a + 1) * 1; omega
  | m + 1, p, a, h, hd => by
    have i := nvN_lt (T := T) (e := e) m (p + 1) (10 * a + (T p - 48)) (by omega) (fun j j1 j2 => hd j (by omega) j2)
    have d := hd p (by omega) (by omega)
    show nvN T m (p + 1) (10 * a + (T p - 48)) < _
    rw [Nat.pow_succ, Nat.mul_comm (10 ^ m) 10, ← Nat.mul_assoc]
    exact Nat.lt_of_lt_of_le i (Nat.mul_le_mul_right _ (by omega))
theorem vl_lt {T : Nat → Nat} {n p : Nat} (h : p < n) (hd : 48 ≤ T p ∧ T p ≤ 57) : vl T n p ≤ 1000 := by
  unfold vl
  split
  · rename_i q
    have ht : te T n p = er T n 48 57 p := by
      unfold te
      rw [if_pos h, if_neg (by omega), if_pos hd]
    obtain ⟨-, -, -, i4⟩ := er_ok (T := T) (n := n) (lo := 48) (hi := 57) (n - p) p (by omega)
    have g := (te_ok (T := T) h).1
    have := nvN_lt (T := T) (e := te T n p) (te T n p - p) p 0 (by omega) (fun j j1 j2 => i4 j j1 (by rw [← ht]; exact j2))
    have e : te T n p - p = 0 ∨ te T n p - p = 1 ∨ te T n p - p = 2 ∨ te T n p - p = 3 := by omega
    rcases e with e | e | e | e <;> rw [e] at this ⊢ <;> omega
  · exact Nat.le_refl _
/-- the tape on both sides -/
def TP (T : Nat → Nat) (n : Nat) (μ ν : mm) : Prop := n ≤ 300 ∧ μ 24 1 = nI n ∧ ν 0 5 = nI n ∧ ∀ k, k < n → T k ≤ 255 ∧ ν 4 k = nI (T k) ∧ μ 25 k = (nI (T k)).toInt8.toInt32
theorem Tp_TP {μ ν : mm} (h : Tp μ ν) : ∃ T n, TP T n μ ν := by
  obtain ⟨n, hn, e1, e2, hk⟩ := h
  refine ⟨fun k => nn (ν 4 k), n, hn, e1, e2, fun k hk1 => ?_⟩
  obtain ⟨⟨a, b⟩, c⟩ := hk k hk1
  obtain ⟨j, hj, ej, nj⟩ := cnt_of (m := 255) (by decide) (show 0 ≤ ν 4 k ∧ ν 4 k ≤ nI 255 from ⟨a, b⟩)
  dsimp only
  rw [nj]
  exact ⟨hj, ej, by rw [c, ej]⟩
theorem by_neg : ∀ t, t < 256 → 128 ≤ t → (nI t).toInt8.toInt32 < 0 := by decide +kernel
theorem bIn {t lo hi : Nat} {μ : mm} (ht : t ≤ 255) (hl : lo < 128) (hh : hi < 128) : f_11_isIn ((nI t).toInt8.toInt32) (nI lo) (nI hi) μ = some (if lo ≤ t ∧ t ≤ hi then 1 else 0) := by
  rw [isIn_eq]
  by_cases c : t < 128
  · rw [fa_byte_small c]
    by_cases d : lo ≤ t ∧ t ≤ hi
    · rw [if_pos d, if_pos ⟨nI_le d.1 (by omega), nI_le d.2 (by omega)⟩]
    · rw [if_neg d, if_neg (fun z => d ⟨(nI_leI (by omega) (by omega)).mp z.1, (nI_leI (by omega) (by omega)).mp z.2⟩)]
  · have n1 := by_neg t (by omega) (by omega)
    rw [if_neg (fun z => absurd (Int32.lt_of_lt_of_le n1 (nI_pos' (n := lo) (by omega))) (Int32.not_lt.mpr z.1)), if_neg (by omega)]
