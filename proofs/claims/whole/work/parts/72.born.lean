/-! the birth of the world: its cells in the order in which the constructors make them; a judgement Rn over a world that is half made -/
def od (a : Nat) : Nat := if a < 23 then a + 308 else if a = 23 then 0 else if a < 49 then a + 259 else if a < 331 then a - 48 else a
def oi (i : Nat) : Nat := if i = 0 then 23 else if i < 283 then i + 48 else if i < 308 then i - 259 else i - 308
theorem od_eq {c n : Nat} (h : n < 331) : od c = n ↔ c = oi n := by
  unfold od oi
  (repeat' split) <;> omega
theorem oi_lt {n : Nat} (h : n < 331) : oi n < 331 := by
  unfold oi
  (repeat' split) <;> omega
theorem od_oi {n : Nat} (h : n < 331) : od (oi n) = n := (od_eq h).mpr rfl
theorem od_lt {a : Nat} (h : a < 331) : od a < 331 := by
  unfold od
  (repeat' split) <;> omega
theorem oi_od {a : Nat} (h : a < 331) : oi (od a) = a := ((od_eq (od_lt h)).mp rfl).symm
theorem od_of {a n : Nat} (h : od a < n) (hn : n ≤ 331) : a < 331 := by
  unfold od at h
  (repeat' split at h) <;> omega
def PA : List Nat := [0, 0, 0, 0, 0, 0, 0, 0, 0, 0, 0, 0, 0, 0, 0, 0, 0, 0, 0, 0, 0, 0, 0, 0, 23, 24, 24, 26, 26, 26, 26, 26, 24, 24, 24, 23, 35, 23, 23, 23, 23, 23, 41, 41, 41, 41, 23, 23, 23, 23, 49, 50, 50, 50, 50, 50, 50, 49, 49, 49, 49, 49, 61, 61, 49, 64, 64, 64, 64, 64, 64, 49, 71, 71, 71, 71, 75, 75, 75, 75, 75, 75, 75, 75, 75, 49, 85, 85, 87, 87, 87, 87, 87, 87, 87, 87, 87, 85, 49, 49, 49, 57, 57, 57, 57, 58, 58, 58, 58, 59, 59, 59, 59, 59, 59, 59, 59, 59, 59, 59, 59, 59, 59, 59, 59, 60, 125, 125, 125, 125, 125, 60, 131, 131, 131, 131, 131, 60, 137, 137, 137, 137, 137, 23, 143, 144, 144, 144, 144, 144, 144, 143, 143, 143, 143, 143, 155, 155, 143, 158, 158, 158, 158, 158, 158, 143, 165, 165, 165, 165, 169, 169, 169, 169, 169, 169, 169, 169, 169, 143, 179, 179, 181, 181, 181, 181, 181, 181, 181, 181, 181, 179, 143, 143, 143, 151, 151, 151, 151, 152, 152, 152, 152, 153, 153, 153, 153, 153, 153, 153, 153, 153, 153, 153, 153, 153, 153, 153, 153, 154, 219, 219, 219, 219, 219, 154, 225, 225, 225, 225, 225, 154, 231, 231, 231, 231, 231, 23, 237, 238, 238, 238, 238, 238, 238, 237, 237, 237, 237, 237, 249, 249, 237, 252, 252, 252, 252, 252, 252, 237, 259, 259, 259, 259, 263, 263, 263, 263, 263, 263, 263, 263, 263, 237, 273, 273, 275, 275, 275, 275, 275, 275, 275, 275, 275, 273, 237, 237, 237, 245, 245, 245, 245, 246, 246, 246, 246, 247, 247, 247, 247, 247, 247, 247, 247, 247, 247, 247, 247, 247, 247, 247, 247, 248, 313, 313, 313, 313, 313, 248, 319, 319, 319, 319, 319, 248, 325, 325, 325, 325, 325]
def SL : List Nat := [0, 0, 1, 2, 4, 6, 7, 17, 18, 19, 20, 21, 22, 23, 24, 25, 26, 27, 28, 29, 30, 31, 32, 0, 4, 0, 2, 1, 2, 3, 4, 6, 3, 4, 5, 5, 0, 6, 7, 11, 12, 13, 0, 1, 2, 3, 14, 15, 16, 0, 7, 0, 1, 2, 3, 4, 5, 8, 9, 10, 11, 12, 3, 4, 13, 1, 2, 3, 5, 6, 7, 14, 3, 4, 5, 6, 0, 1, 2, 3, 4, 5, 6, 7, 8, 15, 1, 2, 0, 1, 2, 3, 4, 5, 6, 7, 8, 5, 16, 17, 18, 0, 1, 2, 3, 0, 1, 2, 3, 0, 1, 2, 3, 4, 5, 6, 7, 8, 9, 10, 11, 12, 13, 14, 15, 0, 1, 2, 3, 4, 6, 1, 1, 2, 3, 4, 6, 2, 1, 2, 3, 4, 6, 1, 7, 0, 1, 2, 3, 4, 5, 8, 9, 10, 11, 12, 3, 4, 13, 1, 2, 3, 5, 6, 7, 14, 3, 4, 5, 6, 0, 1, 2, 3, 4, 5, 6, 7, 8, 15, 1, 2, 0, 1, 2, 3, 4, 5, 6, 7, 8, 5, 16, 17, 18, 0, 1, 2, 3, 0, 1, 2, 3, 0, 1, 2, 3, 4, 5, 6, 7, 8, 9, 10, 11, 12, 13, 14, 15, 0, 1, 2, 3, 4, 6, 1, 1, 2, 3, 4, 6, 2, 1, 2, 3, 4, 6, 2, 7, 0, 1, 2, 3, 4, 5, 8, 9, 10, 11, 12, 3, 4, 13, 1, 2, 3, 5, 6, 7, 14, 3, 4, 5, 6, 0, 1, 2, 3, 4, 5, 6, 7, 8, 15, 1, 2, 0, 1, 2, 3, 4, 5, 6, 7, 8, 5, 16, 17, 18, 0, 1, 2, 3, 0, 1, 2, 3, 0, 1, 2, 3, 4, 5, 6, 7, 8, 9, 10, 11, 12, 13, 14, 15, 0, 1, 2, 3, 4, 6, 1, 1, 2, 3, 4, 6, 2, 1, 2, 3, 4, 6]
def pt (c : Nat) : Nat × Nat := (PA.getD c 0, SL.getD c 0)
set_option maxRecDepth 100000 in
theorem pt_o_b : ∀ b, b < 331 → ∀ k, k < (if kd b < 13 then nf (kd b) else 0) → (isr (kd b) k = false ∨ (pt (rf b k) = (b, k) ∧ od b < od (rf b k) ∧ rf b k ≠ 23 ∧ rf b k ≠ 0)) := by decide +kernel
theorem pt_o (b : Nat) (hb : b < 331) (hc : kd b < 13) (k : Nat) (hk : k < nf (kd b)) (hi : isr (kd b) k = true) : pt (rf b k) = (b, k) ∧ od b < od (rf b k) ∧ rf b k ≠ 23 ∧ rf b k ≠ 0 := (pt_o_b b hb k (by rw [if_pos hc]; exact hk)).resolve_left (by rw [hi]; decide)
set_option maxRecDepth 100000 in
theorem pt_r : ∀ b, b < 331 → 23 ≤ kd b → ∀ i, i < len b → pt (rf b i) = (b, i) ∧ od b < od (rf b i) ∧ rf b i ≠ 23 ∧ rf b i ≠ 0 := by decide +kernel
theorem isr_lt_b : ∀ ci, ci < 13 → (isT.getD ci []).length ≤ nf ci := by decide
theorem isr_lt {ci k : Nat} (hc : ci < 13) (h : isr ci k = true) : k < nf ci := by
  refine Nat.lt_of_not_le fun q => ?_
  unfold isr at h
  have h1 : (isT.getD ci [])[k]? = none := List.getElem?_eq_none (Nat.le_trans (isr_lt_b ci hc) q)
  rw [List.getD_eq_getElem?_getD, h1] at h
  cases h
abbrev set_ (n : Nat) (pd : List Nat) (c : Nat) : Prop := od c < n ∧ c ∉ pd
def fvp (E : ce) (n : Nat) (pd : List Nat) (μ : mm) (a k : Nat) : Value := if isr (kd a) k = true then (if set_ n pd (rf a k) then .ref (E.1 (rf a k)) else .null) else .int (μ a k)
def celp (E : ce) (n : Nat) (pd : List Nat) (μ : mm) (a : Nat) : va_E :=
  if kd a < 13 then .inr (kd a, (List.range (nf (kd a))).map (fvp E n pd μ a))
  else if kd a < 23 then .inl (E.2.2.1 (kd a), len a, .inl (μ a))
  else .inl (E.2.2.1 (kd a), len a, .inr (.inr (.inr (.inr (fun i => if i < len a ∧ set_ n pd (rf a i) then some (E.1 (rf a i)) else none)))))
def wp (E : ce) (n : Nat) (pd : List Nat) (μ : mm) : va_W := (List.range n).map (fun i => (E.1 (oi i), celp E n pd μ (oi i)))
def Ge (E : ce) : Prop := ∀ a, a < 331 → E.1 a = E.1 23 + od a
def An (E : ce) : Nat → Prop := fun q => E.1 23 ≤ q
def Zr (n : Nat) (μ : mm) : Prop := ∀ a, n ≤ od a → ∀ k, μ a k = 0
def Pn (n : Nat) (pd : List Nat) : Prop := n ≤ 331 ∧ pd.Nodup ∧ ∀ c ∈ pd, od c < n
theorem Ge_oi {E : ce} (h : Ge E) {i : Nat} (hi : i < 331) : E.1 (oi i) = E.1 23 + i := by rw [h _ (oi_lt hi), od_oi hi]
theorem wp_at (E : ce) (n : Nat) (pd : List Nat) (μ : mm) {i : Nat} (h : i < n) : (wp E n pd μ)[i]? = some (E.1 (oi i), celp E n pd μ (oi i)) := by
  unfold wp
  rw [List.getElem?_map, List.getElem?_range h]
  rfl
theorem wp_out {E : ce} {n : Nat} {pd : List Nat} {μ : mm} {i : Nat} {q : Nat × va_E} (h : (wp E n pd μ)[i]? = some q) : i < n ∧ q = (E.1 (oi i), celp E n pd μ (oi i)) := by
  have h1 := (List.getElem?_eq_some_iff.mp h).1
  have h2 : i < n := by simpa [wp] using h1
  rw [wp_at E n pd μ h2] at h
  exact ⟨h2, (Option.some.inj h).symm⟩
theorem wp_od (E : ce) {n : Nat} (pd : List Nat) (μ : mm) {a : Nat} (hn : n ≤ 331) (h : od a < n) : (wp E n pd μ)[od a]? = some (E.1 a, celp E n pd μ a) := by
  rw [wp_at E n pd μ h, oi_od (od_of h hn)]
theorem wp_D {E : ce} (hG : Ge E) {n : Nat} (hn : n ≤ 331) (pd : List Nat) (μ : mm) : va_D (An E) (wp E n pd μ) := by
  refine ⟨fun i j p q hi hj e => ?_, fun k q hk => ?_⟩
  · obtain ⟨h1, rfl⟩ := wp_out hi
    obtain ⟨h2, rfl⟩ := wp_out hj
    have e : E.1 (oi i) = E.1 (oi j) := e
    rw [Ge_oi hG (by omega), Ge_oi hG (by omega)] at e
    omega
  · obtain ⟨h1, rfl⟩ := wp_out hk
    show E.1 23 ≤ E.1 (oi k)
    rw [Ge_oi hG (by omega)]
    omega
theorem set_push {n : Nat} (hn : n < 331) {pd : List Nat} (c : Nat) : set_ (n + 1) (oi n :: pd) c ↔ set_ n pd c := by
  unfold set_
  have h := od_eq (c := c) hn
  constructor
  · rintro ⟨h1, h2⟩
    have h3 : c ≠ oi n := fun q => h2 (by rw [q]; exact List.mem_cons_self)
    have h4 : od c ≠ n := fun q => h3 (h.mp q)
    exact ⟨by omega, fun q => h2 (List.mem_cons_of_mem _ q)⟩
  · rintro ⟨h1, h2⟩
    refine ⟨by omega, fun q => ?_⟩
    rcases List.mem_cons.mp q with q | q
    · have := h.mpr q
      omega
    · exact h2 q
theorem celp_cg {E : ce} {n n' : Nat} {pd pd' : List Nat} {μ μ' : mm} {a : Nat} (ha : a < 331) (hm : μ' a = μ a) (h : ∀ k, pt (rf a k) = (a, k) → (set_ n' pd' (rf a k) ↔ set_ n pd (rf a k))) : celp E n' pd' μ' a = celp E n pd μ a := by
  unfold celp
  split
  · rename_i hc
    congr 2
    apply List.map_congr_left
    intro k hk
    unfold fvp
    rw [hm]
    split
    · rename_i hi
      have := h k (pt_o a ha hc k (isr_lt hc hi) hi).1
      simp only [this]
    · rfl
  · split
    · rw [hm]
    · rename_i hc
      congr 7
      funext i
      by_cases hi : i < len a
      · have := h i (pt_r a ha (by omega) i hi).1
        simp only [this]
      · simp only [hi, false_and, if_false]
theorem wp_push {E : ce} {n : Nat} (hn : n < 331) {pd : List Nat} {μ : mm} {e : va_E} (he : e = celp E n pd μ (oi n)) : wp E n pd μ ++ [(E.1 (oi n), e)] = wp E (n + 1) (oi n :: pd) μ := by
  subst he
  unfold wp
  rw [List.range_succ, List.map_append]
  have hc : ∀ i, i < 331 → celp E (n + 1) (oi n :: pd) μ (oi i) = celp E n pd μ (oi i) := fun i hi => celp_cg (oi_lt hi) rfl (fun k _ => set_push hn _)
  congr 1
  · apply List.map_congr_left
    intro i hi
    rw [hc i (by have := List.mem_range.mp hi; omega)]
  · simp only [List.map_cons, List.map_nil]
    rw [hc n hn]
theorem wp_set {E : ce} {n : Nat} {pd pd' : List Nat} {μ μ' : mm} {a : Nat} {e : va_E} (hn : n ≤ 331) (ha : od a < n) (he : e = celp E n pd' μ' a) (hb : ∀ b, b < 331 → b ≠ a → celp E n pd' μ' b = celp E n pd μ b) : (wp E n pd μ).set (od a) (E.1 a, e) = wp E n pd' μ' := by
  subst he
  apply List.ext_getElem?
  intro i
  by_cases hi : i = od a
  · subst hi
    rw [List.getElem?_set_self (by simp [wp]; exact ha), wp_od E pd' μ' hn ha]
  · rw [List.getElem?_set_ne (Ne.symm hi)]
    by_cases hl : i < n
    · rw [wp_at E n pd μ hl, wp_at E n pd' μ' hl, hb (oi i) (oi_lt (by omega)) (fun q => hi (by rw [← q, od_oi (by omega)]))]
    · rw [List.getElem?_eq_none (by simp [wp]; omega), List.getElem?_eq_none (by simp [wp]; omega)]
theorem q_is {E : ce} (hG : Ge E) {n : Nat} (hn : n < 331) {pd : List Nat} {μ : mm} {q : Nat} {e : va_E} {H1 : Heap} (hP : va_P E.2.1 vwCl (wp E n pd μ ++ [(q, e)]) H1) (hD : va_D (An E) (wp E n pd μ ++ [(q, e)])) (hz : H1.size ≤ E.1 23 + n + 1) : q = E.1 (oi n) := by
  have hl : (wp E n pd μ).length = n := by simp [wp]
  have h0 : (wp E n pd μ ++ [(q, e)])[n]? = some (q, e) := by
    rw [List.getElem?_append_right (by omega), hl, Nat.sub_self]
    rfl
  have h1 : q < H1.size := (hP n _ h0).lt
  have h2 : E.1 23 ≤ q := hD.2 n _ h0
  rw [Ge_oi hG hn]
  refine Nat.le_antisymm (by omega) (Nat.not_lt.mp fun h3 => ?_)
  have h4 : (wp E n pd μ ++ [(q, e)])[q - E.1 23]? = some (E.1 (oi (q - E.1 23)), celp E n pd μ (oi (q - E.1 23))) := by
    rw [List.getElem?_append_left (by omega), wp_at E n pd μ (by omega)]
  have h5 := hD.1 _ _ _ _ h4 h0 (by show E.1 (oi (q - E.1 23)) = q; rw [Ge_oi hG (by omega)]; omega)
  omega
