/-! codes put together -/
theorem evM_app {F : Nat → Int32} : ∀ (a b S : List Int32), evM F (a ++ b) S = evM F b (evM F a S)
  | [], _, _ => rfl
  | c :: r, b, S => evM_app r b (st1M F c S)
theorem evC_app {F : Nat → Int32} : ∀ (a b S : List Int32), evC F (a ++ b) S = evC F b (evC F a S)
  | [], _, _ => rfl
  | c :: r, b, S => evC_app r b (st1C F c S)
theorem htM_c {D h : Nat} {c : Int32} {r : List Int32} : htM D (c :: r) h = if c < 30000 then (if h < D then htM D r (h + 1) else none) else if c = 30000 then (if 1 ≤ h then htM D r h else none) else (if 2 ≤ h then htM D r (h - 1) else none) := rfl
theorem htC_c {D h : Nat} {c : Int32} {r : List Int32} : htC D (c :: r) h = if c = -3 then (if 1 ≤ h then htC D r h else none) else if c = -1 ∨ c = -2 then (if 2 ≤ h then htC D r (h - 1) else none) else (if h < D then htC D r (h + 1) else none) := rfl
theorem htM_app {D : Nat} : ∀ (a b : List Int32) (h : Nat), htM D (a ++ b) h = (htM D a h).bind (fun x => htM D b x)
  | [], _, _ => rfl
  | c :: r, b, h => by
    rw [List.cons_append, htM_c, htM_c]
    split
    · split
      · exact htM_app r b _
      · rfl
    · split
      · split
        · exact htM_app r b _
        · rfl
      · split
        · exact htM_app r b _
        · rfl
theorem htC_app {D : Nat} : ∀ (a b : List Int32) (h : Nat), htC D (a ++ b) h = (htC D a h).bind (fun x => htC D b x)
  | [], _, _ => rfl
  | c :: r, b, h => by
    rw [List.cons_append, htC_c, htC_c]
    split
    · split
      · exact htC_app r b _
      · rfl
    · split
      · split
        · exact htC_app r b _
        · rfl
      · split
        · exact htC_app r b _
        · rfl
theorem htM_mono {D D' : Nat} (hD : D ≤ D') : ∀ (a : List Int32) (h x : Nat), htM D a h = some x → htM D' a h = some x
  | [], _, _, e => e
  | c :: r, h, x, e => by
    rw [htM_c] at e ⊢
    split at e
    · rename_i q
      rw [if_pos q]
      split at e
      · rw [if_pos (by omega)]
        exact htM_mono hD r _ _ e
      · cases e
    · rename_i q
      rw [if_neg q]
      split at e
      · rename_i q2
        rw [if_pos q2]
        split at e
        · rename_i q3
          rw [if_pos q3]
          exact htM_mono hD r _ _ e
        · cases e
      · rename_i q2
        rw [if_neg q2]
        split at e
        · rename_i q3
          rw [if_pos q3]
          exact htM_mono hD r _ _ e
        · cases e
theorem htC_mono {D D' : Nat} (hD : D ≤ D') : ∀ (a : List Int32) (h x : Nat), htC D a h = some x → htC D' a h = some x
  | [], _, _, e => e
  | c :: r, h, x, e => by
    rw [htC_c] at e ⊢
    split at e
    · rename_i q
      rw [if_pos q]
      split at e
      · rename_i q3
        rw [if_pos q3]
        exact htC_mono hD r _ _ e
      · cases e
    · rename_i q
      rw [if_neg q]
      split at e
      · rename_i q2
        rw [if_pos q2]
        split at e
        · rename_i q3
          rw [if_pos q3]
          exact htC_mono hD r _ _ e
        · cases e
      · rename_i q2
        rw [if_neg q2]
        split at e
        · rw [if_pos (by omega)]
          exact htC_mono hD r _ _ e
        · cases e
/-- codes of both sides that say the same -/
def gq (d : Nat) (ms cs : List Int32) : Prop := ∃ φ, gdM d ms φ ∧ gdC d cs φ
theorem gq_mono {d d' : Nat} {ms cs : List Int32} (h : gq d ms cs) (hd : d ≤ d') : gq d' ms cs := by
  obtain ⟨φ, ⟨a1, a2, a3⟩, ⟨b1, b2, b3⟩⟩ := h
  exact ⟨φ, ⟨a1, fun k => htM_mono (by omega) _ _ _ (a2 k), a3⟩, ⟨b1, fun k => htC_mono (by omega) _ _ _ (b2 k), b3⟩⟩
theorem code_lt {m : Nat} (h : m < 21000) : nI m < 30000 ∧ ¬ nI m = -3 ∧ ¬ (nI m = -1 ∨ nI m = -2) := by
  refine ⟨nI_lt (b := 30000) (by omega) (by decide), ne_m3 (by omega), fun z => ?_⟩
  rcases z with z | z
  · exact ne_m1 (by omega) z
  · exact absurd (show (0 : Int32) ≤ -2 from z ▸ nI_pos' (by omega)) (by decide)
theorem gq_test {m : Nat} (h : m < 21000) : gq 1 [nI m] [nI m] := by
  obtain ⟨c1, c2, c3⟩ := code_lt h
  refine ⟨fun F => tsM F (nI m), ⟨fun c hc => ?_, fun k => ?_, fun F => ⟨ts_bit' F _, fun S => ?_⟩⟩, ⟨fun c hc => ?_, fun k => ?_, fun F => ⟨ts_bit' F _, fun S => ?_⟩⟩⟩
  · rw [List.mem_singleton.mp hc]
    exact Or.inl ⟨nI_pos' (by omega), nI_lt (b := 21000) h (by decide)⟩
  · rw [htM_c]
    rw [if_pos c1, if_pos (by omega)]
    rfl
  · show st1M F (nI m) S = _
    unfold st1M
    rw [if_pos c1]
  · rw [List.mem_singleton.mp hc]
    exact ⟨Int32.le_trans (by decide) (nI_pos' (n := m) (by omega)), nI_lt (b := 21000) h (by decide)⟩
  · rw [htC_c]
    rw [if_neg c2, if_neg c3, if_pos (by omega)]
    rfl
  · show st1C F (nI m) S = _
    unfold st1C
    rw [if_neg c2, if_neg c3]
theorem bit_and {a b : Int32} (ha : a = 0 ∨ a = 1) (hb : b = 0 ∨ b = 1) : a &&& b = 0 ∨ a &&& b = 1 := by
  rcases ha with rfl | rfl <;> rcases hb with rfl | rfl <;> decide
theorem bit_or {a b : Int32} (ha : a = 0 ∨ a = 1) (hb : b = 0 ∨ b = 1) : a ||| b = 0 ∨ a ||| b = 1 := by
  rcases ha with rfl | rfl <;> rcases hb with rfl | rfl <;> decide
theorem bit_not {a : Int32} (ha : a = 0 ∨ a = 1) : 1 - a = 0 ∨ 1 - a = 1 := by
  rcases ha with rfl | rfl <;> decide
theorem mem_app {P : Int32 → Prop} {a b : List Int32} (ha : ∀ c ∈ a, P c) (hb : ∀ c ∈ b, P c) : ∀ c ∈ a ++ b, P c := fun c hc => by
  rcases List.mem_append.mp hc with h | h
  · exact ha c h
  · exact hb c h
theorem mem_one {P : Int32 → Prop} {x : Int32} (h : P x) : ∀ c ∈ [x], P c := fun c hc => by rw [List.mem_singleton.mp hc]; exact h
theorem ht_two {a b : List Int32} {d1 d2 d : Nat} (e1 : d1 ≤ d) (e2 : d2 + 1 ≤ d) (h1 : ∀ k, htM (k + d1) a k = some (k + 1)) (h2 : ∀ k, htM (k + d2) b k = some (k + 1)) (k : Nat) : htM (k + d) (a ++ b) k = some (k + 2) := by
  rw [htM_app, htM_mono (by omega) _ _ _ (h1 k), Option.bind_some, htM_mono (show k + 1 + d2 ≤ k + d by omega) _ _ _ (h2 (k + 1))]
theorem ht_twoC {a b : List Int32} {d1 d2 d : Nat} (e1 : d1 ≤ d) (e2 : d2 + 1 ≤ d) (h1 : ∀ k, htC (k + d1) a k = some (k + 1)) (h2 : ∀ k, htC (k + d2) b k = some (k + 1)) (k : Nat) : htC (k + d) (a ++ b) k = some (k + 2) := by
  rw [htC_app, htC_mono (by omega) _ _ _ (h1 k), Option.bind_some, htC_mono (show k + 1 + d2 ≤ k + d by omega) _ _ _ (h2 (k + 1))]
theorem gq_and {d1 d2 d : Nat} {m1 c1 m2 c2 : List Int32} (h1 : gq d1 m1 c1) (h2 : gq d2 m2 c2) (e1 : d1 ≤ d) (e2 : d2 + 1 ≤ d) : gq d (m1 ++ m2 ++ [30001]) (c1 ++ c2 ++ [-1]) := by
  obtain ⟨φ, ⟨a1, a2, a3⟩, ⟨b1, b2, b3⟩⟩ := h1
  obtain ⟨ψ, ⟨p1, p2, p3⟩, ⟨q1, q2, q3⟩⟩ := h2
  refine ⟨fun F => φ F &&& ψ F, ⟨mem_app (mem_app a1 p1) (mem_one (Or.inr (Or.inr (Or.inl rfl)))), fun k => ?_, fun F => ⟨bit_and (a3 F).1 (p3 F).1, fun S => ?_⟩⟩, ⟨mem_app (mem_app b1 q1) (mem_one ⟨by decide, by decide⟩), fun k => ?_, fun F => ⟨bit_and (a3 F).1 (p3 F).1, fun S => ?_⟩⟩⟩
  · rw [htM_app, ht_two e1 e2 a2 p2 k, Option.bind_some]
    rw [htM_c, if_neg (by decide), if_neg (by decide), if_pos (by omega)]
    rfl
  · rw [evM_app, evM_app, (a3 F).2, (p3 F).2]
    rfl
  · rw [htC_app, ht_twoC e1 e2 b2 q2 k, Option.bind_some]
    rw [htC_c, if_neg (by decide), if_pos (Or.inl rfl), if_pos (by omega)]
    rfl
  · rw [evC_app, evC_app, (b3 F).2, (q3 F).2]
    rfl
theorem gq_or {d1 d2 d : Nat} {m1 c1 m2 c2 : List Int32} (h1 : gq d1 m1 c1) (h2 : gq d2 m2 c2) (e1 : d1 ≤ d) (e2 : d2 + 1 ≤ d) : gq d (m1 ++ m2 ++ [30002]) (c1 ++ c2 ++ [-2]) := by
  obtain ⟨φ, ⟨a1, a2, a3⟩, ⟨b1, b2, b3⟩⟩ := h1
  obtain ⟨ψ, ⟨p1, p2, p3⟩, ⟨q1, q2, q3⟩⟩ := h2
  refine ⟨fun F => φ F ||| ψ F, ⟨mem_app (mem_app a1 p1) (mem_one (Or.inr (Or.inr (Or.inr rfl)))), fun k => ?_, fun F => ⟨bit_or (a3 F).1 (p3 F).1, fun S => ?_⟩⟩, ⟨mem_app (mem_app b1 q1) (mem_one ⟨by decide, by decide⟩), fun k => ?_, fun F => ⟨bit_or (a3 F).1 (p3 F).1, fun S => ?_⟩⟩⟩
  · rw [htM_app, ht_two e1 e2 a2 p2 k, Option.bind_some]
    rw [htM_c, if_neg (by decide), if_neg (by decide), if_pos (by omega)]
    rfl
  · rw [evM_app, evM_app, (a3 F).2, (p3 F).2]
    rfl
  · rw [htC_app, ht_twoC e1 e2 b2 q2 k, Option.bind_some]
    rw [htC_c, if_neg (by decide), if_pos (Or.inr rfl), if_pos (by omega)]
    rfl
  · rw [evC_app, evC_app, (b3 F).2, (q3 F).2]
    rfl
def nts (t : Nat) : List Int32 := List.replicate t 30000
def ntc (t : Nat) : List Int32 := if t % 2 = 1 then [-3] else []
theorem gq_nots {d : Nat} {ms cs : List Int32} (h : gq d ms cs) (t : Nat) : gq d (ms ++ nts t) (cs ++ ntc t) := by
  obtain ⟨φ, ⟨a1, a2, a3⟩, ⟨b1, b2, b3⟩⟩ := h
  have hM : ∀ t, (∀ c ∈ nts t, okM c) ∧ (∀ D h, htM D (nts t) (h + 1) = some (h + 1)) ∧ ∀ F x S, (x = 0 ∨ x = 1) → evM F (nts t) (x :: S) = (if t % 2 = 1 then 1 - x else x) :: S := by
    intro t
    induction t with
    | zero => exact ⟨fun c hc => absurd hc (List.not_mem_nil), fun D h => rfl, fun F x S hx => rfl⟩
    | succ t ih =>
      obtain ⟨i1, i2, i3⟩ := ih
      refine ⟨fun c hc => ?_, fun D h => ?_, fun F x S hx => ?_⟩
      · rcases List.mem_cons.mp (show c ∈ 30000 :: nts t from hc) with rfl | hc
        · exact Or.inr (Or.inl rfl)
        · exact i1 c hc
      · show htM D (30000 :: nts t) (h + 1) = _
        rw [htM_c, if_neg (by decide), if_pos rfl, if_pos (by omega)]
        exact i2 D h
      · show evM F (nts t) (st1M F 30000 (x :: S)) = _
        have e : st1M F 30000 (x :: S) = (1 - x) :: S := rfl
        rw [e, i3 F (1 - x) S (bit_not hx)]
        by_cases q : t % 2 = 1
        · rw [if_pos q, if_neg (by omega)]
          rcases hx with rfl | rfl <;> rfl
        · rw [if_neg q, if_pos (by omega)]
  obtain ⟨i1, i2, i3⟩ := hM t
  refine ⟨fun F => if t % 2 = 1 then 1 - φ F else φ F, ⟨mem_app a1 i1, fun k => ?_, fun F => ⟨?_, fun S => ?_⟩⟩, ⟨?_, fun k => ?_, fun F => ⟨?_, fun S => ?_⟩⟩⟩
  · rw [htM_app, a2 k, Option.bind_some]
    exact i2 _ _
  · by_cases q : t % 2 = 1
    · dsimp only; rw [if_pos q]; exact bit_not (a3 F).1
    · dsimp only; rw [if_neg q]; exact (a3 F).1
  · rw [evM_app, (a3 F).2]
    exact i3 F _ S (a3 F).1
  · refine mem_app b1 ?_
    unfold ntc
    by_cases q : t % 2 = 1
    · rw [if_pos q]; exact mem_one ⟨by decide, by decide⟩
    · rw [if_neg q]; exact fun c hc => absurd hc (List.not_mem_nil)
  · rw [htC_app, b2 k, Option.bind_some]
    unfold ntc
    by_cases q : t % 2 = 1
    · rw [if_pos q]
      rw [htC_c, if_pos rfl, if_pos (by omega)]
      rfl
    · rw [if_neg q]; rfl
  · by_cases q : t % 2 = 1
    · dsimp only; rw [if_pos q]; exact bit_not (a3 F).1
    · dsimp only; rw [if_neg q]; exact (a3 F).1
  · rw [evC_app, (b3 F).2]
    unfold ntc
    by_cases q : t % 2 = 1
    · dsimp only; rw [if_pos q, if_pos q]; rfl
    · dsimp only; rw [if_neg q, if_neg q]; rfl
