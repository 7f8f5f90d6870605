/-! the first line that holds; numbers by rules -/
/-- the first line of a sort -/
def foS (g : Nat → Int32) (s : Nat) (srt : Int32) : Nat → Nat → Int32
  | 0, _ => -1
  | m + 1, l => if g (288 + 161 * s + 1 + 4 * l) = srt then nI l else foS g s srt m (l + 1)
def fsF (g : Nat → Int32) (s : Nat) (srt : Int32) (h : Nat) : Int32 := fsS g s srt h (nn (g (288 + 161 * s))) 0
def foF (g : Nat → Int32) (s : Nat) (srt : Int32) : Int32 := foS g s srt (nn (g (288 + 161 * s))) 0
def nuS (g : Nat → Int32) (s : Nat) (srt : Int32) (h : Nat) (w : Int32) : Int32 := if fsF g s srt h = -1 then w else g (288 + 161 * s + 2 + 4 * nn (fsF g s srt h))
def noS (g : Nat → Int32) (s : Nat) (srt w : Int32) : Int32 := if foF g s srt = -1 then w else g (288 + 161 * s + 2 + 4 * nn (foF g s srt))
def mvS (g : Nat → Int32) (h : Nat) : Int32 := if foF g 0 5 = -1 then 1 else if fsF g 0 5 h = -1 then 0 else 1
theorem fsS_rg {g : Nat → Int32} {s : Nat} {srt : Int32} {h : Nat} : ∀ m l, fsS g s srt h m l = -1 ∨ ∃ j, l ≤ j ∧ j < l + m ∧ fsS g s srt h m l = nI j ∧ g (288 + 161 * s + 1 + 4 * j) = srt
  | 0, l => Or.inl rfl
  | m + 1, l => by
    unfold fsS
    by_cases c : g (288 + 161 * s + 1 + 4 * l) = srt ∧ holdS g s l h ≠ 0
    · rw [if_pos c]
      exact Or.inr ⟨l, Nat.le_refl _, by omega, rfl, c.1⟩
    · rw [if_neg c]
      rcases fsS_rg m (l + 1) with e | ⟨j, h1, h2, h3, h4⟩
      · exact Or.inl e
      · exact Or.inr ⟨j, by omega, by omega, h3, h4⟩
theorem foS_rg {g : Nat → Int32} {s : Nat} {srt : Int32} : ∀ m l, foS g s srt m l = -1 ∨ ∃ j, l ≤ j ∧ j < l + m ∧ foS g s srt m l = nI j ∧ g (288 + 161 * s + 1 + 4 * j) = srt
  | 0, l => Or.inl rfl
  | m + 1, l => by
    unfold foS
    by_cases c : g (288 + 161 * s + 1 + 4 * l) = srt
    · rw [if_pos c]
      exact Or.inr ⟨l, Nat.le_refl _, by omega, rfl, c⟩
    · rw [if_neg c]
      rcases foS_rg m (l + 1) with e | ⟨j, h1, h2, h3, h4⟩
      · exact Or.inl e
      · exact Or.inr ⟨j, by omega, by omega, h3, h4⟩
/-- what rules need: the lines of a valley on both sides -/
def RS (v : Nat) (μ ν : mm) : Prop := isV v ∧ ∀ s, s < 3 → RC v μ (ν 1) s
/-- a household on both sides -/
def HS (v : Nat) (μ ν : mm) (h : Nat) : Prop := h < 16 ∧ ∀ f, f < 12 → ν 1 (96 + 12 * h + f) = μ (v + 60 + h) f
theorem RS_9 {v : Nat} {μ ν ν' : mm} (h : RS v μ ν) (e : ν' 1 = ν 1) : RS v μ ν' := by
  unfold RS
  rw [e]
  exact h
theorem HS_9 {v h : Nat} {μ ν ν' : mm} (hh : HS v μ ν h) (e : ν' 1 = ν 1) : HS v μ ν' h := by
  unfold HS
  rw [e]
  exact hh
theorem cntS {v s : Nat} {μ ν : mm} (hR : RS v μ ν) (hs : s < 3) : ∃ n, n ≤ 10 ∧ ν 1 (288 + 161 * s) = nI n ∧ nn (ν 1 (288 + 161 * s)) = n ∧ μ (v + 76 + 6 * s) 0 = nI n := by
  obtain ⟨n, z, hn, hz, en, em, -⟩ := hR.2 s hs
  exact ⟨n, hn, en, by rw [en, nn_nI (by omega)], em⟩
theorem sortS {v s l : Nat} {μ ν : mm} (hR : RS v μ ν) (hs : s < 3) (hl : l < nn (ν 1 (288 + 161 * s))) : ν 1 (288 + 161 * s + 1 + 4 * l) = μ (v + 77 + 6 * s) l ∧ (ν 1 (288 + 161 * s + 1 + 4 * l) ≠ 5 → ν 1 (288 + 161 * s + 2 + 4 * l) = μ (v + 78 + 6 * s) l) ∧ (0 ≤ μ (v + 78 + 6 * s) l ∧ μ (v + 78 + 6 * s) l ≤ 999) ∧ (ν 1 (288 + 161 * s + 1 + 4 * l) = 1 → μ (v + 78 + 6 * s) l ≤ 9) := by
  obtain ⟨n, z, hn, hz, en, em, -, hL⟩ := hR.2 s hs
  rw [en, nn_nI (by omega)] at hl
  obtain ⟨a1, a2, a3, a4, a5, -⟩ := hL l hl
  refine ⟨a1, fun q => ?_, a4, fun q => a5 (a1.symm.trans q)⟩
  rw [a3, if_neg (fun z => q (a1.trans z))]
theorem C_first {v s h : Nat} {μ ν : mm} {srt : Int32} (hR : RS v μ ν) (hs : s < 3) (hH : HS v μ ν h) : f_5_firstHolding (v + 76 + 6 * s) srt (v + 60 + h) μ = some (fsF (ν 1) s srt h) := by
  obtain ⟨n, hn, en, nn0, em⟩ := cntS hR hs
  have key : ∀ m l fuel, l + m = n → m < fuel → f_5_firstHolding_l2 (v + 76 + 6 * s) srt (v + 60 + h) μ fuel (nI l) = some (fsS (ν 1) s srt h m l) := by
    intro m
    induction m with
    | zero =>
      intro l fuel h1 h2
      obtain ⟨f, rfl⟩ : ∃ f, fuel = f + 1 := ⟨fuel - 1, by omega⟩
      obtain rfl : l = n := by omega
      unfold f_5_firstHolding_l2
      rw [em, if_pos (Int32.le_refl _)]
      rfl
    | succ m ih =>
      intro l fuel h1 h2
      obtain ⟨f, rfl⟩ : ∃ f, fuel = f + 1 := ⟨fuel - 1, by omega⟩
      have d1 : ¬ nI n ≤ nI l := lt_n1 (by omega) (by omega)
      obtain ⟨b, c, -⟩ := hold_rel (v := v) (s := s) (l := l) (h := h) (μ := μ) (ν := ν) hR.1 hs hH.1 (hR.2 s hs) en hn (by omega) hH.2
      have e1 := (sortS hR hs (l := l) (by omega)).1
      unfold f_5_firstHolding_l2 fsS
      rw [em, if_neg d1, rR_1 hR.1 hs, ldL (lR_77 hR.1 hs) (by omega) (by decide), Option.bind_some, ← e1]
      by_cases d : ν 1 (288 + 161 * s + 1 + 4 * l) = srt
      · rw [if_pos d, c, Option.bind_some]
        by_cases d2 : holdS (ν 1) s l h = 0
        · rw [if_pos d2, if_neg (fun z => z.2 d2), nI_1]
          exact ih (l + 1) f (by omega) (by omega)
        · rw [if_neg d2, if_pos ⟨d, d2⟩]
      · rw [if_neg d, if_neg (fun z => d z.1), nI_1]
        exact ih (l + 1) f (by omega) (by omega)
  unfold f_5_firstHolding fsF
  rw [nn0]
  exact key n 0 FU (by omega) (show n < 2000 by omega)
theorem M_first {v s h : Nat} {μ ν : mm} {srt : Int32} (hR : RS v μ ν) (hs : s < 3) (hH : HS v μ ν h) : ∃ ν', f_12_firstOf 0 (nI s) srt (nI h) ν = some (fsF (ν 1) s srt h, ν') ∧ ∀ b, b ≠ 9 → ν' b = ν b := by
  obtain ⟨n, hn, en, nn0, em⟩ := cntS hR hs
  have key : ∀ m l fuel (ν1 : mm), l + m = n → m < fuel → (∀ b, b ≠ 9 → ν1 b = ν b) → ∃ ν', f_12_firstOf_l3 0 (nI s) srt (nI h) fuel (nI l) ν1 = some (fsS (ν 1) s srt h m l, ν') ∧ ∀ b, b ≠ 9 → ν' b = ν b := by
    intro m
    induction m with
    | zero =>
      intro l fuel ν1 h1 h2 h3
      obtain ⟨f, rfl⟩ : ∃ f, fuel = f + 1 := ⟨fuel - 1, by omega⟩
      obtain rfl : l = n := by omega
      refine ⟨ν1, ?_, h3⟩
      unfold f_12_firstOf_l3
      rw [rf_0_0, ix_288, ld1 (by omega), h3 1 (by decide), en, Option.bind_some, if_pos (Int32.le_refl _)]
      rfl
    | succ m ih =>
      intro l fuel ν1 h1 h2 h3
      obtain ⟨f, rfl⟩ : ∃ f, fuel = f + 1 := ⟨fuel - 1, by omega⟩
      have d1 : ¬ nI n ≤ nI l := lt_n1 (by omega) (by omega)
      have e3 := h3 1 (by decide)
      obtain ⟨b, -, ν2, c1, c2⟩ := hold_rel (v := v) (s := s) (l := l) (h := h) (μ := μ) (ν := ν1) hR.1 hs hH.1 (by rw [e3]; exact hR.2 s hs) (by rw [e3]; exact en) hn (by omega) (by rw [e3]; exact hH.2)
      have c3 : ∀ b, b ≠ 9 → ν2 b = ν b := fun b hb => (c2 b hb).trans (h3 b hb)
      have e0 := lineOf_eq (ν := ν1) hs (show l < 10 by omega) (show 0 < 4 by decide)
      rw [show nI 0 = 0 from rfl, e3] at e0
      rw [e3] at c1
      unfold f_12_firstOf_l3 fsS
      rw [rf_0_0, ix_288, ld1 (by omega), e3, en, Option.bind_some, if_neg d1, e0, Option.bind_some]
      by_cases d : ν 1 (288 + 161 * s + 1 + 4 * l) = srt
      · rw [if_pos (show ν 1 (288 + 161 * s + 1 + 4 * l + 0) = srt from d), c1, Option.bind_some]
        by_cases d2 : holdS (ν 1) s l h = 0
        · rw [if_pos d2, if_neg (fun z => z.2 d2), nI_1]
          exact ih (l + 1) f ν2 (by omega) (by omega) c3
        · rw [if_neg d2, if_pos ⟨d, d2⟩]
          exact ⟨ν2, rfl, c3⟩
      · rw [if_neg (show ¬ ν 1 (288 + 161 * s + 1 + 4 * l + 0) = srt from d), if_neg (fun z => d z.1), nI_1]
        exact ih (l + 1) f ν1 (by omega) (by omega) h3
  unfold f_12_firstOf fsF
  rw [nn0]
  exact key n 0 FU ν (by omega) (show n < 2000 by omega) (fun _ _ => rfl)
theorem C_fo {v s : Nat} {μ ν : mm} {srt : Int32} (hR : RS v μ ν) (hs : s < 3) : f_5_firstOf (v + 76 + 6 * s) srt μ = some (foF (ν 1) s srt) := by
  obtain ⟨n, hn, en, nn0, em⟩ := cntS hR hs
  have key : ∀ m l fuel, l + m = n → m < fuel → f_5_firstOf_l2 (v + 76 + 6 * s) srt μ fuel (nI l) = some (foS (ν 1) s srt m l) := by
    intro m
    induction m with
    | zero =>
      intro l fuel h1 h2
      obtain ⟨f, rfl⟩ : ∃ f, fuel = f + 1 := ⟨fuel - 1, by omega⟩
      obtain rfl : l = n := by omega
      unfold f_5_firstOf_l2
      rw [em, if_pos (Int32.le_refl _)]
      rfl
    | succ m ih =>
      intro l fuel h1 h2
      obtain ⟨f, rfl⟩ : ∃ f, fuel = f + 1 := ⟨fuel - 1, by omega⟩
      have d1 : ¬ nI n ≤ nI l := lt_n1 (by omega) (by omega)
      have e1 := (sortS hR hs (l := l) (by omega)).1
      unfold f_5_firstOf_l2 foS
      rw [em, if_neg d1, rR_1 hR.1 hs, ldL (lR_77 hR.1 hs) (by omega) (by decide), Option.bind_some, ← e1]
      by_cases d : ν 1 (288 + 161 * s + 1 + 4 * l) = srt
      · rw [if_pos d, if_pos d]
      · rw [if_neg d, if_neg d, nI_1]
        exact ih (l + 1) f (by omega) (by omega)
  unfold f_5_firstOf foF
  rw [nn0]
  exact key n 0 FU (by omega) (show n < 2000 by omega)
theorem C_no {v s : Nat} {μ ν : mm} {srt w : Int32} (hR : RS v μ ν) (hs : s < 3) (h5 : srt ≠ 5) : f_5_numberOf (v + 76 + 6 * s) srt w μ = some (noS (ν 1) s srt w) := by
  obtain ⟨n, hn, en, nn0, em⟩ := cntS hR hs
  unfold f_5_numberOf noS
  rw [C_fo hR hs, Option.bind_some]
  rcases foS_rg (g := ν 1) (s := s) (srt := srt) (nn (ν 1 (288 + 161 * s))) 0 with e | ⟨j, h1, h2, h3, h4⟩
  · have e' : foF (ν 1) s srt = -1 := e
    rw [e', if_pos rfl, if_pos rfl]
  · have e' : foF (ν 1) s srt = nI j := h3
    have ne : ¬ nI j = -1 := fun z => absurd (show (0 : Int32) ≤ -1 from z ▸ nI_pos' (by omega)) (by decide)
    have q := (sortS hR hs (l := j) (by omega)).2.1 (by rw [h4]; exact h5)
    rw [e', if_neg ne, if_neg ne, rR_2 hR.1 hs, ldL (lR_78 hR.1 hs) (by omega) (by decide), nn_nI (by omega), q]
    rfl
theorem M_no {v s : Nat} {μ ν : mm} {srt w : Int32} (hR : RS v μ ν) (hs : s < 3) : f_12_firstNumber 0 (nI s) srt w ν = some (noS (ν 1) s srt w) := by
  obtain ⟨n, hn, en, nn0, em⟩ := cntS hR hs
  have key : ∀ m l fuel, l + m = n → m < fuel → f_12_firstNumber_l3 0 (nI s) srt w ν fuel (nI l) = some (if foS (ν 1) s srt m l = -1 then w else ν 1 (288 + 161 * s + 2 + 4 * nn (foS (ν 1) s srt m l))) := by
    intro m
    induction m with
    | zero =>
      intro l fuel h1 h2
      obtain ⟨f, rfl⟩ : ∃ f, fuel = f + 1 := ⟨fuel - 1, by omega⟩
      obtain rfl : l = n := by omega
      unfold f_12_firstNumber_l3
      rw [rf_0_0, ix_288, ld1 (by omega), en, Option.bind_some, if_pos (Int32.le_refl _)]
      rfl
    | succ m ih =>
      intro l fuel h1 h2
      obtain ⟨f, rfl⟩ : ∃ f, fuel = f + 1 := ⟨fuel - 1, by omega⟩
      have d1 : ¬ nI n ≤ nI l := lt_n1 (by omega) (by omega)
      have e0 := lineOf_eq (ν := ν) hs (show l < 10 by omega) (show 0 < 4 by decide)
      have e1 := lineOf_eq (ν := ν) hs (show l < 10 by omega) (show 1 < 4 by decide)
      rw [show nI 0 = 0 from rfl] at e0
      rw [show nI 1 = 1 from rfl] at e1
      have ne : ¬ nI l = -1 := fun z => absurd (show (0 : Int32) ≤ -1 from z ▸ nI_pos' (by omega)) (by decide)
      unfold f_12_firstNumber_l3 foS
      rw [rf_0_0, ix_288, ld1 (by omega), en, Option.bind_some, if_neg d1, e0, Option.bind_some]
      by_cases d : ν 1 (288 + 161 * s + 1 + 4 * l) = srt
      · rw [if_pos (show ν 1 (288 + 161 * s + 1 + 4 * l + 0) = srt from d), e1, if_pos d, if_neg ne, nn_nI (by omega), show 288 + 161 * s + 2 + 4 * l = 288 + 161 * s + 1 + 4 * l + 1 from by omega]
        rfl
      · rw [if_neg (show ¬ ν 1 (288 + 161 * s + 1 + 4 * l + 0) = srt from d), if_neg d, nI_1]
        exact ih (l + 1) f (by omega) (by omega)
  unfold f_12_firstNumber noS foF
  rw [nn0]
  exact key n 0 FU (by omega) (show n < 2000 by omega)
theorem no_rg {v s : Nat} {μ ν : mm} {srt w : Int32} (hR : RS v μ ν) (hs : s < 3) (h5 : srt ≠ 5) (hw : 0 ≤ w ∧ w ≤ 999) : 0 ≤ noS (ν 1) s srt w ∧ noS (ν 1) s srt w ≤ 999 := by
  unfold noS
  rcases foS_rg (g := ν 1) (s := s) (srt := srt) (nn (ν 1 (288 + 161 * s))) 0 with e | ⟨j, h1, h2, h3, h4⟩
  · have e' : foF (ν 1) s srt = -1 := e
    rw [e', if_pos rfl]
    exact hw
  · have e' : foF (ν 1) s srt = nI j := h3
    obtain ⟨n, hn, en, nn0, em⟩ := cntS hR hs
    have ne : ¬ nI j = -1 := fun z => absurd (show (0 : Int32) ≤ -1 from z ▸ nI_pos' (by omega)) (by decide)
    obtain ⟨-, q, r, -⟩ := sortS hR hs (l := j) (by omega)
    rw [e', if_neg ne, nn_nI (by omega), q (by rw [h4]; exact h5)]
    exact r
theorem C_nu {v s h : Nat} {μ ν : mm} {srt w : Int32} (hR : RS v μ ν) (hs : s < 3) (hH : HS v μ ν h) (h5 : srt ≠ 5) : f_5_numberFor (v + 76 + 6 * s) srt (v + 60 + h) w μ = some (nuS (ν 1) s srt h w) := by
  obtain ⟨n, hn, en, nn0, em⟩ := cntS hR hs
  unfold f_5_numberFor nuS
  rw [C_first hR hs hH, Option.bind_some]
  rcases fsS_rg (g := ν 1) (s := s) (srt := srt) (h := h) (nn (ν 1 (288 + 161 * s))) 0 with e | ⟨j, h1, h2, h3, h4⟩
  · have e' : fsF (ν 1) s srt h = -1 := e
    rw [e', if_pos rfl, if_pos rfl]
  · have e' : fsF (ν 1) s srt h = nI j := h3
    have ne : ¬ nI j = -1 := fun z => absurd (show (0 : Int32) ≤ -1 from z ▸ nI_pos' (by omega)) (by decide)
    have q := (sortS hR hs (l := j) (by omega)).2.1 (by rw [h4]; exact h5)
    rw [e', if_neg ne, if_neg ne, rR_2 hR.1 hs, ldL (lR_78 hR.1 hs) (by omega) (by decide), nn_nI (by omega), q]
    rfl
theorem nu_rg {v s h : Nat} {μ ν : mm} {srt w : Int32} (hR : RS v μ ν) (hs : s < 3) (h5 : srt ≠ 5) (hw : 0 ≤ w ∧ w ≤ 999) : 0 ≤ nuS (ν 1) s srt h w ∧ nuS (ν 1) s srt h w ≤ 999 := by
  unfold nuS
  rcases fsS_rg (g := ν 1) (s := s) (srt := srt) (h := h) (nn (ν 1 (288 + 161 * s))) 0 with e | ⟨j, h1, h2, h3, h4⟩
  · have e' : fsF (ν 1) s srt h = -1 := e
    rw [e', if_pos rfl]
    exact hw
  · have e' : fsF (ν 1) s srt h = nI j := h3
    obtain ⟨n, hn, en, nn0, em⟩ := cntS hR hs
    have ne : ¬ nI j = -1 := fun z => absurd (show (0 : Int32) ≤ -1 from z ▸ nI_pos' (by omega)) (by decide)
    obtain ⟨-, q, r, -⟩ := sortS hR hs (l := j) (by omega)
    rw [e', if_neg ne, nn_nI (by omega), q (by rw [h4]; exact h5)]
    exact r
theorem rank_rg {v h : Nat} {μ ν : mm} (hR : RS v μ ν) : 0 ≤ nuS (ν 1) 0 1 h 9 ∧ nuS (ν 1) 0 1 h 9 ≤ 9 := by
  refine ⟨(nu_rg hR (s := 0) (by decide) (by decide) (by decide)).1, ?_⟩
  unfold nuS
  rcases fsS_rg (g := ν 1) (s := 0) (srt := 1) (h := h) (nn (ν 1 (288 + 161 * 0))) 0 with e | ⟨j, h1, h2, h3, h4⟩
  · have e' : fsF (ν 1) 0 1 h = -1 := e
    rw [e', if_pos rfl]
    decide
  · have e' : fsF (ν 1) 0 1 h = nI j := h3
    obtain ⟨n, hn, en, nn0, em⟩ := cntS hR (s := 0) (by decide)
    have ne : ¬ nI j = -1 := fun z => absurd (show (0 : Int32) ≤ -1 from z ▸ nI_pos' (by omega)) (by decide)
    obtain ⟨-, q, -, r⟩ := sortS hR (s := 0) (by decide) (l := j) (by omega)
    rw [e', if_neg ne, nn_nI (by omega), q (by rw [h4]; decide)]
    exact r h4
theorem M_nu {v s h : Nat} {μ ν ν' : mm} {srt w : Int32} (hR : RS v μ ν) (hs : s < 3) (he : ∀ b, b ≠ 9 → ν' b = ν b) : (if 0 ≤ fsF (ν 1) s srt h then (f_12_lineOf 0 (nI s) (fsF (ν 1) s srt h) 1 ν').bind fun x4 => some (x4, ν') else some (w, ν')) = some (nuS (ν 1) s srt h w, ν') := by
  unfold nuS
  rcases fsS_rg (g := ν 1) (s := s) (srt := srt) (h := h) (nn (ν 1 (288 + 161 * s))) 0 with e | ⟨j, h1, h2, h3, h4⟩
  · have e' : fsF (ν 1) s srt h = -1 := e
    rw [e', if_neg (by decide), if_pos rfl]
  · have e' : fsF (ν 1) s srt h = nI j := h3
    obtain ⟨n, hn, en, nn0, em⟩ := cntS hR hs
    have ne : ¬ nI j = -1 := fun z => absurd (show (0 : Int32) ≤ -1 from z ▸ nI_pos' (by omega)) (by decide)
    have e1 := lineOf_eq (ν := ν') hs (show j < 10 by omega) (show 1 < 4 by decide)
    rw [show nI 1 = 1 from rfl, he 1 (by decide)] at e1
    rw [e', if_pos (nI_pos' (by omega)), e1, if_neg ne, nn_nI (by omega), show 288 + 161 * s + 2 + 4 * j = 288 + 161 * s + 1 + 4 * j + 1 from by omega]
    rfl
theorem M_ticket {v h : Nat} {μ ν : mm} (hR : RS v μ ν) (hH : HS v μ ν h) : ∃ ν', f_12_ticket 0 (nI h) ν = some (nuS (ν 1) 0 0 h 0, ν') ∧ ∀ b, b ≠ 9 → ν' b = ν b := by
  obtain ⟨ν', e1, e2⟩ := M_first (s := 0) (srt := 0) hR (by decide) hH
  refine ⟨ν', ?_, e2⟩
  unfold f_12_ticket
  rw [show f_12_firstOf 0 0 0 (nI h) ν = some (fsF (ν 1) 0 0 h, ν') from e1, Option.bind_some]
  exact M_nu (s := 0) hR (by decide) e2
theorem M_rank {v h : Nat} {μ ν : mm} (hR : RS v μ ν) (hH : HS v μ ν h) : ∃ ν', f_12_rank 0 (nI h) ν = some (nuS (ν 1) 0 1 h 9, ν') ∧ ∀ b, b ≠ 9 → ν' b = ν b := by
  obtain ⟨ν', e1, e2⟩ := M_first (s := 0) (srt := 1) hR (by decide) hH
  refine ⟨ν', ?_, e2⟩
  unfold f_12_rank
  rw [show f_12_firstOf 0 0 1 (nI h) ν = some (fsF (ν 1) 0 1 h, ν') from e1, Option.bind_some]
  exact M_nu (s := 0) hR (by decide) e2
theorem M_relief {v h : Nat} {μ ν : mm} (hR : RS v μ ν) (hH : HS v μ ν h) : ∃ ν', f_12_relief 0 (nI h) ν = some (nuS (ν 1) 1 6 h 0, ν') ∧ ∀ b, b ≠ 9 → ν' b = ν b := by
  obtain ⟨ν', e1, e2⟩ := M_first (s := 1) (srt := 6) hR (by decide) hH
  refine ⟨ν', ?_, e2⟩
  unfold f_12_relief
  rw [show f_12_firstOf 0 1 6 (nI h) ν = some (fsF (ν 1) 1 6 h, ν') from e1, Option.bind_some]
  exact M_nu (s := 1) hR (by decide) e2
theorem rl_0 {v : Nat} (hv : isV v) : lda (rf v 11) 0 = some (v + 76) := by rw [rV_0_11 hv]; exact aV_11 (s := 0) hv (by decide)
theorem rl_1 {v : Nat} (hv : isV v) : lda (rf v 11) 1 = some (v + 82) := by rw [rV_0_11 hv]; exact aV_11 (s := 1) hv (by decide)
theorem rl_2 {v : Nat} (hv : isV v) : lda (rf v 11) 2 = some (v + 88) := by rw [rV_0_11 hv]; exact aV_11 (s := 2) hv (by decide)
theorem C_ticket {v h : Nat} {μ ν : mm} (hR : RS v μ ν) (hH : HS v μ ν h) : f_9_ticketOf v (v + 60 + h) μ = some (nuS (ν 1) 0 0 h 0) := by
  unfold f_9_ticketOf
  rw [rl_0 hR.1, Option.bind_some, show f_5_numberFor (v + 76) 0 (v + 60 + h) 0 μ = _ from C_nu (s := 0) hR (by decide) hH (by decide)]
  rfl
theorem C_rank {v h : Nat} {μ ν : mm} (hR : RS v μ ν) (hH : HS v μ ν h) : f_9_rankOf v (v + 60 + h) μ = some (nuS (ν 1) 0 1 h 9) := by
  unfold f_9_rankOf
  rw [rl_0 hR.1, Option.bind_some, show f_5_numberFor (v + 76) 1 (v + 60 + h) 9 μ = _ from C_nu (s := 0) hR (by decide) hH (by decide)]
  rfl
theorem C_relief {v h : Nat} {μ ν : mm} (hR : RS v μ ν) (hH : HS v μ ν h) : f_9_reliefOf v (v + 60 + h) μ = some (nuS (ν 1) 1 6 h 0) := by
  unfold f_9_reliefOf
  rw [rl_1 hR.1, Option.bind_some, show f_5_numberFor (v + 82) 6 (v + 60 + h) 0 μ = _ from C_nu (s := 1) hR (by decide) hH (by decide)]
  rfl
theorem C_vote {v h : Nat} {μ ν : mm} (hR : RS v μ ν) (hH : HS v μ ν h) : f_9_mayVote v (v + 60 + h) μ = some (mvS (ν 1) h) := by
  unfold f_9_mayVote mvS
  rw [rl_0 hR.1, Option.bind_some, show f_5_firstOf (v + 76) 5 μ = _ from C_fo (s := 0) hR (by decide), Option.bind_some, Option.bind_some, show f_5_firstHolding (v + 76) 5 (v + 60 + h) μ = _ from C_first (s := 0) hR (by decide) hH, Option.bind_some]
  by_cases a : foF (ν 1) 0 5 = -1
  · rw [if_pos a, if_pos a]
  · rw [if_neg a, if_neg a]
    by_cases b : fsF (ν 1) 0 5 h = -1
    · rw [if_pos b, if_pos b]
    · rw [if_neg b, if_neg b]
theorem M_told {v : Nat} {μ ν : mm} {a : Int32} (hR : RS v μ ν) : f_12_mayVote_l4 0 a ν FU 0 0 = some (if foF (ν 1) 0 5 = -1 then 0 else 1) := by
  obtain ⟨n, hn, en, nn0, em⟩ := cntS hR (s := 0) (by decide)
  have l0 : ld ν 1 288 = some (nI n) := by rw [← en]; exact ld1 (k := 288) (by decide)
  have one : ∀ m l fuel, l + m = n → m < fuel → f_12_mayVote_l4 0 a ν fuel 1 (nI l) = some 1 := by
    intro m
    induction m with
    | zero =>
      intro l fuel h1 h2
      obtain ⟨f, rfl⟩ : ∃ f, fuel = f + 1 := ⟨fuel - 1, by omega⟩
      obtain rfl : l = n := by omega
      unfold f_12_mayVote_l4
      rw [rf_0_0, l0, Option.bind_some, if_pos (Int32.le_refl _)]
    | succ m ih =>
      intro l fuel h1 h2
      obtain ⟨f, rfl⟩ : ∃ f, fuel = f + 1 := ⟨fuel - 1, by omega⟩
      have d1 : ¬ nI n ≤ nI l := lt_n1 (by omega) (by omega)
      unfold f_12_mayVote_l4
      rw [rf_0_0, l0, Option.bind_some, if_neg d1, if_neg (by decide), nI_1]
      exact ih (l + 1) f (by omega) (by omega)
  have key : ∀ m l fuel, l + m = n → m < fuel → f_12_mayVote_l4 0 a ν fuel 0 (nI l) = some (if foS (ν 1) 0 5 m l = -1 then 0 else 1) := by
    intro m
    induction m with
    | zero =>
      intro l fuel h1 h2
      obtain ⟨f, rfl⟩ : ∃ f, fuel = f + 1 := ⟨fuel - 1, by omega⟩
      obtain rfl : l = n := by omega
      unfold f_12_mayVote_l4
      rw [rf_0_0, l0, Option.bind_some, if_pos (Int32.le_refl _)]
      rfl
    | succ m ih =>
      intro l fuel h1 h2
      obtain ⟨f, rfl⟩ : ∃ f, fuel = f + 1 := ⟨fuel - 1, by omega⟩
      have d1 : ¬ nI n ≤ nI l := lt_n1 (by omega) (by omega)
      have ne : ¬ nI l = -1 := fun z => absurd (show (0 : Int32) ≤ -1 from z ▸ nI_pos' (by omega)) (by decide)
      have e0 := lineOf_eq (ν := ν) (s := 0) (by decide) (show l < 10 by omega) (show 0 < 4 by decide)
      rw [show nI 0 = 0 from rfl] at e0
      unfold f_12_mayVote_l4 foS
      rw [rf_0_0, l0, Option.bind_some, if_neg d1, if_pos rfl, e0, Option.bind_some]
      by_cases d : ν 1 (288 + 161 * 0 + 1 + 4 * l) = 5
      · rw [if_pos (show ν 1 (288 + 161 * 0 + 1 + 4 * l + 0) = 5 from d), if_pos d, if_neg ne, nI_1]
        exact one m (l + 1) f (by omega) (by omega)
      · rw [if_neg (show ¬ ν 1 (288 + 161 * 0 + 1 + 4 * l + 0) = 5 from d), if_neg d, nI_1]
        exact ih (l + 1) f (by omega) (by omega)
  unfold foF
  rw [nn0]
  exact key n 0 FU (by omega) (show n < 2000 by omega)
theorem M_vote {v h : Nat} {μ ν : mm} (hR : RS v μ ν) (hH : HS v μ ν h) : ∃ ν', f_12_mayVote 0 (nI h) ν = some (mvS (ν 1) h, ν') ∧ ∀ b, b ≠ 9 → ν' b = ν b := by
  obtain ⟨ν', e1, e2⟩ := M_first (s := 0) (srt := 5) hR (by decide) hH
  unfold f_12_mayVote mvS
  rw [M_told hR, Option.bind_some]
  by_cases a : foF (ν 1) 0 5 = -1
  · rw [if_pos a, if_pos a]
    exact ⟨ν, rfl, fun _ _ => rfl⟩
  · rw [if_neg a, if_neg a, if_neg (by decide), show f_12_firstOf 0 0 5 (nI h) ν = some (fsF (ν 1) 0 5 h, ν') from e1, Option.bind_some]
    rcases fsS_rg (g := ν 1) (s := 0) (srt := 5) (h := h) (nn (ν 1 (288 + 161 * 0))) 0 with e | ⟨j, h1, h2, h3, h4⟩
    · have e' : fsF (ν 1) 0 5 h = -1 := e
      rw [e']
      exact ⟨ν', rfl, e2⟩
    · have e' : fsF (ν 1) 0 5 h = nI j := h3
      obtain ⟨n, hn, en, nn0, em⟩ := cntS hR (s := 0) (by decide)
      have ne : ¬ nI j = -1 := fun z => absurd (show (0 : Int32) ≤ -1 from z ▸ nI_pos' (by omega)) (by decide)
      rw [e', if_neg (nI_pos (by omega)), if_neg ne]
      exact ⟨ν', rfl, e2⟩
theorem C_safety {v : Nat} {μ ν : mm} (hR : RS v μ ν) : f_9_safety v μ = some (mn (noS (ν 1) 0 2 0) (noS (ν 1) 2 2 0)) := by
  unfold f_9_safety
  rw [rl_0 hR.1, Option.bind_some, show f_5_numberOf (v + 76) 2 0 μ = _ from C_no (s := 0) hR (by decide) (by decide), Option.bind_some, rl_2 hR.1, Option.bind_some, show f_5_numberOf (v + 88) 2 0 μ = _ from C_no (s := 2) hR (by decide) (by decide)]
  rfl
theorem C_quorum {v : Nat} {μ ν : mm} (hR : RS v μ ν) : f_9_quorum v μ = some (noS (ν 1) 0 3 50) := by
  unfold f_9_quorum
  rw [rl_0 hR.1, Option.bind_some, show f_5_numberOf (v + 76) 3 50 μ = _ from C_no (s := 0) hR (by decide) (by decide)]
  rfl
theorem C_weeks {v : Nat} {μ ν : mm} (hR : RS v μ ν) : f_9_evictWeeks v μ = some (noS (ν 1) 2 4 12) := by
  unfold f_9_evictWeeks
  rw [rl_2 hR.1, Option.bind_some, show f_5_numberOf (v + 88) 4 12 μ = _ from C_no (s := 2) hR (by decide) (by decide)]
  rfl
theorem M_ruled0 {v : Nat} {μ ν : mm} (hR : RS v μ ν) : f_12_ruled 0 0 ν = some (noS (ν 1) 0 3 50) := by
  unfold f_12_ruled
  rw [if_pos rfl, show f_12_firstNumber 0 0 3 50 ν = _ from M_no (s := 0) hR (by decide)]
  rfl
theorem M_ruled1 {v : Nat} {μ ν : mm} (hR : RS v μ ν) : f_12_ruled 0 1 ν = some (mn (noS (ν 1) 0 2 0) (noS (ν 1) 2 2 0)) := by
  unfold f_12_ruled
  rw [if_neg (by decide), if_pos rfl, show f_12_firstNumber 0 0 2 0 ν = _ from M_no (s := 0) hR (by decide), Option.bind_some, show f_12_firstNumber 0 2 2 0 ν = _ from M_no (s := 2) hR (by decide)]
  rfl
theorem M_ruled2 {v : Nat} {μ ν : mm} (hR : RS v μ ν) : f_12_ruled 0 2 ν = some (noS (ν 1) 2 4 12) := by
  unfold f_12_ruled
  rw [if_neg (by decide), if_neg (by decide), show f_12_firstNumber 0 2 4 12 ν = _ from M_no (s := 2) hR (by decide)]
  rfl
theorem Cp_RS {μ ν : mm} (h : Cp μ ν) : RS 49 μ ν := ⟨isV_now, h.1.2.2.2.2.2.2.2.2.2.2.2⟩
theorem Cp_HS {μ ν : mm} {p : Nat} (h : Cp μ ν) (hp : p < nn (ν 1 11)) : HS 49 μ ν p := ⟨by have := (IV_nn h.2.1).2.2.1; omega, fun f hf => h.1.2.2.2.2.1 p f hp hf⟩
theorem T_rule {μ ν : mm} (a : Int32) (h : Cp μ ν) : Ok (f_11_rule 23 a μ) fun z => Ok (f_12_rule 0 a ν) fun w => z = w := by
  have hR := Cp_RS h
  by_cases d0 : a = 0
  · subst d0
    exact Ok_of (y := noS (ν 1) 0 3 50) (by simp [f_11_rule, rf_23_0, C_quorum hR]) (Ok_of (y := noS (ν 1) 0 3 50) (by simp [f_12_rule, within_t (show (0 : Int32) ≤ 0 ∧ (0 : Int32) ≤ 2 from by decide), M_ruled0 hR]) rfl)
  by_cases d1 : a = 1
  · subst d1
    exact Ok_of (y := mn (noS (ν 1) 0 2 0) (noS (ν 1) 2 2 0)) (by simp [f_11_rule, rf_23_0, C_safety hR]) (Ok_of (y := mn (noS (ν 1) 0 2 0) (noS (ν 1) 2 2 0)) (by simp [f_12_rule, within_t (show (0 : Int32) ≤ 1 ∧ (1 : Int32) ≤ 2 from by decide), M_ruled1 hR]) rfl)
  by_cases d2 : a = 2
  · subst d2
    exact Ok_of (y := noS (ν 1) 2 4 12) (by simp [f_11_rule, rf_23_0, C_weeks hR]) (Ok_of (y := noS (ν 1) 2 4 12) (by simp [f_12_rule, within_t (show (0 : Int32) ≤ 2 ∧ (2 : Int32) ≤ 2 from by decide), M_ruled2 hR]) rfl)
  have nr : ¬ (0 ≤ a ∧ a ≤ 2) := fun q => by
    obtain ⟨j, hj, rfl⟩ := three_of q
    have : j = 0 ∨ j = 1 ∨ j = 2 := by omega
    rcases this with rfl | rfl | rfl
    · exact d0 rfl
    · exact d1 rfl
    · exact d2 rfl
  exact Ok_of (y := -1) (by simp [f_11_rule, d0, d1, d2]) (Ok_of (y := -1) (by simp [f_12_rule, within_f nr]) rfl)
