/-! deals -/
/-- both sides while a deal runs: the dealer, the trace, whether it was parted by 0; all else as it was -/
def DI (μ0 ν0 : mm) (K : Int32) (q : Nat) (w z : Int32) (μ ν : mm) : Prop := (∀ b, b ≠ 35 → b ≠ 36 → μ b = μ0 b) ∧ (∀ b, b ≠ 0 → b ≠ 22 → ν b = ν0 b) ∧ (∀ j, j < 33 → ν 0 j = ν0 0 j) ∧ (μ 35 2 = K ∧ μ 35 3 = nI q ∧ μ 35 4 = w ∧ μ 35 5 = z) ∧ (ν 0 34 = K ∧ ν 0 35 = nI q ∧ ν 0 36 = w ∧ ν 0 37 = z) ∧ (μ 35 6 = ν 0 38 ∧ (ν 0 38 = 0 ∨ ν 0 38 = 1)) ∧ Tc μ ν
def R2 (μ0 ν0 : mm) (K : Int32) (q : Nat) (w z : Int32) (x y : Option (Int32 × mm)) : Prop := ∃ r μ' ν', x = some (r, μ') ∧ y = some (r, ν') ∧ DI μ0 ν0 K q w z μ' ν'
theorem R2_ret {μ0 ν0 : mm} {K : Int32} {q : Nat} {w z : Int32} {μ ν : mm} {r r' : Int32} (h : DI μ0 ν0 K q w z μ ν) (e : r' = r) : R2 μ0 ν0 K q w z (some (r, μ)) (some (r', ν)) := ⟨r, μ, ν, rfl, by rw [e], h⟩
theorem R2_bind {μ0 ν0 : mm} {K : Int32} {q : Nat} {w z : Int32} {x y : Option (Int32 × mm)} {F G : Int32 × mm → Option (Int32 × mm)} (h : R2 μ0 ν0 K q w z x y) (hF : ∀ r μ' ν', DI μ0 ν0 K q w z μ' ν' → R2 μ0 ν0 K q w z (F (r, μ')) (G (r, ν'))) : R2 μ0 ν0 K q w z (x.bind F) (y.bind G) := by
  obtain ⟨r, μ', ν', rfl, rfl, hd⟩ := h
  exact hF r μ' ν' hd
theorem R2_beg {μ0 ν0 : mm} {K : Int32} {q : Nat} {w z : Int32} {μ ν : mm} {c : Int32} {F G : mm → Option (Int32 × mm)} (h : DI μ0 ν0 K q w z μ ν) (hF : ∀ μ' ν', DI μ0 ν0 K q w z μ' ν' → R2 μ0 ν0 K q w z (F μ') (G ν')) : R2 μ0 ν0 K q w z ((f_0_begin 35 c μ).bind F) ((f_12_began 0 c ν).bind G) := by
  obtain ⟨h1, h2, h3, h4, h5, h6, n, hn, e1, e2, hk⟩ := id h
  unfold f_0_begin f_12_began
  rw [e1, e2]
  by_cases c30 : (30 : Int32) ≤ nI n
  · rw [if_pos c30, if_pos c30]
    exact hF μ ν h
  · have hn2 : n < 30 := by
      rcases Nat.lt_or_ge n 30 with g | g
      · exact g
      · exact absurd (nI_le (a := 30) g (by omega)) c30
    rw [if_neg c30, if_neg c30, rf_35_0, rf_0_32, stoL len_36 hn2 (by decide), stoL len_22 hn2 (by decide), Option.bind_some, Option.bind_some, pf_eq, pf_eq, Option.bind_some, Option.bind_some, up_nc (by decide), up_nc (by decide), e1, e2, nI_1]
    have ga : ∀ j, j ≠ 1 → up (up μ 36 n c) 35 1 (nI (n + 1)) 35 j = μ 35 j := fun j hj => by rw [up_ns hj, up_nc (by decide)]
    have gb2 : ∀ j, j ≠ 33 → up (up ν 22 n c) 0 33 (nI (n + 1)) 0 j = ν 0 j := fun j hj => by rw [up_ns hj, up_nc (by decide)]
    refine hF _ _ ⟨fun b q1 q2 => ?_, fun b q1 q2 => ?_, fun j hj => ?_, ?_, ?_, ?_, n + 1, by omega, up_at, up_at, fun k hk2 => ?_⟩
    · rw [up_ne q1, up_ne q2]
      exact h1 b q1 q2
    · rw [up_ne q1, up_ne q2]
      exact h2 b q1 q2
    · rw [up_ns (by omega), up_nc (by decide)]
      exact h3 j hj
    · rw [ga 2 (by decide), ga 3 (by decide), ga 4 (by decide), ga 5 (by decide)]
      exact h4
    · rw [gb2 34 (by decide), gb2 35 (by decide), gb2 36 (by decide), gb2 37 (by decide)]
      exact h5
    · rw [ga 6 (by decide), gb2 38 (by decide)]
      exact h6
    · rw [up_ne (a := 35) (b := 36) (by decide), up_ne (a := 0) (b := 22) (by decide)]
      by_cases e : k = n
      · subst e
        rw [up_at, up_at]
      · rw [up_ns e, up_ns e]
        exact hk k (by omega)
theorem G_step {a d x k' : Int32} {m : Nat} {ν : mm} (h : f_12_bodyFrom_l3 (f_12_dealt_G (m + 1)) 0 d x ν FU a = some k') : f_12_dealt_G (m + 2) 1 0 a d x ν = f_12_body_b (f_12_dealt_G m) 0 k' d x ν := by
  show f_12_bodyFrom_b (f_12_dealt_G (m + 1)) 0 a d x ν = _
  unfold f_12_bodyFrom_b
  rw [h, Option.bind_some]
  show ((f_12_body_b (f_12_dealt_G m) 0 k' d x ν).bind fun z4 => some (z4.1, z4.2)) = _
  rw [bind_eta]
theorem G_dealt {d x y : Int32} {m : Nat} {ν : mm} : f_12_dealt_G (m + 1) 0 0 d x y ν = f_12_dealt_G m 1 0 (ν 0 34) d x ν := by
  show f_12_dealt_b (f_12_dealt_G m) 0 d x ν = _
  unfold f_12_dealt_b
  rw [bind_eta]
theorem l3_0_0 {rc : Nat → Nat → Int32 → Int32 → Int32 → mm → Option (Int32 × mm)} {x : Int32} {ν : mm} : f_12_bodyFrom_l3 rc 0 0 x ν FU 0 = some 0 := by
  obtain ⟨n, hfu⟩ : ∃ n, FU = n + 5 := ⟨1995, rfl⟩
  rw [hfu]
  simp [f_12_bodyFrom_l3, f_12_has, f_12_above]
theorem l3_1_0 {rc : Nat → Nat → Int32 → Int32 → Int32 → mm → Option (Int32 × mm)} {x : Int32} {ν : mm} : f_12_bodyFrom_l3 rc 0 0 x ν FU 1 = some 1 := by
  obtain ⟨n, hfu⟩ : ∃ n, FU = n + 5 := ⟨1995, rfl⟩
  rw [hfu]
  simp [f_12_bodyFrom_l3, f_12_has, f_12_above]
theorem l3_2_0 {rc : Nat → Nat → Int32 → Int32 → Int32 → mm → Option (Int32 × mm)} {x : Int32} {ν : mm} : f_12_bodyFrom_l3 rc 0 0 x ν FU 2 = some 0 := by
  obtain ⟨n, hfu⟩ : ∃ n, FU = n + 5 := ⟨1995, rfl⟩
  rw [hfu]
  simp [f_12_bodyFrom_l3, f_12_has, f_12_above]
theorem l3_3_0 {rc : Nat → Nat → Int32 → Int32 → Int32 → mm → Option (Int32 × mm)} {x : Int32} {ν : mm} : f_12_bodyFrom_l3 rc 0 0 x ν FU 3 = some 0 := by
  obtain ⟨n, hfu⟩ : ∃ n, FU = n + 5 := ⟨1995, rfl⟩
  rw [hfu]
  simp [f_12_bodyFrom_l3, f_12_has, f_12_above]
theorem l3_4_0 {rc : Nat → Nat → Int32 → Int32 → Int32 → mm → Option (Int32 × mm)} {x : Int32} {ν : mm} : f_12_bodyFrom_l3 rc 0 0 x ν FU 4 = some 4 := by
  obtain ⟨n, hfu⟩ : ∃ n, FU = n + 5 := ⟨1995, rfl⟩
  rw [hfu]
  simp [f_12_bodyFrom_l3, f_12_has, f_12_above]
theorem l3_5_0 {rc : Nat → Nat → Int32 → Int32 → Int32 → mm → Option (Int32 × mm)} {x : Int32} {ν : mm} : f_12_bodyFrom_l3 rc 0 0 x ν FU 5 = some 1 := by
  obtain ⟨n, hfu⟩ : ∃ n, FU = n + 5 := ⟨1995, rfl⟩
  rw [hfu]
  simp [f_12_bodyFrom_l3, f_12_has, f_12_above]
theorem l3_6_0 {rc : Nat → Nat → Int32 → Int32 → Int32 → mm → Option (Int32 × mm)} {x : Int32} {ν : mm} : f_12_bodyFrom_l3 rc 0 0 x ν FU 6 = some 6 := by
  obtain ⟨n, hfu⟩ : ∃ n, FU = n + 5 := ⟨1995, rfl⟩
  rw [hfu]
  simp [f_12_bodyFrom_l3, f_12_has, f_12_above]
theorem l3_0_1 {rc : Nat → Nat → Int32 → Int32 → Int32 → mm → Option (Int32 × mm)} {x : Int32} {ν : mm} : f_12_bodyFrom_l3 rc 0 1 x ν FU 0 = some 0 := by
  obtain ⟨n, hfu⟩ : ∃ n, FU = n + 5 := ⟨1995, rfl⟩
  rw [hfu]
  simp [f_12_bodyFrom_l3, f_12_has, f_12_above]
theorem l3_1_1 {rc : Nat → Nat → Int32 → Int32 → Int32 → mm → Option (Int32 × mm)} {x : Int32} {ν : mm} : f_12_bodyFrom_l3 rc 0 1 x ν FU 1 = some 0 := by
  obtain ⟨n, hfu⟩ : ∃ n, FU = n + 5 := ⟨1995, rfl⟩
  rw [hfu]
  simp [f_12_bodyFrom_l3, f_12_has, f_12_above]
theorem l3_2_1 {rc : Nat → Nat → Int32 → Int32 → Int32 → mm → Option (Int32 × mm)} {x : Int32} {ν : mm} : f_12_bodyFrom_l3 rc 0 1 x ν FU 2 = some 2 := by
  obtain ⟨n, hfu⟩ : ∃ n, FU = n + 5 := ⟨1995, rfl⟩
  rw [hfu]
  simp [f_12_bodyFrom_l3, f_12_has, f_12_above]
theorem l3_3_1 {rc : Nat → Nat → Int32 → Int32 → Int32 → mm → Option (Int32 × mm)} {x : Int32} {ν : mm} : f_12_bodyFrom_l3 rc 0 1 x ν FU 3 = some 0 := by
  obtain ⟨n, hfu⟩ : ∃ n, FU = n + 5 := ⟨1995, rfl⟩
  rw [hfu]
  simp [f_12_bodyFrom_l3, f_12_has, f_12_above]
theorem l3_4_1 {rc : Nat → Nat → Int32 → Int32 → Int32 → mm → Option (Int32 × mm)} {x : Int32} {ν : mm} : f_12_bodyFrom_l3 rc 0 1 x ν FU 4 = some 0 := by
  obtain ⟨n, hfu⟩ : ∃ n, FU = n + 5 := ⟨1995, rfl⟩
  rw [hfu]
  simp [f_12_bodyFrom_l3, f_12_has, f_12_above]
theorem l3_5_1 {rc : Nat → Nat → Int32 → Int32 → Int32 → mm → Option (Int32 × mm)} {x : Int32} {ν : mm} : f_12_bodyFrom_l3 rc 0 1 x ν FU 5 = some 5 := by
  obtain ⟨n, hfu⟩ : ∃ n, FU = n + 5 := ⟨1995, rfl⟩
  rw [hfu]
  simp [f_12_bodyFrom_l3, f_12_has, f_12_above]
theorem l3_6_1 {rc : Nat → Nat → Int32 → Int32 → Int32 → mm → Option (Int32 × mm)} {x : Int32} {ν : mm} : f_12_bodyFrom_l3 rc 0 1 x ν FU 6 = some 0 := by
  obtain ⟨n, hfu⟩ : ∃ n, FU = n + 5 := ⟨1995, rfl⟩
  rw [hfu]
  simp [f_12_bodyFrom_l3, f_12_has, f_12_above]
theorem l3_0_2 {rc : Nat → Nat → Int32 → Int32 → Int32 → mm → Option (Int32 × mm)} {x : Int32} {ν : mm} : f_12_bodyFrom_l3 rc 0 2 x ν FU 0 = some 0 := by
  obtain ⟨n, hfu⟩ : ∃ n, FU = n + 5 := ⟨1995, rfl⟩
  rw [hfu]
  simp [f_12_bodyFrom_l3, f_12_has, f_12_above]
theorem l3_1_2 {rc : Nat → Nat → Int32 → Int32 → Int32 → mm → Option (Int32 × mm)} {x : Int32} {ν : mm} : f_12_bodyFrom_l3 rc 0 2 x ν FU 1 = some 1 := by
  obtain ⟨n, hfu⟩ : ∃ n, FU = n + 5 := ⟨1995, rfl⟩
  rw [hfu]
  simp [f_12_bodyFrom_l3, f_12_has, f_12_above]
theorem l3_2_2 {rc : Nat → Nat → Int32 → Int32 → Int32 → mm → Option (Int32 × mm)} {x : Int32} {ν : mm} : f_12_bodyFrom_l3 rc 0 2 x ν FU 2 = some 0 := by
  obtain ⟨n, hfu⟩ : ∃ n, FU = n + 5 := ⟨1995, rfl⟩
  rw [hfu]
  simp [f_12_bodyFrom_l3, f_12_has, f_12_above]
theorem l3_3_2 {rc : Nat → Nat → Int32 → Int32 → Int32 → mm → Option (Int32 × mm)} {x : Int32} {ν : mm} : f_12_bodyFrom_l3 rc 0 2 x ν FU 3 = some 3 := by
  obtain ⟨n, hfu⟩ : ∃ n, FU = n + 5 := ⟨1995, rfl⟩
  rw [hfu]
  simp [f_12_bodyFrom_l3, f_12_has, f_12_above]
theorem l3_4_2 {rc : Nat → Nat → Int32 → Int32 → Int32 → mm → Option (Int32 × mm)} {x : Int32} {ν : mm} : f_12_bodyFrom_l3 rc 0 2 x ν FU 4 = some 1 := by
  obtain ⟨n, hfu⟩ : ∃ n, FU = n + 5 := ⟨1995, rfl⟩
  rw [hfu]
  simp [f_12_bodyFrom_l3, f_12_has, f_12_above]
theorem l3_5_2 {rc : Nat → Nat → Int32 → Int32 → Int32 → mm → Option (Int32 × mm)} {x : Int32} {ν : mm} : f_12_bodyFrom_l3 rc 0 2 x ν FU 5 = some 1 := by
  obtain ⟨n, hfu⟩ : ∃ n, FU = n + 5 := ⟨1995, rfl⟩
  rw [hfu]
  simp [f_12_bodyFrom_l3, f_12_has, f_12_above]
theorem l3_6_2 {rc : Nat → Nat → Int32 → Int32 → Int32 → mm → Option (Int32 × mm)} {x : Int32} {ν : mm} : f_12_bodyFrom_l3 rc 0 2 x ν FU 6 = some 6 := by
  obtain ⟨n, hfu⟩ : ∃ n, FU = n + 5 := ⟨1995, rfl⟩
  rw [hfu]
  simp [f_12_bodyFrom_l3, f_12_has, f_12_above]
theorem l3_0_3 {rc : Nat → Nat → Int32 → Int32 → Int32 → mm → Option (Int32 × mm)} {x : Int32} {ν : mm} : f_12_bodyFrom_l3 rc 0 3 x ν FU 0 = some 0 := by
  obtain ⟨n, hfu⟩ : ∃ n, FU = n + 5 := ⟨1995, rfl⟩
  rw [hfu]
  simp [f_12_bodyFrom_l3, f_12_has, f_12_above]
theorem l3_1_3 {rc : Nat → Nat → Int32 → Int32 → Int32 → mm → Option (Int32 × mm)} {x : Int32} {ν : mm} : f_12_bodyFrom_l3 rc 0 3 x ν FU 1 = some 0 := by
  obtain ⟨n, hfu⟩ : ∃ n, FU = n + 5 := ⟨1995, rfl⟩
  rw [hfu]
  simp [f_12_bodyFrom_l3, f_12_has, f_12_above]
theorem l3_2_3 {rc : Nat → Nat → Int32 → Int32 → Int32 → mm → Option (Int32 × mm)} {x : Int32} {ν : mm} : f_12_bodyFrom_l3 rc 0 3 x ν FU 2 = some 0 := by
  obtain ⟨n, hfu⟩ : ∃ n, FU = n + 5 := ⟨1995, rfl⟩
  rw [hfu]
  simp [f_12_bodyFrom_l3, f_12_has, f_12_above]
theorem l3_3_3 {rc : Nat → Nat → Int32 → Int32 → Int32 → mm → Option (Int32 × mm)} {x : Int32} {ν : mm} : f_12_bodyFrom_l3 rc 0 3 x ν FU 3 = some 3 := by
  obtain ⟨n, hfu⟩ : ∃ n, FU = n + 5 := ⟨1995, rfl⟩
  rw [hfu]
  simp [f_12_bodyFrom_l3, f_12_has, f_12_above]
theorem l3_4_3 {rc : Nat → Nat → Int32 → Int32 → Int32 → mm → Option (Int32 × mm)} {x : Int32} {ν : mm} : f_12_bodyFrom_l3 rc 0 3 x ν FU 4 = some 0 := by
  obtain ⟨n, hfu⟩ : ∃ n, FU = n + 5 := ⟨1995, rfl⟩
  rw [hfu]
  simp [f_12_bodyFrom_l3, f_12_has, f_12_above]
theorem l3_5_3 {rc : Nat → Nat → Int32 → Int32 → Int32 → mm → Option (Int32 × mm)} {x : Int32} {ν : mm} : f_12_bodyFrom_l3 rc 0 3 x ν FU 5 = some 5 := by
  obtain ⟨n, hfu⟩ : ∃ n, FU = n + 5 := ⟨1995, rfl⟩
  rw [hfu]
  simp [f_12_bodyFrom_l3, f_12_has, f_12_above]
theorem l3_6_3 {rc : Nat → Nat → Int32 → Int32 → Int32 → mm → Option (Int32 × mm)} {x : Int32} {ν : mm} : f_12_bodyFrom_l3 rc 0 3 x ν FU 6 = some 3 := by
  obtain ⟨n, hfu⟩ : ∃ n, FU = n + 5 := ⟨1995, rfl⟩
  rw [hfu]
  simp [f_12_bodyFrom_l3, f_12_has, f_12_above]
theorem bd_0 {rc : Nat → Nat → Int32 → Int32 → Int32 → mm → Option (Int32 × mm)} {x : Int32} {ν : mm} : f_12_body_b rc 0 0 0 x ν = (f_12_began 0 10 ν).bind fun μ2 => some ((x + (μ2 0 37)), μ2) := by
  unfold f_12_body_b
  rw [if_pos (by decide)]
theorem bd_1 {rc : Nat → Nat → Int32 → Int32 → Int32 → mm → Option (Int32 × mm)} {x : Int32} {ν : mm} : f_12_body_b rc 0 0 1 x ν = (f_12_began 0 11 ν).bind fun μ4 => (rc 0 0 0 x 0 μ4).bind fun z6 => some ((z6.1 * 2), z6.2) := by
  unfold f_12_body_b
  rw [if_neg (by decide), if_pos (by decide)]
theorem bd_2 {rc : Nat → Nat → Int32 → Int32 → Int32 → mm → Option (Int32 × mm)} {x : Int32} {ν : mm} : f_12_body_b rc 0 0 2 x ν = (f_12_began 0 12 ν).bind fun μ8 => (rc 0 0 1 x 0 μ8).bind fun z10 => some ((z10.1 - (z10.2 0 36)), z10.2) := by
  unfold f_12_body_b
  rw [if_neg (by decide), if_neg (by decide), if_pos (by decide)]
theorem bd_3 {rc : Nat → Nat → Int32 → Int32 → Int32 → mm → Option (Int32 × mm)} {x : Int32} {ν : mm} : f_12_body_b rc 0 0 3 x ν = (f_12_began 0 13 ν).bind fun μ12 => (if (μ12 0 38) = 0 then if (μ12 0 35) = 1 then some 1 else some 0 else some 1).bind fun (z13 : Int32) => (gb z13).bind fun _ => (pf μ12 0 38 z13).bind fun μ14 => if (μ14 0 35) = 1 then some (0, μ14) else (gd ((μ14 0 35) - 1)).bind fun _ => some ((x / ((μ14 0 35) - 1)), μ14) := by
  unfold f_12_body_b
  rw [if_neg (by decide), if_neg (by decide), if_neg (by decide), if_pos (by decide)]
theorem bd_4 {rc : Nat → Nat → Int32 → Int32 → Int32 → mm → Option (Int32 × mm)} {x : Int32} {ν : mm} : f_12_body_b rc 0 1 0 x ν = (f_12_began 0 20 ν).bind fun μ19 => (rc 1 0 0 0 x μ19).bind fun z21 => some ((z21.1 ^^^ (z21.2 0 35)), z21.2) := by
  unfold f_12_body_b
  rw [if_neg (by decide), if_neg (by decide), if_neg (by decide), if_neg (by decide), if_pos (by decide)]
theorem bd_6 {rc : Nat → Nat → Int32 → Int32 → Int32 → mm → Option (Int32 × mm)} {x : Int32} {ν : mm} : f_12_body_b rc 0 1 2 x ν = (f_12_began 0 21 ν).bind fun μ23 => (rc 1 0 0 2 x μ23).bind fun z25 => (rc 0 0 0 1 0 z25.2).bind fun z27 => some ((z25.1 + z27.1), z27.2) := by
  unfold f_12_body_b
  rw [if_neg (by decide), if_neg (by decide), if_neg (by decide), if_neg (by decide), if_neg (by decide), if_pos (by decide)]
theorem bd_9 {rc : Nat → Nat → Int32 → Int32 → Int32 → mm → Option (Int32 × mm)} {x : Int32} {ν : mm} : f_12_body_b rc 0 2 1 x ν = (f_12_began 0 30 ν).bind fun μ29 => (rc 1 0 0 1 x μ29).bind fun z31 => some ((0 - z31.1), z31.2) := by
  unfold f_12_body_b
  rw [if_neg (by decide), if_neg (by decide), if_neg (by decide), if_neg (by decide), if_neg (by decide), if_neg (by decide), if_pos (by decide)]
theorem bd_14 {rc : Nat → Nat → Int32 → Int32 → Int32 → mm → Option (Int32 × mm)} {x : Int32} {ν : mm} : f_12_body_b rc 0 3 2 x ν = (f_12_began 0 40 ν).bind fun μ33 => (rc 1 0 0 2 x μ33).bind fun z35 => some ((z35.1 * 3), z35.2) := by
  unfold f_12_body_b
  rw [if_neg (by decide), if_neg (by decide), if_neg (by decide), if_neg (by decide), if_neg (by decide), if_neg (by decide), if_neg (by decide), if_pos (by decide)]
theorem bd_15 {rc : Nat → Nat → Int32 → Int32 → Int32 → mm → Option (Int32 × mm)} {x : Int32} {ν : mm} : f_12_body_b rc 0 3 3 x ν = (f_12_began 0 41 ν).bind fun μ37 => (rc 1 0 0 3 (x + (μ37 0 36)) μ37).bind fun z39 => some (z39.1, z39.2) := by
  unfold f_12_body_b
  rw [if_neg (by decide), if_neg (by decide), if_neg (by decide), if_neg (by decide), if_neg (by decide), if_neg (by decide), if_neg (by decide), if_neg (by decide), if_pos (by decide)]
theorem bd_16 {rc : Nat → Nat → Int32 → Int32 → Int32 → mm → Option (Int32 × mm)} {x : Int32} {ν : mm} : f_12_body_b rc 0 4 0 x ν = (f_12_began 0 50 ν).bind fun μ41 => (rc 1 0 1 0 (x - 1) μ41).bind fun z43 => some (z43.1, z43.2) := by
  unfold f_12_body_b
  rw [if_neg (by decide), if_neg (by decide), if_neg (by decide), if_neg (by decide), if_neg (by decide), if_neg (by decide), if_neg (by decide), if_neg (by decide), if_neg (by decide), if_pos (by decide)]
theorem bd_21 {rc : Nat → Nat → Int32 → Int32 → Int32 → mm → Option (Int32 × mm)} {x : Int32} {ν : mm} : f_12_body_b rc 0 5 1 x ν = (f_12_began 0 60 ν).bind fun μ45 => (rc 1 0 1 1 x μ45).bind fun z47 => some ((z47.1 + 5), z47.2) := by
  unfold f_12_body_b
  rw [if_neg (by decide), if_neg (by decide), if_neg (by decide), if_neg (by decide), if_neg (by decide), if_neg (by decide), if_neg (by decide), if_neg (by decide), if_neg (by decide), if_neg (by decide), if_pos (by decide)]
theorem bd_23 {rc : Nat → Nat → Int32 → Int32 → Int32 → mm → Option (Int32 × mm)} {x : Int32} {ν : mm} : f_12_body_b rc 0 5 3 x ν = (f_12_began 0 61 ν).bind fun μ49 => (rc 1 0 1 3 x μ49).bind fun z51 => some ((0 - z51.1), z51.2) := by
  unfold f_12_body_b
  rw [if_neg (by decide), if_neg (by decide), if_neg (by decide), if_neg (by decide), if_neg (by decide), if_neg (by decide), if_neg (by decide), if_neg (by decide), if_neg (by decide), if_neg (by decide), if_neg (by decide), if_pos (by decide)]
theorem bd_26 {rc : Nat → Nat → Int32 → Int32 → Int32 → mm → Option (Int32 × mm)} {x : Int32} {ν : mm} : f_12_body_b rc 0 6 2 x ν = (f_12_began 0 70 ν).bind fun μ53 => (rc 1 0 3 2 x μ53).bind fun z55 => (rc 0 0 1 0 0 z55.2).bind fun z57 => some ((z55.1 - z57.1), z57.2) := by
  unfold f_12_body_b
  rw [if_neg (by decide), if_neg (by decide), if_neg (by decide), if_neg (by decide), if_neg (by decide), if_neg (by decide), if_neg (by decide), if_neg (by decide), if_neg (by decide), if_neg (by decide), if_neg (by decide), if_neg (by decide), if_pos (by decide)]
theorem bd_24 {rc : Nat → Nat → Int32 → Int32 → Int32 → mm → Option (Int32 × mm)} {x : Int32} {ν : mm} : f_12_body_b rc 0 6 0 x ν = (f_12_began 0 71 ν).bind fun μ59 => (rc 1 0 3 0 x μ59).bind fun z61 => some ((z61.1 * (z61.2 0 35)), z61.2) := by
  unfold f_12_body_b
  rw [if_neg (by decide), if_neg (by decide), if_neg (by decide), if_neg (by decide), if_neg (by decide), if_neg (by decide), if_neg (by decide), if_neg (by decide), if_neg (by decide), if_neg (by decide), if_neg (by decide), if_neg (by decide), if_neg (by decide)]
theorem E_0 {μ0 ν0 : mm} {K : Int32} {q : Nat} {w z : Int32} {n m : Nat} {x : Int32} {μ ν : mm} (h : DI μ0 ν0 K q w z μ ν) (hm : 2 ≤ m) : R2 μ0 ν0 K q w z (f_0_eats_G (n + 1) 0 35 0 x μ) (f_12_dealt_G m 1 0 0 0 x ν) := by
  obtain ⟨m, rfl⟩ : ∃ j, m = j + 2 := ⟨m - 2, by omega⟩
  rw [G_step (l3_0_0)]
  rw [bd_0]
  show R2 _ _ _ _ _ _ (f_0_eats_b (f_0_eats_G n) 35 0 x μ) _
  unfold f_0_eats_b
  rw [if_neg (by decide), if_neg (by decide), if_neg (by decide), if_neg (by decide)]
  refine R2_beg h fun μ1 ν1 h1 => R2_ret h1 ?_
  rw [h1.2.2.2.1.2.2.2, h1.2.2.2.2.1.2.2.2]
theorem E_2 {μ0 ν0 : mm} {K : Int32} {q : Nat} {w z : Int32} {n m : Nat} {x : Int32} {μ ν : mm} (h : DI μ0 ν0 K q w z μ ν) (hm : 2 ≤ m) : R2 μ0 ν0 K q w z (f_0_eats_G (n + 1) 0 35 2 x μ) (f_12_dealt_G m 1 0 2 0 x ν) := by
  obtain ⟨m, rfl⟩ : ∃ j, m = j + 2 := ⟨m - 2, by omega⟩
  rw [G_step (l3_2_0)]
  rw [bd_0]
  show R2 _ _ _ _ _ _ (f_0_eats_b (f_0_eats_G n) 35 2 x μ) _
  unfold f_0_eats_b
  rw [if_neg (by decide), if_neg (by decide), if_neg (by decide), if_neg (by decide)]
  refine R2_beg h fun μ1 ν1 h1 => R2_ret h1 ?_
  rw [h1.2.2.2.1.2.2.2, h1.2.2.2.2.1.2.2.2]
theorem E_3 {μ0 ν0 : mm} {K : Int32} {q : Nat} {w z : Int32} {n m : Nat} {x : Int32} {μ ν : mm} (h : DI μ0 ν0 K q w z μ ν) (hm : 2 ≤ m) : R2 μ0 ν0 K q w z (f_0_eats_G (n + 1) 0 35 3 x μ) (f_12_dealt_G m 1 0 3 0 x ν) := by
  obtain ⟨m, rfl⟩ : ∃ j, m = j + 2 := ⟨m - 2, by omega⟩
  rw [G_step (l3_3_0)]
  rw [bd_0]
  show R2 _ _ _ _ _ _ (f_0_eats_b (f_0_eats_G n) 35 3 x μ) _
  unfold f_0_eats_b
  rw [if_neg (by decide), if_neg (by decide), if_neg (by decide), if_neg (by decide)]
  refine R2_beg h fun μ1 ν1 h1 => R2_ret h1 ?_
  rw [h1.2.2.2.1.2.2.2, h1.2.2.2.2.1.2.2.2]
theorem E_1 {μ0 ν0 : mm} {K : Int32} {q : Nat} {w z : Int32} {n m : Nat} {x : Int32} {μ ν : mm} (h : DI μ0 ν0 K q w z μ ν) (hm : 4 ≤ m) : R2 μ0 ν0 K q w z (f_0_eats_G (n + 2) 0 35 1 x μ) (f_12_dealt_G m 1 0 1 0 x ν) := by
  obtain ⟨m, rfl⟩ : ∃ j, m = j + 2 := ⟨m - 2, by omega⟩
  rw [G_step (l3_1_0)]
  rw [bd_4]
  show R2 _ _ _ _ _ _ (f_0_eats_b (f_0_eats_G (n + 1)) 35 1 x μ) _
  unfold f_0_eats_b
  rw [if_pos rfl]
  refine R2_beg h fun μ1 ν1 h1 => R2_bind (E_0 h1 (by omega)) fun r μ2 ν2 h2 => R2_ret h2 ?_
  dsimp only
  rw [h2.2.2.2.1.2.1, h2.2.2.2.2.1.2.1]
theorem E_4 {μ0 ν0 : mm} {K : Int32} {q : Nat} {w z : Int32} {n m : Nat} {x : Int32} {μ ν : mm} (h : DI μ0 ν0 K q w z μ ν) (hm : 6 ≤ m) : R2 μ0 ν0 K q w z (f_0_eats_G (n + 3) 0 35 4 x μ) (f_12_dealt_G m 1 0 4 0 x ν) := by
  obtain ⟨m, rfl⟩ : ∃ j, m = j + 2 := ⟨m - 2, by omega⟩
  rw [G_step (l3_4_0)]
  rw [bd_16]
  show R2 _ _ _ _ _ _ (f_0_eats_b (f_0_eats_G (n + 2)) 35 4 x μ) _
  unfold f_0_eats_b
  rw [if_neg (by decide), if_pos rfl]
  exact R2_beg h fun μ1 ν1 h1 => R2_bind (E_1 h1 (by omega)) fun r μ2 ν2 h2 => R2_ret h2 rfl
theorem E_5 {μ0 ν0 : mm} {K : Int32} {q : Nat} {w z : Int32} {n m : Nat} {x : Int32} {μ ν : mm} (h : DI μ0 ν0 K q w z μ ν) (hm : 4 ≤ m) : R2 μ0 ν0 K q w z (f_0_eats_G (n + 3) 0 35 5 x μ) (f_12_dealt_G m 1 0 5 0 x ν) := by
  obtain ⟨m, rfl⟩ : ∃ j, m = j + 2 := ⟨m - 2, by omega⟩
  rw [G_step (l3_5_0)]
  show R2 _ _ _ _ _ _ (f_0_eats_b (f_0_eats_G (n + 2)) 35 5 x μ) _
  unfold f_0_eats_b
  rw [if_neg (by decide), if_neg (by decide), if_pos rfl, bind_eta]
  have e := E_1 (n := n) (m := m + 2) (x := x) h (by omega)
  rw [G_step (l3_1_0)] at e
  exact e
theorem E_6 {μ0 ν0 : mm} {K : Int32} {q : Nat} {w z : Int32} {n m : Nat} {x : Int32} {μ ν : mm} (h : DI μ0 ν0 K q w z μ ν) (hm : 4 ≤ m) : R2 μ0 ν0 K q w z (f_0_eats_G (n + 2) 0 35 6 x μ) (f_12_dealt_G m 1 0 6 0 x ν) := by
  obtain ⟨m, rfl⟩ : ∃ j, m = j + 2 := ⟨m - 2, by omega⟩
  rw [G_step (l3_6_0)]
  rw [bd_24]
  show R2 _ _ _ _ _ _ (f_0_eats_b (f_0_eats_G (n + 1)) 35 6 x μ) _
  unfold f_0_eats_b
  rw [if_neg (by decide), if_neg (by decide), if_neg (by decide), if_pos rfl]
  refine R2_beg h fun μ1 ν1 h1 => R2_bind (E_3 h1 (by omega)) fun r μ2 ν2 h2 => R2_ret h2 ?_
  dsimp only
  rw [h2.2.2.2.1.2.1, h2.2.2.2.2.1.2.1]
/-- the dealer's own eats, from model's fuel e on -/
def HE (μ0 ν0 : mm) (K : Int32) (q : Nat) (w z : Int32) (e : Nat) : Prop := ∀ (m : Nat) (x : Int32) (μ ν : mm), DI μ0 ν0 K q w z μ ν → e ≤ m → R2 μ0 ν0 K q w z (f_0_eats_G 9 0 35 K x μ) (f_12_dealt_G m 1 0 K 0 x ν)
def HO (μ0 ν0 : mm) (K : Int32) (q : Nat) (w z : Int32) (e : Nat) : Prop := ∀ (m : Nat) (x : Int32) (μ ν : mm), DI μ0 ν0 K q w z μ ν → e ≤ m → R2 μ0 ν0 K q w z (f_0_owes_G 9 0 35 K x μ) (f_12_dealt_G m 1 0 K 1 x ν)
theorem HE_d {μ0 ν0 : mm} {K : Int32} {q : Nat} {w z : Int32} {e m : Nat} {x y : Int32} {μ ν : mm} (hE : HE μ0 ν0 K q w z e) (h : DI μ0 ν0 K q w z μ ν) (hm : e + 1 ≤ m) : R2 μ0 ν0 K q w z (f_0_eats_G 9 0 35 (μ 35 2) x μ) (f_12_dealt_G m 0 0 0 x y ν) := by
  obtain ⟨m, rfl⟩ : ∃ j, m = j + 1 := ⟨m - 1, by omega⟩
  rw [G_dealt, h.2.2.2.1.1, h.2.2.2.2.1.1]
  exact hE m x μ ν h (by omega)
theorem HO_d {μ0 ν0 : mm} {K : Int32} {q : Nat} {w z : Int32} {e m : Nat} {x y : Int32} {μ ν : mm} (hO : HO μ0 ν0 K q w z e) (h : DI μ0 ν0 K q w z μ ν) (hm : e + 1 ≤ m) : R2 μ0 ν0 K q w z (f_0_owes_G 9 0 35 (μ 35 2) x μ) (f_12_dealt_G m 0 0 1 x y ν) := by
  obtain ⟨m, rfl⟩ : ∃ j, m = j + 1 := ⟨m - 1, by omega⟩
  rw [G_dealt, h.2.2.2.1.1, h.2.2.2.2.1.1]
  exact hO m x μ ν h (by omega)
theorem O_0 {μ0 ν0 : mm} {K : Int32} {q : Nat} {w z : Int32} {n m : Nat} {x : Int32} {μ ν : mm} {e : Nat} (hE : HE μ0 ν0 K q w z e) (h : DI μ0 ν0 K q w z μ ν) (hm : e + 3 ≤ m) : R2 μ0 ν0 K q w z (f_0_owes_G (n + 1) 0 35 0 x μ) (f_12_dealt_G m 1 0 0 1 x ν) := by
  obtain ⟨m, rfl⟩ : ∃ j, m = j + 2 := ⟨m - 2, by omega⟩
  rw [G_step (l3_0_1)]
  rw [bd_1]
  show R2 _ _ _ _ _ _ (f_0_owes_b (f_0_owes_G n) 35 0 x μ) _
  unfold f_0_owes_b
  rw [if_neg (by decide), if_neg (by decide)]
  refine R2_beg h fun μ1 ν1 h1 => R2_bind (HE_d hE h1 (by omega)) fun r μ2 ν2 h2 => R2_ret h2 rfl
theorem O_1 {μ0 ν0 : mm} {K : Int32} {q : Nat} {w z : Int32} {n m : Nat} {x : Int32} {μ ν : mm} {e : Nat} (hE : HE μ0 ν0 K q w z e) (h : DI μ0 ν0 K q w z μ ν) (hm : e + 3 ≤ m) : R2 μ0 ν0 K q w z (f_0_owes_G (n + 1) 0 35 1 x μ) (f_12_dealt_G m 1 0 1 1 x ν) := by
  obtain ⟨m, rfl⟩ : ∃ j, m = j + 2 := ⟨m - 2, by omega⟩
  rw [G_step (l3_1_1)]
  rw [bd_1]
  show R2 _ _ _ _ _ _ (f_0_owes_b (f_0_owes_G n) 35 1 x μ) _
  unfold f_0_owes_b
  rw [if_neg (by decide), if_neg (by decide)]
  refine R2_beg h fun μ1 ν1 h1 => R2_bind (HE_d hE h1 (by omega)) fun r μ2 ν2 h2 => R2_ret h2 rfl
theorem O_3 {μ0 ν0 : mm} {K : Int32} {q : Nat} {w z : Int32} {n m : Nat} {x : Int32} {μ ν : mm} {e : Nat} (hE : HE μ0 ν0 K q w z e) (h : DI μ0 ν0 K q w z μ ν) (hm : e + 3 ≤ m) : R2 μ0 ν0 K q w z (f_0_owes_G (n + 1) 0 35 3 x μ) (f_12_dealt_G m 1 0 3 1 x ν) := by
  obtain ⟨m, rfl⟩ : ∃ j, m = j + 2 := ⟨m - 2, by omega⟩
  rw [G_step (l3_3_1)]
  rw [bd_1]
  show R2 _ _ _ _ _ _ (f_0_owes_b (f_0_owes_G n) 35 3 x μ) _
  unfold f_0_owes_b
  rw [if_neg (by decide), if_neg (by decide)]
  refine R2_beg h fun μ1 ν1 h1 => R2_bind (HE_d hE h1 (by omega)) fun r μ2 ν2 h2 => R2_ret h2 rfl
theorem O_4 {μ0 ν0 : mm} {K : Int32} {q : Nat} {w z : Int32} {n m : Nat} {x : Int32} {μ ν : mm} {e : Nat} (hE : HE μ0 ν0 K q w z e) (h : DI μ0 ν0 K q w z μ ν) (hm : e + 3 ≤ m) : R2 μ0 ν0 K q w z (f_0_owes_G (n + 1) 0 35 4 x μ) (f_12_dealt_G m 1 0 4 1 x ν) := by
  obtain ⟨m, rfl⟩ : ∃ j, m = j + 2 := ⟨m - 2, by omega⟩
  rw [G_step (l3_4_1)]
  rw [bd_1]
  show R2 _ _ _ _ _ _ (f_0_owes_b (f_0_owes_G n) 35 4 x μ) _
  unfold f_0_owes_b
  rw [if_neg (by decide), if_neg (by decide)]
  refine R2_beg h fun μ1 ν1 h1 => R2_bind (HE_d hE h1 (by omega)) fun r μ2 ν2 h2 => R2_ret h2 rfl
theorem O_6 {μ0 ν0 : mm} {K : Int32} {q : Nat} {w z : Int32} {n m : Nat} {x : Int32} {μ ν : mm} {e : Nat} (hE : HE μ0 ν0 K q w z e) (h : DI μ0 ν0 K q w z μ ν) (hm : e + 3 ≤ m) : R2 μ0 ν0 K q w z (f_0_owes_G (n + 1) 0 35 6 x μ) (f_12_dealt_G m 1 0 6 1 x ν) := by
  obtain ⟨m, rfl⟩ : ∃ j, m = j + 2 := ⟨m - 2, by omega⟩
  rw [G_step (l3_6_1)]
  rw [bd_1]
  show R2 _ _ _ _ _ _ (f_0_owes_b (f_0_owes_G n) 35 6 x μ) _
  unfold f_0_owes_b
  rw [if_neg (by decide), if_neg (by decide)]
  refine R2_beg h fun μ1 ν1 h1 => R2_bind (HE_d hE h1 (by omega)) fun r μ2 ν2 h2 => R2_ret h2 rfl
theorem O_2 {μ0 ν0 : mm} {K : Int32} {q : Nat} {w z : Int32} {n m : Nat} {x : Int32} {μ ν : mm} {e : Nat} (hE : HE μ0 ν0 K q w z e) (h : DI μ0 ν0 K q w z μ ν) (hm : e + 5 ≤ m) : R2 μ0 ν0 K q w z (f_0_owes_G (n + 2) 0 35 2 x μ) (f_12_dealt_G m 1 0 2 1 x ν) := by
  obtain ⟨m, rfl⟩ : ∃ j, m = j + 2 := ⟨m - 2, by omega⟩
  rw [G_step (l3_2_1)]
  rw [bd_9]
  show R2 _ _ _ _ _ _ (f_0_owes_b (f_0_owes_G (n + 1)) 35 2 x μ) _
  unfold f_0_owes_b
  rw [if_pos rfl]
  exact R2_beg h fun μ1 ν1 h1 => R2_bind (O_0 hE h1 (by omega)) fun r μ2 ν2 h2 => R2_ret h2 rfl
theorem O_5 {μ0 ν0 : mm} {K : Int32} {q : Nat} {w z : Int32} {n m : Nat} {x : Int32} {μ ν : mm} {e : Nat} (hE : HE μ0 ν0 K q w z e) (h : DI μ0 ν0 K q w z μ ν) (hm : e + 5 ≤ m) : R2 μ0 ν0 K q w z (f_0_owes_G (n + 2) 0 35 5 x μ) (f_12_dealt_G m 1 0 5 1 x ν) := by
  obtain ⟨m, rfl⟩ : ∃ j, m = j + 2 := ⟨m - 2, by omega⟩
  rw [G_step (l3_5_1)]
  rw [bd_21]
  show R2 _ _ _ _ _ _ (f_0_owes_b (f_0_owes_G (n + 1)) 35 5 x μ) _
  unfold f_0_owes_b
  rw [if_neg (by decide), if_pos rfl]
  exact R2_beg h fun μ1 ν1 h1 => R2_bind (O_1 hE h1 (by omega)) fun r μ2 ν2 h2 => R2_ret h2 rfl
theorem W_0 {μ0 ν0 : mm} {K : Int32} {q : Nat} {w z : Int32} {n m : Nat} {x : Int32} {μ ν : mm} {e : Nat} (hO : HO μ0 ν0 K q w z e) (h : DI μ0 ν0 K q w z μ ν) (hm : e + 3 ≤ m) : R2 μ0 ν0 K q w z (f_0_votes_G (n + 1) 0 35 0 x μ) (f_12_dealt_G m 1 0 0 2 x ν) := by
  obtain ⟨m, rfl⟩ : ∃ j, m = j + 2 := ⟨m - 2, by omega⟩
  rw [G_step (l3_0_2)]
  rw [bd_2]
  show R2 _ _ _ _ _ _ (f_0_votes_b (f_0_votes_G n) 35 0 x μ) _
  unfold f_0_votes_b
  rw [if_neg (by decide), if_neg (by decide), if_neg (by decide), if_neg (by decide), if_neg (by decide)]
  refine R2_beg h fun μ1 ν1 h1 => R2_bind (HO_d hO h1 (by omega)) fun r μ2 ν2 h2 => R2_ret h2 ?_
  dsimp only
  rw [h2.2.2.2.1.2.2.1, h2.2.2.2.2.1.2.2.1]
theorem W_2 {μ0 ν0 : mm} {K : Int32} {q : Nat} {w z : Int32} {n m : Nat} {x : Int32} {μ ν : mm} {e : Nat} (hO : HO μ0 ν0 K q w z e) (h : DI μ0 ν0 K q w z μ ν) (hm : e + 3 ≤ m) : R2 μ0 ν0 K q w z (f_0_votes_G (n + 1) 0 35 2 x μ) (f_12_dealt_G m 1 0 2 2 x ν) := by
  obtain ⟨m, rfl⟩ : ∃ j, m = j + 2 := ⟨m - 2, by omega⟩
  rw [G_step (l3_2_2)]
  rw [bd_2]
  show R2 _ _ _ _ _ _ (f_0_votes_b (f_0_votes_G n) 35 2 x μ) _
  unfold f_0_votes_b
  rw [if_neg (by decide), if_neg (by decide), if_neg (by decide), if_neg (by decide), if_neg (by decide)]
  refine R2_beg h fun μ1 ν1 h1 => R2_bind (HO_d hO h1 (by omega)) fun r μ2 ν2 h2 => R2_ret h2 ?_
  dsimp only
  rw [h2.2.2.2.1.2.2.1, h2.2.2.2.2.1.2.2.1]
theorem W_3 {μ0 ν0 : mm} {K : Int32} {q : Nat} {w z : Int32} {n m : Nat} {x : Int32} {μ ν : mm} {e : Nat} (hO : HO μ0 ν0 K q w z e) (h : DI μ0 ν0 K q w z μ ν) (hm : e + 5 ≤ m) : R2 μ0 ν0 K q w z (f_0_votes_G (n + 2) 0 35 3 x μ) (f_12_dealt_G m 1 0 3 2 x ν) := by
  obtain ⟨m, rfl⟩ : ∃ j, m = j + 2 := ⟨m - 2, by omega⟩
  rw [G_step (l3_3_2)]
  rw [bd_14]
  show R2 _ _ _ _ _ _ (f_0_votes_b (f_0_votes_G (n + 1)) 35 3 x μ) _
  unfold f_0_votes_b
  rw [if_neg (by decide), if_pos rfl]
  exact R2_beg h fun μ1 ν1 h1 => R2_bind (W_0 hO h1 (by omega)) fun r μ2 ν2 h2 => R2_ret h2 rfl
theorem W_1 {μ0 ν0 : mm} {K : Int32} {q : Nat} {w z : Int32} {n m : Nat} {x : Int32} {μ ν : mm} {e e2 : Nat} (hO : HO μ0 ν0 K q w z e) (hE : HE μ0 ν0 K q w z e2) (h2e : e2 ≤ e) (h : DI μ0 ν0 K q w z μ ν) (hm : e + 5 ≤ m) : R2 μ0 ν0 K q w z (f_0_votes_G (n + 2) 0 35 1 x μ) (f_12_dealt_G m 1 0 1 2 x ν) := by
  obtain ⟨m, rfl⟩ : ∃ j, m = j + 2 := ⟨m - 2, by omega⟩
  rw [G_step (l3_1_2)]
  rw [bd_6]
  show R2 _ _ _ _ _ _ (f_0_votes_b (f_0_votes_G (n + 1)) 35 1 x μ) _
  unfold f_0_votes_b
  rw [if_pos rfl]
  exact R2_beg h fun μ1 ν1 h1 => R2_bind (W_0 hO h1 (by omega)) fun r μ2 ν2 h2 => R2_bind (HE_d hE h2 (by omega)) fun r2 μ3 ν3 h3 => R2_ret h3 rfl
theorem W_4 {μ0 ν0 : mm} {K : Int32} {q : Nat} {w z : Int32} {n m : Nat} {x : Int32} {μ ν : mm} {e e2 : Nat} (hO : HO μ0 ν0 K q w z e) (hE : HE μ0 ν0 K q w z e2) (h2e : e2 ≤ e) (h : DI μ0 ν0 K q w z μ ν) (hm : e + 5 ≤ m) : R2 μ0 ν0 K q w z (f_0_votes_G (n + 2) 0 35 4 x μ) (f_12_dealt_G m 1 0 4 2 x ν) := by
  obtain ⟨m, rfl⟩ : ∃ j, m = j + 2 := ⟨m - 2, by omega⟩
  rw [G_step (l3_4_2)]
  rw [bd_6]
  show R2 _ _ _ _ _ _ (f_0_votes_b (f_0_votes_G (n + 1)) 35 4 x μ) _
  unfold f_0_votes_b
  rw [if_neg (by decide), if_neg (by decide), if_pos rfl]
  exact R2_beg h fun μ1 ν1 h1 => R2_bind (W_0 hO h1 (by omega)) fun r μ2 ν2 h2 => R2_bind (HE_d hE h2 (by omega)) fun r2 μ3 ν3 h3 => R2_ret h3 rfl
theorem W_5 {μ0 ν0 : mm} {K : Int32} {q : Nat} {w z : Int32} {n m : Nat} {x : Int32} {μ ν : mm} {e e2 : Nat} (hO : HO μ0 ν0 K q w z e) (hE : HE μ0 ν0 K q w z e2) (h2e : e2 ≤ e) (h : DI μ0 ν0 K q w z μ ν) (hm : e + 5 ≤ m) : R2 μ0 ν0 K q w z (f_0_votes_G (n + 2) 0 35 5 x μ) (f_12_dealt_G m 1 0 5 2 x ν) := by
  obtain ⟨m, rfl⟩ : ∃ j, m = j + 2 := ⟨m - 2, by omega⟩
  rw [G_step (l3_5_2)]
  rw [bd_6]
  show R2 _ _ _ _ _ _ (f_0_votes_b (f_0_votes_G (n + 1)) 35 5 x μ) _
  unfold f_0_votes_b
  rw [if_neg (by decide), if_neg (by decide), if_neg (by decide), if_pos rfl]
  exact R2_beg h fun μ1 ν1 h1 => R2_bind (W_0 hO h1 (by omega)) fun r μ2 ν2 h2 => R2_bind (HE_d hE h2 (by omega)) fun r2 μ3 ν3 h3 => R2_ret h3 rfl
theorem W_6 {μ0 ν0 : mm} {K : Int32} {q : Nat} {w z : Int32} {n m : Nat} {x : Int32} {μ ν : mm} {e : Nat} (hO : HO μ0 ν0 K q w z e) (h : DI μ0 ν0 K q w z μ ν) (hm : e + 7 ≤ m) : R2 μ0 ν0 K q w z (f_0_votes_G (n + 3) 0 35 6 x μ) (f_12_dealt_G m 1 0 6 2 x ν) := by
  obtain ⟨m, rfl⟩ : ∃ j, m = j + 2 := ⟨m - 2, by omega⟩
  rw [G_step (l3_6_2)]
  rw [bd_26]
  show R2 _ _ _ _ _ _ (f_0_votes_b (f_0_votes_G (n + 2)) 35 6 x μ) _
  unfold f_0_votes_b
  rw [if_neg (by decide), if_neg (by decide), if_neg (by decide), if_neg (by decide), if_pos rfl]
  exact R2_beg h fun μ1 ν1 h1 => R2_bind (W_3 hO h1 (by omega)) fun r μ2 ν2 h2 => R2_bind (HO_d hO h2 (by omega)) fun r2 μ3 ν3 h3 => R2_ret h3 rfl
theorem par1 {μ0 ν0 : mm} {K : Int32} {q : Nat} {w z : Int32} {x : Int32} {μ ν : mm} (hq : q ≤ 15) (h : DI μ0 ν0 K q w z μ ν) : R2 μ0 ν0 K q w z ((f_0_quotient 35 x ((μ 35 3) - 1) μ).bind fun z16 => some (z16.1, z16.2)) ((if (ν 0 38) = 0 then if (ν 0 35) = 1 then some 1 else some 0 else some 1).bind fun (z13 : Int32) => (gb z13).bind fun _ => (pf ν 0 38 z13).bind fun μ14 => if (μ14 0 35) = 1 then some (0, μ14) else (gd ((μ14 0 35) - 1)).bind fun _ => some ((x / ((μ14 0 35) - 1)), μ14)) := by
  obtain ⟨h1, h2, h3, h4, h5, h6, h7⟩ := id h
  rw [bind_eta, h4.2.1, h5.2.1]
  unfold f_0_quotient
  have hz : nI q - 1 = 0 ↔ nI q = 1 := by
    constructor
    · intro e
      have e2 : nI q - 1 + 1 = 0 + 1 := by rw [e]
      rw [Int32.sub_add_cancel] at e2
      exact e2
    · intro e
      rw [e]
      rfl
  have key : ∀ zz : Int32, (zz = 0 ∨ zz = 1) → ∀ μ', (∀ b, b ≠ 35 → μ' b = μ b) → (∀ j, j ≠ 6 → μ' 35 j = μ 35 j) → μ' 35 6 = zz → DI μ0 ν0 K q w z μ' (up ν 0 38 zz) := by
    intro zz hzz μ' m1 m2 m3
    obtain ⟨n, hn, e1, e2, hk⟩ := h7
    refine ⟨fun b q1 q2 => (m1 b q1).trans (h1 b q1 q2), fun b q1 q2 => by rw [up_ne q1]; exact h2 b q1 q2, fun j hj => by rw [up_ns (by omega)]; exact h3 j hj, ?_, ?_, ?_, n, hn, by rw [m2 1 (by decide)]; exact e1, by rw [up_ns (by decide)]; exact e2, fun k hk2 => by rw [m1 36 (by decide), up_ne (a := 0) (b := 22) (by decide)]; exact hk k hk2⟩
    · rw [m2 2 (by decide), m2 3 (by decide), m2 4 (by decide), m2 5 (by decide)]
      exact h4
    · rw [up_ns (by decide), up_ns (by decide), up_ns (by decide), up_ns (by decide)]
      exact h5
    · rw [up_at]
      exact ⟨m3, hzz⟩
  by_cases e : nI q = 1
  · rw [if_pos (hz.mpr e), pf_eq, Option.bind_some, if_pos e]
    have hs : (if ν 0 38 = 0 then some 1 else some 1 : Option Int32) = some 1 := by split <;> rfl
    rw [hs, Option.bind_some, gb_1, Option.bind_some, pf_eq, Option.bind_some, up_ns (by decide), h5.2.1, if_pos e]
    exact R2_ret (key 1 (Or.inr rfl) _ (fun b hb => up_ne hb) (fun j hj => up_ns hj) up_at) rfl
  · have e2 : ¬ nI q - 1 = 0 := fun z => e (hz.mp z)
    have hg : gd (nI q - 1) = some (nI q - 1) := by unfold gd; rw [if_neg e2]
    rw [if_neg e2, hg, Option.bind_some, if_neg e]
    have hs : (if ν 0 38 = 0 then some 0 else some 1 : Option Int32) = some (ν 0 38) := by
      rcases h6.2 with z | z <;> rw [z] <;> rfl
    rw [hs, Option.bind_some, gb_bit h6.2, Option.bind_some, pf_eq, Option.bind_some, up_ns (by decide), h5.2.1, if_neg e, hg, Option.bind_some]
    exact R2_ret (key (ν 0 38) h6.2 μ (fun _ _ => rfl) (fun _ _ => rfl) h6.1) rfl
theorem Q_0 {μ0 ν0 : mm} {K : Int32} {q : Nat} {w z : Int32} {n m : Nat} {x : Int32} {μ ν : mm} (hq : q ≤ 15) (h : DI μ0 ν0 K q w z μ ν) (hm : 2 ≤ m) : R2 μ0 ν0 K q w z (f_0_parts_G (n + 1) 0 35 0 x μ) (f_12_dealt_G m 1 0 0 3 x ν) := by
  obtain ⟨m, rfl⟩ : ∃ j, m = j + 2 := ⟨m - 2, by omega⟩
  rw [G_step (l3_0_3)]
  rw [bd_3]
  show R2 _ _ _ _ _ _ (f_0_parts_b (f_0_parts_G n) 35 0 x μ) _
  unfold f_0_parts_b
  rw [if_neg (by decide), if_neg (by decide), if_neg (by decide)]
  exact R2_beg h fun μ1 ν1 h1 => par1 hq h1
theorem Q_1 {μ0 ν0 : mm} {K : Int32} {q : Nat} {w z : Int32} {n m : Nat} {x : Int32} {μ ν : mm} (hq : q ≤ 15) (h : DI μ0 ν0 K q w z μ ν) (hm : 2 ≤ m) : R2 μ0 ν0 K q w z (f_0_parts_G (n + 1) 0 35 1 x μ) (f_12_dealt_G m 1 0 1 3 x ν) := by
  obtain ⟨m, rfl⟩ : ∃ j, m = j + 2 := ⟨m - 2, by omega⟩
  rw [G_step (l3_1_3)]
  rw [bd_3]
  show R2 _ _ _ _ _ _ (f_0_parts_b (f_0_parts_G n) 35 1 x μ) _
  unfold f_0_parts_b
  rw [if_neg (by decide), if_neg (by decide), if_neg (by decide)]
  exact R2_beg h fun μ1 ν1 h1 => par1 hq h1
theorem Q_2 {μ0 ν0 : mm} {K : Int32} {q : Nat} {w z : Int32} {n m : Nat} {x : Int32} {μ ν : mm} (hq : q ≤ 15) (h : DI μ0 ν0 K q w z μ ν) (hm : 2 ≤ m) : R2 μ0 ν0 K q w z (f_0_parts_G (n + 1) 0 35 2 x μ) (f_12_dealt_G m 1 0 2 3 x ν) := by
  obtain ⟨m, rfl⟩ : ∃ j, m = j + 2 := ⟨m - 2, by omega⟩
  rw [G_step (l3_2_3)]
  rw [bd_3]
  show R2 _ _ _ _ _ _ (f_0_parts_b (f_0_parts_G n) 35 2 x μ) _
  unfold f_0_parts_b
  rw [if_neg (by decide), if_neg (by decide), if_neg (by decide)]
  exact R2_beg h fun μ1 ν1 h1 => par1 hq h1
theorem Q_4 {μ0 ν0 : mm} {K : Int32} {q : Nat} {w z : Int32} {n m : Nat} {x : Int32} {μ ν : mm} (hq : q ≤ 15) (h : DI μ0 ν0 K q w z μ ν) (hm : 2 ≤ m) : R2 μ0 ν0 K q w z (f_0_parts_G (n + 1) 0 35 4 x μ) (f_12_dealt_G m 1 0 4 3 x ν) := by
  obtain ⟨m, rfl⟩ : ∃ j, m = j + 2 := ⟨m - 2, by omega⟩
  rw [G_step (l3_4_3)]
  rw [bd_3]
  show R2 _ _ _ _ _ _ (f_0_parts_b (f_0_parts_G n) 35 4 x μ) _
  unfold f_0_parts_b
  rw [if_neg (by decide), if_neg (by decide), if_neg (by decide)]
  exact R2_beg h fun μ1 ν1 h1 => par1 hq h1
theorem Q_3 {μ0 ν0 : mm} {K : Int32} {q : Nat} {w z : Int32} {n m : Nat} {x : Int32} {μ ν : mm} (hq : q ≤ 15) (h : DI μ0 ν0 K q w z μ ν) (hm : 4 ≤ m) : R2 μ0 ν0 K q w z (f_0_parts_G (n + 2) 0 35 3 x μ) (f_12_dealt_G m 1 0 3 3 x ν) := by
  obtain ⟨m, rfl⟩ : ∃ j, m = j + 2 := ⟨m - 2, by omega⟩
  rw [G_step (l3_3_3)]
  rw [bd_15]
  show R2 _ _ _ _ _ _ (f_0_parts_b (f_0_parts_G (n + 1)) 35 3 x μ) _
  unfold f_0_parts_b
  rw [if_pos rfl]
  refine R2_beg h fun μ1 ν1 h1 => ?_
  rw [h1.2.2.2.1.2.2.1, h1.2.2.2.2.1.2.2.1]
  exact R2_bind (Q_0 hq h1 (by omega)) fun r μ2 ν2 h2 => R2_ret h2 rfl
theorem Q_6 {μ0 ν0 : mm} {K : Int32} {q : Nat} {w z : Int32} {n m : Nat} {x : Int32} {μ ν : mm} (hq : q ≤ 15) (h : DI μ0 ν0 K q w z μ ν) (hm : 4 ≤ m) : R2 μ0 ν0 K q w z (f_0_parts_G (n + 2) 0 35 6 x μ) (f_12_dealt_G m 1 0 6 3 x ν) := by
  obtain ⟨m, rfl⟩ : ∃ j, m = j + 2 := ⟨m - 2, by omega⟩
  rw [G_step (l3_6_3)]
  rw [bd_15]
  show R2 _ _ _ _ _ _ (f_0_parts_b (f_0_parts_G (n + 1)) 35 6 x μ) _
  unfold f_0_parts_b
  rw [if_neg (by decide), if_neg (by decide), if_pos rfl]
  refine R2_beg h fun μ1 ν1 h1 => ?_
  rw [h1.2.2.2.1.2.2.1, h1.2.2.2.2.1.2.2.1]
  exact R2_bind (Q_0 hq h1 (by omega)) fun r μ2 ν2 h2 => R2_ret h2 rfl
theorem Q_5 {μ0 ν0 : mm} {K : Int32} {q : Nat} {w z : Int32} {n m : Nat} {x : Int32} {μ ν : mm} (hq : q ≤ 15) (h : DI μ0 ν0 K q w z μ ν) (hm : 4 ≤ m) : R2 μ0 ν0 K q w z (f_0_parts_G (n + 2) 0 35 5 x μ) (f_12_dealt_G m 1 0 5 3 x ν) := by
  obtain ⟨m, rfl⟩ : ∃ j, m = j + 2 := ⟨m - 2, by omega⟩
  rw [G_step (l3_5_3)]
  rw [bd_23]
  show R2 _ _ _ _ _ _ (f_0_parts_b (f_0_parts_G (n + 1)) 35 5 x μ) _
  unfold f_0_parts_b
  rw [if_neg (by decide), if_pos rfl]
  exact R2_beg h fun μ1 ν1 h1 => R2_bind (Q_1 hq h1 (by omega)) fun r μ2 ν2 h2 => R2_ret h2 rfl
theorem run_rel {μ0 ν0 : mm} {K : Int32} {q : Nat} {w z : Int32} {d x : Int32} {μ ν : mm} (hq : q ≤ 15) (hK : K = 1 ∨ K = 2 ∨ K = 3 ∨ K = 4 ∨ K = 5 ∨ K = 6) (hd : d = 0 ∨ d = 1 ∨ d = 2 ∨ d = 3) (h : DI μ0 ν0 K q w z μ ν) : R2 μ0 ν0 K q w z (if d = 0 then (f_0_eats_G 9 0 35 K x μ).bind fun z4 => some (z4.1, z4.2) else if d = 1 then (f_0_owes_G 9 0 35 K x μ).bind fun z6 => some (z6.1, z6.2) else if d = 2 then (f_0_votes_G 9 0 35 K x μ).bind fun z8 => some (z8.1, z8.2) else (f_0_parts_G 9 0 35 K x μ).bind fun z10 => some (z10.1, z10.2)) (f_12_dealt_G 14 1 0 K d x ν) := by
  simp only [bind_eta]
  rcases hK with rfl | rfl | rfl | rfl | rfl | rfl
  · have hE : HE μ0 ν0 1 q w z 4 := fun m x μ ν h hm => E_1 h hm
    have hO : HO μ0 ν0 1 q w z 7 := fun m x μ ν h hm => O_1 hE h hm
    rcases hd with rfl | rfl | rfl | rfl
    · rw [if_pos rfl]
      exact hE 14 x μ ν h (by omega)
    · rw [if_neg (by decide), if_pos rfl]
      exact hO 14 x μ ν h (by omega)
    · rw [if_neg (by decide), if_neg (by decide), if_pos rfl]
      exact W_1 hO hE (by omega) h (by omega)
    · rw [if_neg (by decide), if_neg (by decide), if_neg (by decide)]
      exact Q_1 hq h (by omega)
  · have hE : HE μ0 ν0 2 q w z 2 := fun m x μ ν h hm => E_2 h hm
    have hO : HO μ0 ν0 2 q w z 7 := fun m x μ ν h hm => O_2 hE h hm
    rcases hd with rfl | rfl | rfl | rfl
    · rw [if_pos rfl]
      exact hE 14 x μ ν h (by omega)
    · rw [if_neg (by decide), if_pos rfl]
      exact hO 14 x μ ν h (by omega)
    · rw [if_neg (by decide), if_neg (by decide), if_pos rfl]
      exact W_2 hO h (by omega)
    · rw [if_neg (by decide), if_neg (by decide), if_neg (by decide)]
      exact Q_2 hq h (by omega)
  · have hE : HE μ0 ν0 3 q w z 2 := fun m x μ ν h hm => E_3 h hm
    have hO : HO μ0 ν0 3 q w z 5 := fun m x μ ν h hm => O_3 hE h hm
    rcases hd with rfl | rfl | rfl | rfl
    · rw [if_pos rfl]
      exact hE 14 x μ ν h (by omega)
    · rw [if_neg (by decide), if_pos rfl]
      exact hO 14 x μ ν h (by omega)
    · rw [if_neg (by decide), if_neg (by decide), if_pos rfl]
      exact W_3 hO h (by omega)
    · rw [if_neg (by decide), if_neg (by decide), if_neg (by decide)]
      exact Q_3 hq h (by omega)
  · have hE : HE μ0 ν0 4 q w z 6 := fun m x μ ν h hm => E_4 h hm
    have hO : HO μ0 ν0 4 q w z 9 := fun m x μ ν h hm => O_4 hE h hm
    rcases hd with rfl | rfl | rfl | rfl
    · rw [if_pos rfl]
      exact hE 14 x μ ν h (by omega)
    · rw [if_neg (by decide), if_pos rfl]
      exact hO 14 x μ ν h (by omega)
    · rw [if_neg (by decide), if_neg (by decide), if_pos rfl]
      exact W_4 hO hE (by omega) h (by omega)
    · rw [if_neg (by decide), if_neg (by decide), if_neg (by decide)]
      exact Q_4 hq h (by omega)
  · have hE : HE μ0 ν0 5 q w z 4 := fun m x μ ν h hm => E_5 h hm
    have hO : HO μ0 ν0 5 q w z 9 := fun m x μ ν h hm => O_5 hE h hm
    rcases hd with rfl | rfl | rfl | rfl
    · rw [if_pos rfl]
      exact hE 14 x μ ν h (by omega)
    · rw [if_neg (by decide), if_pos rfl]
      exact hO 14 x μ ν h (by omega)
    · rw [if_neg (by decide), if_neg (by decide), if_pos rfl]
      exact W_5 hO hE (by omega) h (by omega)
    · rw [if_neg (by decide), if_neg (by decide), if_neg (by decide)]
      exact Q_5 hq h (by omega)
  · have hE : HE μ0 ν0 6 q w z 4 := fun m x μ ν h hm => E_6 h hm
    have hO : HO μ0 ν0 6 q w z 7 := fun m x μ ν h hm => O_6 hE h hm
    rcases hd with rfl | rfl | rfl | rfl
    · rw [if_pos rfl]
      exact hE 14 x μ ν h (by omega)
    · rw [if_neg (by decide), if_pos rfl]
      exact hO 14 x μ ν h (by omega)
    · rw [if_neg (by decide), if_neg (by decide), if_pos rfl]
      exact W_6 hO h (by omega)
    · rw [if_neg (by decide), if_neg (by decide), if_neg (by decide)]
      exact Q_6 hq h (by omega)
