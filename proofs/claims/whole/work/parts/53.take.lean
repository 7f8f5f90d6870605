/-! one valley takes another's state -/
def un (S T : Nat → Nat → Prop) (o k : Nat) : Prop := S o k ∨ T o k
def Ag (v w : Nat) (μ0 μ : mm) (S : Nat → Nat → Prop) : Prop := (∀ b, (b < v ∨ v + 94 ≤ b) → μ b = μ0 b) ∧ ∀ o k, o < 94 → S o k → μ (v + o) k = μ0 (w + o) k
/-- two valleys apart -/
def Ap (v w : Nat) : Prop := isV v ∧ isV w ∧ (w + 94 ≤ v ∨ v + 94 ≤ w)
theorem Ag_src {v w : Nat} {μ0 μ : mm} {S : Nat → Nat → Prop} (hp : Ap v w) (h : Ag v w μ0 μ S) {o : Nat} (ho : o < 94) : μ (w + o) = μ0 (w + o) := h.1 _ (by have := hp.2.2; omega)
theorem Ag_mono {v w : Nat} {μ0 μ : mm} {S T : Nat → Nat → Prop} (h : Ag v w μ0 μ S) (hT : ∀ o k, T o k → S o k) : Ag v w μ0 μ T := ⟨h.1, fun o k ho q => h.2 o k ho (hT o k q)⟩
theorem Ag_up {v w o k : Nat} {μ0 μ : mm} {S : Nat → Nat → Prop} {x : Int32} (hp : Ap v w) (h : Ag v w μ0 μ S) (ho : o < 94) (hx : x = μ0 (w + o) k) : Ag v w μ0 (up μ (v + o) k x) (un S (fun o' k' => o' = o ∧ k' = k)) := by
  refine ⟨fun b hb => ?_, fun o' k' ho' q => ?_⟩
  · rw [up_ne (by omega)]
    exact h.1 b hb
  · by_cases e : o' = o ∧ k' = k
    · obtain ⟨rfl, rfl⟩ := e
      rw [up_at]
      exact hx
    · rw [up_nx (by omega)]
      rcases q with q | q
      · exact h.2 o' k' ho' q
      · exact absurd q e
theorem Ag_cp {v w o n : Nat} {μ0 μ : mm} {S : Nat → Nat → Prop} (hp : Ap v w) (h : Ag v w μ0 μ S) (ho : o < 94) : Ag v w μ0 (cpM μ (w + o) 0 (v + o) 0 n) (un S (fun o' k' => o' = o ∧ k' < n)) := by
  refine ⟨fun b hb => ?_, fun o' k' ho' q => ?_⟩
  · rw [cpM_ne (by omega)]
    exact h.1 b hb
  · by_cases e : o' = o
    · subst e
      unfold cpM
      rw [if_pos rfl]
      by_cases e2 : k' < n
      · rw [pk_cpy_in (by omega) (by omega), Ag_src hp h ho]
        congr 1
        omega
      · rw [pk_cpy_out (by omega)]
        rcases q with q | q
        · exact h.2 o' k' ho' q
        · exact absurd q.2 e2
    · rw [cpM_ne (by omega)]
      rcases q with q | q
      · exact h.2 o' k' ho' q
      · exact absurd q.1 e
theorem st_pf {v w o k : Nat} {μ0 μ : mm} {S : Nat → Nat → Prop} {F : mm → Option mm} {P : mm → Prop} (hp : Ap v w) (h : Ag v w μ0 μ S) (ho : o < 94) (hF : ∀ μ', Ag v w μ0 μ' (un S (fun o' k' => o' = o ∧ k' = k)) → Ok (F μ') P) : Ok ((pf μ (v + o) k (μ (w + o) k)).bind F) P := by
  rw [pf_eq, Option.bind_some]
  exact hF _ (Ag_up hp h ho (by rw [Ag_src hp h ho]))
theorem cpo_eq {μ : mm} {s t n : Nat} (h1 : n ≤ len s) (h2 : n ≤ len t) (hn : n < 2 ^ 31) : cpo μ s 0 t 0 (nI n) = some (cpM μ s 0 t 0 n) := by
  unfold cpo
  rw [nI_clamp hn, show (0 : Int32).toNatClampNeg = 0 from rfl, if_neg]
  have := nI_pos hn
  rintro (q | q | q | q | q)
  · exact absurd q (by decide)
  · exact absurd q (by decide)
  · exact this q
  · omega
  · omega
theorem st_cp {v w o n : Nat} {μ0 μ : mm} {S : Nat → Nat → Prop} {F : mm → Option mm} {P : mm → Prop} {N : Int32} (hp : Ap v w) (h : Ag v w μ0 μ S) (ho : o < 94) (hN : N = nI n) (h1 : n ≤ len (w + o)) (h2 : n ≤ len (v + o)) (hn : n < 2 ^ 31) (hF : ∀ μ', Ag v w μ0 μ' (un S (fun o' k' => o' = o ∧ k' < n)) → Ok (F μ') P) : Ok ((cpo μ (w + o) 0 (v + o) 0 N).bind F) P := by
  subst hN
  rw [cpo_eq h1 h2 hn, Option.bind_some]
  exact hF _ (Ag_cp hp h ho)
theorem gb_bit {x : Int32} (h : x = 0 ∨ x = 1) : gb x = some x := by rcases h with rfl | rfl <;> rfl
theorem st_gb {x : Int32} {F : Int32 → Option mm} {P : mm → Prop} (h : x = 0 ∨ x = 1) (hF : Ok (F x) P) : Ok ((gb x).bind F) P := by
  rw [gb_bit h, Option.bind_some]
  exact hF
theorem cpz_eq {μ : mm} {s t n : Nat} (h1 : n ≤ len s) (h2 : n ≤ len t) (hn : n < 2 ^ 31) (hb : ∀ i, i < n → μ s i = 0 ∨ μ s i = 1) : cpz μ s 0 t 0 (nI n) = some (cpM μ s 0 t 0 n) := by
  unfold cpz
  rw [if_pos, cpo_eq h1 h2 hn]
  rw [List.all_eq_true]
  intro i hi
  rw [List.mem_range, nI_clamp hn] at hi
  rw [show (0 : Int32).toNatClampNeg + i = i from by show 0 + i = i; omega]
  rcases hb i hi with e | e <;> rw [e] <;> rfl
theorem st_cz {v w o n : Nat} {μ0 μ : mm} {S : Nat → Nat → Prop} {F : mm → Option mm} {P : mm → Prop} {N : Int32} (hp : Ap v w) (h : Ag v w μ0 μ S) (ho : o < 94) (hN : N = nI n) (h1 : n ≤ len (w + o)) (h2 : n ≤ len (v + o)) (hn : n < 2 ^ 31) (hb : ∀ i, i < n → μ0 (w + o) i = 0 ∨ μ0 (w + o) i = 1) (hF : ∀ μ', Ag v w μ0 μ' (un S (fun o' k' => o' = o ∧ k' < n)) → Ok (F μ') P) : Ok ((cpz μ (w + o) 0 (v + o) 0 N).bind F) P := by
  subst hN
  rw [cpz_eq h1 h2 hn (by rw [Ag_src hp h ho]; exact hb), Option.bind_some]
  exact hF _ (Ag_cp hp h ho)
theorem Ok_ret {P : mm → Prop} {μ : mm} (h : P μ) : Ok (some μ) P := Ok_some.mpr h
/-! the things of a valley -/
theorem tk_pit {v w p : Nat} {μ0 μ : mm} {S : Nat → Nat → Prop} (hp : Ap v w) (h : Ag v w μ0 μ S) (hq : p < 4) : Ok (f_4_takeFrom (v + (52 + p)) (w + (52 + p)) μ) fun μ' => Ag v w μ0 μ' (un S (fun o k => o = 52 + p ∧ k < 7)) := by
  unfold f_4_takeFrom
  refine st_pf hp h (by omega) fun μ1 h1 => ?_
  refine st_pf hp h1 (by omega) fun μ2 h2 => ?_
  refine st_pf hp h2 (by omega) fun μ3 h3 => ?_
  refine st_pf hp h3 (by omega) fun μ4 h4 => ?_
  refine st_pf hp h4 (by omega) fun μ5 h5 => ?_
  refine st_pf hp h5 (by omega) fun μ6 h6 => ?_
  refine st_pf hp h6 (by omega) fun μ7 h7 => ?_
  exact Ok_ret (Ag_mono h7 (fun o k q => Or.elim q (fun q => by simp only [un, q, true_or]) (fun q => by simp only [un]; omega)))
theorem tk_shop {v w p : Nat} {μ0 μ : mm} {S : Nat → Nat → Prop} (hp : Ap v w) (h : Ag v w μ0 μ S) (hq : p < 4) : Ok (f_6_takeFrom (v + (56 + p)) (w + (56 + p)) μ) fun μ' => Ag v w μ0 μ' (un S (fun o k => o = 56 + p ∧ k < 3)) := by
  unfold f_6_takeFrom
  refine st_pf hp h (by omega) fun μ1 h1 => ?_
  refine st_pf hp h1 (by omega) fun μ2 h2 => ?_
  refine st_pf hp h2 (by omega) fun μ3 h3 => ?_
  exact Ok_ret (Ag_mono h3 (fun o k q => Or.elim q (fun q => by simp only [un, q, true_or]) (fun q => by simp only [un]; omega)))
theorem tk_house {v w p : Nat} {μ0 μ : mm} {S : Nat → Nat → Prop} (hp : Ap v w) (h : Ag v w μ0 μ S) (hq : p < 16) (b10 : μ0 (w + (60 + p)) 10 = 0 ∨ μ0 (w + (60 + p)) 10 = 1) (b11 : μ0 (w + (60 + p)) 11 = 0 ∨ μ0 (w + (60 + p)) 11 = 1) : Ok (f_1_takeFrom (v + (60 + p)) (w + (60 + p)) μ) fun μ' => Ag v w μ0 μ' (un S (fun o k => o = 60 + p ∧ k < 12)) := by
  unfold f_1_takeFrom
  refine st_pf hp h (by omega) fun μ1 h1 => ?_
  refine st_pf hp h1 (by omega) fun μ2 h2 => ?_
  refine st_pf hp h2 (by omega) fun μ3 h3 => ?_
  refine st_pf hp h3 (by omega) fun μ4 h4 => ?_
  refine st_pf hp h4 (by omega) fun μ5 h5 => ?_
  refine st_pf hp h5 (by omega) fun μ6 h6 => ?_
  refine st_pf hp h6 (by omega) fun μ7 h7 => ?_
  refine st_pf hp h7 (by omega) fun μ8 h8 => ?_
  refine st_pf hp h8 (by omega) fun μ9 h9 => ?_
  refine st_pf hp h9 (by omega) fun μ10 h10 => ?_
  refine st_gb (by rw [Ag_src hp h10 (by omega)]; exact b10) ?_
  refine st_pf hp h10 (by omega) fun μ11 h11 => ?_
  refine st_gb (by rw [Ag_src hp h11 (by omega)]; exact b11) ?_
  refine st_pf hp h11 (by omega) fun μ12 h12 => ?_
  exact Ok_ret (Ag_mono h12 (fun o k q => Or.elim q (fun q => by simp only [un, q, true_or]) (fun q => by simp only [un]; omega)))
theorem tk_rules {v w s n z : Nat} {μ0 μ : mm} {S : Nat → Nat → Prop} (hp : Ap v w) (h : Ag v w μ0 μ S) (hs : s < 3) (hn : n ≤ 10) (hz : z ≤ 300) (en : μ0 (w + 76 + 6 * s) 0 = nI n) (ez : μ0 (w + 76 + 6 * s) 5 = nI z) : Ok (f_5_takeFrom (v + 76 + 6 * s) (w + 76 + 6 * s) μ) fun μ' => Ag v w μ0 μ' (un S (fun o k => o = 76 + 6 * s ∧ (k = 0 ∨ k = 5) ∨ 77 + 6 * s ≤ o ∧ o ≤ 80 + 6 * s ∧ k < n ∨ o = 81 + 6 * s ∧ k < z)) := by
  unfold f_5_takeFrom
  rw [rR_1 hp.1 hs, rR_2 hp.1 hs, rR_3 hp.1 hs, rR_4 hp.1 hs, rR_6 hp.1 hs, rR_1 hp.2.1 hs, rR_2 hp.2.1 hs, rR_3 hp.2.1 hs, rR_4 hp.2.1 hs, rR_6 hp.2.1 hs]
  have l1 := lR_77 hp.1 hs
  have l2 := lR_78 hp.1 hs
  have l3 := lR_79 hp.1 hs
  have l4 := lR_80 hp.1 hs
  have l5 := lR_81 hp.1 hs
  have k1 := lR_77 hp.2.1 hs
  have k2 := lR_78 hp.2.1 hs
  have k3 := lR_79 hp.2.1 hs
  have k4 := lR_80 hp.2.1 hs
  have k5 := lR_81 hp.2.1 hs
  rw [Nat.add_assoc] at l1 l2 l3 l4 l5 k1 k2 k3 k4 k5 en ez
  simp only [Nat.add_assoc]
  refine st_pf hp h (by omega) fun μ1 h1 => ?_
  refine st_pf hp h1 (by omega) fun μ2 h2 => ?_
  refine st_cp hp h2 (n := n) (by omega) ((h2.2 (76 + 6 * s) 0 (by omega) (by simp only [un]; simp)).trans en) (by omega) (by omega) (by omega) fun μ3 h3 => ?_
  refine st_cp hp h3 (n := n) (by omega) ((h3.2 (76 + 6 * s) 0 (by omega) (by simp only [un]; simp)).trans en) (by omega) (by omega) (by omega) fun μ4 h4 => ?_
  refine st_cp hp h4 (n := n) (by omega) ((h4.2 (76 + 6 * s) 0 (by omega) (by simp only [un]; simp)).trans en) (by omega) (by omega) (by omega) fun μ5 h5 => ?_
  refine st_cp hp h5 (n := n) (by omega) ((h5.2 (76 + 6 * s) 0 (by omega) (by simp only [un]; simp)).trans en) (by omega) (by omega) (by omega) fun μ6 h6 => ?_
  refine st_cp hp h6 (n := z) (by omega) ((h6.2 (76 + 6 * s) 5 (by omega) (by simp only [un]; simp)).trans ez) (by omega) (by omega) (by omega) fun μ7 h7 => ?_
  exact Ok_ret (Ag_mono h7 (fun o k q => Or.elim q (fun q => by simp only [un, q, true_or]) (fun q => by simp only [un]; omega)))
theorem tk_works {v w : Nat} {μ0 μ : mm} {S : Nat → Nat → Prop} (hp : Ap v w) (h : Ag v w μ0 μ S) : Ok (f_10_takeFrom (v + 12) (w + 12) μ) fun μ' => Ag v w μ0 μ' (un S (fun o k => o = 12 ∧ k < 3 ∨ (o = 13 ∨ o = 14) ∧ k < 6)) := by
  unfold f_10_takeFrom
  rw [rV_12_3 hp.1, rV_12_4 hp.1, rV_12_3 hp.2.1, rV_12_4 hp.2.1]
  have l1 := lV_13 hp.1
  have l2 := lV_14 hp.1
  have k1 := lV_13 hp.2.1
  have k2 := lV_14 hp.2.1
  refine st_pf hp h (by omega) fun μ1 h1 => ?_
  refine st_pf hp h1 (by omega) fun μ2 h2 => ?_
  refine st_pf hp h2 (by omega) fun μ3 h3 => ?_
  refine st_cp hp h3 (n := 6) (by omega) rfl (by omega) (by omega) (by omega) fun μ4 h4 => ?_
  refine st_cp hp h4 (n := 6) (by omega) rfl (by omega) (by omega) (by omega) fun μ5 h5 => ?_
  exact Ok_ret (Ag_mono h5 (fun o k q => Or.elim q (fun q => by simp only [un, q, true_or]) (fun q => by simp only [un]; omega)))
theorem tk_talk {v w : Nat} {μ0 μ : mm} {S : Nat → Nat → Prop} (hp : Ap v w) (h : Ag v w μ0 μ S) (hb : ∀ i, i < 12 → μ0 (w + 21) i = 0 ∨ μ0 (w + 21) i = 1) : Ok (f_7_takeFrom (v + 15) (w + 15) μ) fun μ' => Ag v w μ0 μ' (un S (fun o k => o = 15 ∧ (k = 0 ∨ k = 4 ∨ k = 8 ∨ k = 9) ∨ 16 ≤ o ∧ o ≤ 21 ∧ k < 12)) := by
  unfold f_7_takeFrom
  rw [rV_15_1 hp.1, rV_15_2 hp.1, rV_15_3 hp.1, rV_15_5 hp.1, rV_15_6 hp.1, rV_15_7 hp.1, rV_15_1 hp.2.1, rV_15_2 hp.2.1, rV_15_3 hp.2.1, rV_15_5 hp.2.1, rV_15_6 hp.2.1, rV_15_7 hp.2.1]
  have l1 := lV_16 hp.1
  have l2 := lV_17 hp.1
  have l3 := lV_18 hp.1
  have l4 := lV_19 hp.1
  have l5 := lV_20 hp.1
  have l6 := lV_21 hp.1
  have k1 := lV_16 hp.2.1
  have k2 := lV_17 hp.2.1
  have k3 := lV_18 hp.2.1
  have k4 := lV_19 hp.2.1
  have k5 := lV_20 hp.2.1
  have k6 := lV_21 hp.2.1
  refine st_pf hp h (by omega) fun μ1 h1 => ?_
  refine st_cp hp h1 (n := 12) (by omega) rfl (by omega) (by omega) (by omega) fun μ2 h2 => ?_
  refine st_cp hp h2 (n := 12) (by omega) rfl (by omega) (by omega) (by omega) fun μ3 h3 => ?_
  refine st_cp hp h3 (n := 12) (by omega) rfl (by omega) (by omega) (by omega) fun μ4 h4 => ?_
  refine st_pf hp h4 (by omega) fun μ5 h5 => ?_
  refine st_cp hp h5 (n := 12) (by omega) rfl (by omega) (by omega) (by omega) fun μ6 h6 => ?_
  refine st_cp hp h6 (n := 12) (by omega) rfl (by omega) (by omega) (by omega) fun μ7 h7 => ?_
  refine st_cz hp h7 (n := 12) (by omega) rfl (by omega) (by omega) (by omega) hb fun μ8 h8 => ?_
  refine st_pf hp h8 (by omega) fun μ9 h9 => ?_
  refine st_pf hp h9 (by omega) fun μ10 h10 => ?_
  exact Ok_ret (Ag_mono h10 (fun o k q => Or.elim q (fun q => by simp only [un, q, true_or]) (fun q => by simp only [un]; omega)))
theorem tk_pick {v w : Nat} {μ0 μ : mm} {S : Nat → Nat → Prop} (hp : Ap v w) (h : Ag v w μ0 μ S) : Ok (f_3_takeFrom (v + 22) (w + 22) μ) fun μ' => Ag v w μ0 μ' (un S (fun o k => o = 22 ∧ k < 3 ∨ o = 23 ∧ k < 4 ∨ o = 24 ∧ k < 8)) := by
  unfold f_3_takeFrom
  rw [rV_22_3 hp.1, rV_22_4 hp.1, rV_22_3 hp.2.1, rV_22_4 hp.2.1]
  have l1 := lV_23 hp.1
  have l2 := lV_24 hp.1
  have k1 := lV_23 hp.2.1
  have k2 := lV_24 hp.2.1
  refine st_pf hp h (by omega) fun μ1 h1 => ?_
  refine st_pf hp h1 (by omega) fun μ2 h2 => ?_
  refine st_pf hp h2 (by omega) fun μ3 h3 => ?_
  refine st_cp hp h3 (n := 4) (by omega) rfl (by omega) (by omega) (by omega) fun μ4 h4 => ?_
  refine st_cp hp h4 (n := 8) (by omega) rfl (by omega) (by omega) (by omega) fun μ5 h5 => ?_
  exact Ok_ret (Ag_mono h5 (fun o k q => Or.elim q (fun q => by simp only [un, q, true_or]) (fun q => by simp only [un]; omega)))
theorem tk_off_l {v w : Nat} {μ0 : mm} {S : Nat → Nat → Prop} (hp : Ap v w) : ∀ (m i fuel : Nat) (μ : mm), i + m = 9 → m < fuel → Ag v w μ0 μ (un S (fun o k => 39 ≤ o ∧ o < 39 + i ∧ k < 4)) → Ok (f_2_takeFrom_l25 (v + 36) (w + 36) fuel (nI i) μ) fun μ' => Ag v w μ0 μ' (un S (fun o k => 39 ≤ o ∧ o < 48 ∧ k < 4)) := by
  intro m
  induction m with
  | zero =>
    intro i fuel μ h1 h2 h
    obtain ⟨f, rfl⟩ : ∃ f, fuel = f + 1 := ⟨fuel - 1, by omega⟩
    obtain rfl : i = 9 := by omega
    unfold f_2_takeFrom_l25
    rw [if_pos (show (9 : Int32) ≤ nI 9 from by decide)]
    exact Ok_ret h
  | succ m ih =>
    intro i fuel μ h1 h2 h
    obtain ⟨f, rfl⟩ : ∃ f, fuel = f + 1 := ⟨fuel - 1, by omega⟩
    unfold f_2_takeFrom_l25
    rw [if_neg (nle_9 (by omega)), rV_36_2 hp.1, rV_36_2 hp.2.1, aV_38 hp.1 (by omega), aV_38 hp.2.1 (by omega), Option.bind_some, Option.bind_some, nI_1, Nat.add_assoc, Nat.add_assoc]
    have l1 := lV_39 (s := i) hp.1 (by omega)
    have k1 := lV_39 (s := i) hp.2.1 (by omega)
    rw [Nat.add_assoc] at l1 k1
    refine st_cp hp h (n := 4) (by omega) rfl (by omega) (by omega) (by omega) fun μ1 h1 => ?_
    exact ih (i + 1) f μ1 (by omega) (by omega) (Ag_mono h1 (fun o k q => Or.elim q (fun q => by simp only [un, q, true_or]) (fun q => by simp only [un]; omega)))
theorem tk_off {v w : Nat} {μ0 μ : mm} {S : Nat → Nat → Prop} (hp : Ap v w) (h : Ag v w μ0 μ S) : Ok (f_2_takeFrom (v + 36) (w + 36) μ) fun μ' => Ag v w μ0 μ' (un S (fun o k => o = 36 ∧ k = 0 ∨ o = 37 ∧ k < 9 ∨ 39 ≤ o ∧ o < 48 ∧ k < 4)) := by
  unfold f_2_takeFrom
  rw [rV_36_1 hp.1, rV_36_1 hp.2.1]
  have l1 := lV_37 hp.1
  have k1 := lV_37 hp.2.1
  refine st_pf hp h (by omega) fun μ1 h1 => ?_
  refine st_cp hp h1 (n := 9) (by omega) rfl (by omega) (by omega) (by omega) fun μ2 h2 => ?_
  rw [Ok_bind]
  refine Ok_mono (tk_off_l (S := un (un S (fun o' k' => o' = 36 ∧ k' = 0)) (fun o' k' => o' = 37 ∧ k' < 9)) hp 9 0 FU μ2 (by omega) (show 9 < 2000 by omega) (Ag_mono h2 (fun o k q => Or.elim q (fun q => q) (fun q => absurd q (by omega))))) fun μ3 h3 => ?_
  exact Ok_ret (Ag_mono h3 (fun o k q => Or.elim q (fun q => by simp only [un, q, true_or]) (fun q => by simp only [un]; omega)))
theorem tk_roads {v w : Nat} {μ0 : mm} {S : Nat → Nat → Prop} (hp : Ap v w) : ∀ (m i fuel : Nat) (μ : mm), i + m = 6 → m < fuel → Ag v w μ0 μ (un S (fun o k => 2 ≤ o ∧ o < 2 + i ∧ k < 6)) → Ok (f_9_takeFrom_l58 v w fuel (nI i) μ) fun μ' => Ag v w μ0 μ' (un S (fun o k => 2 ≤ o ∧ o < 8 ∧ k < 6)) := by
  intro m
  induction m with
  | zero =>
    intro i fuel μ h1 h2 h
    obtain ⟨f, rfl⟩ : ∃ f, fuel = f + 1 := ⟨fuel - 1, by omega⟩
    obtain rfl : i = 6 := by omega
    unfold f_9_takeFrom_l58
    rw [if_pos (show (6 : Int32) ≤ nI 6 from by decide)]
    exact Ok_ret h
  | succ m ih =>
    intro i fuel μ h1 h2 h
    obtain ⟨f, rfl⟩ : ∃ f, fuel = f + 1 := ⟨fuel - 1, by omega⟩
    unfold f_9_takeFrom_l58
    rw [if_neg (nle_6 (by omega)), rV_0_7 hp.1, rV_0_7 hp.2.1, aV_1 hp.1 (by omega), aV_1 hp.2.1 (by omega), Option.bind_some, Option.bind_some, nI_1, Nat.add_assoc, Nat.add_assoc]
    have l1 := lV_2 (s := i) hp.1 (by omega)
    have k1 := lV_2 (s := i) hp.2.1 (by omega)
    rw [Nat.add_assoc] at l1 k1
    refine st_cp hp h (n := 6) (by omega) rfl (by omega) (by omega) (by omega) fun μ1 h1 => ?_
    exact ih (i + 1) f μ1 (by omega) (by omega) (Ag_mono h1 (fun o k q => Or.elim q (fun q => by simp only [un, q, true_or]) (fun q => by simp only [un]; omega)))
theorem tk_pits {v w n : Nat} {μ0 : mm} {S : Nat → Nat → Prop} (hp : Ap v w) (hn : n ≤ 4) (en : μ0 w 2 = nI n) (hS : S 0 2) : ∀ (m i fuel : Nat) (μ : mm), i + m = n → m < fuel → Ag v w μ0 μ (un S (fun o k => 52 ≤ o ∧ o < 52 + i ∧ k < 7)) → Ok (f_9_takeFrom_l91 v w fuel (nI i) μ) fun μ' => Ag v w μ0 μ' (un S (fun o k => 52 ≤ o ∧ o < 52 + n ∧ k < 7)) := by
  intro m
  induction m with
  | zero =>
    intro i fuel μ h1 h2 h
    obtain ⟨f, rfl⟩ : ∃ f, fuel = f + 1 := ⟨fuel - 1, by omega⟩
    obtain rfl : i = n := by omega
    unfold f_9_takeFrom_l91
    rw [show μ v 2 = nI i from (h.2 0 2 (by omega) (Or.inl hS)).trans en, if_pos (Int32.le_refl _)]
    exact Ok_ret h
  | succ m ih =>
    intro i fuel μ h1 h2 h
    obtain ⟨f, rfl⟩ : ∃ f, fuel = f + 1 := ⟨fuel - 1, by omega⟩
    unfold f_9_takeFrom_l91
    rw [show μ v 2 = nI n from (h.2 0 2 (by omega) (Or.inl hS)).trans en, if_neg (lt_n1 (by omega) (by omega)), rV_0_8 hp.1, rV_0_8 hp.2.1, aV_8 hp.1 (by omega), aV_8 hp.2.1 (by omega), Option.bind_some, Option.bind_some, nI_1, Nat.add_assoc, Nat.add_assoc, Ok_bind]
    refine Ok_mono (tk_pit hp h (by omega)) fun μ1 h1 => ?_
    exact ih (i + 1) f μ1 (by omega) (by omega) (Ag_mono h1 (fun o k q => Or.elim q (fun q => by simp only [un, q, true_or]) (fun q => by simp only [un]; omega)))
theorem tk_shops {v w n : Nat} {μ0 : mm} {S : Nat → Nat → Prop} (hp : Ap v w) (hn : n ≤ 4) (en : μ0 w 3 = nI n) (hS : S 0 3) : ∀ (m i fuel : Nat) (μ : mm), i + m = n → m < fuel → Ag v w μ0 μ (un S (fun o k => 56 ≤ o ∧ o < 56 + i ∧ k < 3)) → Ok (f_9_takeFrom_l122 v w fuel (nI i) μ) fun μ' => Ag v w μ0 μ' (un S (fun o k => 56 ≤ o ∧ o < 56 + n ∧ k < 3)) := by
  intro m
  induction m with
  | zero =>
    intro i fuel μ h1 h2 h
    obtain ⟨f, rfl⟩ : ∃ f, fuel = f + 1 := ⟨fuel - 1, by omega⟩
    obtain rfl : i = n := by omega
    unfold f_9_takeFrom_l122
    rw [show μ v 3 = nI i from (h.2 0 3 (by omega) (Or.inl hS)).trans en, if_pos (Int32.le_refl _)]
    exact Ok_ret h
  | succ m ih =>
    intro i fuel μ h1 h2 h
    obtain ⟨f, rfl⟩ : ∃ f, fuel = f + 1 := ⟨fuel - 1, by omega⟩
    unfold f_9_takeFrom_l122
    rw [show μ v 3 = nI n from (h.2 0 3 (by omega) (Or.inl hS)).trans en, if_neg (lt_n1 (by omega) (by omega)), rV_0_9 hp.1, rV_0_9 hp.2.1, aV_9 hp.1 (by omega), aV_9 hp.2.1 (by omega), Option.bind_some, Option.bind_some, nI_1, Nat.add_assoc, Nat.add_assoc, Ok_bind]
    refine Ok_mono (tk_shop hp h (by omega)) fun μ1 h1 => ?_
    exact ih (i + 1) f μ1 (by omega) (by omega) (Ag_mono h1 (fun o k q => Or.elim q (fun q => by simp only [un, q, true_or]) (fun q => by simp only [un]; omega)))
theorem tk_houses {v w n : Nat} {μ0 : mm} {S : Nat → Nat → Prop} (hp : Ap v w) (hn : n ≤ 16) (en : μ0 w 4 = nI n) (hS : S 0 4) (hb : ∀ p, p < n → (μ0 (w + (60 + p)) 10 = 0 ∨ μ0 (w + (60 + p)) 10 = 1) ∧ (μ0 (w + (60 + p)) 11 = 0 ∨ μ0 (w + (60 + p)) 11 = 1)) : ∀ (m i fuel : Nat) (μ : mm), i + m = n → m < fuel → Ag v w μ0 μ (un S (fun o k => 60 ≤ o ∧ o < 60 + i ∧ k < 12)) → Ok (f_9_takeFrom_l153 v w fuel (nI i) μ) fun μ' => Ag v w μ0 μ' (un S (fun o k => 60 ≤ o ∧ o < 60 + n ∧ k < 12)) := by
  intro m
  induction m with
  | zero =>
    intro i fuel μ h1 h2 h
    obtain ⟨f, rfl⟩ : ∃ f, fuel = f + 1 := ⟨fuel - 1, by omega⟩
    obtain rfl : i = n := by omega
    unfold f_9_takeFrom_l153
    rw [show μ v 4 = nI i from (h.2 0 4 (by omega) (Or.inl hS)).trans en, if_pos (Int32.le_refl _)]
    exact Ok_ret h
  | succ m ih =>
    intro i fuel μ h1 h2 h
    obtain ⟨f, rfl⟩ : ∃ f, fuel = f + 1 := ⟨fuel - 1, by omega⟩
    unfold f_9_takeFrom_l153
    rw [show μ v 4 = nI n from (h.2 0 4 (by omega) (Or.inl hS)).trans en, if_neg (lt_n1 (by omega) (by omega)), rV_0_10 hp.1, rV_0_10 hp.2.1, aV_10 hp.1 (by omega), aV_10 hp.2.1 (by omega), Option.bind_some, Option.bind_some, nI_1, Nat.add_assoc, Nat.add_assoc, Ok_bind]
    refine Ok_mono (tk_house hp h (by omega) (hb i (by omega)).1 (hb i (by omega)).2) fun μ1 h1 => ?_
    exact ih (i + 1) f μ1 (by omega) (by omega) (Ag_mono h1 (fun o k q => Or.elim q (fun q => by simp only [un, q, true_or]) (fun q => by simp only [un]; omega)))
theorem so_cp : ∀ k, k < 18 → (so k = 0 ∧ ss k < 7) ∨ (so k = 12 ∧ ss k < 3) ∨ (so k = 15 ∧ (ss k = 0 ∨ ss k = 4 ∨ ss k = 8 ∨ ss k = 9)) ∨ (so k = 22 ∧ ss k < 3) ∨ (so k = 36 ∧ ss k = 0) := by decide +kernel
theorem pm_lt : ∀ f, f < 7 → pm f < 7 := by decide +kernel
set_option maxHeartbeats 2000000 in
theorem take_ok {v w : Nat} {μ : mm} {g : Nat → Int32} (hp : Ap v w) (h : VP w μ g) (hI2 : I2 g) (hc : g 3 = 0 ∨ g 3 = 1) (hH : ∀ p, p < nn (g 11) → (g (106 + 12 * p) = 0 ∨ g (106 + 12 * p) = 1) ∧ (g (107 + 12 * p) = 0 ∨ g (107 + 12 * p) = 1)) : Ok (f_9_takeFrom v w μ) fun μ' => VP v μ' g ∧ ∀ b, (b < v ∨ v + 94 ≤ b) → μ' b = μ b := by
  obtain ⟨v1, v2, v3, v4, v5, v6, v7, v8, v9, v10, v11, v12⟩ := h
  obtain ⟨n9, hn9, en9, nn9⟩ := cnt_of (m := 4) (by decide) hI2.2.1
  obtain ⟨n10, hn10, en10, nn10⟩ := cnt_of (m := 4) (by decide) hI2.2.2.1
  obtain ⟨n11, hn11, en11, nn11⟩ := cnt_of (m := 16) (by decide) hI2.2.2.2.1
  obtain ⟨n12, hn12, en12, nn12⟩ := cnt_of (m := 12) (by decide) hI2.2.2.2.2.1
  obtain ⟨n14, hn14, en14, nn14⟩ := cnt_of (m := 6) (by decide) hI2.2.2.2.2.2.2.1
  obtain ⟨n15, hn15, en15, nn15⟩ := cnt_of (m := 4) (by decide) hI2.2.2.2.2.2.2.2.1
  obtain ⟨n16, hn16, en16, nn16⟩ := cnt_of (m := 8) (by decide) hI2.2.2.2.2.2.2.2.2.1
  obtain ⟨n17, hn17, en17, nn17⟩ := cnt_of (m := 9) (by decide) hI2.2.2.2.2.2.2.2.2.2
  have e9 : μ w 2 = nI n9 := (v1 9 (by decide)).symm.trans en9
  have e10 : μ w 3 = nI n10 := (v1 10 (by decide)).symm.trans en10
  have e11 : μ w 4 = nI n11 := (v1 11 (by decide)).symm.trans en11
  have ec : μ w 6 = 0 ∨ μ w 6 = 1 := by
    have e : g 3 = μ w 6 := v1 3 (by decide)
    rw [← e]
    exact hc
  have hb : ∀ p, p < n11 → (μ (w + (60 + p)) 10 = 0 ∨ μ (w + (60 + p)) 10 = 1) ∧ (μ (w + (60 + p)) 11 = 0 ∨ μ (w + (60 + p)) 11 = 1) := by
    intro p q
    have a := v5 p 10 (by omega) (by decide)
    have b := v5 p 11 (by omega) (by decide)
    rw [Nat.add_assoc w] at a b
    rw [← a, ← b, show 96 + 12 * p + 10 = 106 + 12 * p from by omega, show 96 + 12 * p + 11 = 107 + 12 * p from by omega]
    exact hH p (by omega)
  obtain ⟨m0, z0, hm0, hz0, gm0, cm0, cz0, L0⟩ := v12 0 (by decide)
  obtain ⟨m1, z1, hm1, hz1, gm1, cm1, cz1, L1⟩ := v12 1 (by decide)
  obtain ⟨m2, z2, hm2, hz2, gm2, cm2, cz2, L2⟩ := v12 2 (by decide)
  have h0 : Ag v w μ μ (fun _ _ => False) := ⟨fun _ _ => rfl, fun _ _ _ q => q.elim⟩
  have key : Ok (f_9_takeFrom v w μ) fun μ' => Ag v w μ μ' (un (un (un (un (un (un (un (un (un (un (un (fun o k => o = 0 ∧ k < 7) (fun o k => 2 ≤ o ∧ o < 8 ∧ k < 6)) (fun o k => 52 ≤ o ∧ o < 52 + n9 ∧ k < 7)) (fun o k => 56 ≤ o ∧ o < 56 + n10 ∧ k < 3)) (fun o k => 60 ≤ o ∧ o < 60 + n11 ∧ k < 12)) (fun o k => o = 76 + 6 * 0 ∧ (k = 0 ∨ k = 5) ∨ 77 + 6 * 0 ≤ o ∧ o ≤ 80 + 6 * 0 ∧ k < m0 ∨ o = 81 + 6 * 0 ∧ k < z0)) (fun o k => o = 76 + 6 * 1 ∧ (k = 0 ∨ k = 5) ∨ 77 + 6 * 1 ≤ o ∧ o ≤ 80 + 6 * 1 ∧ k < m1 ∨ o = 81 + 6 * 1 ∧ k < z1)) (fun o k => o = 76 + 6 * 2 ∧ (k = 0 ∨ k = 5) ∨ 77 + 6 * 2 ≤ o ∧ o ≤ 80 + 6 * 2 ∧ k < m2 ∨ o = 81 + 6 * 2 ∧ k < z2)) (fun o k => o = 12 ∧ k < 3 ∨ (o = 13 ∨ o = 14) ∧ k < 6)) (fun o k => o = 15 ∧ (k = 0 ∨ k = 4 ∨ k = 8 ∨ k = 9) ∨ 16 ≤ o ∧ o ≤ 21 ∧ k < 12)) (fun o k => o = 22 ∧ k < 3 ∨ o = 23 ∧ k < 4 ∨ o = 24 ∧ k < 8)) (fun o k => o = 36 ∧ k = 0 ∨ o = 37 ∧ k < 9 ∨ 39 ≤ o ∧ o < 48 ∧ k < 4)) := by
    unfold f_9_takeFrom
    refine st_pf (o := 0) hp h0 (by omega) fun μ1 h1 => ?_
    refine st_pf (o := 0) hp h1 (by omega) fun μ2 h2 => ?_
    refine st_pf (o := 0) hp h2 (by omega) fun μ3 h3 => ?_
    refine st_pf (o := 0) hp h3 (by omega) fun μ4 h4 => ?_
    refine st_pf (o := 0) hp h4 (by omega) fun μ5 h5 => ?_
    refine st_pf (o := 0) hp h5 (by omega) fun μ6 h6 => ?_
    refine st_gb (by rw [show μ6 w = μ w from Ag_src (o := 0) hp h6 (by omega)]; exact ec) ?_
    refine st_pf (o := 0) hp h6 (by omega) fun μ7 h7 => ?_
    have a0 : Ag v w μ μ7 (fun o k => o = 0 ∧ k < 7) := Ag_mono h7 (fun o k q => by simp only [un]; omega)
    rw [Ok_bind]
    refine Ok_mono (tk_roads (S := (fun o k => o = 0 ∧ k < 7)) hp 6 0 FU μ7 (by omega) (show 6 < 2000 by omega) (Ag_mono a0 (fun o k q => Or.elim q (fun q => q) (fun q => absurd q (by omega))))) fun μ8 h8 => ?_
    rw [Ok_bind]
    refine Ok_mono (tk_pits (S := (un (fun o k => o = 0 ∧ k < 7) (fun o k => 2 ≤ o ∧ o < 8 ∧ k < 6))) hp hn9 e9 (Or.inl ⟨rfl, by omega⟩) n9 0 FU μ8 (by omega) (show n9 < 2000 by omega) (Ag_mono h8 (fun o k q => Or.elim q (fun q => q) (fun q => absurd q (by omega))))) fun μ9 h9 => ?_
    rw [Ok_bind]
    refine Ok_mono (tk_shops (S := (un (un (fun o k => o = 0 ∧ k < 7) (fun o k => 2 ≤ o ∧ o < 8 ∧ k < 6)) (fun o k => 52 ≤ o ∧ o < 52 + n9 ∧ k < 7))) hp hn10 e10 (Or.inl (Or.inl ⟨rfl, by omega⟩)) n10 0 FU μ9 (by omega) (show n10 < 2000 by omega) (Ag_mono h9 (fun o k q => Or.elim q (fun q => q) (fun q => absurd q (by omega))))) fun μ10 h10 => ?_
    rw [Ok_bind]
    refine Ok_mono (tk_houses (S := (un (un (un (fun o k => o = 0 ∧ k < 7) (fun o k => 2 ≤ o ∧ o < 8 ∧ k < 6)) (fun o k => 52 ≤ o ∧ o < 52 + n9 ∧ k < 7)) (fun o k => 56 ≤ o ∧ o < 56 + n10 ∧ k < 3))) hp hn11 e11 (Or.inl (Or.inl (Or.inl ⟨rfl, by omega⟩))) hb n11 0 FU μ10 (by omega) (show n11 < 2000 by omega) (Ag_mono h10 (fun o k q => Or.elim q (fun q => q) (fun q => absurd q (by omega))))) fun μ11 h11 => ?_
    rw [Ok_bind]
    have r3 : Ok (f_9_takeFrom_l184 v w FU 0 μ11) fun μ' => Ag v w μ μ' (un (un (un (un (un (un (un (fun o k => o = 0 ∧ k < 7) (fun o k => 2 ≤ o ∧ o < 8 ∧ k < 6)) (fun o k => 52 ≤ o ∧ o < 52 + n9 ∧ k < 7)) (fun o k => 56 ≤ o ∧ o < 56 + n10 ∧ k < 3)) (fun o k => 60 ≤ o ∧ o < 60 + n11 ∧ k < 12)) (fun o k => o = 76 + 6 * 0 ∧ (k = 0 ∨ k = 5) ∨ 77 + 6 * 0 ≤ o ∧ o ≤ 80 + 6 * 0 ∧ k < m0 ∨ o = 81 + 6 * 0 ∧ k < z0)) (fun o k => o = 76 + 6 * 1 ∧ (k = 0 ∨ k = 5) ∨ 77 + 6 * 1 ≤ o ∧ o ≤ 80 + 6 * 1 ∧ k < m1 ∨ o = 81 + 6 * 1 ∧ k < z1)) (fun o k => o = 76 + 6 * 2 ∧ (k = 0 ∨ k = 5) ∨ 77 + 6 * 2 ≤ o ∧ o ≤ 80 + 6 * 2 ∧ k < m2 ∨ o = 81 + 6 * 2 ∧ k < z2)) := by
      obtain ⟨F, hfu⟩ : ∃ n, FU = n + 4 := ⟨1996, rfl⟩
      rw [hfu]
      unfold f_9_takeFrom_l184
      rw [if_neg (by decide), rl_0 hp.1, rl_0 hp.2.1, Option.bind_some, Option.bind_some, Ok_bind]
      refine Ok_mono (tk_rules (s := 0) hp h11 (by decide) hm0 hz0 cm0 cz0) fun μ12 h12 => ?_
      rw [show (0 : Int32) + 1 = 1 from rfl]
      unfold f_9_takeFrom_l184
      rw [if_neg (by decide), rl_1 hp.1, rl_1 hp.2.1, Option.bind_some, Option.bind_some, Ok_bind]
      refine Ok_mono (tk_rules (s := 1) hp h12 (by decide) hm1 hz1 cm1 cz1) fun μ13 h13 => ?_
      rw [show (1 : Int32) + 1 = 2 from rfl]
      unfold f_9_takeFrom_l184
      rw [if_neg (by decide), rl_2 hp.1, rl_2 hp.2.1, Option.bind_some, Option.bind_some, Ok_bind]
      refine Ok_mono (tk_rules (s := 2) hp h13 (by decide) hm2 hz2 cm2 cz2) fun μ14 h14 => ?_
      rw [show (2 : Int32) + 1 = 3 from rfl]
      unfold f_9_takeFrom_l184
      rw [if_pos (by decide)]
      exact Ok_ret h14
    refine Ok_mono r3 fun μ14 h14 => ?_
    rw [rV_0_12 hp.1, rV_0_12 hp.2.1, rV_0_13 hp.1, rV_0_13 hp.2.1, rV_0_14 hp.1, rV_0_14 hp.2.1, rV_0_15 hp.1, rV_0_15 hp.2.1, Ok_bind]
    refine Ok_mono (tk_works hp h14) fun μ15 h15 => ?_
    rw [Ok_bind]
    refine Ok_mono (tk_talk hp h15 (fun i hi => (v7 i hi).1)) fun μ16 h16 => ?_
    rw [Ok_bind]
    refine Ok_mono (tk_pick hp h16) fun μ17 h17 => ?_
    rw [Ok_bind]
    refine Ok_mono (tk_off hp h17) fun μ18 h18 => ?_
    exact Ok_ret h18
  refine Ok_mono key fun μ' hA => ⟨?_, hA.1⟩
  have cp := hA.2
  have d1 : ∀ o k, o < 94 → (o = 0 ∧ k < 7) → μ' (v + o) k = μ (w + o) k := fun o k ho q => cp o k ho (Or.inl (Or.inl (Or.inl (Or.inl (Or.inl (Or.inl (Or.inl (Or.inl (Or.inl (Or.inl (Or.inl q)))))))))))
  have d2 : ∀ o k, o < 94 → (2 ≤ o ∧ o < 8 ∧ k < 6) → μ' (v + o) k = μ (w + o) k := fun o k ho q => cp o k ho (Or.inl (Or.inl (Or.inl (Or.inl (Or.inl (Or.inl (Or.inl (Or.inl (Or.inl (Or.inl (Or.inr q)))))))))))
  have d3 : ∀ o k, o < 94 → (52 ≤ o ∧ o < 52 + n9 ∧ k < 7) → μ' (v + o) k = μ (w + o) k := fun o k ho q => cp o k ho (Or.inl (Or.inl (Or.inl (Or.inl (Or.inl (Or.inl (Or.inl (Or.inl (Or.inl (Or.inr q))))))))))
  have d4 : ∀ o k, o < 94 → (56 ≤ o ∧ o < 56 + n10 ∧ k < 3) → μ' (v + o) k = μ (w + o) k := fun o k ho q => cp o k ho (Or.inl (Or.inl (Or.inl (Or.inl (Or.inl (Or.inl (Or.inl (Or.inl (Or.inr q)))))))))
  have d5 : ∀ o k, o < 94 → (60 ≤ o ∧ o < 60 + n11 ∧ k < 12) → μ' (v + o) k = μ (w + o) k := fun o k ho q => cp o k ho (Or.inl (Or.inl (Or.inl (Or.inl (Or.inl (Or.inl (Or.inl (Or.inr q))))))))
  have d6 : ∀ o k, o < 94 → (o = 76 + 6 * 0 ∧ (k = 0 ∨ k = 5) ∨ 77 + 6 * 0 ≤ o ∧ o ≤ 80 + 6 * 0 ∧ k < m0 ∨ o = 81 + 6 * 0 ∧ k < z0) → μ' (v + o) k = μ (w + o) k := fun o k ho q => cp o k ho (Or.inl (Or.inl (Or.inl (Or.inl (Or.inl (Or.inl (Or.inr q)))))))
  have d7 : ∀ o k, o < 94 → (o = 76 + 6 * 1 ∧ (k = 0 ∨ k = 5) ∨ 77 + 6 * 1 ≤ o ∧ o ≤ 80 + 6 * 1 ∧ k < m1 ∨ o = 81 + 6 * 1 ∧ k < z1) → μ' (v + o) k = μ (w + o) k := fun o k ho q => cp o k ho (Or.inl (Or.inl (Or.inl (Or.inl (Or.inl (Or.inr q))))))
  have d8 : ∀ o k, o < 94 → (o = 76 + 6 * 2 ∧ (k = 0 ∨ k = 5) ∨ 77 + 6 * 2 ≤ o ∧ o ≤ 80 + 6 * 2 ∧ k < m2 ∨ o = 81 + 6 * 2 ∧ k < z2) → μ' (v + o) k = μ (w + o) k := fun o k ho q => cp o k ho (Or.inl (Or.inl (Or.inl (Or.inl (Or.inr q)))))
  have d9 : ∀ o k, o < 94 → (o = 12 ∧ k < 3 ∨ (o = 13 ∨ o = 14) ∧ k < 6) → μ' (v + o) k = μ (w + o) k := fun o k ho q => cp o k ho (Or.inl (Or.inl (Or.inl (Or.inr q))))
  have d10 : ∀ o k, o < 94 → (o = 15 ∧ (k = 0 ∨ k = 4 ∨ k = 8 ∨ k = 9) ∨ 16 ≤ o ∧ o ≤ 21 ∧ k < 12) → μ' (v + o) k = μ (w + o) k := fun o k ho q => cp o k ho (Or.inl (Or.inl (Or.inr q)))
  have d11 : ∀ o k, o < 94 → (o = 22 ∧ k < 3 ∨ o = 23 ∧ k < 4 ∨ o = 24 ∧ k < 8) → μ' (v + o) k = μ (w + o) k := fun o k ho q => cp o k ho (Or.inl (Or.inr q))
  have d12 : ∀ o k, o < 94 → (o = 36 ∧ k = 0 ∨ o = 37 ∧ k < 9 ∨ 39 ≤ o ∧ o < 48 ∧ k < 4) → μ' (v + o) k = μ (w + o) k := fun o k ho q => cp o k ho (Or.inr q)
  refine ⟨?_, ?_, ?_, ?_, ?_, ?_, ?_, ?_, ?_, ?_, ?_, ?_⟩
  · intro k hk
    have hs := so_cp k hk
    have e : μ' (v + so k) (ss k) = μ (w + so k) (ss k) := by
      rcases hs with q | q | q | q | q
      · exact d1 _ _ (by omega) q
      · exact d9 _ _ (by omega) (Or.inl q)
      · exact d10 _ _ (by omega) (Or.inl q)
      · exact d11 _ _ (by omega) (Or.inl q)
      · exact d12 _ _ (by omega) (Or.inl q)
    rw [e]
    exact v1 k hk
  · intro a b ha hb'
    rw [Nat.add_assoc v 2 a, d2 (2 + a) b (by omega) (by omega), ← Nat.add_assoc w 2 a]
    exact v2 a b ha hb'
  · intro p f hq hf
    have hpm := pm_lt f hf
    rw [Nat.add_assoc v, d3 (52 + p) (pm f) (by omega) (by omega), ← Nat.add_assoc w]
    exact v3 p f hq hf
  · intro p f hq hf
    rw [Nat.add_assoc v, d4 (56 + p) f (by omega) (by omega), ← Nat.add_assoc w]
    exact v4 p f hq hf
  · intro p f hq hf
    rw [Nat.add_assoc v, d5 (60 + p) f (by omega) (by omega), ← Nat.add_assoc w]
    exact v5 p f hq hf
  · intro j hj
    rw [d10 16 j (by omega) (by omega), d10 18 j (by omega) (by omega), d10 17 j (by omega) (by omega)]
    exact v6 j hj
  · intro j hj
    rw [d10 19 j (by omega) (by omega), d10 20 j (by omega) (by omega), d10 21 j (by omega) (by omega)]
    exact v7 j hj
  · intro j hj
    rw [d9 13 j (by omega) (by omega), d9 14 j (by omega) (by omega)]
    exact v8 j hj
  · intro j hj
    rw [d11 23 j (by omega) (by omega)]
    exact v9 j hj
  · intro j hj
    rw [d11 24 j (by omega) (by omega)]
    exact v10 j hj
  · intro c hc'
    obtain ⟨q1, q2⟩ := v11 c hc'
    refine ⟨?_, fun p hp' => ?_⟩
    · rw [d12 37 c (by omega) (by omega)]
      exact q1
    · rw [Nat.add_assoc v, d12 (39 + c) p (by omega) (by omega), ← Nat.add_assoc w]
      exact q2 p hp'
  · intro s hs
    have s3 : s = 0 ∨ s = 1 ∨ s = 2 := by omega
    have gen : ∀ (s n z : Nat), s < 3 → n ≤ 10 → z ≤ 300 → g (288 + 161 * s) = nI n → μ (w + 76 + 6 * s) 0 = nI n → μ (w + 76 + 6 * s) 5 = nI z → (∀ o k, o < 94 → (o = 76 + 6 * s ∧ (k = 0 ∨ k = 5) ∨ 77 + 6 * s ≤ o ∧ o ≤ 80 + 6 * s ∧ k < n ∨ o = 81 + 6 * s ∧ k < z) → μ' (v + o) k = μ (w + o) k) → RC w μ g s → RC v μ' g s := by
      intro s n z hs hn hz gn cn cz cp2 ⟨n', z', hn', hz', gn', cn', cz', L⟩
      have e1 : n' = n := (nI_eq (by omega) (by omega)).mp (gn'.symm.trans gn)
      have e2 : z' = z := (nI_eq (by omega) (by omega)).mp (cz'.symm.trans cz)
      subst e1 e2
      have c76 : ∀ k, (k = 0 ∨ k = 5) → μ' (v + 76 + 6 * s) k = μ (w + 76 + 6 * s) k := fun k hk => by rw [Nat.add_assoc, cp2 (76 + 6 * s) k (by omega) (by omega), ← Nat.add_assoc]
      have c77 : ∀ k, k < n' → μ' (v + 77 + 6 * s) k = μ (w + 77 + 6 * s) k := fun k hk => by rw [Nat.add_assoc, cp2 (77 + 6 * s) k (by omega) (by omega), ← Nat.add_assoc]
      have c78 : ∀ k, k < n' → μ' (v + 78 + 6 * s) k = μ (w + 78 + 6 * s) k := fun k hk => by rw [Nat.add_assoc, cp2 (78 + 6 * s) k (by omega) (by omega), ← Nat.add_assoc]
      have c79 : ∀ k, k < n' → μ' (v + 79 + 6 * s) k = μ (w + 79 + 6 * s) k := fun k hk => by rw [Nat.add_assoc, cp2 (79 + 6 * s) k (by omega) (by omega), ← Nat.add_assoc]
      have c80 : ∀ k, k < n' → μ' (v + 80 + 6 * s) k = μ (w + 80 + 6 * s) k := fun k hk => by rw [Nat.add_assoc, cp2 (80 + 6 * s) k (by omega) (by omega), ← Nat.add_assoc]
      have c81 : ∀ k, k < z' → μ' (v + 81 + 6 * s) k = μ (w + 81 + 6 * s) k := fun k hk => by rw [Nat.add_assoc, cp2 (81 + 6 * s) k (by omega) (by omega), ← Nat.add_assoc]
      refine ⟨n', z', hn', hz', gn', by rw [c76 0 (Or.inl rfl)]; exact cn', by rw [c76 5 (Or.inr rfl)]; exact cz', fun l hl => ?_⟩
      rw [c77 l hl, c78 l hl, c79 l hl, c80 l hl]
      obtain ⟨a1, a2, a3, a4, a5, fm, tm, fc, tc, b1, b2, b3, b4, b5, b6, b7, b8, b9, b0⟩ := L l hl
      refine ⟨a1, a2, a3, a4, a5, fm, tm, fc, tc, b1, b2, b3, b4, b5, b6, b7, b8, b9, fun hf => ?_⟩
      obtain ⟨φ, p1, p2⟩ := b0 hf
      refine ⟨φ, p1, ?_⟩
      have e6 : slc (μ' (v + 81 + 6 * s)) fc (tc - fc) = slc (μ (w + 81 + 6 * s)) fc (tc - fc) := by
        unfold slc
        apply List.map_congr_left
        intro i hi
        have := List.mem_range.mp hi
        exact c81 _ (by omega)
      rw [e6]
      exact p2
    rcases s3 with rfl | rfl | rfl
    · exact gen 0 m0 z0 (by decide) hm0 hz0 gm0 cm0 cz0 d6 (v12 0 (by decide))
    · exact gen 1 m1 z1 (by decide) hm1 hz1 gm1 cm1 cz1 d7 (v12 1 (by decide))
    · exact gen 2 m2 z2 (by decide) hm2 hz2 gm2 cm2 cz2 d8 (v12 2 (by decide))
