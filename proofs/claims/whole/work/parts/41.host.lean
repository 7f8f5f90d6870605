/-! the host: sheets, shelves -/
theorem ldL {μ : mm} {a n k : Nat} (hl : len a = n) (h : k < n) (hn : n < 2 ^ 31) : ld μ a (nI k) = some (μ a k) := ld_nI (by omega) (by omega)
theorem stoL {μ : mm} {a n k : Nat} {v : Int32} (hl : len a = n) (h : k < n) (hn : n < 2 ^ 31) : sto μ a (nI k) v = some (up μ a k v) := sto_nI (by omega) (by omega)
theorem ldaL {a n k b : Nat} (hl : len a = n) (hr : rf a k = b) (h : k < n) (hn : n < 2 ^ 31) : lda a (nI k) = some b := by rw [lda_nI (by omega) (by omega), hr]
/-- a call that changes sheets, shelves or the trace alone -/
theorem Cp_host {μ μ' ν ν' : mm} (h : Cp μ ν) (hm : ∀ b, (b < 35 ∨ b = 37 ∨ b = 38 ∨ 49 ≤ b) → μ' b = μ b) (hn : ∀ b, (1 ≤ b ∧ b < 16) → ν' b = ν b) (hn0 : ν' 0 3 = ν 0 3 ∧ ν' 0 5 = ν 0 5 ∧ ν' 0 8 = ν 0 8 ∧ ν' 0 9 = ν 0 9) (hS : Sh μ' ν') (hV : Sv μ' ν') (hT : Tc μ' ν') : Cp μ' ν' := by
  obtain ⟨h1, h2, ⟨k1, k2, k3⟩, ht, hr, -, -, -⟩ := h
  have m23 := hm 23 (by omega)
  refine ⟨?_, ?_, ⟨by rw [m23, hn0.1]; exact k1, by rw [m23]; exact k2, fun e => ?_⟩, ?_, ?_, hS, hV, hT⟩
  · rw [hn 1 (by omega)]
    exact VP_congr (fun _ _ => rfl) (fun b q1 q2 => hm b (by omega)) (IV_nn h2) h1
  · rw [hn 1 (by omega)]
    exact h2
  · rw [m23] at e
    obtain ⟨q1, q2⟩ := k3 e
    rw [hn 2 (by omega)]
    exact ⟨VP_congr (fun _ _ => rfl) (fun b q1 q2 => hm b (by omega)) (IV_nn q2) q1, q2⟩
  · unfold Tp
    rw [hm 24 (by omega), hm 25 (by omega), hn0.2.1, hn 4 (by omega)]
    exact ht
  · unfold Rw
    rw [m23, hn0.2.2.1, hn0.2.2.2, hm 37 (by omega), hm 38 (by omega), hn 5 (by omega), hn 6 (by omega)]
    exact hr
theorem Sh_cg {μ μ' ν ν' : mm} (hm : ∀ b, (39 ≤ b ∧ b < 46) → μ' b = μ b) (hn : ∀ b, (16 ≤ b ∧ b < 19) → ν' b = ν b) (h : Sh μ ν) : Sh μ' ν' := by
  intro s hs1
  rw [hm 39 (by omega), hm 40 (by omega), hm (42 + s) (by omega), hn 16 (by omega), hn 17 (by omega), hn 18 (by omega)]
  exact h s hs1
theorem Sv_cg {μ μ' ν ν' : mm} (hm : ∀ b, (46 ≤ b ∧ b < 49) → μ' b = μ b) (hn : ∀ b, (19 ≤ b ∧ b < 22) → ν' b = ν b) (h : Sv μ ν) : Sv μ' ν' := by
  intro s hs1
  rw [hm 46 (by omega), hm 47 (by omega), hm 48 (by omega), hn 19 (by omega), hn 20 (by omega), hn 21 (by omega)]
  exact h s hs1
theorem Tc_cg {μ μ' ν ν' : mm} (hm : μ' 35 = μ 35 ∧ μ' 36 = μ 36) (hn : ν' 0 33 = ν 0 33 ∧ ν' 22 = ν 22) (h : Tc μ ν) : Tc μ' ν' := by
  unfold Tc
  rw [hm.1, hm.2, hn.1, hn.2]
  exact h
theorem isIn_t {a b c : Int32} {μ : mm} (h : b ≤ a ∧ a ≤ c) : f_11_isIn a b c μ = some 1 := by rw [isIn_eq, if_pos h]
theorem isIn_f {a b c : Int32} {μ : mm} (h : ¬ (b ≤ a ∧ a ≤ c)) : f_11_isIn a b c μ = some 0 := by rw [isIn_eq, if_neg h]
theorem within_t {a b c : Int32} {μ : mm} (h : b ≤ a ∧ a ≤ c) : f_12_within a b c μ = some 1 := by rw [within_eq, if_pos h]
theorem within_f {a b c : Int32} {μ : mm} (h : ¬ (b ≤ a ∧ a ≤ c)) : f_12_within a b c μ = some 0 := by rw [within_eq, if_neg h]
theorem bind_eta {α β : Type} {x : Option (α × β)} : (x.bind fun z => some (z.1, z.2)) = x := by cases x <;> rfl
theorem bind_id {α : Type} {x : Option α} : (x.bind fun z => some z) = x := by cases x <;> rfl
theorem four_of {a : Int32} (h : 0 ≤ a ∧ a ≤ 3) : ∃ s : Nat, s < 4 ∧ a = nI s := by
  obtain ⟨s, hs, e⟩ := nI_of2 (M := 3) (n := 3) (by decide) (Int32.not_lt.mpr h.1) h.2
  exact ⟨s, by omega, e⟩
theorem isSheet_eq {a : Int32} {μ : mm} : f_11_isSheet a μ = some (if 0 ≤ a ∧ a ≤ 3 then 1 else 0) := by
  unfold f_11_isSheet
  by_cases c : 0 ≤ a ∧ a ≤ 3
  · simp [isIn_eq, c, gb_1]
  · simp [isIn_eq, c, gb_0]
theorem isShelf_eq {a : Int32} {μ : mm} : f_11_isShelf a μ = some (if 0 ≤ a ∧ a ≤ 3 then 1 else 0) := by
  unfold f_11_isShelf
  by_cases c : 0 ≤ a ∧ a ≤ 3
  · simp [isIn_eq, c, gb_1]
  · simp [isIn_eq, c, gb_0]
theorem isFour_eq {a : Int32} {μ : mm} : f_12_isFour a μ = some (if 0 ≤ a ∧ a ≤ 3 then 1 else 0) := by
  unfold f_12_isFour
  by_cases c : 0 ≤ a ∧ a ≤ 3
  · simp [within_eq, c, gb_1]
  · simp [within_eq, c, gb_0]
theorem sheet_l {s : Nat} (hs : s < 4) : ∀ (m i fuel : Nat) (μ : mm), i + m = 40 → m < fuel → f_12_sheet_l64 0 (nI s) fuel (nI i) μ = some (flM μ 18 (40 * s + i) (40 * s + 40) 0) := by
  intro m
  induction m with
  | zero =>
    intro i fuel μ h1 h2
    obtain ⟨f, rfl⟩ : ∃ f, fuel = f + 1 := ⟨fuel - 1, by omega⟩
    obtain rfl : i = 40 := by omega
    unfold f_12_sheet_l64
    rw [if_pos (show (40 : Int32) ≤ nI 40 from by decide), flM_nil]
  | succ m ih =>
    intro i fuel μ h1 h2
    obtain ⟨f, rfl⟩ : ∃ f, fuel = f + 1 := ⟨fuel - 1, by omega⟩
    unfold f_12_sheet_l64
    rw [if_neg (show ¬ (40 : Int32) ≤ nI i from nI_ge (b := 40) (by omega) (by decide)), rf_0_28, ix_40, stoL len_18 (by omega) (by decide)]
    show f_12_sheet_l64 0 (nI s) f (nI i + 1) (up μ 18 (40 * s + i) 0) = _
    rw [nI_1, ih (i + 1) f _ (by omega) (by omega), ← Nat.add_assoc, flM_up (by omega)]
set_option maxHeartbeats 1000000 in
theorem T_sheet {μ ν : mm} (a b n : Int32) (h : Cp μ ν) : Ok (f_11_sheet 23 a b n μ) fun z => Ok (f_12_sheet 0 a b n ν) fun w => z.1 = w.1 ∧ Cp z.2 w.2 := by
  have hS := h.2.2.2.2.2.1
  by_cases c1 : 0 ≤ a ∧ a ≤ 3
  · by_cases c2 : -1 ≤ b ∧ b ≤ 4
    · obtain ⟨s, hs, rfl⟩ := four_of c1
      have z : ∀ μ, f_12_sheet_l64 0 (nI s) FU 0 μ = some (flM μ 18 (40 * s) (40 * s + 40) 0) := fun μ => sheet_l hs 40 0 FU μ rfl (by decide)
      by_cases c3 : b = -1
      · subst c3
        refine Ok_of (y := (1, up μ 39 s (-1))) (by simp (disch := omega) [f_11_sheet, isSheet_eq, isIn_eq, c1, rf_23_11, stoL len_39]) ?_
        refine Ok_of (y := (1, flM (up (up ν 16 s (-1)) 17 s 0) 18 (40 * s) (40 * s + 40) 0)) (by simp (disch := omega) [f_12_sheet, f_12_sheet_b28, f_12_sheet_b39, isFour_eq, within_eq, c1, rf_0_26, rf_0_27, stoL len_16, stoL len_17, z]) ?_
        dsimp only
        refine ⟨rfl, Cp_host h (fun b q => up_ne (by omega)) (fun b q => by rw [flM_ne (by omega), up_ne (by omega), up_ne (by omega)]) ⟨rfl, rfl, rfl, rfl⟩ ?_ (Sv_cg (fun b q => up_ne (by omega)) (fun b q => by rw [flM_ne (by omega), up_ne (by omega), up_ne (by omega)]) h.2.2.2.2.2.2.1) (Tc_cg ⟨rfl, rfl⟩ ⟨rfl, rfl⟩ h.2.2.2.2.2.2.2)⟩
        intro t ht
        rw [flM_ne (b := 16) (by omega), flM_ne (b := 17) (by omega), up_ne (a := 17) (b := 16) (by omega)]
        by_cases e : t = s
        · subst e
          rw [up_at, up_at]
          exact ⟨by decide, rfl, fun q => absurd q (by decide)⟩
        · have q := hS t ht
          rw [up_ns e, up_ns e, up_ns e, up_nc (by decide), up_ne (a := 39) (b := 40) (by omega), up_ne (a := 39) (b := 42 + t) (by omega)]
          refine ⟨q.1, q.2.1, fun q0 => ⟨(q.2.2 q0).1, (q.2.2 q0).2.1, fun k hk => ?_⟩⟩
          rw [flM_out (by omega), up_nc (by decide), up_nc (by decide)]
          exact (q.2.2 q0).2.2 k hk
      · have c4 : 0 ≤ b := by grind
        have c4a : ¬ b < 0 := Int32.not_lt.mpr c4
        by_cases c5 : n ≤ 40
        · by_cases c6 : 0 ≤ n
          · have hl := len_42_ s hs
            have s2 : lda 41 (nI s) = some (42 + s) := by rw [lda_nI (by rw [len_41]; omega) (by decide), rf_41_ s hs]
            have s3 := fun (μ : mm) => fill_eq (μ := μ) (x := 0) hl (by decide)
            refine Ok_of (y := (1, flM (up (up μ 39 s b) 40 s n) (42 + s) 0 40 0)) (by simp (disch := omega) [f_11_sheet, isSheet_eq, isIn_eq, c1, c2, c3, c5, c6, rf_23_11, rf_23_12, rf_23_13, stoL len_39, stoL len_40, s2, s3]) ?_
            refine Ok_of (y := (1, flM (up (up ν 16 s b) 17 s n) 18 (40 * s) (40 * s + 40) 0)) (by simp (disch := omega) [f_12_sheet, f_12_sheet_b28, f_12_sheet_b39, isFour_eq, within_eq, c1, c2, c4, c4a, c5, c6, rf_0_26, rf_0_27, stoL len_16, stoL len_17, z]) ?_
            dsimp only
            refine ⟨rfl, Cp_host h (fun b q => by rw [flM_ne (by omega), up_ne (by omega), up_ne (by omega)]) (fun b q => by rw [flM_ne (by omega), up_ne (by omega), up_ne (by omega)]) ⟨rfl, rfl, rfl, rfl⟩ ?_ (Sv_cg (fun b q => by rw [flM_ne (by omega), up_ne (by omega), up_ne (by omega)]) (fun b q => by rw [flM_ne (by omega), up_ne (by omega), up_ne (by omega)]) h.2.2.2.2.2.2.1) (Tc_cg ⟨by rw [flM_ne (by omega), up_ne (by omega), up_ne (by omega)], by rw [flM_ne (by omega), up_ne (by omega), up_ne (by omega)]⟩ ⟨rfl, rfl⟩ h.2.2.2.2.2.2.2)⟩
            intro t ht
            rw [flM_ne (a := 18) (b := 16) (by omega), flM_ne (a := 18) (b := 17) (by omega), up_ne (a := 17) (b := 16) (by omega), flM_ne (b := 39) (by omega), flM_ne (b := 40) (by omega), up_ne (a := 40) (b := 39) (by omega)]
            by_cases e : t = s
            · subst e
              rw [up_at, up_at, up_at, up_at]
              refine ⟨⟨c2.1, c2.2⟩, rfl, fun _ => ⟨⟨c6, c5⟩, rfl, fun k hk => ?_⟩⟩
              rw [flM_in (by omega), flM_in (by omega)]
            · have q := hS t ht
              simp (disch := omega) only [up_ns, up_nc]
              refine ⟨q.1, q.2.1, fun q0 => ⟨(q.2.2 q0).1, (q.2.2 q0).2.1, fun k hk => ?_⟩⟩
              rw [flM_nx (by omega), up_nc (by omega), up_nc (by omega), flM_out (by omega), up_nc (by decide), up_nc (by decide)]
              exact (q.2.2 q0).2.2 k hk
          · exact Ok_of (y := (-14, μ)) (by simp [f_11_sheet, isSheet_eq, isIn_eq, c1, c2, c3, c5, c6]) (Ok_of (y := (-14, ν)) (by simp [f_12_sheet, f_12_sheet_b28, isFour_eq, within_eq, c1, c2, c4a, c5, c6]) ⟨rfl, h⟩)
        · exact Ok_of (y := (-1, μ)) (by simp [f_11_sheet, isSheet_eq, isIn_eq, c1, c2, c3, c5]) (Ok_of (y := (-1, ν)) (by simp [f_12_sheet, isFour_eq, within_eq, c1, c2, c4a, c5]) ⟨rfl, h⟩)
    · exact Ok_of (y := (-1, μ)) (by simp [f_11_sheet, isSheet_eq, isIn_eq, c1, c2]) (Ok_of (y := (-1, ν)) (by simp [f_12_sheet, isFour_eq, within_eq, c1, c2]) ⟨rfl, h⟩)
  · exact Ok_of (y := (-1, μ)) (by simp [f_11_sheet, isSheet_eq, c1]) (Ok_of (y := (-1, ν)) (by simp [f_12_sheet, isFour_eq, c1]) ⟨rfl, h⟩)
def narS (v s : Int32) : Int32 := if s = 0 then v.toInt8.toInt32 else if s = 1 then v.toInt16.toInt32 else if s = 4 then (if v = 0 then 0 else 1) else v
theorem narrowed_eq {v s : Int32} {μ : mm} : f_11_narrowed v s μ = some (narS v s) := by
  unfold f_11_narrowed narS f_11_asBit
  by_cases a : s = 0
  · simp [a]
  · by_cases b : s = 1
    · simp [b]
    · by_cases c : s = 4
      · subst c
        by_cases d : v = 0 <;> simp [d]
      · simp [a, b, c]
set_option maxHeartbeats 1000000 in
theorem T_put {μ ν : mm} (a i v : Int32) (h : Cp μ ν) : Ok (f_11_put 23 a i v μ) fun z => Ok (f_12_put 0 a i v ν) fun w => z.1 = w.1 ∧ Cp z.2 w.2 := by
  have hS := h.2.2.2.2.2.1
  by_cases c1 : 0 ≤ a ∧ a ≤ 3
  · obtain ⟨s, hs, rfl⟩ := four_of c1
    obtain ⟨q1, q2, q3⟩ := hS s hs
    have l1 : ld μ 39 (nI s) = some (ν 16 s) := by rw [← q2]; exact ldL len_39 (by omega) (by omega)
    have l2 : ld ν 16 (nI s) = some (ν 16 s) := ldL len_16 (by omega) (by omega)
    by_cases c2 : 0 ≤ ν 16 s
    · have c2a : ¬ ν 16 s = -1 := by intro e; rw [e] at c2; exact absurd c2 (by decide)
      obtain ⟨r1, r2, r3⟩ := q3 c2
      obtain ⟨n, hn, en, -⟩ := cnt_of (m := 40) (by decide) r1
      have l3 : ld μ 40 (nI s) = some (nI n) := by rw [← en, ← r2]; exact ldL len_40 (by omega) (by omega)
      have l4 : ld ν 17 (nI s) = some (nI n) := by rw [← en]; exact ldL len_17 (by omega) (by omega)
      by_cases c3 : 0 ≤ i ∧ i ≤ nI n - 1
      · obtain ⟨k, hk, rfl⟩ := in_of (by omega) c3
        have s2 : lda 41 (nI s) = some (42 + s) := by rw [lda_nI (by rw [len_41]; omega) (by decide), rf_41_ s hs]
        refine Ok_of (y := (1, up μ (42 + s) k (narS v (ν 16 s)))) (by simp (disch := omega) [f_11_put, isSheet_eq, isIn_eq, c1, c3, rf_23_11, rf_23_12, rf_23_13, l1, l3, c2a, s2, narrowed_eq, stoL (len_42_ s hs)]) ?_
        refine Ok_of (y := (1, up ν 18 (40 * s + k) (narS v (ν 16 s)))) ?_ ?_
        · have s3 : sto ν 18 (nI (40 * s + k)) (narS v (ν 16 s)) = some (up ν 18 (40 * s + k) (narS v (ν 16 s))) := stoL len_18 (by omega) (by omega)
          by_cases d0 : ν 16 s = 0
          · rw [d0] at l1 l2 c2 s3 ⊢
            simp (disch := omega) [f_12_put, isFour_eq, within_eq, c1, c3, Int32.not_lt.mpr c3.2, rf_0_26, rf_0_27, rf_0_28, l2, l4, ix_40, narS] at s3 ⊢
            rw [s3]; rfl
          · by_cases d1 : ν 16 s = 1
            · rw [d1] at l1 l2 c2 s3 ⊢
              simp (disch := omega) [f_12_put, isFour_eq, within_eq, c1, c3, Int32.not_lt.mpr c3.2, rf_0_26, rf_0_27, rf_0_28, l2, l4, ix_40, narS] at s3 ⊢
              rw [s3]; rfl
            · by_cases d4 : ν 16 s = 4
              · rw [d4] at l1 l2 c2 s3 ⊢
                by_cases dv : v = 0
                · subst dv
                  simp (disch := omega) [f_12_put, isFour_eq, within_eq, c1, c3, Int32.not_lt.mpr c3.2, rf_0_26, rf_0_27, rf_0_28, l2, l4, ix_40, narS] at s3 ⊢
                  rw [s3]; rfl
                · simp (disch := omega) [f_12_put, isFour_eq, within_eq, c1, c3, Int32.not_lt.mpr c3.2, rf_0_26, rf_0_27, rf_0_28, l2, l4, ix_40, narS, dv] at s3 ⊢
                  rw [s3]; rfl
              · simp (disch := omega) [f_12_put, isFour_eq, within_eq, c1, c3, Int32.not_lt.mpr c3.2, rf_0_26, rf_0_27, rf_0_28, l2, l4, ix_40, narS, c2, d0, d1, d4] at s3 ⊢
                rw [s3]; rfl
        dsimp only
        refine ⟨rfl, Cp_host h (fun b q => up_ne (by omega)) (fun b q => up_ne (by omega)) ⟨rfl, rfl, rfl, rfl⟩ ?_ (Sv_cg (fun b q => up_ne (by omega)) (fun b q => up_ne (by omega)) h.2.2.2.2.2.2.1) (Tc_cg ⟨up_ne (by omega), up_ne (by omega)⟩ ⟨rfl, rfl⟩ h.2.2.2.2.2.2.2)⟩
        intro t ht
        have q := hS t ht
        rw [up_ne (a := 18) (b := 16) (by omega), up_ne (a := 18) (b := 17) (by omega), up_ne (a := 42 + s) (b := 39) (by omega), up_ne (a := 42 + s) (b := 40) (by omega)]
        refine ⟨q.1, q.2.1, fun q0 => ⟨(q.2.2 q0).1, (q.2.2 q0).2.1, fun j hj => ?_⟩⟩
        by_cases e : t = s ∧ j = k
        · obtain ⟨rfl, rfl⟩ := e
          rw [up_at, up_at]
        · rw [up_nx (by omega), up_ns (by omega)]
          exact (q.2.2 q0).2.2 j hj
      · exact Ok_of (y := (-12, μ)) (by simp [f_11_put, isSheet_eq, isIn_eq, c1, rf_23_11, rf_23_12, l1, l3, c2a, c3]) (Ok_of (y := (-12, ν)) (by simp [f_12_put, isFour_eq, within_eq, c1, rf_0_26, rf_0_27, l2, l4, c2, c3]) ⟨rfl, h⟩)
    · have c2a : ν 16 s = -1 := by grind
      exact Ok_of (y := (-11, μ)) (by simp [f_11_put, isSheet_eq, c1, rf_23_11, l1, c2a]) (Ok_of (y := (-11, ν)) (by simp [f_12_put, isFour_eq, c1, rf_0_26, l2, c2]) ⟨rfl, h⟩)
  · exact Ok_of (y := (-1, μ)) (by simp [f_11_put, isSheet_eq, c1]) (Ok_of (y := (-1, ν)) (by simp [f_12_put, isFour_eq, c1]) ⟨rfl, h⟩)
set_option maxHeartbeats 1000000 in
theorem T_comes {μ ν : mm} (a i : Int32) (h : Cp μ ν) : Ok (f_11_comes 23 a i μ) fun z => Ok (f_12_comes 0 a i ν) fun w => z.1 = w.1 ∧ Cp z.2 w.2 := by
  have hS := h.2.2.2.2.2.1
  by_cases c1 : 0 ≤ a ∧ a ≤ 3
  · obtain ⟨s, hs, rfl⟩ := four_of c1
    obtain ⟨q1, q2, q3⟩ := hS s hs
    have l1 : ld μ 39 (nI s) = some (ν 16 s) := by rw [← q2]; exact ldL len_39 (by omega) (by omega)
    have l2 : ld ν 16 (nI s) = some (ν 16 s) := ldL len_16 (by omega) (by omega)
    by_cases c2 : 0 ≤ ν 16 s
    · have c2a : ¬ ν 16 s = -1 := by intro e; rw [e] at c2; exact absurd c2 (by decide)
      by_cases c4 : ν 16 s = 1
      · obtain ⟨r1, r2, r3⟩ := q3 c2
        obtain ⟨n, hn, en, -⟩ := cnt_of (m := 40) (by decide) r1
        have l3 : ld μ 40 (nI s) = some (nI n) := by rw [← en, ← r2]; exact ldL len_40 (by omega) (by omega)
        have l4 : ld ν 17 (nI s) = some (nI n) := by rw [← en]; exact ldL len_17 (by omega) (by omega)
        rw [c4] at l1 l2
        by_cases c3 : 0 ≤ i ∧ i ≤ nI n - 5
        · obtain ⟨k, hk, rfl⟩ := nI_of (Int32.not_lt.mpr c3.1)
          have hk2 : k + 4 < n := by
            have q := Int32.le_iff_toInt_le.mp c3.2
            rw [nI_toInt hk, show (5 : Int32) = nI 5 from rfl, pk_sub_toInt (by omega) (by omega)] at q
            omega
          have s2 : lda 41 (nI s) = some (42 + s) := by rw [lda_nI (by rw [len_41]; omega) (by decide), rf_41_ s hs]
          have d1 : ¬ nI n ≤ nI (k + 4) := nI_ge (by omega) (by omega)
          have d2 : nI k ≤ nI (k + 4) := nI_le (by omega) (by omega)
          have d3 : ¬ nI k < 0 := nI_pos hk
          have e : ∀ j, j < 40 → μ (42 + s) j = ν 18 (40 * s + j) := fun j hj => r3 j hj
          have T := T_household (ν 18 (40 * s + k)) (ν 18 (40 * s + (k + 1))) (ν 18 (40 * s + (k + 2))) (ν 18 (40 * s + (k + 3))) (ν 18 (40 * s + (k + 4))) h
          have g1 : f_11_comes 23 (nI s) (nI k) μ = f_11_household 23 (ν 18 (40 * s + k)) (ν 18 (40 * s + (k + 1))) (ν 18 (40 * s + (k + 2))) (ν 18 (40 * s + (k + 3))) (ν 18 (40 * s + (k + 4))) μ := by
            simp (disch := omega) [bind_eta, f_11_comes, f_11_refuseItems, isSheet_eq, isIn_t c3, c1, rf_23_11, rf_23_12, rf_23_13, l1, l3, s2, ldL (len_42_ s hs), nI_1, nI_p2, nI_p3, nI_p4, e]
          have g2 : f_12_comes 0 (nI s) (nI k) ν = f_12_household 0 (ν 18 (40 * s + k)) (ν 18 (40 * s + (k + 1))) (ν 18 (40 * s + (k + 2))) (ν 18 (40 * s + (k + 3))) (ν 18 (40 * s + (k + 4))) ν := by
            simp (disch := omega) [bind_eta, f_12_comes, f_12_notThere, isFour_eq, c1, rf_0_26, rf_0_27, rf_0_28, l2, l4, d1, d2, d3, ix_40, ldL len_18, nI_1, nI_p2, nI_p3, nI_p4, Nat.add_assoc]
          rw [g1, g2]
          exact T
        · refine Ok_of (y := (-12, μ)) (by simp [f_11_comes, f_11_refuseItems, isSheet_eq, isIn_f c3, c1, rf_23_11, rf_23_12, l1, l3]) (Ok_of (y := (-12, ν)) ?_ ⟨rfl, h⟩)
          by_cases d3 : i < 0
          · simp [f_12_comes, f_12_notThere, isFour_eq, c1, rf_0_26, l2, d3]
          · by_cases d1 : nI n ≤ i + 4
            · simp [f_12_comes, f_12_notThere, isFour_eq, c1, rf_0_26, rf_0_27, l2, l4, d3, d1]
            · have d2 : ¬ i ≤ i + 4 := by
                intro d2
                have n0 := nI_pos' (n := n) (by omega)
                have n1 : nI n ≤ 40 := nI_le (b := 40) hn (by decide)
                clear h hS q1 q2 q3 l1 l2 l3 l4 r1 r2 r3 en c1 c2 c2a c4
                grind
              simp [f_12_comes, f_12_notThere, isFour_eq, c1, rf_0_26, rf_0_27, l2, l4, d3, d1, d2]
      · exact Ok_of (y := (-13, μ)) (by simp [f_11_comes, f_11_refuseItems, isSheet_eq, c1, rf_23_11, l1, c2a, c4]) (Ok_of (y := (-13, ν)) (by simp [f_12_comes, f_12_notThere, isFour_eq, c1, rf_0_26, l2, c2, c4]) ⟨rfl, h⟩)
    · have c2a : ν 16 s = -1 := by grind
      exact Ok_of (y := (-11, μ)) (by simp [f_11_comes, f_11_refuseItems, isSheet_eq, c1, rf_23_11, l1, c2a]) (Ok_of (y := (-11, ν)) (by simp [f_12_comes, f_12_notThere, isFour_eq, c1, rf_0_26, l2, c2]) ⟨rfl, h⟩)
  · exact Ok_of (y := (-1, μ)) (by simp [f_11_comes, isSheet_eq, c1]) (Ok_of (y := (-1, ν)) (by simp [f_12_comes, isFour_eq, c1]) ⟨rfl, h⟩)
