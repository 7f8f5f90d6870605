/-! the call watch -/
set_option maxHeartbeats 1000000 in
theorem watch_b {μ ν : mm} {M : Nat} {a x : Int32} (h : Cp μ ν) (eM : ν 1 16 = nI M) (hM : M ≤ 8) (hx : (x = 0 ∧ (a = 0 ∨ a = 1)) ∨ (x = 1 ∧ ∃ i, i < M ∧ a = nI (10 + i))) : Ok (f_11_watch_b37 23 a x μ) fun z => Ok (f_12_watch_b30 0 a ν) fun w => z.1 = w.1 ∧ Cp z.2 w.2 := by
  obtain ⟨G, M', mi, w, hW⟩ := Cp_WS h
  have hMM : M' = M := (nI_eq (by have := hW.1.2.1; omega) (by omega)).mp (hW.2.2.1.2.1.symm.trans eM)
  subst hMM
  obtain ⟨S, hS⟩ : ∃ S, S = 2 ^ G := ⟨_, rfl⟩
  have hG := hW.1.1
  have hS2 := wq_S G (by omega)
  rw [← hS] at hS2
  have one := wq_one G (by omega)
  rw [← hS] at one
  obtain ⟨μ4, μ7, μp, νp, p1, p2, p3, p4, p5, p6, p7, p8, hT⟩ := plan_rel hW hS
  have hW1 : WS G M' mi w μp νp := WS_cg hW (fun b hb => p7 b (by omega)) (p8 1 (by decide))
  have iS : (nI S - 1 : Int32) = nI (S - 1) := by rw [show (1 : Int32) = nI 1 from rfl, pk_sub (by omega)]
  have tS := ((hT 0 (by omega) (by omega)).2 (S - 1) (by omega)).1
  rw [show 76 + 0 = 76 from rfl, show 16 * 0 + (S - 1) = S - 1 from by omega, show M' - 0 = M' from rfl] at tS
  have eP : f_3_plan 71 50 μ = (f_3_leastSum 71 μp).bind fun x12 => if x12 < 1000000 then (f_3_sendMen 71 50 μp).bind fun μ14 => some (1, μ14) else some (0, μp) := by
    unfold f_3_plan
    rw [rf_71_6, hW.2.1.2.1, a75 (by omega), Option.bind_some, p1, Option.bind_some, p2, hW.2.1.2.1, a75 (by omega), Option.bind_some, p3, Option.bind_some, p4, hW.2.1.2.1, Int32.sub_eq_add_neg, p5, Option.bind_some]
  have eL : ∀ ξ : mm, ξ 71 = μ 71 → ξ 76 = μp 76 → f_3_leastSum 71 ξ = some (μp 76 (S - 1)) := fun ξ q1 q2 => by
    unfold f_3_leastSum
    rw [rf_71_6, show lda 75 0 = some 76 from a75 (m := 0) (by decide), Option.bind_some, q1, hW.2.1.1, one, iS, ldL len_76 (by omega) (by decide), Option.bind_some, q2]
  have eF : f_12_findWatch 0 ν = some νp := by
    unfold f_12_findWatch
    rw [rf_0_0, l_15, hW.2.2.1.1, Option.bind_some, l_16, hW.2.2.1.2.1, Option.bind_some, one, p6, Option.bind_some]
  rcases tS with ⟨X, hX, x1, x2⟩ | ⟨x1, x2⟩
  · have d1 : nI X < 1000000 := nI_lt (b := 1000000) (by omega) (by decide)
    have d2 : nI X < 100000 := nI_lt (b := 100000) (by omega) (by decide)
    obtain ⟨μs, νs, r, q1, q2, ⟨q3, q4⟩, ⟨q5, q6, q7, q8, q9⟩, ⟨q10, q11⟩, q12, q13⟩ := send_rel (A := a) (B := nI X) (μ0 := μp) (ν0 := up νp 0 8 0) (WS_cg hW1 (fun _ _ => rfl) (up_ne (by decide))) hS (fun j j1 j2 => by
        have t := hT j j1 j2
        rw [up_ne (by decide)]
        exact t) M' 0 FU FU (S - 1) 0 μp (up νp 0 8 0) (by omega) (show M' < 2000 by omega) (show M' < 2000 by omega) (by omega) ⟨X, by omega, x1⟩ (fun _ _ => rfl) (fun _ _ _ _ => rfl) (fun _ _ => rfl) up_at (by have := pc_4 (S - 1) (by omega); omega)
    have hr4 : r ≤ 4 := by have := pc_4 (S - 1) (by omega); omega
    obtain ⟨μ3, t1, t2, -, t4⟩ := q13 FU μs (show M' < 2000 by omega) rfl (q3 71 (by decide))
    rw [show nI 0 = 0 from rfl] at q1 q2 t1
    obtain ⟨νt, k1, k2, k3⟩ := told_l (A := a) (B := nI X) hr4 (ν0 := up νs 0 9 (νs 0 8)) (2 * r) 0 FU (up νs 0 9 (νs 0 8)) (by omega) (show 2 * r < 2000 by omega) (fun _ _ => rfl) (by rw [up_ns (by decide)]; exact q9) (fun k hk => absurd hk (by omega))
    rw [show nI 0 = 0 from rfl] at k1
    have s71 : ∀ b, b ≠ 74 → ¬ (76 ≤ b ∧ b < 85) → μs b = μ b := fun b b1 b2 => by rw [q3 b b1, p7 b b2]
    have eS : f_3_sendMen 71 50 μp = some μs := by
      unfold f_3_sendMen
      rw [hW1.2.1.1, one, iS, q1, Option.bind_some]
    obtain ⟨μf, hμf⟩ : ∃ μf, μf = up (up (up (cpM μ3 38 0 37 0 8) 23 8 (nI r)) 23 9 (nI r)) 23 10 1 := ⟨_, rfl⟩
    have eT : f_11_tellRows 23 μs = some μf := by
      unfold f_11_tellRows
      rw [t1, Option.bind_some, rf_23_7, rf_23_6, len_38]
      dsimp only
      rw [show cpo μ3 38 0 37 0 (Int32.ofNat 8) = some (cpM μ3 38 0 37 0 8) from cpo_eq (n := 8) (by rw [len_38]; decide) (by rw [len_37]; decide) (by decide), Option.bind_some, pf_eq, Option.bind_some, pf_eq, Option.bind_some, pf_eq, Option.bind_some, hμf]
    have f0 : ∀ b, b ≠ 23 → b ≠ 37 → b ≠ 38 → μf b = μs b := fun b b1 b2 b3 => by
      rw [hμf, up_ne b1, up_ne b1, up_ne b1]
      exact (if_neg b2).trans (t2 b b3)
    have f23 : ∀ k, k ≠ 8 → k ≠ 9 → k ≠ 10 → μf 23 k = μ 23 k := fun k h1 h2 h3 => by
      rw [hμf, up_ns h3, up_ns h2, up_ns h1]
      show (cpM μ3 38 0 37 0 8) 23 k = _
      rw [show (cpM μ3 38 0 37 0 8) 23 = μ3 23 from if_neg (by decide), t2 23 (by decide), s71 23 (by decide) (by omega)]
    have f8 : μf 23 8 = nI r := by rw [hμf, up_ns (by decide), up_ns (by decide), up_at]
    have f9 : μf 23 9 = nI r := by rw [hμf, up_ns (by decide), up_at]
    have f10 : μf 23 10 = 1 := by rw [hμf, up_at]
    have f38 : ∀ k, μf 38 k = μ3 38 k := fun k => by rw [hμf, up_ne (by decide), up_ne (by decide), up_ne (by decide)]; exact congrFun (if_neg (by decide)) k
    have f37 : ∀ k, k < 8 → μf 37 k = μ3 38 k := fun k hk => by
      rw [hμf, up_ne (by decide), up_ne (by decide), up_ne (by decide)]
      show (if 37 = 37 then va_cpy (μ3 38) (μ3 37) 0 0 8 else μ3 37) k = _
      rw [if_pos rfl, pk_cpy_in (by omega) (by omega), show 0 + (k - 0) = k from by omega]
    have n5 : ∀ b, b ≠ 6 → b ≠ 0 → νt b = νs b := fun b b1 b2 => by rw [k2 b b1, up_ne b2]
    have n0 : ∀ k, k ≠ 9 → νt 0 k = νs 0 k := fun k hk => by rw [k2 0 (by decide), up_ns hk]
    have n09 : νt 0 9 = nI r := by rw [k2 0 (by decide), up_at, q9]
    have hCp : Cp μf νt := by
      have hs1 : Cp (fun b => if b = 23 ∨ b = 37 ∨ b = 38 then μ b else μf b) (fun b => if b = 0 ∨ b = 5 ∨ b = 6 then ν b else νt b) := by
        refine Cp_scr h (fun b hb => ?_) ?_ (fun b hb => ?_)
        · by_cases c : b = 23 ∨ b = 37 ∨ b = 38
          · exact if_pos c
          · refine (if_neg c).trans ?_
            rw [f0 b (fun z => c (Or.inl z)) (fun z => c (Or.inr (Or.inl z))) (fun z => c (Or.inr (Or.inr z)))]
            exact s71 b (by omega) (by omega)
        · show μf 85 0 = μ 85 0
          rw [f0 85 (by decide) (by decide) (by decide), s71 85 (by decide) (by omega)]
        · by_cases c : b = 0 ∨ b = 5 ∨ b = 6
          · exact if_pos c
          · refine (if_neg c).trans ?_
            rw [n5 b (by omega) (by omega), q5 b (by omega) (by omega) (by omega), up_ne (by omega), p8 b (by omega)]
      refine Cp_rows hs1 (fun b b1 b2 b3 => (if_neg (fun z => by omega)).symm) ?_ (fun b b1 b2 b3 => (if_neg (fun z => by omega)).symm) ?_ ?_
      · show μf 23 3 = μ 23 3
        exact f23 3 (by decide) (by decide) (by decide)
      · show νt 0 3 = ν 0 3 ∧ νt 0 5 = ν 0 5 ∧ νt 0 33 = ν 0 33
        have z : ∀ k, k ≠ 9 → k ≠ 8 → νt 0 k = ν 0 k := fun k e1 e2 => by rw [n0 k e1, q6 k e2, up_ns e2, p8 0 (by decide)]
        exact ⟨z 3 (by decide) (by decide), z 5 (by decide) (by decide), z 33 (by decide) (by decide)⟩
      · refine ⟨r, r, Nat.le_refl _, hr4, f8, by rw [n0 8 (by decide)]; exact q9, fun k hk => ?_, Or.inr ⟨f10, n09, f9, fun k hk => ?_⟩⟩
        · rw [f37 k (by omega), n5 5 (by decide) (by decide)]
          exact t4 k (by omega) hk
        · rw [f38, k3 k hk, up_ne (by decide)]
          exact t4 k (by omega) hk
    have C37 : f_11_watch_b37 23 a x μ = if x = 0 then (if a = 0 then some (nI r, μf) else some (nI X, μf)) else (ld μf 74 (a - 10)).bind fun x7 => if x7 = (-1) then some ((-9), μf) else some (x7, μf) := by
      unfold f_11_watch_b37
      rw [rf_23_0, rf_49_14, rf_49_7, eP, eL μp (p7 71 (by omega)) rfl, Option.bind_some, x1, if_pos d1, eS, Option.bind_some, Option.bind_some]
      dsimp only
      rw [if_neg (by decide), eT, Option.bind_some, f8, eL μf (by rw [f0 71 (by decide) (by decide) (by decide), s71 71 (by decide) (by omega)]) (by rw [f0 76 (by decide) (by decide) (by decide), q3 76 (by decide)]), Option.bind_some, x1, rf_71_5]
    have C30 : f_12_watch_b30 0 a ν = if a = 0 then some (nI r, νt) else if a = 1 then some (nI X, νt) else (ld νt 15 (a - 10)).bind fun x15 => some (x15, νt) := by
      unfold f_12_watch_b30
      rw [eF, Option.bind_some, rf_0_0, l_15, hW1.2.2.1.1, Option.bind_some, one, iS, rf_0_24, ldL len_14 (by omega) (by decide), x2, Option.bind_some, if_pos d2, pf_eq, Option.bind_some, q2, Option.bind_some, pf_eq, Option.bind_some, k1, Option.bind_some, n0 8 (by decide), q9, rf_0_25]
    rw [C37, C30]
    rcases hx with ⟨rfl, rfl | rfl⟩ | ⟨rfl, i, hi, rfl⟩
    · rw [if_pos rfl, if_pos rfl, if_pos rfl]
      exact Ok_of rfl (Ok_of rfl ⟨rfl, hCp⟩)
    · rw [if_pos rfl, if_neg (by decide), if_neg (by decide), if_pos rfl]
      exact Ok_of rfl (Ok_of rfl ⟨rfl, hCp⟩)
    · have ia : (nI (10 + i) - 10 : Int32) = nI i := by rw [show (10 : Int32) = nI 10 from rfl, pk_sub (by omega), show 10 + i - 10 = i from by omega]
      have b1 : ¬ nI (10 + i) = 0 := nI_ne0 (by omega) (by omega)
      have b2 : ¬ nI (10 + i) = 1 := fun z => absurd ((nI_eq (b := 1) (by omega) (by decide)).mp z) (by omega)
      rw [if_neg (by decide), if_neg b1, if_neg b2, ia, ldL len_74 (by omega) (by decide), Option.bind_some, ldL len_15 (by omega) (by decide), Option.bind_some, f0 74 (by decide) (by decide) (by decide), n5 15 (by decide) (by decide)]
      rcases q12 i (by omega) hi with ⟨y1, y2⟩ | ⟨g, g1, y1, y2⟩
      · rw [y1, y2, if_pos rfl]
        exact Ok_of rfl (Ok_of rfl ⟨rfl, hCp⟩)
      · rw [y1, y2, if_neg (ne_m1 (by omega))]
        exact Ok_of rfl (Ok_of rfl ⟨rfl, hCp⟩)
  · have C37 : f_11_watch_b37 23 a x μ = some (-3, μp) := by
      unfold f_11_watch_b37
      rw [rf_23_0, rf_49_14, rf_49_7, eP, eL μp (p7 71 (by omega)) rfl, Option.bind_some, x1, if_neg (by decide), Option.bind_some, if_pos rfl]
    have C30 : f_12_watch_b30 0 a ν = some (-3, νp) := by
      unfold f_12_watch_b30
      rw [eF, Option.bind_some, rf_0_0, l_15, hW1.2.2.1.1, Option.bind_some, one, iS, rf_0_24, ldL len_14 (by omega) (by decide), x2, Option.bind_some, if_neg (by decide)]
    rw [C37, C30]
    exact Ok_of rfl (Ok_of rfl ⟨rfl, Cp_scr h (fun b hb => p7 b (by omega)) (by show μp 85 0 = μ 85 0; rw [p7 85 (by omega)]) (fun b hb => p8 b (by omega))⟩)
theorem T_watch {μ ν : mm} (a : Int32) (h : Cp μ ν) : Ok (f_11_watch 23 a μ) fun z => Ok (f_12_watch 0 a ν) fun w => z.1 = w.1 ∧ Cp z.2 w.2 := by
  obtain ⟨M, hM, eM, nM⟩ := cnt_of (m := 8) (by decide) h.2.1.2.1.2.2.2.2.2.2.2.2.1
  have em : μ 71 2 = nI M := (h.1.1 16 (by decide)).symm.trans eM
  have e10 : ((10 : Int32) + nI M) - 1 = nI (10 + M - 1) := by rw [show (10 : Int32) = nI 10 from rfl, nI_add, show (1 : Int32) = nI 1 from rfl, pk_sub (by omega)]
  by_cases c : ∃ i, i < M ∧ a = nI (10 + i)
  · obtain ⟨i, hi, rfl⟩ := c
    have b0 : ¬ nI (10 + i) = 0 := nI_ne0 (by omega) (by omega)
    have b1 : ¬ nI (10 + i) = 1 := fun z => absurd ((nI_eq (b := 1) (by omega) (by decide)).mp z) (by omega)
    have ia : (nI (10 + i) - 10 : Int32) = nI i := by rw [show (10 : Int32) = nI 10 from rfl, pk_sub (by omega), show 10 + i - 10 = i from by omega]
    have e1 : f_11_watch 23 (nI (10 + i)) μ = f_11_watch_b37 23 (nI (10 + i)) 1 μ := by
      unfold f_11_watch
      rw [rf_23_0, rf_49_14, em, e10, isIn_t (show (10 : Int32) ≤ nI (10 + i) ∧ nI (10 + i) ≤ nI (10 + M - 1) from ⟨nI_le (a := 10) (by omega) (by omega), nI_le (by omega) (by omega)⟩), Option.bind_some, if_neg b0, if_neg b1, if_neg (by decide)]
    have e2 : f_12_watch 0 (nI (10 + i)) ν = f_12_watch_b30 0 (nI (10 + i)) ν := by
      unfold f_12_watch
      rw [within_f (show ¬ ((0 : Int32) ≤ nI (10 + i) ∧ nI (10 + i) ≤ 1) from fun z => absurd ((nI_leI (b := 1) (by omega) (by decide)).mp z.2) (by omega)), Option.bind_some, if_pos rfl, if_neg (show ¬ nI (10 + i) < (10 : Int32) from nI_nlt (b := 10) (by omega) (by omega)), ia, is_16, eM, if_pos (of_in (by omega) hi), Option.bind_some, if_neg (by decide)]
    rw [e1, e2]
    exact watch_b h eM hM (Or.inr ⟨rfl, i, hi, rfl⟩)
  · have f1 : ¬ (10 ≤ a ∧ a ≤ nI (10 + M - 1)) := fun z => by
      obtain ⟨j, hj, rfl⟩ := nI_of (x := a) (Int32.not_lt.mpr (Int32.le_trans (by decide) z.1))
      have z1 := (nI_leI (a := 10) (by decide) hj).mp z.1
      have z2 := (nI_leI hj (by omega)).mp z.2
      exact c ⟨j - 10, by omega, by rw [show 10 + (j - 10) = j from by omega]⟩
    have e1 : f_11_watch 23 a μ = if a = 0 then f_11_watch_b37 23 a 0 μ else if a = 1 then f_11_watch_b37 23 a 0 μ else some ((-1), μ) := by
      unfold f_11_watch
      rw [rf_23_0, rf_49_14, em, e10, isIn_f f1, Option.bind_some, if_pos rfl]
    by_cases a0 : a = 0
    · subst a0
      rw [e1, if_pos rfl, show f_12_watch 0 0 ν = f_12_watch_b30 0 0 ν from by unfold f_12_watch; rw [within_t (by decide), Option.bind_some, if_neg (by decide)]]
      exact watch_b h eM hM (Or.inl ⟨rfl, Or.inl rfl⟩)
    by_cases a1 : a = 1
    · subst a1
      rw [e1, if_neg (by decide), if_pos rfl, show f_12_watch 0 1 ν = f_12_watch_b30 0 1 ν from by unfold f_12_watch; rw [within_t (by decide), Option.bind_some, if_neg (by decide)]]
      exact watch_b h eM hM (Or.inl ⟨rfl, Or.inr rfl⟩)
    · have w : ¬ (0 ≤ a ∧ a ≤ 1) := fun z => by
        obtain ⟨k, hk, rfl⟩ := bit_of z
        have : k = 0 ∨ k = 1 := by omega
        rcases this with rfl | rfl
        · exact a0 rfl
        · exact a1 rfl
      rw [e1, if_neg a0, if_neg a1]
      refine Ok_of rfl (Ok_of (y := (-1, ν)) ?_ ⟨rfl, h⟩)
      unfold f_12_watch
      rw [within_f w, Option.bind_some, if_pos rfl]
      by_cases l : a < 10
      · rw [if_pos l]
      · rw [if_neg l, is_16, eM, if_neg (fun z => ?_), Option.bind_some, if_pos rfl]
        have l2 := Int32.not_lt.mp l
        obtain ⟨j, hj, rfl⟩ := nI_of (x := a) (Int32.not_lt.mpr (Int32.le_trans (by decide) l2))
        have z1 := (nI_leI (a := 10) (by decide) hj).mp l2
        have ia : (nI j - 10 : Int32) = nI (j - 10) := by rw [show (10 : Int32) = nI 10 from rfl, pk_sub z1]
        rw [ia] at z
        obtain ⟨i, hi, ei⟩ := in_of (by omega) z
        have := (nI_eq (by omega) (by omega)).mp ei
        exact c ⟨i, hi, by rw [show 10 + i = j from by omega]⟩
