/-! the class's run; holding lines -/
theorem evC_c {F : Nat → Int32} {c : Int32} {r S : List Int32} : evC F (c :: r) S = evC F r (st1C F c S) := rfl
theorem enc_b {a : Int32} {r : List Int32} : enc (a :: r) = 2 * enc r + (if a = 1 then 1 else 0) := rfl
theorem sh1 {n : Nat} (h : n < 2 ^ 30) : nI n <<< ((1 : Int32) &&& 31) = nI (2 * n) := by
  rw [pk_shlN _ 1 (by decide) (by omega)]
  congr 1
  omega
theorem us1 {n : Nat} (h : n < 2 ^ 30) : ((nI n).toUInt32 >>> ((1 : Int32).toUInt32 &&& Int32.toUInt32 31)).toInt32 = nI (n / 2) := pk_ushrN (by omega) 1 1 (by decide)
theorem an1 {n : Nat} (h : n < 2 ^ 30) : nI n &&& 1 = nI (n % 2) := pk_andN (by omega) 1 (by decide)
theorem bts_c {a : Int32} {r : List Int32} (h : bts (a :: r)) : (a = 0 ∨ a = 1) ∧ bts r := ⟨h a (List.mem_cons_self ..), fun b hb => h b (List.mem_cons_of_mem _ hb)⟩
theorem bts_k {a : Int32} {r : List Int32} (ha : a = 0 ∨ a = 1) (h : bts r) : bts (a :: r) := fun b hb => by
  rcases List.mem_cons.mp hb with rfl | hb
  · exact ha
  · exact h b hb
set_option maxHeartbeats 2000000 in
theorem C_l20 {v s l h tc : Nat} {μ : mm} (hv : isV v) (hs : s < 3) (hl : l < 10) (hh : h < 16) (ht : tc ≤ 300) (et : μ (v + 80 + 6 * s) l = nI tc) : ∀ (m k fuel : Nat) (S : List Int32) (H : Nat), k + m = tc → m < fuel → bts S → S.length ≤ 20 → (∀ c ∈ slc (μ (v + 81 + 6 * s)) k m, okC c) → htC 20 (slc (μ (v + 81 + 6 * s)) k m) S.length = some H → f_5_holds_l20 (v + 76 + 6 * s) (nI l) (v + 60 + h) μ fuel (nI (enc S)) (nI k) = some (nI (enc (evC (fun j => μ (v + 60 + h) (fO j)) (slc (μ (v + 81 + 6 * s)) k m) S))) := by
  intro m
  induction m with
  | zero =>
    intro k fuel S H h1 h2 hb hl2 hok hht
    obtain ⟨f, rfl⟩ : ∃ f, fuel = f + 1 := ⟨fuel - 1, by omega⟩
    obtain rfl : k = tc := by omega
    unfold f_5_holds_l20
    rw [rR_4 hv hs, ldL (lR_80 hv hs) (by omega) (by decide), et, Option.bind_some, if_pos (Int32.le_refl _)]
    rfl
  | succ m ih =>
    intro k fuel S H h1 h2 hb hl2 hok hht
    obtain ⟨f, rfl⟩ : ∃ f, fuel = f + 1 := ⟨fuel - 1, by omega⟩
    obtain ⟨ok1, ok2⟩ := slc_mem hok
    rw [slc_1] at hht ⊢
    have d1 : ¬ nI tc ≤ nI k := lt_n1 (by omega) (by omega)
    have l0 : ld μ (v + 81 + 6 * s) (nI k) = some (μ (v + 81 + 6 * s) k) := ldL (lR_81 hv hs) (by omega) (by decide)
    have he := enc_lt20 hl2
    generalize hc : μ (v + 81 + 6 * s) k = c at ok1 hht l0 ⊢
    unfold f_5_holds_l20
    rw [rR_4 hv hs, ldL (lR_80 hv hs) (by omega) (by decide), et, Option.bind_some, if_neg d1, rR_6 hv hs, l0, Option.bind_some]
    by_cases c3 : c = -3
    · rw [if_pos c3]
      unfold htC at hht
      rw [if_pos c3] at hht
      match S, hb, hl2, hht, he with
      | [], hb, hl2, hht, he => rw [if_neg (by decide)] at hht; cases hht
      | a :: r, hb, hl2, hht, he =>
        obtain ⟨ba, br⟩ := bts_c hb
        rw [if_pos (by rw [List.length_cons]; omega)] at hht
        have e1 : nI (enc (a :: r)) ^^^ 1 = nI (enc ((1 - a) :: r)) := by
          rw [show (1 : Int32) = nI 1 from rfl, fb_xorI, enc_b, enc_b]
          rcases ba with rfl | rfl
          · rw [bx1 (by decide)]; rfl
          · rw [bx1 (by decide)]; rfl
        have bn : (1 - a : Int32) = 0 ∨ (1 - a : Int32) = 1 := by rcases ba with rfl | rfl <;> decide
        rw [e1, nI_1, ih (k + 1) f ((1 - a) :: r) H (by omega) (by omega) (bts_k bn br) hl2 ok2 hht]
        rw [evC_c]
        unfold st1C
        rw [if_pos c3]
    · rw [if_neg c3]
      by_cases c2 : c = -2
      · rw [if_pos c2]
        unfold htC at hht
        rw [if_neg c3, if_pos (Or.inr c2)] at hht
        match S, hb, hl2, hht, he with
        | [], hb, hl2, hht, he => rw [if_neg (by decide)] at hht; cases hht
        | [_], hb, hl2, hht, he => rw [List.length_singleton, if_neg (by decide)] at hht; cases hht
        | b :: a :: r, hb, hl2, hht, he =>
          obtain ⟨bb, br⟩ := bts_c hb
          obtain ⟨ba, br⟩ := bts_c br
          rw [if_pos (by rw [List.length_cons, List.length_cons]; omega)] at hht
          have e1 : ((nI (enc (b :: a :: r))).toUInt32 >>> ((1 : Int32).toUInt32 &&& Int32.toUInt32 31)).toInt32 ||| (nI (enc (b :: a :: r)) &&& 1) = nI (enc ((a ||| b) :: r)) := by
            rw [us1 (by omega), an1 (by omega), fa_or]
            rw [enc_b, enc_b, enc_b]
            rcases ba with rfl | rfl <;> rcases bb with rfl | rfl
            · rw [show (2 * (2 * enc r + (if (0 : Int32) = 1 then 1 else 0)) + (if (0 : Int32) = 1 then 1 else 0)) / 2 = 2 * enc r + 0 from by rw [if_neg (by decide)]; omega, show (2 * (2 * enc r + (if (0 : Int32) = 1 then 1 else 0)) + (if (0 : Int32) = 1 then 1 else 0)) % 2 = 0 from by rw [if_neg (by decide)]; omega, bo1 (by decide) (by decide)]; rfl
            · rw [show (2 * (2 * enc r + (if (0 : Int32) = 1 then 1 else 0)) + (if (1 : Int32) = 1 then 1 else 0)) / 2 = 2 * enc r + 0 from by rw [if_neg (by decide), if_pos rfl]; omega, show (2 * (2 * enc r + (if (0 : Int32) = 1 then 1 else 0)) + (if (1 : Int32) = 1 then 1 else 0)) % 2 = 1 from by rw [if_neg (by decide), if_pos rfl]; omega, bo1 (by decide) (by decide)]; rfl
            · rw [show (2 * (2 * enc r + (if (1 : Int32) = 1 then 1 else 0)) + (if (0 : Int32) = 1 then 1 else 0)) / 2 = 2 * enc r + 1 from by rw [if_pos rfl, if_neg (by decide)]; omega, show (2 * (2 * enc r + (if (1 : Int32) = 1 then 1 else 0)) + (if (0 : Int32) = 1 then 1 else 0)) % 2 = 0 from by rw [if_pos rfl, if_neg (by decide)]; omega, bo1 (by decide) (by decide)]; rfl
            · rw [show (2 * (2 * enc r + (if (1 : Int32) = 1 then 1 else 0)) + (if (1 : Int32) = 1 then 1 else 0)) / 2 = 2 * enc r + 1 from by rw [if_pos rfl]; omega, show (2 * (2 * enc r + (if (1 : Int32) = 1 then 1 else 0)) + (if (1 : Int32) = 1 then 1 else 0)) % 2 = 1 from by rw [if_pos rfl]; omega, bo1 (by decide) (by decide)]; rfl
          have bn : (a ||| b : Int32) = 0 ∨ (a ||| b : Int32) = 1 := by rcases ba with rfl | rfl <;> rcases bb with rfl | rfl <;> decide
          rw [List.length_cons, List.length_cons] at hl2
          rw [e1, nI_1, ih (k + 1) f ((a ||| b) :: r) H (by omega) (by omega) (bts_k bn br) (by rw [List.length_cons]; omega) ok2 hht]
          rw [evC_c]
          unfold st1C
          rw [if_neg c3, if_pos (Or.inr c2), c2]
          rfl
      · rw [if_neg c2]
        by_cases c1 : c = -1
        · rw [if_pos c1]
          unfold htC at hht
          rw [if_neg c3, if_pos (Or.inl c1)] at hht
          match S, hb, hl2, hht, he with
          | [], hb, hl2, hht, he => rw [if_neg (by decide)] at hht; cases hht
          | [_], hb, hl2, hht, he => rw [List.length_singleton, if_neg (by decide)] at hht; cases hht
          | b :: a :: r, hb, hl2, hht, he =>
            obtain ⟨bb, br⟩ := bts_c hb
            obtain ⟨ba, br⟩ := bts_c br
            rw [if_pos (by rw [List.length_cons, List.length_cons]; omega)] at hht
            rw [List.length_cons, List.length_cons] at hl2
            have er : enc r < 2 ^ 20 := enc_lt20 (by omega)
            have bn : (a &&& b : Int32) = 0 ∨ (a &&& b : Int32) = 1 := by rcases ba with rfl | rfl <;> rcases bb with rfl | rfl <;> decide
            have key := ih (k + 1) f ((a &&& b) :: r) H (by omega) (by omega) (bts_k bn br) (by rw [List.length_cons]; omega) ok2 hht
            rw [evC_c]
            unfold st1C
            rw [if_neg c3, if_pos (Or.inl c1), c1]
            rw [an1 (by omega), us1 (by omega), nI_1]
            rcases bb with rfl | rfl
            · have e2 : enc (0 :: a :: r) / 2 = 2 * enc r + (if a = 1 then 1 else 0) := by rw [enc_b, enc_b, if_neg (show ¬ (0 : Int32) = 1 by decide)]; omega
              have e3 : enc (0 :: a :: r) % 2 = 0 := by rw [enc_b, if_neg (show ¬ (0 : Int32) = 1 by decide)]; omega
              rw [e2, e3, if_neg (by decide), show (-2 : Int32) = nI 4294967294 from rfl, fa_and, ba1 (by split <;> omega) (by omega)]
              have e4 : enc ((a &&& 0) :: r) = 2 * enc r := by
                rw [enc_b]
                rcases ba with rfl | rfl <;> rfl
              rw [e4] at key
              exact key
            · have e2 : enc (1 :: a :: r) / 2 = 2 * enc r + (if a = 1 then 1 else 0) := by
                rw [enc_b, enc_b, if_pos (show (1 : Int32) = 1 from rfl)]; omega
              have e3 : enc (1 :: a :: r) % 2 = 1 := by rw [enc_b, if_pos (show (1 : Int32) = 1 from rfl)]; omega
              rw [e2, e3, if_pos (show nI 1 = 1 from rfl)]
              have e4 : enc ((a &&& 1) :: r) = 2 * enc r + (if a = 1 then 1 else 0) := by
                rw [enc_b]
                rcases ba with rfl | rfl <;> rfl
              rw [e4] at key
              exact key
        · rw [if_neg c1]
          have c0 : 0 ≤ c ∧ c < 21000 := by
            obtain ⟨o1, o2⟩ := ok1
            refine ⟨?_, o2⟩
            clear ih hok hht ok2 hb l0 he et hc
            grind
          obtain ⟨q, hq, rfl⟩ := code_of c0
          have hj : q / 3000 < 7 := by omega
          have hf := factC (a := v + 60 + h) (μ := μ) (q / 3000) hj
          have ht := isTrue_eq (F := fun j => μ (v + 60 + h) (fO j)) (c := nI q) (μ := μ) rfl
          rw [d3000 hq, nn_nI (by omega)] at ht
          unfold htC at hht
          rw [if_neg c3, if_neg (fun z => z.elim c1 c2)] at hht
          by_cases hS : S.length < 20
          · rw [if_pos hS] at hht
            have hbt := ts_bit' (fun j => μ (v + 60 + h) (fO j)) (nI q)
            have hab : f_11_asBit (tsM (fun j => μ (v + 60 + h) (fO j)) (nI q)) μ = some (tsM (fun j => μ (v + 60 + h) (fO j)) (nI q)) := by
              unfold f_11_asBit
              rcases hbt with e | e <;> rw [e] <;> rfl
            rw [Option.bind_some, d1000 hq, hf, Option.bind_some, Option.bind_some, ht, Option.bind_some, hab, Option.bind_some, sh1 (by omega), nI_1]
            have e1 : nI (2 * enc S) ||| tsM (fun j => μ (v + 60 + h) (fO j)) (nI q) = nI (enc (tsM (fun j => μ (v + 60 + h) (fO j)) (nI q) :: S)) := by
              rw [enc_b]
              rcases hbt with e | e
              · rw [e, show (0 : Int32) = nI 0 from rfl, fa_or, show 2 * enc S = 2 * enc S + 0 from rfl, bo1 (by decide) (by decide)]; rfl
              · rw [e, show (1 : Int32) = nI 1 from rfl, fa_or, show 2 * enc S = 2 * enc S + 0 from rfl, bo1 (by decide) (by decide)]; rfl
            rw [e1, ih (k + 1) f _ H (by omega) (by omega) (bts_k hbt hb) hS ok2 hht]
            rw [evC_c]
            unfold st1C
            rw [if_neg c3, if_neg (fun z => z.elim c1 c2)]
          · rw [if_neg hS] at hht
            cases hht
/-- does a line hold for a household, by the model's row -/
def holdS (g : Nat → Int32) (s l h : Nat) : Int32 := if g (288 + 161 * s + 3 + 4 * l) = g (288 + 161 * s + 4 + 4 * l) then 1 else (evM (fct g h) (slc (fun i => g (288 + 161 * s + 41 + i)) (nn (g (288 + 161 * s + 3 + 4 * l))) (nn (g (288 + 161 * s + 4 + 4 * l)) - nn (g (288 + 161 * s + 3 + 4 * l)))) []).headD 0
/-- the first line of a sort that holds: from line l on, of m lines -/
def fsS (g : Nat → Int32) (s : Nat) (srt : Int32) (h : Nat) : Nat → Nat → Int32
  | 0, _ => -1
  | m + 1, l => if g (288 + 161 * s + 1 + 4 * l) = srt ∧ holdS g s l h ≠ 0 then nI l else fsS g s srt h m (l + 1)
set_option maxHeartbeats 1000000 in
theorem hold_rel {v s l h n : Nat} {μ ν : mm} (hv : isV v) (hs : s < 3) (hh : h < 16) (hR : RC v μ (ν 1) s) (en : ν 1 (288 + 161 * s) = nI n) (hn : n ≤ 10) (hl : l < n) (hV : ∀ f, f < 12 → ν 1 (96 + 12 * h + f) = μ (v + 60 + h) f) : (holdS (ν 1) s l h = 0 ∨ holdS (ν 1) s l h = 1) ∧ f_5_holds (v + 76 + 6 * s) (nI l) (v + 60 + h) μ = some (holdS (ν 1) s l h) ∧ ∃ ν', f_12_holds 0 (nI s) (nI l) (nI h) ν = some (holdS (ν 1) s l h, ν') ∧ ∀ b, b ≠ 9 → ν' b = ν b := by
  obtain ⟨n', z, hn', hz, en', em, ez, hL⟩ := hR
  have : n' = n := (nI_eq (by omega) (by omega)).mp (en'.symm.trans en)
  subst this
  obtain ⟨a1, a2, a3, a4, a5, fm, tm, fc, tc, b1, b2, b3, b4, b5, b6, b7, b8, b9, b0⟩ := hL l hl
  have e3 := lineOf_eq (ν := ν) hs (show l < 10 by omega) (show 3 < 4 by decide)
  have e2 := lineOf_eq (ν := ν) hs (show l < 10 by omega) (show 2 < 4 by decide)
  rw [show nI 3 = 3 from rfl, show 288 + 161 * s + 1 + 4 * l + 3 = 288 + 161 * s + 4 + 4 * l from by omega, b2] at e3
  rw [show nI 2 = 2 from rfl, show 288 + 161 * s + 1 + 4 * l + 2 = 288 + 161 * s + 3 + 4 * l from by omega, b1] at e2
  have hc := hasC_eq (v := v) (μ := μ) (l := l) hv hs (by omega)
  rw [b3, b4] at hc
  have ei : nI fm = nI tm ↔ fm = tm := nI_eq (by omega) (by omega)
  have k1 : nI tc ≤ nI fc ↔ tc ≤ fc := nI_leI (by omega) (by omega)
  by_cases d : fm = tm
  · have hS : holdS (ν 1) s l h = 1 := by
      unfold holdS
      rw [b1, b2, if_pos (ei.mpr d)]
    rw [if_pos (k1.mpr (by omega))] at hc
    rw [hS]
    refine ⟨Or.inr rfl, by simp [f_5_holds, hc], ν, ?_, fun _ _ => rfl⟩
    have hrun : ∀ a, f_12_holds_l25 0 (nI s) (nI h) a (nI tm) FU 0 (nI tm) ν = some ν := fun a => by
      show f_12_holds_l25 0 (nI s) (nI h) a (nI tm) (1999 + 1) 0 (nI tm) ν = some ν
      unfold f_12_holds_l25
      rw [if_pos (Int32.le_refl _)]
    subst d
    simp [f_12_holds, e2, e3, hrun]
  · obtain ⟨φ, ⟨m1, m2, m3⟩, ⟨p1, p2, p3⟩⟩ := b0 (by omega)
    have hF : (fun j => μ (v + 60 + h) (fO j)) = fct (ν 1) h := by
      funext j
      exact (hV (fO j) (fO_lt j)).symm
    have hS : holdS (ν 1) s l h = φ (fct (ν 1) h) := by
      unfold holdS
      rw [b1, b2, if_neg (fun q => d (ei.mp q)), nn_nI (by omega), nn_nI (by omega), (m3 (fct (ν 1) h)).2 []]
      rfl
    have hb := (m3 (fct (ν 1) h)).1
    rw [hS]
    refine ⟨hb, ?_, ?_⟩
    · rw [if_neg (fun q => by have := k1.mp q; omega)] at hc
      have hr := C_l20 (μ := μ) (v := v) (s := s) (l := l) (h := h) (tc := tc) hv hs (by omega) hh (by omega) b4 (tc - fc) fc FU [] 1 (by omega) (show tc - fc < 2000 by omega) (fun a ha => by cases ha) (by decide) p1 (p2 0)
      rw [hF, (p3 (fct (ν 1) h)).2 [], show enc [] = 0 from rfl, show nI 0 = 0 from rfl] at hr
      unfold f_5_holds
      rw [hc, Option.bind_some, if_neg (by decide), rR_3 hv hs, ldL (lR_79 hv hs) (by omega) (by decide), b3, Option.bind_some, hr, Option.bind_some]
      rcases hb with e | e <;> rw [e] <;> rfl
    · obtain ⟨μ', g1, g2, g3⟩ := M_l25 (ν := ν) (s := s) (h := h) (tm := tm) (a4 := nI fm) hs hh b6 (tm - fm) fm FU [] ν 20 1 (by omega) (show tm - fm < 2000 by omega) (by decide) (fun _ _ => rfl) trivial (by decide) m1 (m2 0)
      rw [(m3 (fct (ν 1) h)).2 []] at g3
      refine ⟨μ', ?_, g2⟩
      have hld : ld μ' 9 0 = some (φ (fct (ν 1) h)) := by
        rw [show (0 : Int32) = nI 0 from rfl, ldL len_9 (by decide) (by decide)]
        exact congrArg some g3.1
      unfold f_12_holds
      rw [e2, Option.bind_some, e3, Option.bind_some]
      rw [show f_12_holds_l25 0 (nI s) (nI h) (nI fm) (nI tm) FU 0 (nI fm) ν = some μ' from g1, Option.bind_some, if_neg (fun q => d (ei.mp q)), rf_0_19, hld, Option.bind_some]
      rcases hb with e | e <;> rw [e] <;> rfl
