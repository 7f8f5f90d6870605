/-! the class's parts -/
theorem TP_cg {T : Nat → Nat} {n : Nat} {μ ν μ' ν' : mm} (h : TP T n μ ν) (hm : μ' 24 1 = μ 24 1 ∧ μ' 25 = μ 25) (hn : ν' 0 5 = ν 0 5 ∧ ν' 4 = ν 4) : TP T n μ' ν' := by
  obtain ⟨h1, h2, h3, h4⟩ := h
  refine ⟨h1, by rw [hm.1]; exact h2, by rw [hn.1]; exact h3, fun k hk => ?_⟩
  rw [hm.2, hn.2]
  exact h4 k hk
theorem bEq {t v : Nat} (ht : t ≤ 255) (hv : v < 128) : (nI t).toInt8.toInt32 = nI v ↔ t = v := by
  by_cases c : t < 128
  · rw [fa_byte_small c]
    exact nI_eq (by omega) (by omega)
  · have n1 := by_neg t (by omega) (by omega)
    exact ⟨fun z => absurd (z ▸ n1) (nI_pos (by omega)), fun z => absurd z (by omega)⟩
theorem ldB {T : Nat → Nat} {n p : Nat} {μ ν : mm} (h : TP T n μ ν) (hp : p < n) : ld μ 25 (nI p) = some ((nI (T p)).toInt8.toInt32) := by
  rw [ldL len_25 (by have := h.1; omega) (by decide), (h.2.2.2 p hp).2.2]
theorem run_C {T : Nat → Nat} {n lo hi : Nat} {μ ν : mm} (h : TP T n μ ν) (hl : lo < 128) (hh : hi < 128) : ∀ (m p f : Nat), p + m = n → m < f → f_8_endOfRun_l3 24 (nI lo) (nI hi) μ f (nI p) = some (nI (er T n lo hi p)) := by
  have hn := h.1
  intro m
  induction m with
  | zero =>
    intro p f h1 h2
    obtain ⟨q, rfl⟩ : ∃ q, f = q + 1 := ⟨f - 1, by omega⟩
    obtain rfl : p = n := by omega
    unfold f_8_endOfRun_l3
    rw [h.2.1, if_pos (Int32.le_refl _), er_n (Nat.le_refl _)]
  | succ m ih =>
    intro p f h1 h2
    obtain ⟨q, rfl⟩ : ∃ q, f = q + 1 := ⟨f - 1, by omega⟩
    unfold f_8_endOfRun_l3
    rw [h.2.1, if_neg (lt_n1 (by omega) (by omega)), rf_24_0, ldB h (by omega), Option.bind_some, bIn (h.2.2.2 p (by omega)).1 hl hh, Option.bind_some]
    by_cases c : lo ≤ T p ∧ T p ≤ hi
    · rw [if_pos c, if_neg (by decide), nI_1, ih (p + 1) q (by omega) (by omega), er_s (by omega) c]
    · rw [if_neg c, if_pos rfl, er_x c]
theorem runC {T : Nat → Nat} {n lo hi p : Nat} {μ ν : mm} (h : TP T n μ ν) (hl : lo < 128) (hh : hi < 128) (hp : p ≤ n) : f_8_endOfRun 24 (nI p) (nI lo) (nI hi) μ = some (nI (er T n lo hi p)) := by
  unfold f_8_endOfRun
  rw [run_C h hl hh (n - p) p FU (by omega) (show n - p < 2000 by have := h.1; omega), Option.bind_some]
theorem num_C {T : Nat → Nat} {n e : Nat} {μ ν : mm} (h : TP T n μ ν) (he : e ≤ n) : ∀ (m p f a : Nat), p + m = e → m < f → (∀ j, p ≤ j → j < e → 48 ≤ T j ∧ T j ≤ 57) → f_8_numberBetween_l16 24 (nI e) μ f (nI a) (nI p) = some (nI (nvN T m p a)) := by
  have hn := h.1
  intro m
  induction m with
  | zero =>
    intro p f a h1 h2 hd
    obtain ⟨q, rfl⟩ : ∃ q, f = q + 1 := ⟨f - 1, by omega⟩
    obtain rfl : p = e := by omega
    unfold f_8_numberBetween_l16
    rw [if_pos (Int32.le_refl _)]
    rfl
  | succ m ih =>
    intro p f a h1 h2 hd
    obtain ⟨q, rfl⟩ : ∃ q, f = q + 1 := ⟨f - 1, by omega⟩
    have d := hd p (by omega) (by omega)
    unfold f_8_numberBetween_l16
    rw [if_neg (lt_n1 (by omega) (by omega)), rf_24_0, ldB h (by omega), Option.bind_some, fa_byte_small (by omega), show (10 : Int32) = nI 10 from rfl, pk_mul, nI_add, show (48 : Int32) = nI 48 from rfl, pk_sub (by omega), nI_1, show a * 10 + T p - 48 = 10 * a + (T p - 48) from by omega]
    exact ih (p + 1) q _ (by omega) (by omega) (fun j a b => hd j (by omega) b)
theorem te_D {T : Nat → Nat} {n p : Nat} (h : p < n) (hd : 48 ≤ T p ∧ T p ≤ 57) : te T n p = er T n 48 57 p := by
  unfold te
  rw [if_pos h, if_neg (by omega), if_pos hd]
theorem te_L {T : Nat → Nat} {n p : Nat} (h : p < n) (hd : 97 ≤ T p ∧ T p ≤ 122) : te T n p = er T n 97 122 p := by
  unfold te
  rw [if_pos h, if_pos hd]
theorem te_S {T : Nat → Nat} {n p : Nat} (h : p < n) (h1 : ¬ (97 ≤ T p ∧ T p ≤ 122)) (h2 : ¬ (48 ≤ T p ∧ T p ≤ 57)) : te T n p = p + 1 := by
  unfold te
  rw [if_pos h, if_neg h1, if_neg h2]
theorem te_dig {T : Nat → Nat} {n p : Nat} (h : p < n) (hd : 48 ≤ T p ∧ T p ≤ 57) : ∀ j, p ≤ j → j < te T n p → 48 ≤ T j ∧ T j ≤ 57 := by
  rw [te_D h hd]
  exact (er_ok (T := T) (n := n) (lo := 48) (hi := 57) (n - p) p (by omega)).2.2.2
theorem te_let {T : Nat → Nat} {n p : Nat} (h : p < n) (hd : 97 ≤ T p ∧ T p ≤ 122) : ∀ j, p ≤ j → j < te T n p → 97 ≤ T j ∧ T j ≤ 122 := by
  rw [te_L h hd]
  exact (er_ok (T := T) (n := n) (lo := 97) (hi := 122) (n - p) p (by omega)).2.2.2
theorem numC {T : Nat → Nat} {n p : Nat} {μ ν : mm} (h : TP T n μ ν) (hp : p < n) (hd : 48 ≤ T p ∧ T p ≤ 57) : f_8_numberBetween 24 (nI p) (nI (te T n p)) μ = some (nI (vl T n p)) := by
  have ht := te_ok (T := T) hp
  have hn := h.1
  unfold f_8_numberBetween vl
  rw [pk_sub (by omega)]
  by_cases c : te T n p - p ≤ 3
  · rw [if_pos (show nI (te T n p - p) ≤ 3 from nI_le (b := 3) c (by decide)), if_pos c, show (0 : Int32) = nI 0 from rfl, num_C h ht.2 (te T n p - p) p FU 0 (by omega) (show te T n p - p < 2000 by omega) (te_dig hp hd), Option.bind_some]
  · rw [if_neg (show ¬ nI (te T n p - p) ≤ 3 from nI_ge (a := 3) (by omega) (by omega)), if_neg c]
    rfl
theorem same_C {T : Nat → Nat} {n p e k : Nat} {μ ν : mm} (h : TP T n μ ν) (hk : k < 18) (he : e ≤ n) (hw : p + wl k = e) (hL : ∀ j, p ≤ j → j < e → 97 ≤ T j ∧ T j ≤ 122) : ∀ (m j f : Nat), j + m = wl k → m < f → ∃ y, f_8_isSame_l3 24 (nI (wS k)) (nI p) (nI e) μ f (nI (p + j)) = some y ∧ ((y = 1 ∧ ∀ i, j ≤ i → i < wl k → T (p + i) = wc k i) ∨ (y = 0 ∧ ∃ i, i < wl k ∧ T (p + i) ≠ wc k i)) := by
  have hn := h.1
  have hb := wl_b k hk
  intro m
  induction m with
  | zero =>
    intro j f h1 h2
    obtain ⟨q, rfl⟩ : ∃ q, f = q + 1 := ⟨f - 1, by omega⟩
    refine ⟨1, ?_, Or.inl ⟨rfl, fun i a b => absurd a (by omega)⟩⟩
    unfold f_8_isSame_l3
    rw [show p + j = e from by omega, if_pos (Int32.le_refl _)]
  | succ m ih =>
    intro j f h1 h2
    obtain ⟨q, rfl⟩ : ∃ q, f = q + 1 := ⟨f - 1, by omega⟩
    have hl := hL (p + j) (by omega) (by omega)
    have hd : f_8_isSame_l3 24 (nI (wS k)) (nI p) (nI e) μ (q + 1) (nI (p + j)) = if nI (wc k j) = nI (T (p + j)) then f_8_isSame_l3 24 (nI (wS k)) (nI p) (nI e) μ q (nI (p + (j + 1))) else some 0 := by
      conv => lhs; unfold f_8_isSame_l3
      rw [if_neg (lt_n1 (by omega) (by omega)), nI_add, pk_sub (by omega), show wS k + (p + j) - p = wS k + j from by omega, (wc_b k hk j (by omega) (by omega)).2.2, Option.bind_some, rf_24_0, ldB h (by omega), Option.bind_some, fa_byte_small (by omega), nI_1]
      rfl
    rw [hd]
    have hc := (wc_b k hk j (by omega) (by omega)).1
    by_cases c : wc k j = T (p + j)
    · rw [if_pos (by rw [c])]
      obtain ⟨y, y1, y2⟩ := ih (j + 1) q (by omega) (by omega)
      refine ⟨y, y1, ?_⟩
      rcases y2 with ⟨y2, y3⟩ | y2
      · refine Or.inl ⟨y2, fun i a b => ?_⟩
        by_cases z : i = j
        · subst z; exact c.symm
        · exact y3 i (by omega) b
      · exact Or.inr y2
    · rw [if_neg (fun z => c ((nI_eq (by omega) (by omega)).mp z))]
      exact ⟨0, rfl, Or.inr ⟨rfl, j, by omega, fun z => c z.symm⟩⟩
theorem skip_C {k : Nat} {A B : Int32} {μ : mm} (hk : k < 18) : ∀ (d j f : Nat), j + d = wl k → f_8_wordBetween_l8 24 A B μ (f + d) (nI k) (nI (wS k)) (nI (wS k + j)) = f_8_wordBetween_l8 24 A B μ f (nI k) (nI (wS k)) (nI (wS k + wl k)) := by
  have hb := wl_b k hk
  intro d
  induction d with
  | zero => intro j f h; rw [show j = wl k from by omega]; rfl
  | succ d ih =>
    intro j f h
    rw [← ih (j + 1) f (by omega)]
    have hc := wc_b k hk j (by omega) (by omega)
    show f_8_wordBetween_l8 24 A B μ (f + d + 1) (nI k) (nI (wS k)) (nI (wS k + j)) = _
    conv => lhs; unfold f_8_wordBetween_l8
    rw [w_all, if_neg (lt_n1 (by omega) (by omega)), hc.2.2, Option.bind_some, if_neg (show ¬ nI (wc k j) = 32 from fun z => absurd ((nI_eq (b := 32) (by omega) (by decide)).mp z) (by omega)), nI_1, show wS k + j + 1 = wS k + (j + 1) from by omega]
theorem word_C {T : Nat → Nat} {n p e : Nat} {μ ν : mm} (h : TP T n μ ν) (hp : p ≤ e) (he : e ≤ n) (hL : ∀ j, p ≤ j → j < e → 97 ≤ T j ∧ T j ≤ 122) : ∀ (m k f : Nat), k + m = 18 → 10 * m < f → f_8_wordBetween_l8 24 (nI p) (nI e) μ f (nI k) (nI (wS k)) (nI (wS k)) = some (wdF T p e m k) := by
  have hn := h.1
  intro m
  induction m with
  | zero =>
    intro k f h1 h2
    obtain ⟨q, rfl⟩ : ∃ q, f = q + 1 := ⟨f - 1, by omega⟩
    obtain rfl : k = 18 := by omega
    unfold f_8_wordBetween_l8
    rw [w_all, show wS 18 = 99 from rfl, if_pos (Int32.le_refl _)]
    rfl
  | succ m ih =>
    intro k f h1 h2
    have hk : k < 18 := by omega
    have hb := wl_b k hk
    obtain ⟨q, rfl⟩ : ∃ q, f = q + 1 + wl k := ⟨f - 1 - wl k, by omega⟩
    have s : f_8_wordBetween_l8 24 (nI p) (nI e) μ (q + 1 + wl k) (nI k) (nI (wS k)) (nI (wS k)) = f_8_wordBetween_l8 24 (nI p) (nI e) μ (q + 1) (nI k) (nI (wS k)) (nI (wS k + wl k)) := skip_C (A := nI p) (B := nI e) (μ := μ) hk (wl k) 0 (q + 1) (by omega)
    rw [s]
    have hd : f_8_wordBetween_l8 24 (nI p) (nI e) μ (q + 1) (nI k) (nI (wS k)) (nI (wS k + wl k)) = if nI (wl k) = nI (e - p) then (f_8_isSame 24 (nI (wS k)) (nI p) (nI e) μ).bind fun x4 => if x4 = 0 then f_8_wordBetween_l8 24 (nI p) (nI e) μ q (nI (k + 1)) (nI (wS (k + 1))) (nI (wS (k + 1))) else some (nI k) else f_8_wordBetween_l8 24 (nI p) (nI e) μ q (nI (k + 1)) (nI (wS (k + 1))) (nI (wS (k + 1))) := by
      conv => lhs; unfold f_8_wordBetween_l8
      rw [w_all, if_neg (lt_n1 (by omega) (by omega)), wc_e k hk, Option.bind_some, if_pos rfl, pk_sub (by omega), pk_sub (by omega), show wS k + wl k - wS k = wl k from by omega, nI_1, nI_1, ← hb.2.2.1]
    have nx := ih (k + 1) q (by omega) (by omega)
    rw [hd]
    by_cases c : wl k = e - p
    · rw [if_pos (by rw [c])]
      obtain ⟨y, y1, y2⟩ := same_C h hk he (show p + wl k = e by omega) hL (wl k) 0 FU (by omega) (show wl k < 2000 by omega)
      rw [show f_8_isSame 24 (nI (wS k)) (nI p) (nI e) μ = some y from y1, Option.bind_some]
      rcases y2 with ⟨rfl, y3⟩ | ⟨rfl, i, y3, y4⟩
      · rw [if_neg (by decide)]
        exact congrArg some (if_pos (show isw T p e k from ⟨by omega, fun j hj => y3 j (by omega) hj⟩)).symm
      · rw [if_pos rfl, nx]
        exact congrArg some (if_neg (show ¬ isw T p e k from fun z => y4 (z.2 i y3))).symm
    · rw [if_neg (fun z => c ((nI_eq (by omega) (by omega)).mp z)), nx]
      exact congrArg some (if_neg (show ¬ isw T p e k from fun z => c (by have := z.1; omega))).symm
theorem wordC {T : Nat → Nat} {n p : Nat} {μ ν : mm} (h : TP T n μ ν) (hp : p < n) (hl : 97 ≤ T p ∧ T p ≤ 122) : f_8_wordBetween 24 (nI p) (nI (te T n p)) μ = some (wd T p (te T n p)) := by
  have ht := te_ok (T := T) hp
  exact word_C h (by omega) ht.2 (te_let hp hl) 18 0 FU rfl (show 10 * 18 < 2000 by decide)
def isG (t : Nat) : Prop := t = 59 ∨ t = 40 ∨ t = 41 ∨ (60 ≤ t ∧ t ≤ 62)
theorem signC {t : Nat} {μ : mm} (ht : t ≤ 255) : f_8_isSign ((nI t).toInt8.toInt32) μ = some (if t = 59 ∨ t = 40 ∨ t = 41 ∨ (60 ≤ t ∧ t ≤ 62) then 1 else 0) := by
  unfold f_8_isSign
  have e59 : (nI t).toInt8.toInt32 = 59 ↔ t = 59 := bEq (v := 59) ht (by decide)
  have e40 : (nI t).toInt8.toInt32 = 40 ↔ t = 40 := bEq (v := 40) ht (by decide)
  have e41 : (nI t).toInt8.toInt32 = 41 ↔ t = 41 := bEq (v := 41) ht (by decide)
  by_cases c1 : t = 59
  · rw [if_pos (e59.mpr c1), if_pos (Or.inl c1)]
  · rw [if_neg (fun z => c1 (e59.mp z))]
    by_cases c2 : t = 40
    · rw [if_pos (e40.mpr c2), if_pos (Or.inr (Or.inl c2))]
    · rw [if_neg (fun z => c2 (e40.mp z))]
      by_cases c3 : t = 41
      · rw [if_pos (e41.mpr c3), if_pos (Or.inr (Or.inr (Or.inl c3)))]
      · rw [if_neg (fun z => c3 (e41.mp z)), show f_11_isIn ((nI t).toInt8.toInt32) 60 62 μ = _ from bIn (lo := 60) (hi := 62) ht (by decide) (by decide), Option.bind_some]
        by_cases c4 : 60 ≤ t ∧ t ≤ 62
        · rw [if_pos c4, if_neg (by decide), if_pos (Or.inr (Or.inr (Or.inr c4)))]
        · rw [if_neg c4, if_pos rfl, if_neg]
          rintro (z | z | z | z)
          · exact c1 z
          · exact c2 z
          · exact c3 z
          · exact c4 z
/-- the parts before c are as told -/
def AR (T : Nat → Nat) (n c : Nat) (μ : mm) : Prop := ∀ i, i < c → μ 32 i = cd T n (pz T n i) ∧ μ 33 i = nI (pz T n i) ∧ (48 ≤ T (pz T n i) ∧ T (pz T n i) ≤ 57 → pz T n i < n → μ 34 i = nI (vl T n (pz T n i)))
theorem split_l {T : Nat → Nat} {n : Nat} {μ ν : mm} (h : TP T n μ ν) : ∀ (m j f : Nat) (μ1 : mm), j + m = 300 → m < f → (∀ b, b ≠ 32 → b ≠ 33 → b ≠ 34 → μ1 b = μ b) → (∀ i, i < j → pz T n i < n) → AR T n j μ1 → ∃ c μ', f_8_splitTape_l12 24 f (nI j) (nI (pz T n j)) μ1 = some (nI c, μ') ∧ c ≤ 300 ∧ pz T n c = n ∧ (∀ i, i < c → pz T n i < n) ∧ (∀ b, b ≠ 32 → b ≠ 33 → b ≠ 34 → μ' b = μ b) ∧ AR T n c μ' := by
  have hn := h.1
  intro m
  induction m with
  | zero =>
    intro j f μ1 h1 h2 hm hp hA
    obtain ⟨q, rfl⟩ : ∃ q, f = q + 1 := ⟨f - 1, by omega⟩
    obtain rfl : j = 300 := by omega
    refine ⟨300, μ1, ?_, Nat.le_refl _, ?_, hp, hm, hA⟩
    · unfold f_8_splitTape_l12
      rw [if_pos (show (300 : Int32) ≤ nI 300 from Int32.le_refl _)]
    · have := pz_le (T := T) (n := n) 300
      rcases pz_ge (T := T) (n := n) 300 with e | e
      · exact e
      · omega
  | succ m ih =>
    intro j f μ1 h1 h2 hm hp hA
    obtain ⟨q, rfl⟩ : ∃ q, f = q + 1 := ⟨f - 1, by omega⟩
    have hj : j < 300 := by omega
    have d1 : ¬ (300 : Int32) ≤ nI j := nI_ge (b := 300) hj (by decide)
    have s24 : μ1 24 1 = nI n := by rw [hm 24 (by decide) (by decide) (by decide)]; exact h.2.1
    by_cases c : pz T n j < n
    · have h3 : TP T n (up μ1 33 j (nI (pz T n j))) ν := TP_cg h ⟨by rw [up_ne (by decide), hm 24 (by decide) (by decide) (by decide)], by rw [up_ne (by decide), hm 25 (by decide) (by decide) (by decide)]⟩ ⟨rfl, rfl⟩
      have h0 : TP T n μ1 ν := TP_cg h ⟨by rw [hm 24 (by decide) (by decide) (by decide)], hm 25 (by decide) (by decide) (by decide)⟩ ⟨rfl, rfl⟩
      have ht := (h.2.2.2 _ c).1
      have hte := te_ok (T := T) c
      -- what the middle of the loop lays
      have mid : ∃ μ4, ((f_11_isIn ((nI (T (pz T n j))).toInt8.toInt32) 97 122 (up μ1 33 j (nI (pz T n j)))).bind fun x6 => (if x6 = 0 then (f_11_isIn ((nI (T (pz T n j))).toInt8.toInt32) 48 57 (up μ1 33 j (nI (pz T n j)))).bind fun x8 => if x8 = 0 then (f_8_isSign ((nI (T (pz T n j))).toInt8.toInt32) (up μ1 33 j (nI (pz T n j)))).bind fun x10 => (if x10 = 0 then some (-3) else some ((nI (T (pz T n j))).toInt8.toInt32)).bind fun (z11 : Int32) => (sto (up μ1 33 j (nI (pz T n j))) 32 (nI j) z11).bind fun μ12 => some ((nI (pz T n j) + 1), μ12) else (f_8_endOfRun 24 (nI (pz T n j)) 48 57 (up μ1 33 j (nI (pz T n j)))).bind fun x15 => (sto (up μ1 33 j (nI (pz T n j))) 32 (nI j) (-2)).bind fun μ16 => (f_8_numberBetween 24 (nI (pz T n j)) x15 μ16).bind fun x19 => (sto μ16 34 (nI j) x19).bind fun μ20 => some (x15, μ20) else (f_8_endOfRun 24 (nI (pz T n j)) 97 122 (up μ1 33 j (nI (pz T n j)))).bind fun x23 => (f_8_wordBetween 24 (nI (pz T n j)) x23 (up μ1 33 j (nI (pz T n j)))).bind fun x25 => (sto (up μ1 33 j (nI (pz T n j))) 32 (nI j) x25).bind fun μ26 => some (x23, μ26)).bind fun (z28 : Int32 × mm) => (f_8_endOfRun 24 z28.1 32 32 z28.2).bind fun x30 => f_8_splitTape_l12 24 q (nI (j + 1)) x30 z28.2) = f_8_splitTape_l12 24 q (nI (j + 1)) (nI (pz T n (j + 1))) μ4 ∧ (∀ b, b ≠ 32 → b ≠ 33 → b ≠ 34 → μ4 b = μ b) ∧ AR T n (j + 1) μ4 := by
        have fin : ∀ (x : Int32) (μ4 : mm), (∀ b, b ≠ 32 → b ≠ 34 → μ4 b = up μ1 33 j (nI (pz T n j)) b) → μ4 32 j = cd T n (pz T n j) → (∀ i, i ≠ j → μ4 32 i = μ1 32 i ∧ μ4 34 i = μ1 34 i) → (48 ≤ T (pz T n j) ∧ T (pz T n j) ≤ 57 → μ4 34 j = nI (vl T n (pz T n j))) → ((f_8_endOfRun 24 (nI (te T n (pz T n j))) 32 32 μ4).bind fun x30 => f_8_splitTape_l12 24 q (nI (j + 1)) x30 μ4) = f_8_splitTape_l12 24 q (nI (j + 1)) (nI (pz T n (j + 1))) μ4 ∧ (∀ b, b ≠ 32 → b ≠ 33 → b ≠ 34 → μ4 b = μ b) ∧ AR T n (j + 1) μ4 := by
          intro x μ4 k1 k2 k3 k4
          have h4 : TP T n μ4 ν := TP_cg h3 ⟨by rw [k1 24 (by decide) (by decide)], k1 25 (by decide) (by decide)⟩ ⟨rfl, rfl⟩
          refine ⟨?_, fun b b1 b2 b3 => by rw [k1 b b1 b3, up_ne b2]; exact hm b b1 b2 b3, fun i hi => ?_⟩
          · rw [show f_8_endOfRun 24 (nI (te T n (pz T n j))) 32 32 μ4 = _ from runC (lo := 32) (hi := 32) h4 (by decide) (by decide) hte.2, Option.bind_some]
            rfl
          · by_cases e : i = j
            · subst e
              exact ⟨k2, by rw [k1 33 (by decide) (by decide), up_at], fun z _ => k4 z⟩
            · obtain ⟨a1, a2, a3⟩ := hA i (by omega)
              obtain ⟨b1, b2⟩ := k3 i e
              exact ⟨by rw [b1]; exact a1, by rw [k1 33 (by decide) (by decide), up_ns e]; exact a2, fun z1 z2 => by rw [b2]; exact a3 z1 z2⟩
        have cdj : cd T n (pz T n j) = if 97 ≤ T (pz T n j) ∧ T (pz T n j) ≤ 122 then wd T (pz T n j) (te T n (pz T n j)) else if 48 ≤ T (pz T n j) ∧ T (pz T n j) ≤ 57 then -2 else if T (pz T n j) = 59 ∨ T (pz T n j) = 40 ∨ T (pz T n j) = 41 ∨ (60 ≤ T (pz T n j) ∧ T (pz T n j) ≤ 62) then nI (T (pz T n j)) else -3 := if_pos c
        rw [show f_11_isIn ((nI (T (pz T n j))).toInt8.toInt32) 97 122 (up μ1 33 j (nI (pz T n j))) = _ from bIn (lo := 97) (hi := 122) ht (by decide) (by decide), Option.bind_some]
        by_cases l : 97 ≤ T (pz T n j) ∧ T (pz T n j) ≤ 122
        · rw [if_pos l, if_neg (by decide), show f_8_endOfRun 24 (nI (pz T n j)) 97 122 (up μ1 33 j (nI (pz T n j))) = _ from runC (lo := 97) (hi := 122) h3 (by decide) (by decide) (by omega), Option.bind_some, ← te_L c l, wordC h3 c l, Option.bind_some, stoL len_32 (by omega) (by decide), Option.bind_some, Option.bind_some]
          dsimp only
          exact ⟨_, fin 0 _ (fun b b1 b2 => up_ne b1) (by rw [up_at, cdj, if_pos l]) (fun i e => ⟨by rw [up_ns e, up_ne (by decide)], by rw [up_ne (by decide), up_ne (by decide)]⟩) (fun z => absurd z (by omega))⟩
        · rw [if_neg l, if_pos rfl, show f_11_isIn ((nI (T (pz T n j))).toInt8.toInt32) 48 57 (up μ1 33 j (nI (pz T n j))) = _ from bIn (lo := 48) (hi := 57) ht (by decide) (by decide), Option.bind_some]
          by_cases d : 48 ≤ T (pz T n j) ∧ T (pz T n j) ≤ 57
          · have h16 : TP T n (up (up μ1 33 j (nI (pz T n j))) 32 j (-2)) ν := TP_cg h3 ⟨by rw [up_ne (by decide)], by rw [up_ne (by decide)]⟩ ⟨rfl, rfl⟩
            rw [if_pos d, if_neg (by decide), show f_8_endOfRun 24 (nI (pz T n j)) 48 57 (up μ1 33 j (nI (pz T n j))) = _ from runC (lo := 48) (hi := 57) h3 (by decide) (by decide) (by omega), Option.bind_some, ← te_D c d, stoL len_32 (by omega) (by decide), Option.bind_some, numC h16 c d, Option.bind_some, stoL len_34 (by omega) (by decide), Option.bind_some, Option.bind_some]
            dsimp only
            exact ⟨_, fin 0 _ (fun b b1 b2 => by rw [up_ne b2, up_ne b1]) (by rw [up_ne (by decide), up_at, cdj, if_neg l, if_pos d]) (fun i e => ⟨by rw [up_ne (by decide), up_ns e, up_ne (by decide)], by rw [up_ns e, up_ne (by decide), up_ne (by decide)]⟩) (fun z => up_at)⟩
          · rw [if_neg d, if_pos rfl, signC ht, Option.bind_some]
            by_cases g : T (pz T n j) = 59 ∨ T (pz T n j) = 40 ∨ T (pz T n j) = 41 ∨ (60 ≤ T (pz T n j) ∧ T (pz T n j) ≤ 62)
            · rw [if_pos g, if_neg (by decide), Option.bind_some, stoL len_32 (by omega) (by decide), Option.bind_some, Option.bind_some, nI_1, ← te_S c l d]
              dsimp only
              exact ⟨_, fin 0 _ (fun b b1 b2 => up_ne b1) (by rw [up_at, cdj, if_neg l, if_neg d, if_pos g, fa_byte_small (by omega)]) (fun i e => ⟨by rw [up_ns e, up_ne (by decide)], by rw [up_ne (by decide), up_ne (by decide)]⟩) (fun z => absurd z d)⟩
            · rw [if_neg g, if_pos rfl, Option.bind_some, stoL len_32 (by omega) (by decide), Option.bind_some, Option.bind_some, nI_1, ← te_S c l d]
              dsimp only
              exact ⟨_, fin 0 _ (fun b b1 b2 => up_ne b1) (by rw [up_at, cdj, if_neg l, if_neg d, if_neg g]) (fun i e => ⟨by rw [up_ns e, up_ne (by decide)], by rw [up_ne (by decide), up_ne (by decide)]⟩) (fun z => absurd z d)⟩
      obtain ⟨μ4, e1, e2, e3⟩ := mid
      obtain ⟨cc, μ', k1, k2⟩ := ih (j + 1) q μ4 (by omega) (by omega) e2 (fun i hi => by
        by_cases e : i = j
        · subst e; exact c
        · exact hp i (by omega)) e3
      refine ⟨cc, μ', ?_, k2⟩
      unfold f_8_splitTape_l12
      rw [if_neg d1, s24, if_neg (lt_n1 c (by omega)), rf_24_0, ldB h0 c, Option.bind_some, rf_24_4, stoL len_33 (by omega) (by decide), Option.bind_some, rf_24_3, rf_24_5, nI_1 j]
      exact e1.trans k1
    · have e : pz T n j = n := by have := pz_le (T := T) (n := n) j; omega
      refine ⟨j, μ1, ?_, by omega, e, hp, hm, hA⟩
      unfold f_8_splitTape_l12
      rw [if_neg d1, s24, e, if_pos (Int32.le_refl _)]
/-- what the class has of its parts: c of them and the end -/
def TK (T : Nat → Nat) (n c : Nat) (μ : mm) : Prop := c ≤ 300 ∧ pz T n c = n ∧ (∀ i, i < c → pz T n i < n) ∧ AR T n (c + 1) μ
theorem split_C {T : Nat → Nat} {n : Nat} {μ ν : mm} (h : TP T n μ ν) : ∃ c μ', f_8_splitTape 24 μ = some μ' ∧ TK T n c μ' ∧ (∀ b, b ≠ 32 → b ≠ 33 → b ≠ 34 → μ' b = μ b) := by
  obtain ⟨c, μ1, k1, k2, k3, k4, k5, k6⟩ := split_l h 300 0 FU μ rfl (show 300 < 2000 by decide) (fun _ _ _ _ => rfl) (fun i hi => absurd hi (by omega)) (fun i hi => absurd hi (by omega))
  refine ⟨c, up (up μ1 33 c (nI n)) 32 c (-1), ?_, ⟨k2, k3, k4, fun i hi => ?_⟩, fun b b1 b2 b3 => by rw [up_ne b1, up_ne b2]; exact k5 b b1 b2 b3⟩
  · unfold f_8_splitTape
    rw [show f_8_endOfRun 24 0 32 32 μ = _ from runC (lo := 32) (hi := 32) (p := 0) h (by decide) (by decide) (Nat.zero_le _), Option.bind_some]
    rw [show f_8_splitTape_l12 24 FU 0 (nI (er T n 32 32 0)) μ = _ from k1, Option.bind_some]
    dsimp only
    rw [rf_24_4, k5 24 (by decide) (by decide) (by decide), h.2.1, stoL len_33 (by omega) (by decide), Option.bind_some, rf_24_3, stoL len_32 (by omega) (by decide), Option.bind_some]
  · by_cases e : i = c
    · subst e
      rw [up_at, up_ne (by decide), up_at, k3]
      refine ⟨(if_neg (by omega)).symm, rfl, fun _ z => absurd z (by omega)⟩
    · obtain ⟨a1, a2, a3⟩ := k6 i (by omega)
      exact ⟨by rw [up_ns e, up_ne (by decide)]; exact a1, by rw [up_ne (by decide), up_ns e]; exact a2, fun z1 z2 => by rw [up_ne (by decide), up_ne (by decide)]; exact a3 z1 z2⟩
