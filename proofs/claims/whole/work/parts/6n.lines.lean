/-! lines -/
theorem gq_ne {d : Nat} {ms cs : List Int32} (h : gq d ms cs) : ms ≠ [] ∧ cs ≠ [] := by
  obtain ⟨φ, ⟨-, a2, -⟩, ⟨-, b2, -⟩⟩ := h
  refine ⟨fun e => ?_, fun e => ?_⟩
  · subst e
    have := Option.some.inj (a2 0)
    omega
  · subst e
    have := Option.some.inj (b2 0)
    omega
/-- line k of the text, on both sides -/
def LR (z y : Nat) (μ ν : mm) (k : Nat) : Prop := ∃ s v fm tm fc tc : Nat, (s ≤ 6 ∧ v ≤ 999 ∧ (s = 1 → v ≤ 9)) ∧ (μ 27 k = nI s ∧ μ 28 k = nI v ∧ μ 29 k = nI fc ∧ μ 30 k = nI tc) ∧ (ν 7 (4 * k) = nI s ∧ ν 7 (4 * k + 1) = (if s = 5 then -9 else nI v) ∧ ν 7 (4 * k + 2) = nI fm ∧ ν 7 (4 * k + 3) = nI tm) ∧ (fm ≤ tm ∧ tm ≤ y ∧ fc ≤ tc ∧ tc ≤ z ∧ (fm = tm ↔ fc = tc)) ∧ (fm < tm → gq 20 (slc (ν 8) fm (tm - fm)) (slc (μ 31) fc (tc - fc)))
theorem LR_cg {z y z' y' k : Nat} {μ ν μ' ν' : mm} (h : LR z y μ ν k) (hz : z ≤ z') (hy : y ≤ y') (hm : μ' 27 k = μ 27 k ∧ μ' 28 k = μ 28 k ∧ μ' 29 k = μ 29 k ∧ μ' 30 k = μ 30 k) (h31 : ∀ j, j < z → μ' 31 j = μ 31 j) (h7 : ∀ j, j < 4 * k + 4 → ν' 7 j = ν 7 j) (h8 : ∀ j, j < y → ν' 8 j = ν 8 j) : LR z' y' μ' ν' k := by
  obtain ⟨s, v, fm, tm, fc, tc, a, ⟨b1, b2, b3, b4⟩, ⟨c1, c2, c3, c4⟩, ⟨d1, d2, d3, d4, d5⟩, e⟩ := h
  refine ⟨s, v, fm, tm, fc, tc, a, ⟨hm.1.trans b1, hm.2.1.trans b2, hm.2.2.1.trans b3, hm.2.2.2.trans b4⟩, ⟨(h7 _ (by omega)).trans c1, (h7 _ (by omega)).trans c2, (h7 _ (by omega)).trans c3, (h7 _ (by omega)).trans c4⟩, ⟨d1, by omega, d3, by omega, d5⟩, fun q => ?_⟩
  rw [slc_cg (f := ν' 8) (g := ν 8) (fun j p1 p2 => h8 j (by omega)), slc_cg (f := μ' 31) (g := μ 31) (fun j p1 p2 => h31 j (by omega))]
  exact e q
def FL (μ0 μ : mm) : Prop := (∀ b, b ≠ 24 → (b < 26 ∨ 31 < b) → μ b = μ0 b) ∧ (∀ k, k ≠ 6 → k ≠ 7 → μ 24 k = μ0 24 k)
def FN (ν0 ν : mm) : Prop := (∀ b, b ≠ 0 → b ≠ 7 → b ≠ 8 → ν b = ν0 b) ∧ (∀ k, ¬ (10 ≤ k ∧ k ≤ 16) → ν 0 k = ν0 0 k)
theorem FL_t {μ0 μ1 μ2 : mm} (h1 : FL μ0 μ1) (h2 : FL μ1 μ2) : FL μ0 μ2 := ⟨fun b b1 b2 => (h2.1 b b1 b2).trans (h1.1 b b1 b2), fun k k1 k2 => (h2.2 k k1 k2).trans (h1.2 k k1 k2)⟩
theorem FN_t {ν0 ν1 ν2 : mm} (h1 : FN ν0 ν1) (h2 : FN ν1 ν2) : FN ν0 ν2 := ⟨fun b b1 b2 b3 => (h2.1 b b1 b2 b3).trans (h1.1 b b1 b2 b3), fun k k1 => (h2.2 k k1).trans (h1.2 k k1)⟩
theorem FL_r {μ : mm} : FL μ μ := ⟨fun _ _ _ => rfl, fun _ _ _ => rfl⟩
theorem FN_r {ν : mm} : FN ν ν := ⟨fun _ _ _ _ => rfl, fun _ _ => rfl⟩
theorem FC_FL {z : Nat} {μ0 μ : mm} (h : FC z μ0 μ) : FL μ0 μ := ⟨fun b b1 b2 => h.1 b b1 (by omega) (by omega), h.2.1⟩
theorem FM_FN {y : Nat} {ν0 ν : mm} (h : FM y ν0 ν) : FN ν0 ν := ⟨fun b b1 b2 b3 => h.1 b b1 b3, fun k k1 => h.2.1 k (by omega)⟩
theorem FN_7 {ν : mm} {k : Nat} {x : Int32} : FN ν (up ν 7 k x) := ⟨fun b _ b2 _ => up_ne b2, fun k _ => by rw [up_ne (by decide)]⟩
/-- a fault, and where -/
def Bl (T : Nat → Nat) (n c : Nat) (μ0 ν0 μ ν : mm) : Prop := (∃ i, i ≤ c ∧ μ 24 6 = nI i ∧ ν 0 10 = nI (pz T n i)) ∧ ν 0 13 = 1 ∧ FL μ0 μ ∧ FN ν0 ν
theorem Bd_Bl {T : Nat → Nat} {n c : Nat} {μ0 ν0 μ ν : mm} (h : Bd T n c μ0 ν0 μ ν) : Bl T n c μ0 ν0 μ ν := ⟨h.1, h.2.1, FC_FL h.2.2.2.1, FM_FN h.2.2.2.2⟩
theorem Bl_t {T : Nat → Nat} {n c : Nat} {μ0 ν0 μ1 ν1 μ ν : mm} (h1 : FL μ0 μ1) (h2 : FN ν0 ν1) (h : Bl T n c μ1 ν1 μ ν) : Bl T n c μ0 ν0 μ ν := ⟨h.1, h.2.1, FL_t h1 h.2.2.1, FN_t h2 h.2.2.2⟩
theorem Bl_7 {T : Nat → Nat} {n c k : Nat} {x : Int32} {μ0 ν0 μ ν : mm} (h : Bl T n c μ0 ν0 μ ν) : Bl T n c μ0 ν0 μ (up ν 7 k x) := by
  obtain ⟨⟨i, a, b, e⟩, h2, h3, h4⟩ := h
  exact ⟨⟨i, a, b, by rw [up_ne (by decide)]; exact e⟩, by rw [up_ne (by decide)]; exact h2, h3, FN_t h4 FN_7⟩
theorem PS_7 {T : Nat → Nat} {n c i o z y k : Nat} {x : Int32} {μ ν : mm} (h : PS T n c i o z y μ ν) : PS T n c i o z y μ (up ν 7 k x) := by
  obtain ⟨hC, hM, m1, m2, m3, m4⟩ := h
  exact ⟨hC, MP_cg hM (fun k _ => by rw [up_ne (by decide)]) (up_ne (by decide)), by rw [up_ne (by decide)]; exact m1, by rw [up_ne (by decide)]; exact m2, by rw [up_ne (by decide)]; exact m3, m4⟩
theorem st7 {k : Nat} {x : Int32} {ν : mm} (h : k < 40) : sto ν 7 (nI k) x = some (up ν 7 k x) := stoL (show len 7 = 40 from by decide) h (by decide)
/-- the end of a line behind its condition; the class's line is laid -/
theorem addL {s v f : Int32} {l z : Nat} {μ : mm} (e0 : μ 26 0 = nI l) (e5 : μ 26 5 = nI z) (hl : l < 10) : f_5_addLine 26 s v f μ = some (up (up (up (up (up μ 27 l s) 28 l v) 29 l f) 30 l (nI z)) 26 0 (nI (l + 1))) := by
  unfold f_5_addLine
  rw [e0, if_neg (show ¬ (10 : Int32) ≤ nI l from nI_ge (b := 10) hl (by decide)), rf_26_1, stoL len_27 hl (by decide), Option.bind_some, rf_26_2, up_ne (by decide), e0, stoL len_28 hl (by decide), Option.bind_some, rf_26_3, up_ne (by decide), up_ne (by decide), e0, stoL len_29 hl (by decide), Option.bind_some, rf_26_4, up_ne (by decide), up_ne (by decide), up_ne (by decide), e0, e5, stoL len_30 hl (by decide), Option.bind_some, pf_eq, Option.bind_some, up_ne (by decide), up_ne (by decide), up_ne (by decide), up_ne (by decide), e0, nI_1]
/-- the lines before l -/
def LN (l z y : Nat) (μ ν : mm) : Prop := (μ 26 0 = nI l ∧ ν 0 16 = nI l) ∧ ∀ k, k < l → LR z y μ ν k
/-- behind the condition: the line is laid, the sign ends it -/
theorem tail_rel {T : Nat → Nat} {n c i z y l s v fm fc : Nat} {x : Int32} {μ0 ν0 μ ν : mm} (hP : PS T n c i 0 z y μ ν) (hl : l < 10) (h0 : μ 26 0 = nI l) (h16 : ν 0 16 = nI l) (hL : ∀ k, k < l → LR z y μ ν k) (hs : s ≤ 6) (hv : v ≤ 999) (hv9 : s = 1 → v ≤ 9) (hfm : fm ≤ y) (hfc : fc ≤ z) (hiff : fm = y ↔ fc = z) (hg : fm < y → gq 20 (slc (ν 8) fm (y - fm)) (slc (μ 31) fc (z - fc))) (e1 : ν 7 (4 * l) = nI s) (e2 : ν 7 (4 * l + 1) = (if s = 5 then -9 else nI v)) (e3 : ν 7 (4 * l + 2) = nI fm) (f1 : FL μ0 μ) (f2 : FN ν0 ν) : ∃ r μ' ν', f_8_readLine_b102 24 (nI s) (nI v) (nI fc) μ = some (r, μ') ∧ ((sto ν 7 ((nI (4 * l)) + 3) (ν 0 15)).bind fun μ27 => (f_12_isSign 0 59 μ27).bind fun x30 => (f_12_need 0 x30 μ27).bind fun μ32 => some μ32) = some ν' ∧ ((r = 1 ∧ ∃ i', i < i' ∧ PS T n c i' 0 z y μ' ν' ∧ μ' 26 0 = nI (l + 1) ∧ ν' 0 16 = nI l ∧ (∀ k, k < l + 1 → LR z y μ' ν' k) ∧ FL μ0 μ' ∧ FN ν0 ν') ∨ (r = 0 ∧ Bl T n c μ0 ν0 μ' ν')) := by
  have e5 := hP.1.2.2.2.2.1
  have aL := addL (s := nI s) (v := nI v) (f := nI fc) h0 e5 hl
  obtain ⟨μ2, hμ2⟩ : ∃ μ2, μ2 = up (up (up (up (up μ 27 l (nI s)) 28 l (nI v)) 29 l (nI fc)) 30 l (nI z)) 26 0 (nI (l + 1)) := ⟨_, rfl⟩
  rw [← hμ2] at aL
  have b0 : ∀ b, b ≠ 26 → b ≠ 27 → b ≠ 28 → b ≠ 29 → b ≠ 30 → μ2 b = μ b := fun b b1 b2 b3 b4 b5 => by rw [hμ2, up_ne b1, up_ne b5, up_ne b4, up_ne b3, up_ne b2]
  have b26 : ∀ k, k ≠ 0 → μ2 26 k = μ 26 k := fun k hk => by rw [hμ2, up_ns hk, up_ne (by decide), up_ne (by decide), up_ne (by decide), up_ne (by decide)]
  have hC := hP.1
  have hP2 : PS T n c i 0 z y μ2 (up ν 7 (4 * l + 3) (nI y)) := by
    refine PS_7 ⟨⟨TK_cg hC.1 (b0 32 (by decide) (by decide) (by decide) (by decide) (by decide)) (b0 33 (by decide) (by decide) (by decide) (by decide) (by decide)) (b0 34 (by decide) (by decide) (by decide) (by decide) (by decide)), hC.2.1, ?_, ?_, ?_, hC.2.2.2.2.2⟩, hP.2⟩
    · rw [b0 24 (by decide) (by decide) (by decide) (by decide) (by decide)]; exact hC.2.2.1
    · rw [b0 24 (by decide) (by decide) (by decide) (by decide) (by decide)]; exact hC.2.2.2.1
    · rw [b26 5 (by decide)]; exact hC.2.2.2.2.1
  have g1 : FL μ0 μ2 := FL_t f1 ⟨fun b q1 q2 => b0 b (by omega) (by omega) (by omega) (by omega) (by omega), fun k _ _ => by rw [b0 24 (by decide) (by decide) (by decide) (by decide) (by decide)]⟩
  have g2 : FN ν0 (up ν 7 (4 * l + 3) (nI y)) := FN_t f2 FN_7
  have sg := sign_M (v := 59) hP2.2.1 (by omega) hP2.2.2.1
  rw [show nI 59 = 59 from rfl] at sg
  have hC0 : f_8_readLine_b102 24 (nI s) (nI v) (nI fc) μ = if (μ2 24 7) = 59 then (f_8_step 24 μ2).bind fun μ4 => some (1, μ4) else some (0, μ2) := by
    unfold f_8_readLine_b102
    rw [rf_24_2, aL, Option.bind_some]
  have hM0 : ((sto ν 7 ((nI (4 * l)) + 3) (ν 0 15)).bind fun μ27 => (f_12_isSign 0 59 μ27).bind fun x30 => (f_12_need 0 x30 μ27).bind fun μ32 => some μ32) = (f_12_need 0 (if cd T n (pz T n i) = 59 then 1 else 0) (up ν 7 (4 * l + 3) (nI y))).bind fun μ32 => some μ32 := by
    rw [nI_p3, st7 (by omega), Option.bind_some, hP.2.2.2.2.1, sg, Option.bind_some]
  have e7 := hP2.1.2.2.2.1
  have n7 : ∀ k, k ≠ 4 * l + 3 → up ν 7 (4 * l + 3) (nI y) 7 k = ν 7 k := fun k hk => up_ns hk
  have lines : ∀ k, k < l + 1 → LR z y μ2 (up ν 7 (4 * l + 3) (nI y)) k := by
    intro k hk
    by_cases q : k = l
    · subst q
      refine ⟨s, v, fm, y, fc, z, ⟨hs, hv, hv9⟩, ⟨?_, ?_, ?_, ?_⟩, ⟨by rw [n7 _ (by omega)]; exact e1, by rw [n7 _ (by omega)]; exact e2, by rw [n7 _ (by omega)]; exact e3, up_at⟩, ⟨hfm, Nat.le_refl _, hfc, Nat.le_refl _, hiff⟩, fun q => ?_⟩
      · rw [hμ2, up_ne (by decide), up_ne (by decide), up_ne (by decide), up_ne (by decide), up_at]
      · rw [hμ2, up_ne (by decide), up_ne (by decide), up_ne (by decide), up_at]
      · rw [hμ2, up_ne (by decide), up_ne (by decide), up_at]
      · rw [hμ2, up_ne (by decide), up_at]
      · rw [up_ne (by decide), b0 31 (by decide) (by decide) (by decide) (by decide) (by decide)]
        exact hg q
    · refine LR_cg (hL k (by omega)) (Nat.le_refl _) (Nat.le_refl _) ⟨?_, ?_, ?_, ?_⟩ (fun j _ => by rw [b0 31 (by decide) (by decide) (by decide) (by decide) (by decide)]) (fun j hj => n7 j (by omega)) (fun j _ => by rw [up_ne (by decide)])
      · rw [hμ2, up_ne (by decide), up_ne (by decide), up_ne (by decide), up_ne (by decide), up_ns q]
      · rw [hμ2, up_ne (by decide), up_ne (by decide), up_ne (by decide), up_ns q, up_ne (by decide)]
      · rw [hμ2, up_ne (by decide), up_ne (by decide), up_ns q, up_ne (by decide), up_ne (by decide)]
      · rw [hμ2, up_ne (by decide), up_ns q, up_ne (by decide), up_ne (by decide), up_ne (by decide)]
  rw [hC0, hM0]
  by_cases c59 : cd T n (pz T n i) = nI 59
  · have hpn := ((cd_g (v := 59) (by omega)).mp c59).1
    obtain ⟨μ4, ν4, s1, s2, hP4, ⟨s4, s5⟩, ⟨s6, s7⟩⟩ := PS_step hP2 hpn
    refine ⟨1, μ4, ν4, ?_, ?_, Or.inl ⟨rfl, i + 1, by omega, hP4, ?_, ?_, fun k hk => ?_, FL_t g1 (FC_FL s4), FN_t g2 (FM_FN s6)⟩⟩
    · rw [if_pos (show μ2 24 7 = 59 from e7.trans c59), s1, Option.bind_some]
    · rw [if_pos (show cd T n (pz T n i) = 59 from c59), need_Y hP2.2.2.1, s2, Option.bind_some]
    · rw [s4.2.2.1 0 (by decide), hμ2, up_at]
    · rw [s6.2.1 16 (by omega), up_ne (by decide)]; exact h16
    · refine LR_cg (lines k hk) (Nat.le_refl _) (Nat.le_refl _) ⟨?_, ?_, ?_, ?_⟩ (fun j _ => by rw [s5]) (fun j _ => ?_) (fun j _ => by rw [s7])
      · rw [s4.1 27 (by decide) (by decide) (by decide)]
      · rw [s4.1 28 (by decide) (by decide) (by decide)]
      · rw [s4.1 29 (by decide) (by decide) (by decide)]
      · rw [s4.1 30 (by decide) (by decide) (by decide)]
      · rw [s6.1 7 (by decide) (by decide)]
  · refine ⟨0, μ2, up (up ν 7 (4 * l + 3) (nI y)) 0 13 1, ?_, ?_, Or.inr ⟨rfl, Bl_t g1 g2 (Bd_Bl (Bd_here hP2))⟩⟩
    · rw [if_neg (show ¬ μ2 24 7 = 59 from fun t => c59 (e7.symm.trans t))]
    · rw [if_neg (show ¬ cd T n (pz T n i) = 59 from c59), need_N hP2.2.2.1, Option.bind_some]
/-- the model's way behind a fault -/
def lt1 (at' z1 : Int32) (ν : mm) : Option mm := (sto ν 7 (at' + 3) (ν 0 15)).bind fun μ27 => (f_12_isSign 0 59 μ27).bind fun x30 => (f_12_need 0 x30 μ27).bind fun μ32 => some μ32
def lt2 (at' z1 : Int32) (z11 : Int32 × mm) : Option mm :=
  (sto z11.2 7 (at' + 1) z11.1).bind fun μ12 =>
  (sto μ12 7 (at' + 2) (μ12 0 15)).bind fun μ14 =>
  (f_12_isName 0 1014 μ14).bind fun x17 =>
  (if x17 = 0 then
      some μ14
    else
      if z1 < 2 then
        (f_12_next 0 μ14).bind fun μ19 =>
        (f_12_either_G 20 0 0 μ19).bind fun μ21 =>
        some μ21
      else
        if z1 ≤ 4 then
          some μ14
        else
          (f_12_next 0 μ14).bind fun μ23 =>
          (f_12_either_G 20 0 0 μ23).bind fun μ25 =>
          some μ25).bind fun (z26 : mm) => lt1 at' z1 z26
theorem line_eq {at' : Int32} {ν : mm} : f_12_lineAt 0 at' ν = (f_12_lineAt_l4 0 at' ν FU (-1) 0).bind fun z1 => (if z1 < 0 then some 0 else some 1).bind fun (z3 : Int32) => (f_12_need 0 z3 ν).bind fun μ5 => (sto μ5 7 at' z1).bind fun μ6 => (if z1 = 5 then some ((-9), μ6) else (if z1 = 1 then some 9 else some 999).bind fun (z8 : Int32) => (f_12_number 0 z8 μ6).bind fun z10 => some (z10.1, z10.2)).bind fun (z11 : Int32 × mm) => lt2 at' z1 z11 := rfl
theorem lt1_X {l : Nat} {z1 : Int32} {ν : mm} (hl : l < 10) (h : ν 0 13 = 1) : lt1 (nI (4 * l)) z1 ν = some (up ν 7 (4 * l + 3) (ν 0 15)) := by
  have n0 : up ν 7 (4 * l + 3) (ν 0 15) 0 13 = 1 := by rw [up_ne (by decide)]; exact h
  unfold lt1
  rw [nI_p3, st7 (by omega), Option.bind_some, sign_F n0, Option.bind_some, need_X n0, Option.bind_some]
theorem lt2_X {T : Nat → Nat} {n c l : Nat} {z1 x : Int32} {μ0 ν0 μ ν : mm} (hl : l < 10) (h : Bl T n c μ0 ν0 μ ν) : ∃ ν', lt2 (nI (4 * l)) z1 (x, ν) = some ν' ∧ Bl T n c μ0 ν0 μ ν' := by
  have n1 : up ν 7 (4 * l + 1) x 0 13 = 1 := by rw [up_ne (by decide)]; exact h.2.1
  obtain ⟨ν1, h1⟩ : ∃ ν1, ν1 = up ν 7 (4 * l + 1) x := ⟨_, rfl⟩
  obtain ⟨ν2, h2⟩ : ∃ ν2, ν2 = up ν1 7 (4 * l + 2) (ν1 0 15) := ⟨_, rfl⟩
  rw [← h1] at n1
  have n2 : ν2 0 13 = 1 := by rw [h2, up_ne (by decide)]; exact n1
  have b1 : Bl T n c μ0 ν0 μ ν1 := by rw [h1]; exact Bl_7 h
  have b2 : Bl T n c μ0 ν0 μ ν2 := by rw [h2]; exact Bl_7 b1
  refine ⟨up ν2 7 (4 * l + 3) (ν2 0 15), ?_, Bl_7 b2⟩
  unfold lt2
  dsimp only
  rw [nI_1, st7 (by omega), Option.bind_some, ← h1, nI_p2, st7 (by omega), Option.bind_some, ← h2, name_F n2, Option.bind_some, if_pos rfl, Option.bind_some, lt1_X hl n2]
