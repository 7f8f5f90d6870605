/-! shares: rank by rank -/
theorem mn_l {a b : Int32} (h : a ≤ b) : mn a b = a := by unfold mn; rw [if_neg (Int32.not_lt.mpr h)]
theorem mn_r {a b : Int32} (h : ¬ a ≤ b) : mn a b = b := by unfold mn; rw [if_pos (Int32.not_le.mp h)]
/-- how it stands before rank r: L is left, dr is laid -/
def RK (v n F r L : Nat) (t rk dr : Nat → Nat) (μ ν : mm) : Prop := TR v n t rk μ ν ∧ DR v n dr μ ν ∧ (∀ j, j < n → dr j ≤ t j) ∧ (∀ j, j < n → r ≤ rk j → dr j = 0) ∧ fb_sm dr n + L = F
theorem smR {f d rk : Nat → Nat} {r : Nat} : ∀ n, (∀ j, j < n → rk j = r → d j = 0) → fb_sm (fun j => if rk j = r then f j else d j) n = fb_sm d n + sR f rk r n
  | 0, _ => rfl
  | n + 1, h => by
    have ih := smR (f := f) n (fun j hj => h j (by omega))
    rw [fb_sm_succ, fb_sm_succ, sR_s, ih]
    by_cases c : rk n = r
    · rw [if_pos c, if_pos c, h n (by omega) c]
      omega
    · rw [if_neg c, if_neg c]
      omega
theorem sR_cg {f g rk : Nat → Nat} {r : Nat} : ∀ n, (∀ j, j < n → rk j = r → f j = g j) → sR f rk r n = sR g rk r n
  | 0, _ => rfl
  | n + 1, h => by
    rw [sR_s, sR_s, sR_cg n (fun j hj => h j (by omega))]
    by_cases c : rk n = r
    · rw [if_pos c, if_pos c, h n (by omega) c]
    · rw [if_neg c, if_neg c]
theorem sR_z {f rk : Nat → Nat} {r : Nat} : ∀ n, sR f rk r n = 0 → ∀ j, j < n → rk j = r → f j = 0
  | 0, _, _, hj, _ => absurd hj (by omega)
  | n + 1, h, j, hj, hr => by
    rw [sR_s] at h
    by_cases e : j = n
    · subst e
      rw [if_pos hr] at h
      omega
    · exact sR_z n (by omega) j (by omega) hr
theorem l121_0 {v n r : Nat} {t rk : Nat → Nat} {μ ν : mm} {a4 : Int32} {f : Nat} (h : TR v n t rk μ ν) : f_9_drawByRank_l121 v (nI r) a4 (f + 1) (nI 0) 0 μ = some μ := by
  unfold f_9_drawByRank_l121
  rw [h.1]
  by_cases c : nI n ≤ 0
  · rw [if_pos c]
  · rw [if_neg c, if_pos (show nI 0 ≤ 0 from by decide)]
theorem l233_1 {v n r : Nat} {t rk : Nat → Nat} {μ ν : mm} {x : Int32} {f : Nat} (h : TR v n t rk μ ν) : f_12_findDraws_l233 0 1 (nI r) (f + 1) x 0 ν = some (x, ν) := by
  unfold f_12_findDraws_l233
  rw [rf_0_0, l_11, h.2.1, Option.bind_some]
  by_cases c : nI n ≤ 0
  · rw [if_pos c]
  · rw [if_neg c, if_neg (by decide)]
set_option maxHeartbeats 1000000 in
theorem rank_ok {v n F r L : Nat} {t rk dr : Nat → Nat} {μ ν : mm} (hv : isV v) (hn : n ≤ 16) (hr : r ≤ 9) (hF : F ≤ 99999) (h : RK v n F r L t rk dr μ ν) (hW : sR t rk r n ≤ L) : ∃ μ' ν', f_9_drawByRank v (nI r) (nI L) μ = some (nI (sR t rk r n), μ') ∧ f_12_findDraws_l153 0 1 (nI r) (nI (sR t rk r n)) (nI L) FU (nI L) 0 ν = some (nI (L - sR t rk r n), ν') ∧ f_12_findDraws_l233 0 1 (nI r) FU (nI (L - sR t rk r n)) 0 ν' = some (nI (L - sR t rk r n), ν') ∧ RK v n F (r + 1) (L - sR t rk r n) t rk (fun j => if rk j = r then t j else dr j) μ' ν' ∧ (∀ b, b ≠ v + 49 → μ' b = μ b) ∧ (∀ b, b ≠ 12 → ν' b = ν b) := by
  obtain ⟨hT, hD, hle, hz, hs⟩ := h
  have hb : sR t rk r n ≤ 16 * 999 := Nat.le_trans (sR_bd n (fun i hi => (hT.2.2 i hi).1.2.2)) (Nat.mul_le_mul_right _ hn)
  have wc := want_C (a2 := nI L) hv hn hr hT n 0 FU (by omega) (show n < 2000 by omega)
  rw [sR_0, show nI 0 = 0 from rfl] at wc
  obtain ⟨ν', m1, m2, m3⟩ := lay_M (v := v) (n := n) (r := r) (L := L) (W := sR t rk r n) (X := L) (t := t) (rk := rk) (val := t) (z3 := 1) hn hr (by omega) hW (by omega) (Or.inl ⟨rfl, fun _ _ => rfl⟩) n 0 FU μ ν (by omega) (show n < 2000 by omega) hT
  rw [sR_0, Nat.sub_zero, show nI 0 = 0 from rfl] at m1
  have hsm : fb_sm (fun j => if rk j = r then t j else dr j) n + (L - sR t rk r n) = F := by
    rw [smR n (fun j hj e => hz j hj (by omega))]
    omega
  have fin : ∀ μ' : mm, (∀ b, b ≠ v + 49 → μ' b = μ b) → (∀ j, j < n → μ' (v + 49) j = nI (if rk j = r then t j else dr j)) → RK v n F (r + 1) (L - sR t rk r n) t rk (fun j => if rk j = r then t j else dr j) μ' ν' := by
    intro μ' q1 q2
    refine ⟨TR_cg hT q1 m2, fun j hj => ⟨q2 j hj, ?_⟩, fun j hj => ?_, fun j hj hrj => ?_, hsm⟩
    · rw [m3 j hj]
      try dsimp only
      by_cases c : rk j = r
      · rw [if_pos ⟨Nat.zero_le _, c⟩, if_pos c]
      · rw [if_neg (fun z => c z.2), if_neg c]
        exact (hD j hj).2
    · dsimp only
      split
      · exact Nat.le_refl _
      · exact hle j hj
    · dsimp only
      rw [if_neg (by omega)]
      exact hz j hj (by omega)
  have l2 := l233_1 (r := r) (x := nI (L - sR t rk r n)) (f := 1999) (TR_cg hT (fun _ _ => rfl) m2)
  by_cases w0 : sR t rk r n = 0
  · refine ⟨μ, ν', ?_, m1, l2, fin μ (fun _ _ => rfl) (fun j hj => ?_), fun _ _ => rfl, m2⟩
    · unfold f_9_drawByRank
      rw [wc, Option.bind_some, w0, if_pos (show nI 0 = 0 from rfl)]
      rfl
    · rw [(hD j hj).1]
      by_cases c : rk j = r
      · rw [if_pos c, hz j hj (by omega), sR_z n w0 j hj c]
      · rw [if_neg c]
  · have hd : ∀ j, sR t rk r n * t j / sR t rk r n = t j := fun j => Nat.mul_div_cancel_left _ (by omega)
    have hsum : sR (fun i => sR t rk r n * t i / sR t rk r n) rk r n = sR t rk r n := sR_cg n (fun j _ _ => hd j)
    obtain ⟨μ', c1, c2, c3⟩ := lay_C (v := v) (n := n) (r := r) (g := sR t rk r n) (W := sR t rk r n) (X := sR t rk r n) (t := t) (rk := rk) hv hn hr (by omega) (by omega) (by omega) (Nat.le_of_eq hsum) (by omega) n 0 FU μ ν (by omega) (show n < 2000 by omega) hT
    rw [hsum, sR_0, Nat.sub_zero, Nat.sub_self, show (nI 0 : Int32) = 0 from rfl] at c1
    refine ⟨μ', ν', ?_, m1, l2, fin μ' c2 (fun j hj => ?_), c2, m2⟩
    · have ne : ¬ nI (sR t rk r n) = 0 := nI_ne0 (by omega) (by omega)
      have mnL : mn (nI (sR t rk r n)) (nI L) = nI (sR t rk r n) := mn_l (nI_le hW (by omega))
      have l1 : f_9_drawByRank_l121 v (nI r) (nI (sR t rk r n)) FU 0 0 μ' = some μ' := l121_0 (f := 1999) (TR_cg hT c2 (fun _ _ => rfl))
      unfold f_9_drawByRank
      rw [wc, Option.bind_some, if_neg ne, mnL, c1, Option.bind_some]
      try dsimp only
      rw [l1, Option.bind_some]
    · rw [c3 j hj]
      by_cases c : rk j = r
      · rw [if_pos ⟨Nat.zero_le _, c⟩, if_pos c, hd]
      · rw [if_neg (fun z => c z.2), if_neg c]
        exact (hD j hj).1
set_option maxHeartbeats 1000000 in
theorem rank_no {v n F r L : Nat} {t rk dr : Nat → Nat} {μ ν : mm} (hv : isV v) (hn : n ≤ 16) (hr : r ≤ 9) (hF : F ≤ 99999) (h : RK v n F r L t rk dr μ ν) (hW : L < sR t rk r n) : ∃ dr' μ' ν1 ν' x, f_9_drawByRank v (nI r) (nI L) μ = some (nI L, μ') ∧ f_12_findDraws_l153 0 0 (nI r) (nI (sR t rk r n)) (nI L) FU (nI L) 0 ν = some (x, ν1) ∧ f_12_findDraws_l233 0 0 (nI r) FU x 0 ν1 = some (nI 0, ν') ∧ RK v n F (r + 1) 0 t rk dr' μ' ν' ∧ (∀ b, b ≠ v + 49 → μ' b = μ b) ∧ (∀ b, b ≠ 12 → ν' b = ν b) := by
  obtain ⟨hT, hD, hle, hz, hs⟩ := h
  have hb : sR t rk r n ≤ 16 * 999 := Nat.le_trans (sR_bd n (fun i hi => (hT.2.2 i hi).1.2.2)) (Nat.mul_le_mul_right _ hn)
  have w0 : 0 < sR t rk r n := by omega
  have wc := want_C (a2 := nI L) hv hn hr hT n 0 FU (by omega) (show n < 2000 by omega)
  rw [sR_0, show nI 0 = 0 from rfl] at wc
  obtain ⟨dn1, dn2⟩ := sR_dn (t := t) (rk := rk) (r := r) (g := L) w0 n
  have hS : sR (fun i => L * t i / sR t rk r n) rk r n ≤ L := by
    rw [Nat.mul_comm L] at dn1
    exact Nat.le_of_mul_le_mul_left dn1 w0
  have hC : L ≤ sR (fun i => L * t i / sR t rk r n) rk r n + fb_ct (fun i => decide (rk i = r ∧ 0 < t i)) n := by
    rw [Nat.mul_comm L, ← Nat.mul_add] at dn2
    exact Nat.le_of_mul_le_mul_left dn2 w0
  obtain ⟨ν1, m1, m2, m3⟩ := lay_M (v := v) (n := n) (r := r) (L := L) (W := sR t rk r n) (X := L) (t := t) (rk := rk) (val := fun i => L * t i / sR t rk r n) (z3 := 0) hn hr (by omega) hS (by omega) (Or.inr ⟨rfl, w0, by omega, fun _ _ => rfl⟩) n 0 FU μ ν (by omega) (show n < 2000 by omega) hT
  obtain ⟨μ1, c1, c2, c3⟩ := lay_C (v := v) (n := n) (r := r) (g := L) (W := sR t rk r n) (X := L) (t := t) (rk := rk) hv hn hr (by omega) w0 (by omega) hS (by omega) n 0 FU μ ν (by omega) (show n < 2000 by omega) hT
  rw [sR_0, Nat.sub_zero, show nI 0 = 0 from rfl] at m1 c1
  have hlt : ∀ j, 0 < t j → L * t j / sR t rk r n < t j := fun j hj => by
    rw [Nat.div_lt_iff_lt_mul w0, Nat.mul_comm]
    exact Nat.mul_lt_mul_of_pos_left hW hj
  have hle0 : ∀ j, L * t j / sR t rk r n ≤ t j := fun j => by
    by_cases z : 0 < t j
    · exact Nat.le_of_lt (hlt j z)
    · rw [show t j = 0 from by omega, Nat.mul_zero, Nat.zero_div]
      exact Nat.le_refl _
  have hct : fb_ct (fun i => decide (rk i = r ∧ 0 < t i)) n = fb_ct (fun j => decide (rk j = r ∧ (fun j => if rk j = r then L * t j / sR t rk r n else dr j) j < t j)) n := by
    apply fb_ct_cong
    intro k hk
    try dsimp only
    exact decide_eq_decide.mpr ⟨fun ⟨a, b⟩ => ⟨a, by rw [if_pos a]; exact hlt k b⟩, fun ⟨a, b⟩ => ⟨a, Nat.lt_of_le_of_lt (Nat.zero_le _) b⟩⟩
  have hT1 : TR v n t rk μ1 ν1 := TR_cg hT c2 m2
  obtain ⟨dr', μ', ν', p1, p2, p3, p4, p5, p6, p7, p8⟩ := pass_rel (a4 := nI L) (d0 := fun j => if rk j = r then L * t j / sR t rk r n else dr j) hv hn hr n 0 FU FU (L - sR (fun i => L * t i / sR t rk r n) rk r n) (fun j => if rk j = r then L * t j / sR t rk r n else dr j) μ1 ν1 (by omega) (show n < 2000 by omega) (show n < 2000 by omega) hT1 (fun j hj => by
      try dsimp only
      by_cases c : rk j = r
      · refine ⟨?_, ?_⟩
        · rw [c3 j hj, if_pos (show 0 ≤ j ∧ rk j = r from ⟨Nat.zero_le _, c⟩), if_pos c]
        · rw [m3 j hj, if_pos (show 0 ≤ j ∧ rk j = r from ⟨Nat.zero_le _, c⟩), if_pos c]
      · refine ⟨?_, ?_⟩
        · rw [c3 j hj, if_neg (show ¬ (0 ≤ j ∧ rk j = r) from fun z => c z.2), if_neg c]
          exact (hD j hj).1
        · rw [m3 j hj, if_neg (show ¬ (0 ≤ j ∧ rk j = r) from fun z => c z.2), if_neg c]
          exact (hD j hj).2) (fun j hj => by
      try dsimp only
      split
      · exact hle0 j
      · exact hle j hj) (fun _ _ => rfl) (by
      rw [← hct]
      show L - sR (fun i => L * t i / sR t rk r n) rk r n + 0 ≤ _
      omega)
  rw [show nI 0 = 0 from rfl] at p1
  rw [show (nI 0 : Int32) = 0 from rfl] at p2
  refine ⟨dr', μ', ν1, ν', _, ?_, m1, p2, ⟨TR_cg hT1 p7 p8, p3, p4, fun j hj hrj => ?_, ?_⟩, fun b hb => by rw [p7 b hb, c2 b hb], fun b hb => by rw [p8 b hb, m2 b hb]⟩
  · have ne : ¬ nI (sR t rk r n) = 0 := nI_ne0 (by omega) (by omega)
    have mnL : mn (nI (sR t rk r n)) (nI L) = nI L := mn_r (nI_ge hW (by omega))
    unfold f_9_drawByRank
    rw [wc, Option.bind_some, if_neg ne, mnL, c1, Option.bind_some]
    try dsimp only
    rw [p1, Option.bind_some]
  · rw [p5 j (by omega)]
    try dsimp only
    rw [if_neg (by omega)]
    exact hz j hj (by omega)
  · rw [p6, smR n (fun j hj e => hz j hj (by omega))]
    omega
/-- with nothing left no later rank draws -/
theorem rest_C {v n F : Nat} {t rk dr : Nat → Nat} {ν : mm} (hv : isV v) (hn : n ≤ 16) : ∀ (m r fuel : Nat) (μ : mm), r + m = 10 → m < fuel → RK v n F r 0 t rk dr μ ν → ∃ μ', f_9_reckonShares_l85 v fuel (nI 0) (nI r) μ = some (nI 0, μ') ∧ DR v n dr μ' ν ∧ (∀ b, b ≠ v + 49 → μ' b = μ b) := by
  intro m
  induction m with
  | zero =>
    intro r fuel μ h1 h2 h
    obtain ⟨f, rfl⟩ : ∃ f, fuel = f + 1 := ⟨fuel - 1, by omega⟩
    obtain rfl : r = 10 := by omega
    refine ⟨μ, ?_, h.2.1, fun _ _ => rfl⟩
    unfold f_9_reckonShares_l85
    rw [if_pos (show (9 : Int32) < nI 10 from by decide)]
  | succ m ih =>
    intro r fuel μ h1 h2 h
    obtain ⟨f, rfl⟩ : ∃ f, fuel = f + 1 := ⟨fuel - 1, by omega⟩
    obtain ⟨hT, hD, hle, hz, hs⟩ := id h
    have d9 : ¬ (9 : Int32) < nI r := nI_nlt (b := r) (a := 9) (by omega) (by decide)
    have hb : sR t rk r n ≤ 16 * 999 := Nat.le_trans (sR_bd n (fun i hi => (hT.2.2 i hi).1.2.2)) (Nat.mul_le_mul_right _ hn)
    have wc := want_C (a2 := 0) hv hn (show r ≤ 9 by omega) hT n 0 FU (by omega) (show n < 2000 by omega)
    rw [sR_0, show nI 0 = 0 from rfl] at wc
    have key : ∃ μ1, f_9_drawByRank v (nI r) 0 μ = some (0, μ1) ∧ DR v n dr μ1 ν ∧ (∀ b, b ≠ v + 49 → μ1 b = μ b) := by
      unfold f_9_drawByRank
      rw [wc, Option.bind_some]
      by_cases w0 : sR t rk r n = 0
      · rw [w0, if_pos (show nI 0 = 0 from rfl)]
        exact ⟨μ, rfl, hD, fun _ _ => rfl⟩
      · have ne : ¬ nI (sR t rk r n) = 0 := nI_ne0 (by omega) (by omega)
        have hsum : sR (fun i => 0 * t i / sR t rk r n) rk r n = 0 := by
          have := sR_bd (f := fun i => 0 * t i / sR t rk r n) (rk := rk) (r := r) (c := 0) n (fun i _ => Nat.le_of_eq (by rw [Nat.zero_mul, Nat.zero_div]))
          omega
        obtain ⟨μ1, c1, c2, c3⟩ := lay_C (v := v) (n := n) (r := r) (g := 0) (W := sR t rk r n) (X := 0) (t := t) (rk := rk) hv hn (by omega) (by omega) (by omega) (by omega) (Nat.le_of_eq hsum) (by omega) n 0 FU μ ν (by omega) (show n < 2000 by omega) hT
        rw [hsum, sR_0, Nat.sub_zero, show nI 0 = 0 from rfl] at c1
        have mn0 : mn (nI (sR t rk r n)) 0 = 0 := mn_r (nI_nle (by omega) (by omega))
        have l1 : f_9_drawByRank_l121 v (nI r) 0 FU 0 0 μ1 = some μ1 := l121_0 (f := 1999) (TR_cg hT c2 (fun _ _ => rfl))
        rw [if_neg ne, mn0, c1, Option.bind_some]
        dsimp only
        rw [l1, Option.bind_some]
        refine ⟨μ1, rfl, fun j hj => ⟨?_, (hD j hj).2⟩, c2⟩
        rw [c3 j hj]
        by_cases c : rk j = r
        · rw [if_pos ⟨Nat.zero_le _, c⟩, hz j hj (by omega), Nat.zero_mul, Nat.zero_div]
        · rw [if_neg (fun z => c z.2)]
          exact (hD j hj).1
    obtain ⟨μ1, k1, k2, k3⟩ := key
    obtain ⟨μ', g1, g2, g3⟩ := ih (r + 1) f μ1 (by omega) (by omega) ⟨TR_cg hT k3 (fun _ _ => rfl), k2, hle, fun j hj hj2 => hz j hj (by omega), hs⟩
    refine ⟨μ', ?_, g2, fun b hb => by rw [g3 b hb, k3 b hb]⟩
    unfold f_9_reckonShares_l85
    rw [if_neg d9, show nI 0 = 0 from rfl, k1, Option.bind_some]
    try dsimp only
    rw [nI_1, show (0 : Int32) - 0 = nI 0 from rfl]
    exact g1
/-- all ranks -/
theorem ranks_rel {v n F : Nat} {t rk : Nat → Nat} (hv : isV v) (hn : n ≤ 16) (hF : F ≤ 99999) : ∀ (m r f1 f2 L : Nat) (dr : Nat → Nat) (μ ν : mm), r + m = 10 → m < f1 → m < f2 → RK v n F r L t rk dr μ ν → ∃ dr' L' μ' ν', f_9_reckonShares_l85 v f1 (nI L) (nI r) μ = some (nI L', μ') ∧ f_12_findDraws_l74 0 f2 (nI L) 1 (nI r) ν = some ν' ∧ DR v n dr' μ' ν' ∧ (∀ j, j < n → dr' j ≤ t j) ∧ fb_sm dr' n + L' = F ∧ (∀ b, b ≠ v + 49 → μ' b = μ b) ∧ (∀ b, b ≠ 12 → ν' b = ν b) := by
  intro m
  induction m with
  | zero =>
    intro r f1 f2 L dr μ ν h1 h2 h3 h
    obtain ⟨a, rfl⟩ : ∃ a, f1 = a + 1 := ⟨f1 - 1, by omega⟩
    obtain ⟨b, rfl⟩ : ∃ b, f2 = b + 1 := ⟨f2 - 1, by omega⟩
    obtain rfl : r = 10 := by omega
    refine ⟨dr, L, μ, ν, ?_, ?_, h.2.1, h.2.2.1, h.2.2.2.2, fun _ _ => rfl, fun _ _ => rfl⟩
    · unfold f_9_reckonShares_l85
      rw [if_pos (show (9 : Int32) < nI 10 from by decide)]
    · unfold f_12_findDraws_l74
      rw [if_pos (show (9 : Int32) < nI 10 from by decide)]
  | succ m ih =>
    intro r f1 f2 L dr μ ν h1 h2 h3 h
    obtain ⟨a, rfl⟩ : ∃ a, f1 = a + 1 := ⟨f1 - 1, by omega⟩
    obtain ⟨b, rfl⟩ : ∃ b, f2 = b + 1 := ⟨f2 - 1, by omega⟩
    have d9 : ¬ (9 : Int32) < nI r := nI_nlt (b := r) (a := 9) (by omega) (by decide)
    have hT := h.1
    have hLF : L ≤ F := by have := h.2.2.2.2; omega
    have hb : sR t rk r n ≤ 16 * 999 := Nat.le_trans (sR_bd n (fun i hi => (hT.2.2 i hi).1.2.2)) (Nat.mul_le_mul_right _ hn)
    have wm := want_M (a1 := nI L) hn (show r ≤ 9 by omega) hT n 0 FU (by omega) (show n < 2000 by omega)
    rw [sR_0, show nI 0 = 0 from rfl] at wm
    by_cases c : sR t rk r n ≤ L
    · obtain ⟨μ1, ν1, k1, k2, k3, k4, k5, k6⟩ := rank_ok hv hn (by omega) hF h c
      obtain ⟨dr', L', μ', ν', g1, g2, g3, g4, g5, g6, g7⟩ := ih (r + 1) a b (L - sR t rk r n) _ μ1 ν1 (by omega) (by omega) (by omega) k4
      have nlt : ¬ nI L < nI (sR t rk r n) := nI_nlt c (by omega)
      refine ⟨dr', L', μ', ν', ?_, ?_, g3, g4, g5, fun b hb => by rw [g6 b hb, k5 b hb], fun b hb => by rw [g7 b hb, k6 b hb]⟩
      · unfold f_9_reckonShares_l85
        rw [if_neg d9, k1, Option.bind_some]
        dsimp only
        rw [pk_sub c, nI_1]
        exact g1
      · unfold f_12_findDraws_l74
        rw [if_neg d9, if_neg (by decide), wm, Option.bind_some, if_neg nlt, Option.bind_some, k2, Option.bind_some]
        dsimp only
        rw [k3, Option.bind_some]
        dsimp only
        rw [nI_1]
        exact g2
    · obtain ⟨dr', μ1, ν1, ν', x, k1, k2, k3, k4, k5, k6⟩ := rank_no hv hn (by omega) hF h (by omega)
      have lt : nI L < nI (sR t rk r n) := nI_lt (by omega) (by omega)
      obtain ⟨μ', g1, g2, g3⟩ := rest_C hv hn m (r + 1) a μ1 (by omega) (by omega) k4
      refine ⟨dr', 0, μ', ν', ?_, ?_, g2, k4.2.2.1, k4.2.2.2.2, fun b hb => by rw [g3 b hb, k5 b hb], k6⟩
      · unfold f_9_reckonShares_l85
        rw [if_neg d9, k1, Option.bind_some]
        dsimp only
        rw [pk_sub (Nat.le_refl L), Nat.sub_self, nI_1]
        exact g1
      · unfold f_12_findDraws_l74
        rw [if_neg d9, if_neg (by decide), wm, Option.bind_some, if_pos lt, Option.bind_some, k2, Option.bind_some]
        dsimp only
        rw [k3, Option.bind_some]
        dsimp only
        obtain ⟨b', rfl⟩ : ∃ j, b = j + 1 := ⟨b - 1, by omega⟩
        unfold f_12_findDraws_l74
        by_cases e : (9 : Int32) < nI r + 1
        · rw [if_pos e]
        · rw [if_neg e, if_pos rfl]
