set_option maxRecDepth 100000 in
theorem fr_0_owes_G : ∀ n : Nat, (∀ {b0 : Nat} {x0 : Int32} {x1 : Int32} {μ : mm} {r : Int32 × mm}, f_0_owes_G n 0 b0 x0 x1 μ = some r → kd b0 = 0 → Fc μ r.2) ∧ True
  | 0 => by
    refine ⟨?_, trivial⟩
    · intro b0 x0 x1 μ r h kb
      rw [f_0_owes_G] at h
      cases h
  | n + 1 => by
    obtain ⟨i0, -⟩ := fr_0_owes_G n
    refine ⟨?_, trivial⟩
    · intro b0 x0 x1 μ r h kb
      simp only [f_0_owes_G, if_pos] at h
      exact fr_0_owes_b (rc := f_0_owes_G n) (fun h k => i0 h k) h kb
set_option maxRecDepth 100000 in
theorem fr_0_owes_G_0 (n : Nat) {b0 : Nat} {x0 : Int32} {x1 : Int32} {μ : mm} {r : Int32 × mm} (h : f_0_owes_G n 0 b0 x0 x1 μ = some r) (kb : kd b0 = 0) : Fc μ r.2 := (fr_0_owes_G n).1 h kb
set_option maxRecDepth 100000 in
theorem fr_0_quotient  {a0 : Nat} {a1 : Int32} {a2 : Int32} {μ : mm} {r : Int32 × mm} (h : f_0_quotient a0 a1 a2 μ = some r) (k0 : kd a0 = 0) : Fc μ r.2 := by
  unfold f_0_quotient at h
  by_cases hc : a2 = 0
  · rw [if_pos hc] at h
    obtain ⟨μ2, e3, h⟩ := bi_el h
    have t0 := Fc_pf (ow_kd_0 k0) e3
    obtain rfl := Option.some.inj h
    exact (t0)
  · rw [if_neg hc] at h
    obtain ⟨_, q1, h⟩ := bi_el h
    obtain rfl := Option.some.inj h
    exact Fc_rf
set_option maxRecDepth 100000 in
theorem fr_0_parts_b (rc : Nat → Nat → Int32 → Int32 → mm → Option (Int32 × mm)) (hrc0 : ∀ {b0 : Nat} {x0 : Int32} {x1 : Int32} {μ : mm} {r : Int32 × mm}, rc 0 b0 x0 x1 μ = some r → kd b0 = 0 → Fc μ r.2)  {a0 : Nat} {a1 : Int32} {a2 : Int32} {μ : mm} {r : Int32 × mm} (h : f_0_parts_b rc a0 a1 a2 μ = some r) (k0 : kd a0 = 0) : Fc μ r.2 := by
  unfold f_0_parts_b at h
  by_cases hs3 : a1 = 3
  · rw [if_pos hs3] at h
    obtain ⟨μ2, e1, h⟩ := bi_el h
    have t0 := fr_0_begin e1 k0
    obtain ⟨z4, e3, h⟩ := bi_el h
    have t1 := hrc0 e3 k0
    obtain rfl := Option.some.inj h
    exact (Fc_tr (t0) (t1))
  rw [if_neg hs3] at h
  by_cases hs5 : a1 = 5
  · rw [if_pos hs5] at h
    obtain ⟨μ6, e5, h⟩ := bi_el h
    have t0 := fr_0_begin e5 k0
    obtain ⟨z8, e7, h⟩ := bi_el h
    have t1 := hrc0 e7 k0
    obtain rfl := Option.some.inj h
    exact (Fc_tr (t0) (t1))
  rw [if_neg hs5] at h
  by_cases hs6 : a1 = 6
  · rw [if_pos hs6] at h
    obtain ⟨μ10, e9, h⟩ := bi_el h
    have t0 := fr_0_begin e9 k0
    obtain ⟨z12, e11, h⟩ := bi_el h
    have t1 := hrc0 e11 k0
    obtain rfl := Option.some.inj h
    exact (Fc_tr (t0) (t1))
  rw [if_neg hs6] at h
  obtain ⟨μ14, e13, h⟩ := bi_el h
  have t0 := fr_0_begin e13 k0
  obtain ⟨z16, e15, h⟩ := bi_el h
  have t1 := fr_0_quotient e15 k0
  obtain rfl := Option.some.inj h
  exact (Fc_tr (t0) (t1))
set_option maxRecDepth 100000 in
theorem fr_0_parts_G : ∀ n : Nat, (∀ {b0 : Nat} {x0 : Int32} {x1 : Int32} {μ : mm} {r : Int32 × mm}, f_0_parts_G n 0 b0 x0 x1 μ = some r → kd b0 = 0 → Fc μ r.2) ∧ True
  | 0 => by
    refine ⟨?_, trivial⟩
    · intro b0 x0 x1 μ r h kb
      rw [f_0_parts_G] at h
      cases h
  | n + 1 => by
    obtain ⟨i0, -⟩ := fr_0_parts_G n
    refine ⟨?_, trivial⟩
    · intro b0 x0 x1 μ r h kb
      simp only [f_0_parts_G, if_pos] at h
      exact fr_0_parts_b (rc := f_0_parts_G n) (fun h k => i0 h k) h kb
set_option maxRecDepth 100000 in
theorem fr_0_parts_G_0 (n : Nat) {b0 : Nat} {x0 : Int32} {x1 : Int32} {μ : mm} {r : Int32 × mm} (h : f_0_parts_G n 0 b0 x0 x1 μ = some r) (kb : kd b0 = 0) : Fc μ r.2 := (fr_0_parts_G n).1 h kb
set_option maxRecDepth 100000 in
theorem fr_0_votes_b (rc : Nat → Nat → Int32 → Int32 → mm → Option (Int32 × mm)) (hrc0 : ∀ {b0 : Nat} {x0 : Int32} {x1 : Int32} {μ : mm} {r : Int32 × mm}, rc 0 b0 x0 x1 μ = some r → kd b0 = 0 → Fc μ r.2)  {a0 : Nat} {a1 : Int32} {a2 : Int32} {μ : mm} {r : Int32 × mm} (h : f_0_votes_b rc a0 a1 a2 μ = some r) (k0 : kd a0 = 0) : Fc μ r.2 := by
  unfold f_0_votes_b at h
  by_cases hs1 : a1 = 1
  · rw [if_pos hs1] at h
    obtain ⟨μ2, e1, h⟩ := bi_el h
    have t0 := fr_0_begin e1 k0
    obtain ⟨z4, e3, h⟩ := bi_el h
    have t1 := hrc0 e3 k0
    obtain ⟨z6, e5, h⟩ := bi_el h
    have t2 := fr_0_eats_G_0 _ e5 k0
    obtain rfl := Option.some.inj h
    exact (Fc_tr (t0) (Fc_tr (t1) (t2)))
  rw [if_neg hs1] at h
  by_cases hs3 : a1 = 3
  · rw [if_pos hs3] at h
    obtain ⟨μ8, e7, h⟩ := bi_el h
    have t0 := fr_0_begin e7 k0
    obtain ⟨z10, e9, h⟩ := bi_el h
    have t1 := hrc0 e9 k0
    obtain rfl := Option.some.inj h
    exact (Fc_tr (t0) (t1))
  rw [if_neg hs3] at h
  by_cases hs4 : a1 = 4
  · rw [if_pos hs4] at h
    obtain ⟨μ12, e11, h⟩ := bi_el h
    have t0 := fr_0_begin e11 k0
    obtain ⟨z14, e13, h⟩ := bi_el h
    have t1 := hrc0 e13 k0
    obtain ⟨z16, e15, h⟩ := bi_el h
    have t2 := fr_0_eats_G_0 _ e15 k0
    obtain rfl := Option.some.inj h
    exact (Fc_tr (t0) (Fc_tr (t1) (t2)))
  rw [if_neg hs4] at h
  by_cases hs5 : a1 = 5
  · rw [if_pos hs5] at h
    obtain ⟨μ18, e17, h⟩ := bi_el h
    have t0 := fr_0_begin e17 k0
    obtain ⟨z20, e19, h⟩ := bi_el h
    have t1 := hrc0 e19 k0
    obtain ⟨z22, e21, h⟩ := bi_el h
    have t2 := fr_0_eats_G_0 _ e21 k0
    obtain rfl := Option.some.inj h
    exact (Fc_tr (t0) (Fc_tr (t1) (t2)))
  rw [if_neg hs5] at h
  by_cases hs6 : a1 = 6
  · rw [if_pos hs6] at h
    obtain ⟨μ24, e23, h⟩ := bi_el h
    have t0 := fr_0_begin e23 k0
    obtain ⟨z26, e25, h⟩ := bi_el h
    have t1 := hrc0 e25 k0
    obtain ⟨z28, e27, h⟩ := bi_el h
    have t2 := fr_0_owes_G_0 _ e27 k0
    obtain rfl := Option.some.inj h
    exact (Fc_tr (t0) (Fc_tr (t1) (t2)))
  rw [if_neg hs6] at h
  obtain ⟨μ30, e29, h⟩ := bi_el h
  have t0 := fr_0_begin e29 k0
  obtain ⟨z32, e31, h⟩ := bi_el h
  have t1 := fr_0_owes_G_0 _ e31 k0
  obtain rfl := Option.some.inj h
  exact (Fc_tr (t0) (t1))
set_option maxRecDepth 100000 in
theorem fr_0_votes_G : ∀ n : Nat, (∀ {b0 : Nat} {x0 : Int32} {x1 : Int32} {μ : mm} {r : Int32 × mm}, f_0_votes_G n 0 b0 x0 x1 μ = some r → kd b0 = 0 → Fc μ r.2) ∧ True
  | 0 => by
    refine ⟨?_, trivial⟩
    · intro b0 x0 x1 μ r h kb
      rw [f_0_votes_G] at h
      cases h
  | n + 1 => by
    obtain ⟨i0, -⟩ := fr_0_votes_G n
    refine ⟨?_, trivial⟩
    · intro b0 x0 x1 μ r h kb
      simp only [f_0_votes_G, if_pos] at h
      exact fr_0_votes_b (rc := f_0_votes_G n) (fun h k => i0 h k) h kb
set_option maxRecDepth 100000 in
theorem fr_0_votes_G_0 (n : Nat) {b0 : Nat} {x0 : Int32} {x1 : Int32} {μ : mm} {r : Int32 × mm} (h : f_0_votes_G n 0 b0 x0 x1 μ = some r) (kb : kd b0 = 0) : Fc μ r.2 := (fr_0_votes_G n).1 h kb
set_option maxRecDepth 100000 in
theorem fr_0_run  {a0 : Nat} {a1 : Int32} {a2 : Int32} {μ : mm} {r : Int32 × mm} (h : f_0_run a0 a1 a2 μ = some r) (k0 : kd a0 = 0) : Fc μ r.2 := by
  unfold f_0_run at h
  obtain ⟨μ1, e2, h⟩ := bi_el h
  have t0 := Fc_pf (ow_kd_0 k0) e2
  obtain ⟨z11, hz11, h⟩ := bi_el h
  have tzz11 : Fc μ1 z11.2 := by
    clear h
    have h := hz11
    clear hz11
    by_cases hs0 : a1 = 0
    · rw [if_pos hs0] at h
      obtain ⟨z4, e3, h⟩ := bi_el h
      have t0 := fr_0_eats_G_0 _ e3 k0
      obtain rfl := Option.some.inj h
      exact (t0)
    rw [if_neg hs0] at h
    by_cases hs1 : a1 = 1
    · rw [if_pos hs1] at h
      obtain ⟨z6, e5, h⟩ := bi_el h
      have t0 := fr_0_owes_G_0 _ e5 k0
      obtain rfl := Option.some.inj h
      exact (t0)
    rw [if_neg hs1] at h
    by_cases hs2 : a1 = 2
    · rw [if_pos hs2] at h
      obtain ⟨z8, e7, h⟩ := bi_el h
      have t0 := fr_0_votes_G_0 _ e7 k0
      obtain rfl := Option.some.inj h
      exact (t0)
    rw [if_neg hs2] at h
    obtain ⟨z10, e9, h⟩ := bi_el h
    have t0 := fr_0_parts_G_0 _ e9 k0
    obtain rfl := Option.some.inj h
    exact (t0)
  by_cases hc : (z11.2 a0 6) = 0
  · rw [if_pos hc] at h
    obtain rfl := Option.some.inj h
    exact (Fc_tr (t0) (tzz11))
  · rw [if_neg hc] at h
    obtain rfl := Option.some.inj h
    exact (Fc_tr (t0) (tzz11))
set_option maxRecDepth 100000 in
theorem fr_11_deal  {a0 : Nat} {a1 : Int32} {a2 : Int32} {a3 : Int32} {μ : mm} {r : Int32 × mm} (h : f_11_deal a0 a1 a2 a3 μ = some r) (k0 : kd a0 = 11) : Fc μ r.2 := by
  unfold f_11_deal at h
  obtain ⟨μ2, e1, h⟩ := bi_el h
  have t0 := fr_0_forget e1 (ty_11_5 k0)
  obtain ⟨x4, e3, h⟩ := bi_el h
  by_cases hc : x4 = 0
  · rw [if_pos hc] at h
    obtain rfl := Option.some.inj h
    exact (t0)
  · rw [if_neg hc] at h
    obtain ⟨x6, e5, h⟩ := bi_el h
    by_cases hc : x6 = 0
    · rw [if_pos hc] at h
      obtain rfl := Option.some.inj h
      exact (t0)
    · rw [if_neg hc] at h
      obtain ⟨x8, e7, h⟩ := bi_el h
      by_cases hc : x8 = 0
      · rw [if_pos hc] at h
        obtain ⟨x9, e10, h⟩ := bi_el h
        by_cases hc : x9 = 3
        · rw [if_pos hc] at h
          obtain rfl := Option.some.inj h
          exact (t0)
        · rw [if_neg hc] at h
          obtain ⟨x11, e12, h⟩ := bi_el h
          obtain ⟨x13, e14, h⟩ := bi_el h
          obtain ⟨z39, hz39, h⟩ := bi_el h
          have tzz39 : Fc μ2 z39 := by
            clear h
            have h := hz39
            clear hz39
            by_cases hs0 : x13 = 0
            · rw [if_pos hs0] at h
              obtain ⟨x16, e15, h⟩ := bi_el h
              obtain ⟨r17, e18, h⟩ := bi_el h
              obtain ⟨r19, e20, h⟩ := bi_el h
              obtain ⟨μ22, e21, h⟩ := bi_el h
              have t0 := fr_0_meet e21 (ty_11_5 k0)
              obtain rfl := Option.some.inj h
              exact (t0)
            rw [if_neg hs0] at h
            by_cases hs1 : x13 = 1
            · rw [if_pos hs1] at h
              obtain ⟨x24, e23, h⟩ := bi_el h
              obtain ⟨r25, e26, h⟩ := bi_el h
              obtain ⟨r27, e28, h⟩ := bi_el h
              obtain ⟨μ30, e29, h⟩ := bi_el h
              have t0 := fr_0_meet e29 (ty_11_5 k0)
              obtain rfl := Option.some.inj h
              exact (t0)
            rw [if_neg hs1] at h
            obtain ⟨x32, e31, h⟩ := bi_el h
            obtain ⟨r33, e34, h⟩ := bi_el h
            obtain ⟨r35, e36, h⟩ := bi_el h
            obtain ⟨μ38, e37, h⟩ := bi_el h
            have t0 := fr_0_meet e37 (ty_11_5 k0)
            obtain rfl := Option.some.inj h
            exact (t0)
          obtain ⟨z41, e40, h⟩ := bi_el h
          have t2 := fr_0_run e40 (ty_11_5 k0)
          obtain rfl := Option.some.inj h
          exact (Fc_tr (t0) (Fc_tr (tzz39) (t2)))
      · rw [if_neg hc] at h
        obtain rfl := Option.some.inj h
        exact (t0)
set_option maxRecDepth 100000 in
theorem fr_11_keep  {a0 : Nat} {μ : mm} {r : Int32 × mm} (h : f_11_keep a0 μ = some r) (k0 : kd a0 = 11) : Fc μ r.2 := by
  unfold f_11_keep at h
  obtain ⟨μ2, e1, h⟩ := bi_el h
  have t0 := fr_9_takeFrom e1 (ty_11_1 k0) (ty_11_0 k0)
  obtain ⟨μ3, e4, h⟩ := bi_el h
  have t1 := Fc_pf (ow_kd_11 k0) e4
  obtain rfl := Option.some.inj h
  exact (Fc_tr (t0) (t1))
set_option maxRecDepth 100000 in
theorem fr_11_again  {a0 : Nat} {μ : mm} {r : Int32 × mm} (h : f_11_again a0 μ = some r) (k0 : kd a0 = 11) : Fc μ r.2 := by
  unfold f_11_again at h
  by_cases hc : (μ a0 3) = 0
  · rw [if_pos hc] at h
    obtain rfl := Option.some.inj h
    exact Fc_rf
  · rw [if_neg hc] at h
    obtain ⟨μ2, e1, h⟩ := bi_el h
    have t0 := fr_9_takeFrom e1 (ty_11_0 k0) (ty_11_1 k0)
    obtain rfl := Option.some.inj h
    exact (t0)
set_option maxRecDepth 100000 in
theorem fr_12_village  {a0 : Nat} {μ : mm} {r : Int32 × mm} (h : f_12_village a0 μ = some r) (k0 : kd a0 = 12) : Fm μ r.2 := by
  unfold f_12_village at h
  obtain ⟨x1, e2, h⟩ := bi_el h
  by_cases hc : x1 = 6
  · rw [if_pos hc] at h
    obtain rfl := Option.some.inj h
    exact Fm_rf
  · rw [if_neg hc] at h
    obtain ⟨x3, e4, h⟩ := bi_el h
    obtain ⟨μ5, e6, h⟩ := bi_el h
    have t0 := Fm_sto (mo_0 k0) e6
    obtain ⟨x7, e8, h⟩ := bi_el h
    obtain rfl := Option.some.inj h
    exact (t0)
set_option maxRecDepth 100000 in
theorem fr_12_road  {a0 : Nat} {a1 : Int32} {a2 : Int32} {a3 : Int32} {μ : mm} {r : Int32 × mm} (h : f_12_road a0 a1 a2 a3 μ = some r) (k0 : kd a0 = 12) : Fm μ r.2 := by
  unfold f_12_road at h
  obtain ⟨x2, e1, h⟩ := bi_el h
  by_cases hc : x2 = 0
  · rw [if_pos hc] at h
    obtain rfl := Option.some.inj h
    exact Fm_rf
  · rw [if_neg hc] at h
    obtain ⟨x4, e3, h⟩ := bi_el h
    by_cases hc : x4 = 0
    · rw [if_pos hc] at h
      obtain rfl := Option.some.inj h
      exact Fm_rf
    · rw [if_neg hc] at h
      by_cases hc : a1 = a2
      · rw [if_pos hc] at h
        obtain rfl := Option.some.inj h
        exact Fm_rf
      · rw [if_neg hc] at h
        obtain ⟨x6, e5, h⟩ := bi_el h
        by_cases hc : x6 = 0
        · rw [if_pos hc] at h
          obtain rfl := Option.some.inj h
          exact Fm_rf
        · rw [if_neg hc] at h
          obtain ⟨x8, e7, h⟩ := bi_el h
          obtain ⟨μ9, e10, h⟩ := bi_el h
          have t0 := Fm_sto (mo_0 k0) e10
          obtain ⟨μ11, e12, h⟩ := bi_el h
          have t1 := Fm_sto (mo_0 k0) e12
          obtain rfl := Option.some.inj h
          exact (Fm_tr (t0) (t1))
set_option maxRecDepth 100000 in
theorem fr_12_pit_l153 (a0 : Nat) (a5 : Int32) (k0 : kd a0 = 12) : ∀ (n : Nat) (v6 : Int32) (μ : mm) (z : mm), f_12_pit_l153 a0 a5 n v6 μ = some z → Fm μ z
  | 0, _, _, _, h => by
    rw [f_12_pit_l153] at h
    cases h
  | n + 1, v6, μ, z, h => by
    rw [f_12_pit_l153] at h
    by_cases hc : 9 ≤ v6
    · rw [if_pos hc] at h
      obtain rfl := Option.some.inj h
      exact Fm_rf
    · rw [if_neg hc] at h
      obtain ⟨μ1, e2, h⟩ := bi_el h
      have t0 := Fm_sto (mo_0 k0) e2
      exact (Fm_tr (t0) (fr_12_pit_l153 a0 a5 k0 n (v6 + 1) μ1 _ h))
set_option maxRecDepth 100000 in
theorem fr_12_pit  {a0 : Nat} {a1 : Int32} {a2 : Int32} {a3 : Int32} {a4 : Int32} {μ : mm} {r : Int32 × mm} (h : f_12_pit a0 a1 a2 a3 a4 μ = some r) (k0 : kd a0 = 12) : Fm μ r.2 := by
  unfold f_12_pit at h
  obtain ⟨x2, e1, h⟩ := bi_el h
  by_cases hc : x2 = 0
  · rw [if_pos hc] at h
    obtain rfl := Option.some.inj h
    exact Fm_rf
  · rw [if_neg hc] at h
    obtain ⟨x4, e3, h⟩ := bi_el h
    by_cases hc : x4 = 0
    · rw [if_pos hc] at h
      obtain rfl := Option.some.inj h
      exact Fm_rf
    · rw [if_neg hc] at h
      obtain ⟨x6, e5, h⟩ := bi_el h
      by_cases hc : x6 = 0
      · rw [if_pos hc] at h
        obtain rfl := Option.some.inj h
        exact Fm_rf
      · rw [if_neg hc] at h
        obtain ⟨x8, e7, h⟩ := bi_el h
        by_cases hc : x8 = 0
        · rw [if_pos hc] at h
          obtain rfl := Option.some.inj h
          exact Fm_rf
        · rw [if_neg hc] at h
          obtain ⟨x9, e10, h⟩ := bi_el h
          by_cases hc : x9 = 4
          · rw [if_pos hc] at h
            obtain rfl := Option.some.inj h
            exact Fm_rf
          · rw [if_neg hc] at h
            obtain ⟨x12, e11, h⟩ := bi_el h
            obtain ⟨μ13, e14, h⟩ := bi_el h
            have t0 := Fm_sto (mo_0 k0) e14
            obtain ⟨x16, e15, h⟩ := bi_el h
            obtain ⟨μ17, e18, h⟩ := bi_el h
            have t1 := Fm_sto (mo_0 k0) e18
            obtain ⟨x20, e19, h⟩ := bi_el h
            obtain ⟨μ21, e22, h⟩ := bi_el h
            have t2 := Fm_sto (mo_0 k0) e22
            obtain ⟨x24, e23, h⟩ := bi_el h
            obtain ⟨μ25, e26, h⟩ := bi_el h
            have t3 := Fm_sto (mo_0 k0) e26
            obtain ⟨x28, e27, h⟩ := bi_el h
            obtain ⟨μ29, e30, h⟩ := bi_el h
            have t4 := Fm_sto (mo_0 k0) e30
            obtain ⟨x32, e31, h⟩ := bi_el h
            obtain ⟨μ33, e34, h⟩ := bi_el h
            have t5 := Fm_sto (mo_0 k0) e34
            obtain ⟨x36, e35, h⟩ := bi_el h
            obtain ⟨μ37, e38, h⟩ := bi_el h
            have t6 := Fm_sto (mo_0 k0) e38
            obtain ⟨z39, e40, h⟩ := bi_el h
            have t7 := fr_12_pit_l153 a0 x9 k0 FU 0 μ37 _ e40
            obtain ⟨x41, e42, h⟩ := bi_el h
            obtain ⟨μ43, e44, h⟩ := bi_el h
            have t8 := Fm_sto (mo_0 k0) e44
            obtain rfl := Option.some.inj h
            exact (Fm_tr (t0) (Fm_tr (t1) (Fm_tr (t2) (Fm_tr (t3) (Fm_tr (t4) (Fm_tr (t5) (Fm_tr (t6) (Fm_tr (t7) (t8)))))))))
set_option maxRecDepth 100000 in
theorem fr_12_shop  {a0 : Nat} {a1 : Int32} {a2 : Int32} {μ : mm} {r : Int32 × mm} (h : f_12_shop a0 a1 a2 μ = some r) (k0 : kd a0 = 12) : Fm μ r.2 := by
  unfold f_12_shop at h
  obtain ⟨x2, e1, h⟩ := bi_el h
  by_cases hc : x2 = 0
  · rw [if_pos hc] at h
    obtain rfl := Option.some.inj h
    exact Fm_rf
  · rw [if_neg hc] at h
    obtain ⟨x4, e3, h⟩ := bi_el h
    by_cases hc : x4 = 0
    · rw [if_pos hc] at h
      obtain rfl := Option.some.inj h
      exact Fm_rf
    · rw [if_neg hc] at h
      obtain ⟨x5, e6, h⟩ := bi_el h
      by_cases hc : x5 = 4
      · rw [if_pos hc] at h
        obtain rfl := Option.some.inj h
        exact Fm_rf
      · rw [if_neg hc] at h
        obtain ⟨x8, e7, h⟩ := bi_el h
        obtain ⟨μ9, e10, h⟩ := bi_el h
        have t0 := Fm_sto (mo_0 k0) e10
        obtain ⟨x12, e11, h⟩ := bi_el h
        obtain ⟨μ13, e14, h⟩ := bi_el h
        have t1 := Fm_sto (mo_0 k0) e14
        obtain ⟨x16, e15, h⟩ := bi_el h
        obtain ⟨μ17, e18, h⟩ := bi_el h
        have t2 := Fm_sto (mo_0 k0) e18
        obtain ⟨x19, e20, h⟩ := bi_el h
        obtain ⟨μ21, e22, h⟩ := bi_el h
        have t3 := Fm_sto (mo_0 k0) e22
        obtain rfl := Option.some.inj h
        exact (Fm_tr (t0) (Fm_tr (t1) (Fm_tr (t2) (t3))))
set_option maxRecDepth 100000 in
theorem fr_12_household_l99 (a0 : Nat) (a1 : Int32) (a2 : Int32) (a3 : Int32) (a4 : Int32) (a5 : Int32) (a7 : Int32) (a8 : Int32) (k0 : kd a0 = 12) : ∀ (n : Nat) (v9 : Int32) (μ : mm) (z : mm), f_12_household_l99 a0 a1 a2 a3 a4 a5 a7 a8 n v9 μ = some z → Fm μ z
  | 0, _, _, _, h => by
    rw [f_12_household_l99] at h
    cases h
  | n + 1, v9, μ, z, h => by
    rw [f_12_household_l99] at h
    by_cases hc : 12 ≤ v9
    · rw [if_pos hc] at h
      obtain rfl := Option.some.inj h
      exact Fm_rf
    · rw [if_neg hc] at h
      obtain ⟨μ1, e2, h⟩ := bi_el h
      have t0 := Fm_sto (mo_0 k0) e2
      exact (Fm_tr (t0) (fr_12_household_l99 a0 a1 a2 a3 a4 a5 a7 a8 k0 n (v9 + 1) μ1 _ h))
set_option maxRecDepth 100000 in
theorem fr_12_household  {a0 : Nat} {a1 : Int32} {a2 : Int32} {a3 : Int32} {a4 : Int32} {a5 : Int32} {μ : mm} {r : Int32 × mm} (h : f_12_household a0 a1 a2 a3 a4 a5 μ = some r) (k0 : kd a0 = 12) : Fm μ r.2 := by
  unfold f_12_household at h
  obtain ⟨x2, e1, h⟩ := bi_el h
  obtain ⟨z7, hz7, h⟩ := bi_el h
  by_cases hc : z7 = 0
  · rw [if_pos hc] at h
    obtain rfl := Option.some.inj h
    exact Fm_rf
  · rw [if_neg hc] at h
    obtain ⟨x9, e8, h⟩ := bi_el h
    by_cases hc : x9 = 0
    · rw [if_pos hc] at h
      obtain rfl := Option.some.inj h
      exact Fm_rf
    · rw [if_neg hc] at h
      obtain ⟨x11, e10, h⟩ := bi_el h
      by_cases hc : x11 = 0
      · rw [if_pos hc] at h
        obtain rfl := Option.some.inj h
        exact Fm_rf
      · rw [if_neg hc] at h
        obtain ⟨x12, e13, h⟩ := bi_el h
        by_cases hc : x12 = 16
        · rw [if_pos hc] at h
          obtain rfl := Option.some.inj h
          exact Fm_rf
        · rw [if_neg hc] at h
          obtain ⟨z14, e15, h⟩ := bi_el h
          have t0 := fr_12_household_l99 a0 a1 a2 a3 a4 a5 x12 (96 + (12 * x12)) k0 FU 0 μ _ e15
          obtain ⟨μ16, e17, h⟩ := bi_el h
          have t1 := Fm_sto (mo_0 k0) e17
          obtain ⟨μ18, e19, h⟩ := bi_el h
          have t2 := Fm_sto (mo_0 k0) e19
          obtain ⟨μ20, e21, h⟩ := bi_el h
          have t3 := Fm_sto (mo_0 k0) e21
          obtain ⟨μ22, e23, h⟩ := bi_el h
          have t4 := Fm_sto (mo_0 k0) e23
          obtain ⟨μ24, e25, h⟩ := bi_el h
          have t5 := Fm_sto (mo_0 k0) e25
          obtain ⟨μ26, e27, h⟩ := bi_el h
          have t6 := Fm_sto (mo_0 k0) e27
          obtain ⟨x28, e29, h⟩ := bi_el h
          obtain ⟨μ30, e31, h⟩ := bi_el h
          have t7 := Fm_sto (mo_0 k0) e31
          obtain rfl := Option.some.inj h
          exact (Fm_tr (t0) (Fm_tr (t1) (Fm_tr (t2) (Fm_tr (t3) (Fm_tr (t4) (Fm_tr (t5) (Fm_tr (t6) (t7))))))))
set_option maxRecDepth 100000 in
theorem fr_12_holds_l25 (a0 : Nat) (a1 : Int32) (a3 : Int32) (a4 : Int32) (a5 : Int32) (k0 : kd a0 = 12) : ∀ (n : Nat) (v6 : Int32) (v7 : Int32) (μ : mm) (z : mm), f_12_holds_l25 a0 a1 a3 a4 a5 n v6 v7 μ = some z → Fm μ z
  | 0, _, _, _, _, h => by
    rw [f_12_holds_l25] at h
    cases h
  | n + 1, v6, v7, μ, z, h => by
    rw [f_12_holds_l25] at h
    by_cases hc : a5 ≤ v7
    · rw [if_pos hc] at h
      obtain rfl := Option.some.inj h
      exact Fm_rf
    · rw [if_neg hc] at h
      obtain ⟨x1, e2, h⟩ := bi_el h
      by_cases hc : 30000 ≤ x1
      · rw [if_pos hc] at h
        by_cases hc : x1 = 30000
        · rw [if_pos hc] at h
          obtain ⟨x14, e15, h⟩ := bi_el h
          obtain ⟨μ16, e17, h⟩ := bi_el h
          have t0 := Fm_sto (mo_19 k0) e17
          exact (Fm_tr (t0) (fr_12_holds_l25 a0 a1 a3 a4 a5 k0 n v6 (v7 + 1) μ16 _ h))
        · rw [if_neg hc] at h
          obtain ⟨z11, hz11, h⟩ := bi_el h
          obtain ⟨μ12, e13, h⟩ := bi_el h
          have t0 := Fm_sto (mo_19 k0) e13
          exact (Fm_tr (t0) (fr_12_holds_l25 a0 a1 a3 a4 a5 k0 n (v6 + (-1)) (v7 + 1) μ12 _ h))
      · rw [if_neg hc] at h
        obtain ⟨x19, e18, h⟩ := bi_el h
        obtain ⟨x21, e20, h⟩ := bi_el h
        obtain ⟨z22, hz22, h⟩ := bi_el h
        obtain ⟨μ23, e24, h⟩ := bi_el h
        have t0 := Fm_sto (mo_19 k0) e24
        exact (Fm_tr (t0) (fr_12_holds_l25 a0 a1 a3 a4 a5 k0 n (v6 + 1) (v7 + 1) μ23 _ h))
set_option maxRecDepth 100000 in
theorem fr_12_holds  {a0 : Nat} {a1 : Int32} {a2 : Int32} {a3 : Int32} {μ : mm} {r : Int32 × mm} (h : f_12_holds a0 a1 a2 a3 μ = some r) (k0 : kd a0 = 12) : Fm μ r.2 := by
  unfold f_12_holds at h
  obtain ⟨x2, e1, h⟩ := bi_el h
  obtain ⟨x4, e3, h⟩ := bi_el h
  obtain ⟨z5, e6, h⟩ := bi_el h
  have t0 := fr_12_holds_l25 a0 a1 a3 x2 x4 k0 FU 0 x2 μ _ e6
  by_cases hc : x2 = x4
  · rw [if_pos hc] at h
    obtain rfl := Option.some.inj h
    exact (t0)
  · rw [if_neg hc] at h
    obtain ⟨x7, e8, h⟩ := bi_el h
    by_cases hc : x7 = 1
    · rw [if_pos hc] at h
      obtain rfl := Option.some.inj h
      exact (t0)
    · rw [if_neg hc] at h
      obtain rfl := Option.some.inj h
      exact (t0)
set_option maxRecDepth 100000 in
theorem fr_12_firstOf_l3 (a0 : Nat) (a1 : Int32) (a2 : Int32) (a3 : Int32) (k0 : kd a0 = 12) : ∀ (n : Nat) (v4 : Int32) (μ : mm) (r : Int32 × mm), f_12_firstOf_l3 a0 a1 a2 a3 n v4 μ = some r → Fm μ r.2
  | 0, _, _, _, h => by
    rw [f_12_firstOf_l3] at h
    cases h
  | n + 1, v4, μ, r, h => by
    rw [f_12_firstOf_l3] at h
    obtain ⟨x1, e2, h⟩ := bi_el h
    by_cases hc : x1 ≤ v4
    · rw [if_pos hc] at h
      obtain rfl := Option.some.inj h
      exact Fm_rf
    · rw [if_neg hc] at h
      obtain ⟨x4, e3, h⟩ := bi_el h
      by_cases hc : x4 = a2
      · rw [if_pos hc] at h
        obtain ⟨z6, e5, h⟩ := bi_el h
        have t0 := fr_12_holds e5 k0
        by_cases hc : z6.1 = 0
        · rw [if_pos hc] at h
          exact (Fm_tr (t0) (fr_12_firstOf_l3 a0 a1 a2 a3 k0 n (v4 + 1) z6.2 _ h))
        · rw [if_neg hc] at h
          obtain rfl := Option.some.inj h
          exact (t0)
      · rw [if_neg hc] at h
        exact (fr_12_firstOf_l3 a0 a1 a2 a3 k0 n (v4 + 1) μ _ h)
set_option maxRecDepth 100000 in
theorem fr_12_firstOf  {a0 : Nat} {a1 : Int32} {a2 : Int32} {a3 : Int32} {μ : mm} {r : Int32 × mm} (h : f_12_firstOf a0 a1 a2 a3 μ = some r) (k0 : kd a0 = 12) : Fm μ r.2 := by
  unfold f_12_firstOf at h
  exact (fr_12_firstOf_l3 a0 a1 a2 a3 k0 FU 0 μ _ h)
set_option maxRecDepth 100000 in
theorem fr_12_mayVote  {a0 : Nat} {a1 : Int32} {μ : mm} {r : Int32 × mm} (h : f_12_mayVote a0 a1 μ = some r) (k0 : kd a0 = 12) : Fm μ r.2 := by
  unfold f_12_mayVote at h
  obtain ⟨z1, e2, h⟩ := bi_el h
  by_cases hc : z1 = 0
  · rw [if_pos hc] at h
    obtain rfl := Option.some.inj h
    exact Fm_rf
  · rw [if_neg hc] at h
    obtain ⟨z4, e3, h⟩ := bi_el h
    have t0 := fr_12_firstOf e3 k0
    by_cases hc : z4.1 < 0
    · rw [if_pos hc] at h
      obtain rfl := Option.some.inj h
      exact (t0)
    · rw [if_neg hc] at h
      obtain rfl := Option.some.inj h
      exact (t0)
set_option maxRecDepth 100000 in
theorem fr_12_rank  {a0 : Nat} {a1 : Int32} {μ : mm} {r : Int32 × mm} (h : f_12_rank a0 a1 μ = some r) (k0 : kd a0 = 12) : Fm μ r.2 := by
  unfold f_12_rank at h
  obtain ⟨z2, e1, h⟩ := bi_el h
  have t0 := fr_12_firstOf e1 k0
  by_cases hc : 0 ≤ z2.1
  · rw [if_pos hc] at h
    obtain ⟨x4, e3, h⟩ := bi_el h
    obtain rfl := Option.some.inj h
    exact (t0)
  · rw [if_neg hc] at h
    obtain rfl := Option.some.inj h
    exact (t0)
set_option maxRecDepth 100000 in
theorem fr_12_relief  {a0 : Nat} {a1 : Int32} {μ : mm} {r : Int32 × mm} (h : f_12_relief a0 a1 μ = some r) (k0 : kd a0 = 12) : Fm μ r.2 := by
  unfold f_12_relief at h
  obtain ⟨z2, e1, h⟩ := bi_el h
  have t0 := fr_12_firstOf e1 k0
  by_cases hc : 0 ≤ z2.1
  · rw [if_pos hc] at h
    obtain ⟨x4, e3, h⟩ := bi_el h
    obtain rfl := Option.some.inj h
    exact (t0)
  · rw [if_neg hc] at h
    obtain rfl := Option.some.inj h
    exact (t0)
set_option maxRecDepth 100000 in
theorem fr_12_ticket  {a0 : Nat} {a1 : Int32} {μ : mm} {r : Int32 × mm} (h : f_12_ticket a0 a1 μ = some r) (k0 : kd a0 = 12) : Fm μ r.2 := by
  unfold f_12_ticket at h
  obtain ⟨z2, e1, h⟩ := bi_el h
  have t0 := fr_12_firstOf e1 k0
  by_cases hc : 0 ≤ z2.1
  · rw [if_pos hc] at h
    obtain ⟨x4, e3, h⟩ := bi_el h
    obtain rfl := Option.some.inj h
    exact (t0)
  · rw [if_neg hc] at h
    obtain rfl := Option.some.inj h
    exact (t0)
set_option maxRecDepth 100000 in
theorem fr_12_of  {a0 : Nat} {a1 : Int32} {a2 : Int32} {μ : mm} {r : Int32 × mm} (h : f_12_of a0 a1 a2 μ = some r) (k0 : kd a0 = 12) : Fm μ r.2 := by
  unfold f_12_of at h
  obtain ⟨x2, e1, h⟩ := bi_el h
  by_cases hc : x2 = 0
  · rw [if_pos hc] at h
    obtain rfl := Option.some.inj h
    exact Fm_rf
  · rw [if_neg hc] at h
    obtain ⟨x4, e3, h⟩ := bi_el h
    by_cases hc : x4 = 0
    · rw [if_pos hc] at h
      obtain rfl := Option.some.inj h
      exact Fm_rf
    · rw [if_neg hc] at h
      by_cases hc : 12 ≤ a2
      · rw [if_pos hc] at h
        by_cases hc : a2 = 12
        · rw [if_pos hc] at h
          obtain ⟨z12, e11, h⟩ := bi_el h
          have t0 := fr_12_ticket e11 k0
          obtain rfl := Option.some.inj h
          exact (t0)
        · rw [if_neg hc] at h
          by_cases hc : a2 = 13
          · rw [if_pos hc] at h
            obtain ⟨z10, e9, h⟩ := bi_el h
            have t0 := fr_12_rank e9 k0
            obtain rfl := Option.some.inj h
            exact (t0)
          · rw [if_neg hc] at h
            by_cases hc : a2 = 14
            · rw [if_pos hc] at h
              obtain ⟨z8, e7, h⟩ := bi_el h
              have t0 := fr_12_relief e7 k0
              obtain rfl := Option.some.inj h
              exact (t0)
            · rw [if_neg hc] at h
              obtain ⟨z6, e5, h⟩ := bi_el h
              have t0 := fr_12_mayVote e5 k0
              by_cases hc : z6.1 = 0
              · rw [if_pos hc] at h
                obtain rfl := Option.some.inj h
                exact (t0)
              · rw [if_neg hc] at h
                obtain rfl := Option.some.inj h
                exact (t0)
      · rw [if_neg hc] at h
        obtain ⟨x14, e13, h⟩ := bi_el h
        obtain rfl := Option.some.inj h
        exact Fm_rf
set_option maxRecDepth 100000 in
theorem fr_12_set_b72  {a0 : Nat} {a1 : Int32} {a2 : Int32} {a3 : Int32} {a4 : Int32} {μ : mm} {r : Int32 × mm} (h : f_12_set_b72 a0 a1 a2 a3 a4 μ = some r) (k0 : kd a0 = 12) : Fm μ r.2 := by
  unfold f_12_set_b72 at h
  obtain ⟨x2, e1, h⟩ := bi_el h
  by_cases hc : x2 = 0
  · rw [if_pos hc] at h
    obtain rfl := Option.some.inj h
    exact Fm_rf
  · rw [if_neg hc] at h
    obtain ⟨z5, hz5, h⟩ := bi_el h
    obtain ⟨x6, e7, h⟩ := bi_el h
    obtain ⟨μ8, e9, h⟩ := bi_el h
    have t0 := Fm_sto (mo_0 k0) e9
    obtain rfl := Option.some.inj h
    exact (t0)
set_option maxRecDepth 100000 in
theorem fr_12_set  {a0 : Nat} {a1 : Int32} {a2 : Int32} {μ : mm} {r : Int32 × mm} (h : f_12_set a0 a1 a2 μ = some r) (k0 : kd a0 = 12) : Fm μ r.2 := by
  unfold f_12_set at h
  obtain ⟨z3, hz3, h⟩ := bi_el h
  obtain ⟨z4, hz4, h⟩ := bi_el h
  by_cases hc : z3 = 0
  · rw [if_pos hc] at h
    obtain ⟨x6, e5, h⟩ := bi_el h
    by_cases hc : x6 = 0
    · rw [if_pos hc] at h
      obtain rfl := Option.some.inj h
      exact Fm_rf
    · rw [if_neg hc] at h
      exact (fr_12_set_b72  h k0)
  · rw [if_neg hc] at h
    exact (fr_12_set_b72  h k0)
set_option maxRecDepth 100000 in
theorem fr_12_gift  {a0 : Nat} {a1 : Int32} {a2 : Int32} {μ : mm} {r : Int32 × mm} (h : f_12_gift a0 a1 a2 μ = some r) (k0 : kd a0 = 12) : Fm μ r.2 := by
  unfold f_12_gift at h
  obtain ⟨x2, e1, h⟩ := bi_el h
  by_cases hc : x2 = 0
  · rw [if_pos hc] at h
    obtain rfl := Option.some.inj h
    exact Fm_rf
  · rw [if_neg hc] at h
    obtain ⟨z3, hz3, h⟩ := bi_el h
    obtain ⟨x4, e5, h⟩ := bi_el h
    obtain ⟨μ6, e7, h⟩ := bi_el h
    have t0 := Fm_sto (mo_0 k0) e7
    obtain ⟨x8, e9, h⟩ := bi_el h
    obtain rfl := Option.some.inj h
    exact (t0)
set_option maxRecDepth 100000 in
theorem fr_12_ship  {a0 : Nat} {a1 : Int32} {a2 : Int32} {μ : mm} {r : Int32 × mm} (h : f_12_ship a0 a1 a2 μ = some r) (k0 : kd a0 = 12) : Fm μ r.2 := by
  unfold f_12_ship at h
  obtain ⟨x2, e1, h⟩ := bi_el h
  by_cases hc : x2 = 0
  · rw [if_pos hc] at h
    obtain rfl := Option.some.inj h
    exact Fm_rf
  · rw [if_neg hc] at h
    obtain ⟨x3, e4, h⟩ := bi_el h
    obtain ⟨x6, e5, h⟩ := bi_el h
    by_cases hc : x6 = 0
    · rw [if_pos hc] at h
      obtain rfl := Option.some.inj h
      exact Fm_rf
    · rw [if_neg hc] at h
      obtain ⟨x7, e8, h⟩ := bi_el h
      by_cases hc : x7 = 6
      · rw [if_pos hc] at h
        obtain rfl := Option.some.inj h
        exact Fm_rf
      · rw [if_neg hc] at h
        obtain ⟨μ9, e10, h⟩ := bi_el h
        have t0 := Fm_sto (mo_0 k0) e10
        obtain ⟨μ11, e12, h⟩ := bi_el h
        have t1 := Fm_sto (mo_0 k0) e12
        obtain ⟨x13, e14, h⟩ := bi_el h
        obtain ⟨μ15, e16, h⟩ := bi_el h
        have t2 := Fm_sto (mo_0 k0) e16
        obtain ⟨x17, e18, h⟩ := bi_el h
        obtain rfl := Option.some.inj h
        exact (Fm_tr (t0) (Fm_tr (t1) (t2)))
set_option maxRecDepth 100000 in
theorem fr_12_feed_l30 (a0 : Nat) (a1 : Int64) (a3 : Int32) (k0 : kd a0 = 12) : ∀ (n : Nat) (v4 : Int32) (μ : mm) (z : mm), f_12_feed_l30 a0 a1 a3 n v4 μ = some z → Fm μ z
  | 0, _, _, _, h => by
    rw [f_12_feed_l30] at h
    cases h
  | n + 1, v4, μ, z, h => by
    rw [f_12_feed_l30] at h
    by_cases hc : a3 ≤ v4
    · rw [if_pos hc] at h
      obtain rfl := Option.some.inj h
      exact Fm_rf
    · rw [if_neg hc] at h
      obtain ⟨μ1, e2, h⟩ := bi_el h
      have t0 := Fm_sto (mo_4 k0) e2
      obtain ⟨μ3, e4, h⟩ := bi_el h
      have t1 := Fm_pf (mo_kd k0) e4
      exact (Fm_tr (t0) (Fm_tr (t1) (fr_12_feed_l30 a0 a1 a3 k0 n (v4 + 1) μ3 _ h)))
set_option maxRecDepth 100000 in
theorem fr_12_feed  {a0 : Nat} {a1 : Int64} {a3 : Int32} {μ : mm} {r : Int32 × mm} (h : f_12_feed a0 a1 a3 μ = some r) (k0 : kd a0 = 12) : Fm μ r.2 := by
  unfold f_12_feed at h
  obtain ⟨x2, e1, h⟩ := bi_el h
  by_cases hc : x2 = 0
  · rw [if_pos hc] at h
    obtain rfl := Option.some.inj h
    exact Fm_rf
  · rw [if_neg hc] at h
    by_cases hc : ((μ a0 5) + a3) ≤ 300
    · rw [if_pos hc] at h
      obtain ⟨z3, e4, h⟩ := bi_el h
      have t0 := fr_12_feed_l30 a0 a1 a3 k0 FU 0 μ _ e4
      obtain rfl := Option.some.inj h
      exact (t0)
    · rw [if_neg hc] at h
      obtain rfl := Option.some.inj h
      exact Fm_rf
set_option maxRecDepth 100000 in
theorem fr_12_codes  {a0 : Nat} {a1 : Int32} {μ : mm} {r : mm} (h : f_12_codes a0 a1 μ = some r) (k0 : kd a0 = 12) : Fm μ r := by
  unfold f_12_codes at h
  by_cases hc : (μ a0 13) = 0
  · rw [if_pos hc] at h
    obtain ⟨μ1, e2, h⟩ := bi_el h
    have t0 := Fm_sto (mo_18 k0) e2
    obtain ⟨μ3, e4, h⟩ := bi_el h
    have t1 := Fm_pf (mo_kd k0) e4
    obtain rfl := Option.some.inj h
    exact (Fm_tr (t0) (t1))
  · rw [if_neg hc] at h
    obtain rfl := Option.some.inj h
    exact Fm_rf
set_option maxRecDepth 100000 in
theorem fr_12_next_l8 (a0 : Nat) (k0 : kd a0 = 12) : ∀ (n : Nat) (μ : mm) (z : mm), f_12_next_l8 a0 n  μ = some z → Fm μ z
  | 0, _, _, h => by
    rw [f_12_next_l8] at h
    cases h
  | n + 1, μ, z, h => by
    rw [f_12_next_l8] at h
    by_cases hc : (μ a0 5) ≤ (μ a0 10)
    · rw [if_pos hc] at h
      obtain rfl := Option.some.inj h
      exact Fm_rf
    · rw [if_neg hc] at h
      obtain ⟨x1, e2, h⟩ := bi_el h
      by_cases hc : x1 = 32
      · rw [if_pos hc] at h
        obtain ⟨μ3, e4, h⟩ := bi_el h
        have t0 := Fm_pf (mo_kd k0) e4
        exact (Fm_tr (t0) (fr_12_next_l8 a0 k0 n μ3 _ h))
      · rw [if_neg hc] at h
        obtain rfl := Option.some.inj h
        exact Fm_rf
set_option maxRecDepth 100000 in
theorem fr_12_next_l124 (a0 : Nat) (k0 : kd a0 = 12) : ∀ (n : Nat) (μ : mm) (z : mm), f_12_next_l124 a0 n  μ = some z → Fm μ z
  | 0, _, _, h => by
    rw [f_12_next_l124] at h
    cases h
  | n + 1, μ, z, h => by
    rw [f_12_next_l124] at h
    by_cases hc : (μ a0 12) = 1
    · rw [if_pos hc] at h
      obtain ⟨x6, e5, h⟩ := bi_el h
      by_cases hc : x6 = 0
      · rw [if_pos hc] at h
        by_cases hc : (μ a0 12) = 2
        · rw [if_pos hc] at h
          obtain ⟨x10, e9, h⟩ := bi_el h
          by_cases hc : x10 = 0
          · rw [if_pos hc] at h
            obtain rfl := Option.some.inj h
            exact Fm_rf
          · rw [if_neg hc] at h
            obtain ⟨μ11, e12, h⟩ := bi_el h
            have t0 := Fm_pf (mo_kd k0) e12
            exact (Fm_tr (t0) (fr_12_next_l124 a0 k0 n μ11 _ h))
        · rw [if_neg hc] at h
          obtain rfl := Option.some.inj h
          exact Fm_rf
      · rw [if_neg hc] at h
        obtain ⟨μ7, e8, h⟩ := bi_el h
        have t0 := Fm_pf (mo_kd k0) e8
        exact (Fm_tr (t0) (fr_12_next_l124 a0 k0 n μ7 _ h))
    · rw [if_neg hc] at h
      by_cases hc : (μ a0 12) = 2
      · rw [if_pos hc] at h
        obtain ⟨x2, e1, h⟩ := bi_el h
        by_cases hc : x2 = 0
        · rw [if_pos hc] at h
          obtain rfl := Option.some.inj h
          exact Fm_rf
        · rw [if_neg hc] at h
          obtain ⟨μ3, e4, h⟩ := bi_el h
          have t0 := Fm_pf (mo_kd k0) e4
          exact (Fm_tr (t0) (fr_12_next_l124 a0 k0 n μ3 _ h))
      · rw [if_neg hc] at h
        obtain rfl := Option.some.inj h
        exact Fm_rf
set_option maxRecDepth 100000 in
theorem fr_12_next  {a0 : Nat} {μ : mm} {r : mm} (h : f_12_next a0 μ = some r) (k0 : kd a0 = 12) : Fm μ r := by
  unfold f_12_next at h
  obtain ⟨μ1, e2, h⟩ := bi_el h
  have t0 := Fm_pf (mo_kd k0) e2
  obtain ⟨z3, e4, h⟩ := bi_el h
  have t1 := fr_12_next_l8 a0 k0 FU μ1 _ e4
  obtain ⟨μ5, e6, h⟩ := bi_el h
  have t2 := Fm_pf (mo_kd k0) e6
  by_cases hc : (μ5 a0 10) = (μ5 a0 5)
  · rw [if_pos hc] at h
    obtain ⟨μ18, e19, h⟩ := bi_el h
    have t3 := Fm_pf (mo_kd k0) e19
    obtain rfl := Option.some.inj h
    exact (Fm_tr (t0) (Fm_tr (t1) (Fm_tr (t2) (t3))))
  · rw [if_neg hc] at h
    obtain ⟨x8, e7, h⟩ := bi_el h
    obtain ⟨z11, hz11, h⟩ := bi_el h
    obtain ⟨μ12, e13, h⟩ := bi_el h
    have t3 := Fm_pf (mo_kd k0) e13
    obtain ⟨μ14, e15, h⟩ := bi_el h
    have t4 := Fm_pf (mo_kd k0) e15
    obtain ⟨z16, e17, h⟩ := bi_el h
    have t5 := fr_12_next_l124 a0 k0 FU μ14 _ e17
    obtain rfl := Option.some.inj h
    exact (Fm_tr (t0) (Fm_tr (t1) (Fm_tr (t2) (Fm_tr (t3) (Fm_tr (t4) (t5))))))
set_option maxRecDepth 100000 in
theorem fr_12_need  {a0 : Nat} {a1 : Int32} {μ : mm} {r : mm} (h : f_12_need a0 a1 μ = some r) (k0 : kd a0 = 12) : Fm μ r := by
  unfold f_12_need at h
  obtain ⟨z1, hz1, h⟩ := bi_el h
  obtain ⟨_, q4, h⟩ := bi_el h
  obtain ⟨μ2, e3, h⟩ := bi_el h
  have t0 := Fm_pf (mo_kd k0) e3
  by_cases hc : (μ2 a0 13) = 0
  · rw [if_pos hc] at h
    obtain ⟨μ6, e5, h⟩ := bi_el h
    have t1 := fr_12_next e5 k0
    obtain rfl := Option.some.inj h
    exact (Fm_tr (t0) (t1))
  · rw [if_neg hc] at h
    obtain rfl := Option.some.inj h
    exact (t0)
set_option maxRecDepth 100000 in
theorem fr_12_number  {a0 : Nat} {a1 : Int32} {μ : mm} {r : Int32 × mm} (h : f_12_number a0 a1 μ = some r) (k0 : kd a0 = 12) : Fm μ r.2 := by
  unfold f_12_number at h
  obtain ⟨z1, hz1, h⟩ := bi_el h
  obtain ⟨z2, e3, h⟩ := bi_el h
  obtain ⟨z4, hz4, h⟩ := bi_el h
  obtain ⟨μ6, e5, h⟩ := bi_el h
  have t0 := fr_12_need e5 k0
  obtain rfl := Option.some.inj h
  exact (t0)
set_option maxRecDepth 100000 in
theorem fr_12_either_l4 (rc : Nat → Nat → mm → Option (mm)) (hrc0 : ∀ {b0 : Nat} {μ : mm} {r : mm}, rc 0 b0 μ = some r → kd b0 = 12 → Fm μ r) (hrc1 : ∀ {b0 : Nat} {μ : mm} {r : mm}, rc 1 b0 μ = some r → kd b0 = 12 → Fm μ r) (hrc2 : ∀ {b0 : Nat} {μ : mm} {r : mm}, rc 2 b0 μ = some r → kd b0 = 12 → Fm μ r) (a0 : Nat) (k0 : kd a0 = 12) : ∀ (n : Nat) (μ : mm) (z : mm), f_12_either_l4 rc a0 n  μ = some z → Fm μ z
  | 0, _, _, h => by
    rw [f_12_either_l4] at h
    cases h
  | n + 1, μ, z, h => by
    rw [f_12_either_l4] at h
    obtain ⟨x2, e1, h⟩ := bi_el h
    by_cases hc : x2 = 0
    · rw [if_pos hc] at h
      obtain rfl := Option.some.inj h
      exact Fm_rf
    · rw [if_neg hc] at h
      obtain ⟨μ4, e3, h⟩ := bi_el h
      have t0 := fr_12_next e3 k0
      obtain ⟨μ6, e5, h⟩ := bi_el h
      have t1 := hrc1 e5 k0
      obtain ⟨μ8, e7, h⟩ := bi_el h
      have t2 := fr_12_codes e7 k0
      exact (Fm_tr (t0) (Fm_tr (t1) (Fm_tr (t2) (fr_12_either_l4 rc hrc0 hrc1 hrc2 a0 k0 n μ8 _ h))))
set_option maxRecDepth 100000 in
theorem fr_12_either_b (rc : Nat → Nat → mm → Option (mm)) (hrc0 : ∀ {b0 : Nat} {μ : mm} {r : mm}, rc 0 b0 μ = some r → kd b0 = 12 → Fm μ r) (hrc1 : ∀ {b0 : Nat} {μ : mm} {r : mm}, rc 1 b0 μ = some r → kd b0 = 12 → Fm μ r) (hrc2 : ∀ {b0 : Nat} {μ : mm} {r : mm}, rc 2 b0 μ = some r → kd b0 = 12 → Fm μ r)  {a0 : Nat} {μ : mm} {r : mm} (h : f_12_either_b rc a0 μ = some r) (k0 : kd a0 = 12) : Fm μ r := by
  unfold f_12_either_b at h
  obtain ⟨μ2, e1, h⟩ := bi_el h
  have t0 := hrc1 e1 k0
  obtain ⟨z3, e4, h⟩ := bi_el h
  have t1 := fr_12_either_l4 rc hrc0 hrc1 hrc2 a0 k0 FU μ2 _ e4
  obtain rfl := Option.some.inj h
  exact (Fm_tr (t0) (t1))
set_option maxRecDepth 100000 in
theorem fr_12_all_l4 (rc : Nat → Nat → mm → Option (mm)) (hrc0 : ∀ {b0 : Nat} {μ : mm} {r : mm}, rc 0 b0 μ = some r → kd b0 = 12 → Fm μ r) (hrc1 : ∀ {b0 : Nat} {μ : mm} {r : mm}, rc 1 b0 μ = some r → kd b0 = 12 → Fm μ r) (hrc2 : ∀ {b0 : Nat} {μ : mm} {r : mm}, rc 2 b0 μ = some r → kd b0 = 12 → Fm μ r) (a0 : Nat) (k0 : kd a0 = 12) : ∀ (n : Nat) (μ : mm) (z : mm), f_12_all_l4 rc a0 n  μ = some z → Fm μ z
  | 0, _, _, h => by
    rw [f_12_all_l4] at h
    cases h
  | n + 1, μ, z, h => by
    rw [f_12_all_l4] at h
    obtain ⟨x2, e1, h⟩ := bi_el h
    by_cases hc : x2 = 0
    · rw [if_pos hc] at h
      obtain rfl := Option.some.inj h
      exact Fm_rf
    · rw [if_neg hc] at h
      obtain ⟨μ4, e3, h⟩ := bi_el h
      have t0 := fr_12_next e3 k0
      obtain ⟨μ6, e5, h⟩ := bi_el h
      have t1 := hrc2 e5 k0
      obtain ⟨μ8, e7, h⟩ := bi_el h
      have t2 := fr_12_codes e7 k0
      exact (Fm_tr (t0) (Fm_tr (t1) (Fm_tr (t2) (fr_12_all_l4 rc hrc0 hrc1 hrc2 a0 k0 n μ8 _ h))))
set_option maxRecDepth 100000 in
theorem fr_12_all_b (rc : Nat → Nat → mm → Option (mm)) (hrc0 : ∀ {b0 : Nat} {μ : mm} {r : mm}, rc 0 b0 μ = some r → kd b0 = 12 → Fm μ r) (hrc1 : ∀ {b0 : Nat} {μ : mm} {r : mm}, rc 1 b0 μ = some r → kd b0 = 12 → Fm μ r) (hrc2 : ∀ {b0 : Nat} {μ : mm} {r : mm}, rc 2 b0 μ = some r → kd b0 = 12 → Fm μ r)  {a0 : Nat} {μ : mm} {r : mm} (h : f_12_all_b rc a0 μ = some r) (k0 : kd a0 = 12) : Fm μ r := by
  unfold f_12_all_b at h
  obtain ⟨μ2, e1, h⟩ := bi_el h
  have t0 := hrc2 e1 k0
  obtain ⟨z3, e4, h⟩ := bi_el h
  have t1 := fr_12_all_l4 rc hrc0 hrc1 hrc2 a0 k0 FU μ2 _ e4
  obtain rfl := Option.some.inj h
  exact (Fm_tr (t0) (t1))
set_option maxRecDepth 100000 in
theorem fr_12_one_l2 (rc : Nat → Nat → mm → Option (mm)) (hrc0 : ∀ {b0 : Nat} {μ : mm} {r : mm}, rc 0 b0 μ = some r → kd b0 = 12 → Fm μ r) (hrc1 : ∀ {b0 : Nat} {μ : mm} {r : mm}, rc 1 b0 μ = some r → kd b0 = 12 → Fm μ r) (hrc2 : ∀ {b0 : Nat} {μ : mm} {r : mm}, rc 2 b0 μ = some r → kd b0 = 12 → Fm μ r) (a0 : Nat) (k0 : kd a0 = 12) : ∀ (n : Nat) (v1 : Int32) (μ : mm) (z : Int32 × mm), f_12_one_l2 rc a0 n v1 μ = some z → Fm μ z.2
  | 0, _, _, _, h => by
    rw [f_12_one_l2] at h
    cases h
  | n + 1, v1, μ, z, h => by
    rw [f_12_one_l2] at h
    obtain ⟨x2, e1, h⟩ := bi_el h
    by_cases hc : x2 = 0
    · rw [if_pos hc] at h
      obtain rfl := Option.some.inj h
      exact Fm_rf
    · rw [if_neg hc] at h
      obtain ⟨μ4, e3, h⟩ := bi_el h
      have t0 := fr_12_next e3 k0
      exact (Fm_tr (t0) (fr_12_one_l2 rc hrc0 hrc1 hrc2 a0 k0 n (v1 + 1) μ4 _ h))
set_option maxRecDepth 100000 in
theorem fr_12_one_l224 (rc : Nat → Nat → mm → Option (mm)) (hrc0 : ∀ {b0 : Nat} {μ : mm} {r : mm}, rc 0 b0 μ = some r → kd b0 = 12 → Fm μ r) (hrc1 : ∀ {b0 : Nat} {μ : mm} {r : mm}, rc 1 b0 μ = some r → kd b0 = 12 → Fm μ r) (hrc2 : ∀ {b0 : Nat} {μ : mm} {r : mm}, rc 2 b0 μ = some r → kd b0 = 12 → Fm μ r) (a0 : Nat) (a1 : Int32) (k0 : kd a0 = 12) : ∀ (n : Nat) (v2 : Int32) (μ : mm) (z : mm), f_12_one_l224 rc a0 a1 n v2 μ = some z → Fm μ z
  | 0, _, _, _, h => by
    rw [f_12_one_l224] at h
    cases h
  | n + 1, v2, μ, z, h => by
    rw [f_12_one_l224] at h
    by_cases hc : a1 ≤ v2
    · rw [if_pos hc] at h
      obtain rfl := Option.some.inj h
      exact Fm_rf
    · rw [if_neg hc] at h
      obtain ⟨μ2, e1, h⟩ := bi_el h
      have t0 := fr_12_codes e1 k0
      exact (Fm_tr (t0) (fr_12_one_l224 rc hrc0 hrc1 hrc2 a0 a1 k0 n (v2 + 1) μ2 _ h))
set_option maxRecDepth 100000 in
theorem fr_12_one_b (rc : Nat → Nat → mm → Option (mm)) (hrc0 : ∀ {b0 : Nat} {μ : mm} {r : mm}, rc 0 b0 μ = some r → kd b0 = 12 → Fm μ r) (hrc1 : ∀ {b0 : Nat} {μ : mm} {r : mm}, rc 1 b0 μ = some r → kd b0 = 12 → Fm μ r) (hrc2 : ∀ {b0 : Nat} {μ : mm} {r : mm}, rc 2 b0 μ = some r → kd b0 = 12 → Fm μ r)  {a0 : Nat} {μ : mm} {r : mm} (h : f_12_one_b rc a0 μ = some r) (k0 : kd a0 = 12) : Fm μ r := by
  unfold f_12_one_b at h
  obtain ⟨z1, e2, h⟩ := bi_el h
  have t0 := fr_12_one_l2 rc hrc0 hrc1 hrc2 a0 k0 FU 0 μ _ e2
  obtain ⟨x4, e3, h⟩ := bi_el h
  obtain ⟨z41, hz41, h⟩ := bi_el h
  have tzz41 : Fm z1.2 z41 := by
    clear h
    have h := hz41
    clear hz41
    by_cases hc : x4 = 0
    · rw [if_pos hc] at h
      obtain ⟨z5, e6, h⟩ := bi_el h
      obtain ⟨z7, hz7, h⟩ := bi_el h
      obtain ⟨μ9, e8, h⟩ := bi_el h
      have t0 := fr_12_need e8 k0
      obtain ⟨x11, e10, h⟩ := bi_el h
      obtain ⟨z14, hz14, h⟩ := bi_el h
      obtain ⟨x16, e15, h⟩ := bi_el h
      obtain ⟨z21, hz21, h⟩ := bi_el h
      obtain ⟨μ23, e22, h⟩ := bi_el h
      have t1 := fr_12_need e22 k0
      obtain ⟨z25, e24, h⟩ := bi_el h
      have t2 := fr_12_number e24 k0
      obtain ⟨μ27, e26, h⟩ := bi_el h
      have t3 := fr_12_codes e26 k0
      obtain rfl := Option.some.inj h
      exact (Fm_tr (t0) (Fm_tr (t1) (Fm_tr (t2) (t3))))
    · rw [if_neg hc] at h
      obtain ⟨μ28, e29, h⟩ := bi_el h
      have t0 := Fm_pf (mo_kd k0) e29
      obtain ⟨z30, hz30, h⟩ := bi_el h
      obtain ⟨μ32, e31, h⟩ := bi_el h
      have t1 := fr_12_need e31 k0
      obtain ⟨μ34, e33, h⟩ := bi_el h
      have t2 := hrc0 e33 k0
      obtain ⟨x36, e35, h⟩ := bi_el h
      obtain ⟨μ38, e37, h⟩ := bi_el h
      have t3 := fr_12_need e37 k0
      obtain ⟨μ39, e40, h⟩ := bi_el h
      have t4 := Fm_pf (mo_kd k0) e40
      obtain rfl := Option.some.inj h
      exact (Fm_tr (t0) (Fm_tr (t1) (Fm_tr (t2) (Fm_tr (t3) (t4)))))
  obtain ⟨z42, e43, h⟩ := bi_el h
  have t2 := fr_12_one_l224 rc hrc0 hrc1 hrc2 a0 z1.1 k0 FU 0 z41 _ e43
  obtain rfl := Option.some.inj h
  exact (Fm_tr (t0) (Fm_tr (tzz41) (t2)))
set_option maxRecDepth 100000 in
theorem fr_12_either_G : ∀ n : Nat, (∀ {b0 : Nat} {μ : mm} {r : mm}, f_12_either_G n 0 b0 μ = some r → kd b0 = 12 → Fm μ r) ∧ (∀ {b0 : Nat} {μ : mm} {r : mm}, f_12_either_G n 1 b0 μ = some r → kd b0 = 12 → Fm μ r) ∧ (∀ {b0 : Nat} {μ : mm} {r : mm}, f_12_either_G n 2 b0 μ = some r → kd b0 = 12 → Fm μ r) ∧ True
  | 0 => by
    refine ⟨?_, ?_, ?_, trivial⟩
    · intro b0 μ r h kb
      rw [f_12_either_G] at h
      cases h
    · intro b0 μ r h kb
      rw [f_12_either_G] at h
      cases h
    · intro b0 μ r h kb
      rw [f_12_either_G] at h
      cases h
  | n + 1 => by
    obtain ⟨i0, i1, i2, -⟩ := fr_12_either_G n
    refine ⟨?_, ?_, ?_, trivial⟩
    · intro b0 μ r h kb
      simp only [f_12_either_G, if_pos] at h
      exact fr_12_either_b (rc := f_12_either_G n) (fun h k => i0 h k) (fun h k => i1 h k) (fun h k => i2 h k) h kb
    · intro b0 μ r h kb
      simp only [f_12_either_G, if_pos] at h
      exact fr_12_all_b (rc := f_12_either_G n) (fun h k => i0 h k) (fun h k => i1 h k) (fun h k => i2 h k) h kb
    · intro b0 μ r h kb
      simp only [f_12_either_G, if_pos] at h
      exact fr_12_one_b (rc := f_12_either_G n) (fun h k => i0 h k) (fun h k => i1 h k) (fun h k => i2 h k) h kb
set_option maxRecDepth 100000 in
theorem fr_12_either_G_0 (n : Nat) {b0 : Nat} {μ : mm} {r : mm} (h : f_12_either_G n 0 b0 μ = some r) (kb : kd b0 = 12) : Fm μ r := (fr_12_either_G n).1 h kb
set_option maxRecDepth 100000 in
theorem fr_12_either_G_1 (n : Nat) {b0 : Nat} {μ : mm} {r : mm} (h : f_12_either_G n 1 b0 μ = some r) (kb : kd b0 = 12) : Fm μ r := (fr_12_either_G n).2.1 h kb
set_option maxRecDepth 100000 in
theorem fr_12_either_G_2 (n : Nat) {b0 : Nat} {μ : mm} {r : mm} (h : f_12_either_G n 2 b0 μ = some r) (kb : kd b0 = 12) : Fm μ r := (fr_12_either_G n).2.2.1 h kb
set_option maxRecDepth 100000 in
theorem fr_12_lineAt  {a0 : Nat} {a1 : Int32} {μ : mm} {r : mm} (h : f_12_lineAt a0 a1 μ = some r) (k0 : kd a0 = 12) : Fm μ r := by
  unfold f_12_lineAt at h
  obtain ⟨z1, e2, h⟩ := bi_el h
  obtain ⟨z3, hz3, h⟩ := bi_el h
  obtain ⟨μ5, e4, h⟩ := bi_el h
  have t0 := fr_12_need e4 k0
  obtain ⟨μ6, e7, h⟩ := bi_el h
  have t1 := Fm_sto (mo_17 k0) e7
  obtain ⟨z11, hz11, h⟩ := bi_el h
  have tzz11 : Fm μ6 z11.2 := by
    clear h
    have h := hz11
    clear hz11
    by_cases hc : z1 = 5
    · rw [if_pos hc] at h
      obtain rfl := Option.some.inj h
      exact Fm_rf
    · rw [if_neg hc] at h
      obtain ⟨z8, hz8, h⟩ := bi_el h
      obtain ⟨z10, e9, h⟩ := bi_el h
      have t0 := fr_12_number e9 k0
      obtain rfl := Option.some.inj h
      exact (t0)
  obtain ⟨μ12, e13, h⟩ := bi_el h
  have t3 := Fm_sto (mo_17 k0) e13
  obtain ⟨μ14, e15, h⟩ := bi_el h
  have t4 := Fm_sto (mo_17 k0) e15
  obtain ⟨x17, e16, h⟩ := bi_el h
  obtain ⟨z26, hz26, h⟩ := bi_el h
  have tzz26 : Fm μ14 z26 := by
    clear h
    have h := hz26
    clear hz26
    by_cases hc : x17 = 0
    · rw [if_pos hc] at h
      obtain rfl := Option.some.inj h
      exact Fm_rf
    · rw [if_neg hc] at h
      by_cases hc : z1 < 2
      · rw [if_pos hc] at h
        obtain ⟨μ19, e18, h⟩ := bi_el h
        have t0 := fr_12_next e18 k0
        obtain ⟨μ21, e20, h⟩ := bi_el h
        have t1 := fr_12_either_G_0 _ e20 k0
        obtain rfl := Option.some.inj h
        exact (Fm_tr (t0) (t1))
      · rw [if_neg hc] at h
        by_cases hc : z1 ≤ 4
        · rw [if_pos hc] at h
          obtain rfl := Option.some.inj h
          exact Fm_rf
        · rw [if_neg hc] at h
          obtain ⟨μ23, e22, h⟩ := bi_el h
          have t0 := fr_12_next e22 k0
          obtain ⟨μ25, e24, h⟩ := bi_el h
          have t1 := fr_12_either_G_0 _ e24 k0
          obtain rfl := Option.some.inj h
          exact (Fm_tr (t0) (t1))
  obtain ⟨μ27, e28, h⟩ := bi_el h
  have t6 := Fm_sto (mo_17 k0) e28
  obtain ⟨x30, e29, h⟩ := bi_el h
  obtain ⟨μ32, e31, h⟩ := bi_el h
  have t7 := fr_12_need e31 k0
  obtain rfl := Option.some.inj h
  exact (Fm_tr (t0) (Fm_tr (t1) (Fm_tr (tzz11) (Fm_tr (t3) (Fm_tr (t4) (Fm_tr (tzz26) (Fm_tr (t6) (t7))))))))
set_option maxRecDepth 100000 in
theorem fr_12_read_l29 (a0 : Nat) (a1 : Int32) (k0 : kd a0 = 12) : ∀ (n : Nat) (μ : mm) (z : mm), f_12_read_l29 a0 a1 n  μ = some z → Fm μ z
  | 0, _, _, h => by
    rw [f_12_read_l29] at h
    cases h
  | n + 1, μ, z, h => by
    rw [f_12_read_l29] at h
    by_cases hc : (μ a0 13) = 0
    · rw [if_pos hc] at h
      by_cases hc : (μ a0 12) = 0
      · rw [if_pos hc] at h
        obtain rfl := Option.some.inj h
        exact Fm_rf
      · rw [if_neg hc] at h
        obtain ⟨z1, hz1, h⟩ := bi_el h
        obtain ⟨_, q4, h⟩ := bi_el h
        obtain ⟨μ2, e3, h⟩ := bi_el h
        have t0 := Fm_pf (mo_kd k0) e3
        by_cases hc : (μ2 a0 13) = 0
        · rw [if_pos hc] at h
          obtain ⟨μ6, e5, h⟩ := bi_el h
          have t1 := fr_12_lineAt e5 k0
          obtain ⟨μ7, e8, h⟩ := bi_el h
          have t2 := Fm_pf (mo_kd k0) e8
          exact (Fm_tr (t0) (Fm_tr (t1) (Fm_tr (t2) (fr_12_read_l29 a0 a1 k0 n μ7 _ h))))
        · rw [if_neg hc] at h
          exact (Fm_tr (t0) (fr_12_read_l29 a0 a1 k0 n μ2 _ h))
    · rw [if_neg hc] at h
      obtain rfl := Option.some.inj h
      exact Fm_rf
set_option maxRecDepth 100000 in
theorem fr_12_read_l147 (a0 : Nat) (a3 : Int32) (k0 : kd a0 = 12) : ∀ (n : Nat) (v4 : Int32) (μ : mm) (z : mm), f_12_read_l147 a0 a3 n v4 μ = some z → Fm μ z
  | 0, _, _, _, h => by
    rw [f_12_read_l147] at h
    cases h
  | n + 1, v4, μ, z, h => by
    rw [f_12_read_l147] at h
    by_cases hc : 40 ≤ v4
    · rw [if_pos hc] at h
      obtain rfl := Option.some.inj h
      exact Fm_rf
    · rw [if_neg hc] at h
      obtain ⟨x1, e2, h⟩ := bi_el h
      obtain ⟨μ3, e4, h⟩ := bi_el h
      have t0 := Fm_sto (mo_0 k0) e4
      exact (Fm_tr (t0) (fr_12_read_l147 a0 a3 k0 n (v4 + 1) μ3 _ h))
set_option maxRecDepth 100000 in
theorem fr_12_read_l181 (a0 : Nat) (a3 : Int32) (k0 : kd a0 = 12) : ∀ (n : Nat) (v4 : Int32) (μ : mm) (z : mm), f_12_read_l181 a0 a3 n v4 μ = some z → Fm μ z
  | 0, _, _, _, h => by
    rw [f_12_read_l181] at h
    cases h
  | n + 1, v4, μ, z, h => by
    rw [f_12_read_l181] at h
    by_cases hc : (μ a0 15) ≤ v4
    · rw [if_pos hc] at h
      obtain rfl := Option.some.inj h
      exact Fm_rf
    · rw [if_neg hc] at h
      obtain ⟨x1, e2, h⟩ := bi_el h
      obtain ⟨μ3, e4, h⟩ := bi_el h
      have t0 := Fm_sto (mo_0 k0) e4
      exact (Fm_tr (t0) (fr_12_read_l181 a0 a3 k0 n (v4 + 1) μ3 _ h))
set_option maxRecDepth 100000 in
theorem fr_12_read  {a0 : Nat} {a1 : Int32} {μ : mm} {r : Int32 × mm} (h : f_12_read a0 a1 μ = some r) (k0 : kd a0 = 12) : Fm μ r.2 := by
  unfold f_12_read at h
  obtain ⟨μ1, e2, h⟩ := bi_el h
  have t0 := Fm_pf (mo_kd k0) e2
  obtain ⟨μ3, e4, h⟩ := bi_el h
  have t1 := Fm_pf (mo_kd k0) e4
  obtain ⟨μ5, e6, h⟩ := bi_el h
  have t2 := Fm_pf (mo_kd k0) e6
  obtain ⟨μ7, e8, h⟩ := bi_el h
  have t3 := Fm_pf (mo_kd k0) e8
  obtain ⟨μ9, e10, h⟩ := bi_el h
  have t4 := Fm_pf (mo_kd k0) e10
  obtain ⟨μ12, e11, h⟩ := bi_el h
  have t5 := fr_12_next e11 k0
  obtain ⟨z13, e14, h⟩ := bi_el h
  have t6 := fr_12_read_l29 a0 a1 k0 FU μ12 _ e14
  obtain ⟨μ15, e16, h⟩ := bi_el h
  have t7 := Fm_pf (mo_kd k0) e16
  obtain ⟨x18, e17, h⟩ := bi_el h
  by_cases hc : x18 = 0
  · rw [if_pos hc] at h
    obtain rfl := Option.some.inj h
    exact (Fm_tr (t0) (Fm_tr (t1) (Fm_tr (t2) (Fm_tr (t3) (Fm_tr (t4) (Fm_tr (t5) (Fm_tr (t6) (t7))))))))
  · rw [if_neg hc] at h
    by_cases hc : (μ15 a0 13) = 0
    · rw [if_pos hc] at h
      obtain ⟨μ19, e20, h⟩ := bi_el h
      have t8 := Fm_sto (mo_0 k0) e20
      obtain ⟨z21, e22, h⟩ := bi_el h
      have t9 := fr_12_read_l147 a0 (288 + (161 * a1)) k0 FU 0 μ19 _ e22
      obtain ⟨z23, e24, h⟩ := bi_el h
      have t10 := fr_12_read_l181 a0 (288 + (161 * a1)) k0 FU 0 z21 _ e24
      obtain rfl := Option.some.inj h
      exact (Fm_tr (t0) (Fm_tr (t1) (Fm_tr (t2) (Fm_tr (t3) (Fm_tr (t4) (Fm_tr (t5) (Fm_tr (t6) (Fm_tr (t7) (Fm_tr (t8) (Fm_tr (t9) (t10)))))))))))
    · rw [if_neg hc] at h
      obtain rfl := Option.some.inj h
      exact (Fm_tr (t0) (Fm_tr (t1) (Fm_tr (t2) (Fm_tr (t3) (Fm_tr (t4) (Fm_tr (t5) (Fm_tr (t6) (t7))))))))
set_option maxRecDepth 100000 in
theorem fr_12_why  {a0 : Nat} {a1 : Int32} {a2 : Int32} {μ : mm} {r : Int32 × mm} (h : f_12_why a0 a1 a2 μ = some r) (k0 : kd a0 = 12) : Fm μ r.2 := by
  unfold f_12_why at h
  obtain ⟨x2, e1, h⟩ := bi_el h
  by_cases hc : x2 = 0
  · rw [if_pos hc] at h
    obtain rfl := Option.some.inj h
    exact Fm_rf
  · rw [if_neg hc] at h
    obtain ⟨x4, e3, h⟩ := bi_el h
    by_cases hc : x4 = 0
    · rw [if_pos hc] at h
      obtain rfl := Option.some.inj h
      exact Fm_rf
    · rw [if_neg hc] at h
      obtain ⟨z5, hz5, h⟩ := bi_el h
      obtain ⟨z6, hz6, h⟩ := bi_el h
      obtain ⟨z8, e7, h⟩ := bi_el h
      have t0 := fr_12_firstOf e7 k0
      by_cases hc : 0 ≤ z8.1
      · rw [if_pos hc] at h
        obtain rfl := Option.some.inj h
        exact (t0)
      · rw [if_neg hc] at h
        obtain rfl := Option.some.inj h
        exact (t0)
set_option maxRecDepth 100000 in
theorem fr_12_pitsGo_l2 (a0 : Nat) (k0 : kd a0 = 12) : ∀ (n : Nat) (v1 : Int32) (μ : mm) (z : mm), f_12_pitsGo_l2 a0 n v1 μ = some z → Fm μ z
  | 0, _, _, _, h => by
    rw [f_12_pitsGo_l2] at h
    cases h
  | n + 1, v1, μ, z, h => by
    rw [f_12_pitsGo_l2] at h
    obtain ⟨x1, e2, h⟩ := bi_el h
    by_cases hc : x1 ≤ v1
    · rw [if_pos hc] at h
      obtain rfl := Option.some.inj h
      exact Fm_rf
    · rw [if_neg hc] at h
      obtain ⟨x4, e3, h⟩ := bi_el h
      obtain ⟨x5, e6, h⟩ := bi_el h
      by_cases hc : x5 = (-3)
      · rw [if_pos hc] at h
        obtain ⟨x8, e7, h⟩ := bi_el h
        obtain ⟨x10, e9, h⟩ := bi_el h
        obtain ⟨x11, e12, h⟩ := bi_el h
        obtain ⟨x14, e13, h⟩ := bi_el h
        obtain ⟨μ15, e16, h⟩ := bi_el h
        have t0 := Fm_sto (mo_0 k0) e16
        obtain ⟨x18, e17, h⟩ := bi_el h
        obtain ⟨x19, e20, h⟩ := bi_el h
        obtain ⟨x22, e21, h⟩ := bi_el h
        obtain ⟨x23, e24, h⟩ := bi_el h
        by_cases hc : x19 ≤ x23
        · rw [if_pos hc] at h
          exact (Fm_tr (t0) (fr_12_pitsGo_l2 a0 k0 n (v1 + 1) μ15 _ h))
        · rw [if_neg hc] at h
          obtain ⟨x26, e25, h⟩ := bi_el h
          obtain ⟨x27, e28, h⟩ := bi_el h
          obtain ⟨μ29, e30, h⟩ := bi_el h
          have t1 := Fm_sto (mo_0 k0) e30
          exact (Fm_tr (t0) (Fm_tr (t1) (fr_12_pitsGo_l2 a0 k0 n (v1 + 1) μ29 _ h)))
      · rw [if_neg hc] at h
        exact (fr_12_pitsGo_l2 a0 k0 n (v1 + 1) μ _ h)
set_option maxRecDepth 100000 in
theorem fr_12_pitsGo  {a0 : Nat} {μ : mm} {r : mm} (h : f_12_pitsGo a0 μ = some r) (k0 : kd a0 = 12) : Fm μ r := by
  unfold f_12_pitsGo at h
  obtain ⟨z1, e2, h⟩ := bi_el h
  have t0 := fr_12_pitsGo_l2 a0 k0 FU 0 μ _ e2
  obtain rfl := Option.some.inj h
  exact (t0)
set_option maxRecDepth 100000 in
theorem fr_12_lent_l5 (a0 : Nat) (a1 : Int32) (a2 : Int32) (k0 : kd a0 = 12) : ∀ (n : Nat) (v3 : Int32) (v4 : Int32) (μ : mm) (z : Int32 × mm), f_12_lent_l5 a0 a1 a2 n v3 v4 μ = some z → Fm μ z.2
  | 0, _, _, _, _, h => by
    rw [f_12_lent_l5] at h
    cases h
  | n + 1, v3, v4, μ, z, h => by
    rw [f_12_lent_l5] at h
    obtain ⟨x1, e2, h⟩ := bi_el h
    by_cases hc : x1 ≤ v4
    · rw [if_pos hc] at h
      obtain rfl := Option.some.inj h
      exact Fm_rf
    · rw [if_neg hc] at h
      obtain ⟨x4, e3, h⟩ := bi_el h
      obtain ⟨x5, e6, h⟩ := bi_el h
      obtain ⟨x8, e7, h⟩ := bi_el h
      obtain ⟨x9, e10, h⟩ := bi_el h
      obtain ⟨x12, e11, h⟩ := bi_el h
      obtain ⟨x13, e14, h⟩ := bi_el h
      obtain ⟨x16, e15, h⟩ := bi_el h
      obtain ⟨z17, hz17, h⟩ := bi_el h
      obtain ⟨x19, e18, h⟩ := bi_el h
      obtain ⟨x20, e21, h⟩ := bi_el h
      obtain ⟨μ22, e23, h⟩ := bi_el h
      have t0 := Fm_sto (mo_0 k0) e23
      exact (Fm_tr (t0) (fr_12_lent_l5 a0 a1 a2 k0 n (v3 - z17) (v4 + 1) μ22 _ h))
set_option maxRecDepth 100000 in
theorem fr_12_lent  {a0 : Nat} {a1 : Int32} {a2 : Int32} {μ : mm} {r : Int32 × mm} (h : f_12_lent a0 a1 a2 μ = some r) (k0 : kd a0 = 12) : Fm μ r.2 := by
  unfold f_12_lent at h
  obtain ⟨z1, e2, h⟩ := bi_el h
  have t0 := fr_12_lent_l5 a0 a1 a2 k0 FU a2 0 μ _ e2
  obtain rfl := Option.some.inj h
  exact (t0)
set_option maxRecDepth 100000 in
theorem fr_12_eats  {a0 : Nat} {a1 : Int32} {a2 : Int32} {μ : mm} {r : mm} (h : f_12_eats a0 a1 a2 μ = some r) (k0 : kd a0 = 12) : Fm μ r := by
  unfold f_12_eats at h
  obtain ⟨x1, e2, h⟩ := bi_el h
  obtain ⟨x3, e4, h⟩ := bi_el h
  obtain ⟨z7, hz7, h⟩ := bi_el h
  obtain ⟨x8, e9, h⟩ := bi_el h
  obtain ⟨x10, e11, h⟩ := bi_el h
  obtain ⟨μ12, e13, h⟩ := bi_el h
  have t0 := Fm_sto (mo_0 k0) e13
  obtain ⟨z15, e14, h⟩ := bi_el h
  have t1 := fr_12_lent e14 k0
  obtain ⟨x16, e17, h⟩ := bi_el h
  obtain ⟨μ18, e19, h⟩ := bi_el h
  have t2 := Fm_sto (mo_0 k0) e19
  obtain ⟨z20, hz20, h⟩ := bi_el h
  obtain ⟨x21, e22, h⟩ := bi_el h
  obtain ⟨z25, hz25, h⟩ := bi_el h
  obtain ⟨x26, e27, h⟩ := bi_el h
  obtain ⟨μ28, e29, h⟩ := bi_el h
  have t3 := Fm_sto (mo_0 k0) e29
  obtain ⟨x30, e31, h⟩ := bi_el h
  obtain ⟨z32, hz32, h⟩ := bi_el h
  obtain ⟨μ33, e34, h⟩ := bi_el h
  have t4 := Fm_sto (mo_0 k0) e34
  obtain ⟨x35, e36, h⟩ := bi_el h
  obtain ⟨z37, hz37, h⟩ := bi_el h
  obtain ⟨μ38, e39, h⟩ := bi_el h
  have t5 := Fm_sto (mo_0 k0) e39
  obtain ⟨x40, e41, h⟩ := bi_el h
  obtain ⟨z42, hz42, h⟩ := bi_el h
  obtain ⟨z43, hz43, h⟩ := bi_el h
  obtain ⟨z44, hz44, h⟩ := bi_el h
  obtain ⟨z47, hz47, h⟩ := bi_el h
  obtain ⟨μ48, e49, h⟩ := bi_el h
  have t6 := Fm_sto (mo_0 k0) e49
  obtain rfl := Option.some.inj h
  exact (Fm_tr (t0) (Fm_tr (t1) (Fm_tr (t2) (Fm_tr (t3) (Fm_tr (t4) (Fm_tr (t5) (t6)))))))
set_option maxRecDepth 100000 in
theorem fr_12_findDraws_l2 (a0 : Nat) (k0 : kd a0 = 12) : ∀ (n : Nat) (v1 : Int32) (μ : mm) (z : mm), f_12_findDraws_l2 a0 n v1 μ = some z → Fm μ z
  | 0, _, _, _, h => by
    rw [f_12_findDraws_l2] at h
    cases h
  | n + 1, v1, μ, z, h => by
    rw [f_12_findDraws_l2] at h
    obtain ⟨x1, e2, h⟩ := bi_el h
    by_cases hc : x1 ≤ v1
    · rw [if_pos hc] at h
      obtain rfl := Option.some.inj h
      exact Fm_rf
    · rw [if_neg hc] at h
      obtain ⟨x4, e3, h⟩ := bi_el h
      obtain ⟨z7, hz7, h⟩ := bi_el h
      have tzz7 : Fm μ z7.2 := by
        clear h
        have h := hz7
        clear hz7
        by_cases hc : x4 = 1
        · rw [if_pos hc] at h
          obtain rfl := Option.some.inj h
          exact Fm_rf
        · rw [if_neg hc] at h
          obtain ⟨z6, e5, h⟩ := bi_el h
          have t0 := fr_12_ticket e5 k0
          obtain rfl := Option.some.inj h
          exact (t0)
      obtain ⟨μ8, e9, h⟩ := bi_el h
      have t1 := Fm_sto (mo_20 k0) e9
      obtain ⟨z11, e10, h⟩ := bi_el h
      have t2 := fr_12_rank e10 k0
      obtain ⟨μ12, e13, h⟩ := bi_el h
      have t3 := Fm_sto (mo_21 k0) e13
      obtain ⟨μ14, e15, h⟩ := bi_el h
      have t4 := Fm_sto (mo_22 k0) e15
      exact (Fm_tr (tzz7) (Fm_tr (t1) (Fm_tr (t2) (Fm_tr (t3) (Fm_tr (t4) (fr_12_findDraws_l2 a0 k0 n (v1 + 1) μ14 _ h))))))
set_option maxRecDepth 100000 in
theorem fr_12_findDraws_l153 (a0 : Nat) (a2 : Int32) (a3 : Int32) (a4 : Int32) (a5 : Int32) (k0 : kd a0 = 12) : ∀ (n : Nat) (v1 : Int32) (v6 : Int32) (μ : mm) (z : Int32 × mm), f_12_findDraws_l153 a0 a2 a3 a4 a5 n v1 v6 μ = some z → Fm μ z.2
  | 0, _, _, _, _, h => by
    rw [f_12_findDraws_l153] at h
    cases h
  | n + 1, v1, v6, μ, z, h => by
    rw [f_12_findDraws_l153] at h
    obtain ⟨x1, e2, h⟩ := bi_el h
    by_cases hc : x1 ≤ v6
    · rw [if_pos hc] at h
      obtain rfl := Option.some.inj h
      exact Fm_rf
    · rw [if_neg hc] at h
      obtain ⟨x3, e4, h⟩ := bi_el h
      by_cases hc : x3 = a3
      · rw [if_pos hc] at h
        obtain ⟨z10, hz10, h⟩ := bi_el h
        obtain ⟨μ11, e12, h⟩ := bi_el h
        have t0 := Fm_sto (mo_22 k0) e12
        obtain ⟨x13, e14, h⟩ := bi_el h
        exact (Fm_tr (t0) (fr_12_findDraws_l153 a0 a2 a3 a4 a5 k0 n (v1 - x13) (v6 + 1) μ11 _ h))
      · rw [if_neg hc] at h
        exact (fr_12_findDraws_l153 a0 a2 a3 a4 a5 k0 n v1 (v6 + 1) μ _ h)
set_option maxRecDepth 100000 in
theorem fr_12_findDraws_l233 (a0 : Nat) (a2 : Int32) (a3 : Int32) (k0 : kd a0 = 12) : ∀ (n : Nat) (v1 : Int32) (v6 : Int32) (μ : mm) (z : Int32 × mm), f_12_findDraws_l233 a0 a2 a3 n v1 v6 μ = some z → Fm μ z.2
  | 0, _, _, _, _, h => by
    rw [f_12_findDraws_l233] at h
    cases h
  | n + 1, v1, v6, μ, z, h => by
    rw [f_12_findDraws_l233] at h
    obtain ⟨x1, e2, h⟩ := bi_el h
    by_cases hc : x1 ≤ v6
    · rw [if_pos hc] at h
      obtain rfl := Option.some.inj h
      exact Fm_rf
    · rw [if_neg hc] at h
      by_cases hc : a2 = 0
      · rw [if_pos hc] at h
        obtain ⟨x3, e4, h⟩ := bi_el h
        by_cases hc : x3 = a3
        · rw [if_pos hc] at h
          by_cases hc : v1 ≤ 0
          · rw [if_pos hc] at h
            exact (fr_12_findDraws_l233 a0 a2 a3 k0 n v1 (v6 + 1) μ _ h)
          · rw [if_neg hc] at h
            obtain ⟨x5, e6, h⟩ := bi_el h
            obtain ⟨x7, e8, h⟩ := bi_el h
            by_cases hc : x7 ≤ x5
            · rw [if_pos hc] at h
              exact (fr_12_findDraws_l233 a0 a2 a3 k0 n v1 (v6 + 1) μ _ h)
            · rw [if_neg hc] at h
              obtain ⟨x9, e10, h⟩ := bi_el h
              obtain ⟨μ11, e12, h⟩ := bi_el h
              have t0 := Fm_sto (mo_22 k0) e12
              exact (Fm_tr (t0) (fr_12_findDraws_l233 a0 a2 a3 k0 n (v1 + (-1)) (v6 + 1) μ11 _ h))
        · rw [if_neg hc] at h
          exact (fr_12_findDraws_l233 a0 a2 a3 k0 n v1 (v6 + 1) μ _ h)
      · rw [if_neg hc] at h
        obtain rfl := Option.some.inj h
        exact Fm_rf
set_option maxRecDepth 100000 in
theorem fr_12_findDraws_l74 (a0 : Nat) (k0 : kd a0 = 12) : ∀ (n : Nat) (v1 : Int32) (v2 : Int32) (v3 : Int32) (μ : mm) (z : mm), f_12_findDraws_l74 a0 n v1 v2 v3 μ = some z → Fm μ z
  | 0, _, _, _, _, _, h => by
    rw [f_12_findDraws_l74] at h
    cases h
  | n + 1, v1, v2, v3, μ, z, h => by
    rw [f_12_findDraws_l74] at h
    by_cases hc : 9 < v3
    · rw [if_pos hc] at h
      obtain rfl := Option.some.inj h
      exact Fm_rf
    · rw [if_neg hc] at h
      by_cases hc : v2 = 0
      · rw [if_pos hc] at h
        obtain rfl := Option.some.inj h
        exact Fm_rf
      · rw [if_neg hc] at h
        obtain ⟨z1, e2, h⟩ := bi_el h
        obtain ⟨z3, hz3, h⟩ := bi_el h
        obtain ⟨z4, e5, h⟩ := bi_el h
        have t0 := fr_12_findDraws_l153 a0 z3 v3 z1 v1 k0 FU v1 0 μ _ e5
        obtain ⟨z6, e7, h⟩ := bi_el h
        have t1 := fr_12_findDraws_l233 a0 z3 v3 k0 FU z4.1 0 z4.2 _ e7
        exact (Fm_tr (t0) (Fm_tr (t1) (fr_12_findDraws_l74 a0 k0 n z6.1 z3 (v3 + 1) z6.2 _ h)))
set_option maxRecDepth 100000 in
theorem fr_12_findDraws  {a0 : Nat} {μ : mm} {r : mm} (h : f_12_findDraws a0 μ = some r) (k0 : kd a0 = 12) : Fm μ r := by
  unfold f_12_findDraws at h
  obtain ⟨z1, e2, h⟩ := bi_el h
  have t0 := fr_12_findDraws_l2 a0 k0 FU 0 μ _ e2
  obtain ⟨x3, e4, h⟩ := bi_el h
  obtain ⟨z5, e6, h⟩ := bi_el h
  have t1 := fr_12_findDraws_l74 a0 k0 FU x3 1 0 z1 _ e6
  obtain rfl := Option.some.inj h
  exact (Fm_tr (t0) (t1))
set_option maxRecDepth 100000 in
theorem fr_12_share_l6 (a0 : Nat) (k0 : kd a0 = 12) : ∀ (n : Nat) (v1 : Int32) (μ : mm) (z : mm), f_12_share_l6 a0 n v1 μ = some z → Fm μ z
  | 0, _, _, _, h => by
    rw [f_12_share_l6] at h
    cases h
  | n + 1, v1, μ, z, h => by
    rw [f_12_share_l6] at h
    obtain ⟨x1, e2, h⟩ := bi_el h
    by_cases hc : x1 ≤ v1
    · rw [if_pos hc] at h
      obtain rfl := Option.some.inj h
      exact Fm_rf
    · rw [if_neg hc] at h
      obtain ⟨x4, e3, h⟩ := bi_el h
      obtain ⟨z9, hz9, h⟩ := bi_el h
      have tzz9 : Fm μ z9.2 := by
        clear h
        have h := hz9
        clear hz9
        by_cases hc : x4 = 1
        · rw [if_pos hc] at h
          obtain rfl := Option.some.inj h
          exact Fm_rf
        · rw [if_neg hc] at h
          obtain ⟨x5, e6, h⟩ := bi_el h
          obtain ⟨z8, e7, h⟩ := bi_el h
          have t0 := fr_12_relief e7 k0
          obtain rfl := Option.some.inj h
          exact (t0)
      obtain ⟨μ10, e11, h⟩ := bi_el h
      have t1 := Fm_sto (mo_23 k0) e11
      exact (Fm_tr (tzz9) (Fm_tr (t1) (fr_12_share_l6 a0 k0 n (v1 + 1) μ10 _ h)))
set_option maxRecDepth 100000 in
theorem fr_12_share_l58 (a0 : Nat) (k0 : kd a0 = 12) : ∀ (n : Nat) (v1 : Int32) (μ : mm) (z : mm), f_12_share_l58 a0 n v1 μ = some z → Fm μ z
  | 0, _, _, _, h => by
    rw [f_12_share_l58] at h
    cases h
  | n + 1, v1, μ, z, h => by
    rw [f_12_share_l58] at h
    obtain ⟨x1, e2, h⟩ := bi_el h
    by_cases hc : x1 ≤ v1
    · rw [if_pos hc] at h
      obtain rfl := Option.some.inj h
      exact Fm_rf
    · rw [if_neg hc] at h
      obtain ⟨x3, e4, h⟩ := bi_el h
      obtain ⟨x5, e6, h⟩ := bi_el h
      obtain ⟨μ7, e8, h⟩ := bi_el h
      have t0 := Fm_sto (mo_0 k0) e8
      obtain ⟨x9, e10, h⟩ := bi_el h
      obtain ⟨x11, e12, h⟩ := bi_el h
      obtain ⟨μ13, e14, h⟩ := bi_el h
      have t1 := Fm_sto (mo_0 k0) e14
      exact (Fm_tr (t0) (Fm_tr (t1) (fr_12_share_l58 a0 k0 n (v1 + 1) μ13 _ h)))
set_option maxRecDepth 100000 in
theorem fr_12_share  {a0 : Nat} {μ : mm} {r : mm} (h : f_12_share a0 μ = some r) (k0 : kd a0 = 12) : Fm μ r := by
  unfold f_12_share at h
  obtain ⟨μ2, e1, h⟩ := bi_el h
  have t0 := fr_12_findDraws e1 k0
  obtain ⟨z3, e4, h⟩ := bi_el h
  have t1 := fr_12_share_l6 a0 k0 FU 0 μ2 _ e4
  obtain ⟨z5, e6, h⟩ := bi_el h
  have t2 := fr_12_share_l58 a0 k0 FU 0 z3 _ e6
  obtain rfl := Option.some.inj h
  exact (Fm_tr (t0) (Fm_tr (t1) (t2)))
set_option maxRecDepth 100000 in
theorem fr_12_valleyGoes_l18 (a0 : Nat) (a1 : Int32) (k0 : kd a0 = 12) : ∀ (n : Nat) (v2 : Int32) (μ : mm) (z : mm), f_12_valleyGoes_l18 a0 a1 n v2 μ = some z → Fm μ z
  | 0, _, _, _, h => by
    rw [f_12_valleyGoes_l18] at h
    cases h
  | n + 1, v2, μ, z, h => by
    rw [f_12_valleyGoes_l18] at h
    obtain ⟨x1, e2, h⟩ := bi_el h
    by_cases hc : x1 ≤ v2
    · rw [if_pos hc] at h
      obtain rfl := Option.some.inj h
      exact Fm_rf
    · rw [if_neg hc] at h
      obtain ⟨x4, e3, h⟩ := bi_el h
      by_cases hc : x4 = 0
      · rw [if_pos hc] at h
        obtain ⟨μ6, e5, h⟩ := bi_el h
        have t0 := fr_12_eats e5 k0
        exact (Fm_tr (t0) (fr_12_valleyGoes_l18 a0 a1 k0 n (v2 + 1) μ6 _ h))
      · rw [if_neg hc] at h
        exact (fr_12_valleyGoes_l18 a0 a1 k0 n (v2 + 1) μ _ h)
set_option maxRecDepth 100000 in
theorem fr_12_valleyGoes_l53 (a0 : Nat) (k0 : kd a0 = 12) : ∀ (n : Nat) (v2 : Int32) (μ : mm) (z : mm), f_12_valleyGoes_l53 a0 n v2 μ = some z → Fm μ z
  | 0, _, _, _, h => by
    rw [f_12_valleyGoes_l53] at h
    cases h
  | n + 1, v2, μ, z, h => by
    rw [f_12_valleyGoes_l53] at h
    obtain ⟨x1, e2, h⟩ := bi_el h
    by_cases hc : x1 ≤ v2
    · rw [if_pos hc] at h
      obtain rfl := Option.some.inj h
      exact Fm_rf
    · rw [if_neg hc] at h
      obtain ⟨x4, e3, h⟩ := bi_el h
      obtain ⟨z7, hz7, h⟩ := bi_el h
      obtain ⟨μ8, e9, h⟩ := bi_el h
      have t0 := Fm_sto (mo_0 k0) e9
      exact (Fm_tr (t0) (fr_12_valleyGoes_l53 a0 k0 n (v2 + 1) μ8 _ h))
set_option maxRecDepth 100000 in
theorem fr_12_valleyGoes  {a0 : Nat} {a1 : Int32} {μ : mm} {r : mm} (h : f_12_valleyGoes a0 a1 μ = some r) (k0 : kd a0 = 12) : Fm μ r := by
  unfold f_12_valleyGoes at h
  obtain ⟨x1, e2, h⟩ := bi_el h
  obtain ⟨z5, hz5, h⟩ := bi_el h
  have tzz5 : Fm μ z5 := by
    clear h
    have h := hz5
    clear hz5
    by_cases hc : (x1 - x1 / 7 * 7) = 0
    · rw [if_pos hc] at h
      obtain ⟨μ4, e3, h⟩ := bi_el h
      have t0 := fr_12_share e3 k0
      obtain rfl := Option.some.inj h
      exact (t0)
    · rw [if_neg hc] at h
      obtain rfl := Option.some.inj h
      exact Fm_rf
  obtain ⟨z6, e7, h⟩ := bi_el h
  have t1 := fr_12_valleyGoes_l18 a0 a1 k0 FU 0 z5 _ e7
  obtain ⟨z8, e9, h⟩ := bi_el h
  have t2 := fr_12_valleyGoes_l53 a0 k0 FU 0 z6 _ e9
  obtain rfl := Option.some.inj h
  exact (Fm_tr (tzz5) (Fm_tr (t1) (t2)))
set_option maxRecDepth 100000 in
theorem fr_12_worksGo_l27 (a0 : Nat) (a1 : Int32) (k0 : kd a0 = 12) : ∀ (n : Nat) (v2 : Int32) (v3 : Int32) (μ : mm) (z : Int32 × mm), f_12_worksGo_l27 a0 a1 n v2 v3 μ = some z → Fm μ z.2
  | 0, _, _, _, _, h => by
    rw [f_12_worksGo_l27] at h
    cases h
  | n + 1, v2, v3, μ, z, h => by
    rw [f_12_worksGo_l27] at h
    obtain ⟨x1, e2, h⟩ := bi_el h
    by_cases hc : x1 ≤ v3
    · rw [if_pos hc] at h
      obtain rfl := Option.some.inj h
      exact Fm_rf
    · rw [if_neg hc] at h
      by_cases hc : a1 = 0
      · rw [if_pos hc] at h
        obtain rfl := Option.some.inj h
        exact Fm_rf
      · rw [if_neg hc] at h
        obtain ⟨x3, e4, h⟩ := bi_el h
        obtain ⟨x5, e6, h⟩ := bi_el h
        obtain ⟨x7, e8, h⟩ := bi_el h
        by_cases hc : x3 = x7
        · rw [if_pos hc] at h
          obtain ⟨x13, e14, h⟩ := bi_el h
          obtain ⟨μ15, e16, h⟩ := bi_el h
          have t0 := Fm_sto (mo_0 k0) e16
          exact (Fm_tr (t0) (fr_12_worksGo_l27 a0 a1 k0 n v2 (v3 + 1) μ15 _ h))
        · rw [if_neg hc] at h
          obtain ⟨μ9, e10, h⟩ := bi_el h
          have t0 := Fm_sto (mo_0 k0) e10
          obtain ⟨μ11, e12, h⟩ := bi_el h
          have t1 := Fm_sto (mo_0 k0) e12
          exact (Fm_tr (t0) (Fm_tr (t1) (fr_12_worksGo_l27 a0 a1 k0 n (v2 + 1) (v3 + 1) μ11 _ h)))
set_option maxRecDepth 100000 in
theorem fr_12_worksGo  {a0 : Nat} {a1 : Int32} {μ : mm} {r : mm} (h : f_12_worksGo a0 a1 μ = some r) (k0 : kd a0 = 12) : Fm μ r := by
  unfold f_12_worksGo at h
  obtain ⟨x1, e2, h⟩ := bi_el h
  obtain ⟨x3, e4, h⟩ := bi_el h
  obtain ⟨μ5, e6, h⟩ := bi_el h
  have t0 := Fm_sto (mo_0 k0) e6
  obtain ⟨z7, e8, h⟩ := bi_el h
  have t1 := fr_12_worksGo_l27 a0 a1 k0 FU 0 0 μ5 _ e8
  obtain ⟨z11, hz11, h⟩ := bi_el h
  obtain ⟨μ12, e13, h⟩ := bi_el h
  have t2 := Fm_sto (mo_0 k0) e13
  obtain rfl := Option.some.inj h
  exact (Fm_tr (t0) (Fm_tr (t1) (t2)))
set_option maxRecDepth 100000 in
theorem fr_12_days_l31 (a0 : Nat) (a1 : Int32) (k0 : kd a0 = 12) : ∀ (n : Nat) (v2 : Int32) (μ : mm) (z : mm), f_12_days_l31 a0 a1 n v2 μ = some z → Fm μ z
  | 0, _, _, _, h => by
    rw [f_12_days_l31] at h
    cases h
  | n + 1, v2, μ, z, h => by
    rw [f_12_days_l31] at h
    by_cases hc : a1 ≤ v2
    · rw [if_pos hc] at h
      obtain rfl := Option.some.inj h
      exact Fm_rf
    · rw [if_neg hc] at h
      obtain ⟨x1, e2, h⟩ := bi_el h
      obtain ⟨μ3, e4, h⟩ := bi_el h
      have t0 := Fm_sto (mo_0 k0) e4
      obtain ⟨μ6, e5, h⟩ := bi_el h
      have t1 := fr_12_pitsGo e5 k0
      obtain ⟨μ8, e7, h⟩ := bi_el h
      have t2 := fr_12_valleyGoes e7 k0
      obtain ⟨μ10, e9, h⟩ := bi_el h
      have t3 := fr_12_worksGo e9 k0
      exact (Fm_tr (t0) (Fm_tr (t1) (Fm_tr (t2) (Fm_tr (t3) (fr_12_days_l31 a0 a1 k0 n (v2 + 1) μ10 _ h)))))
set_option maxRecDepth 100000 in
theorem fr_12_days  {a0 : Nat} {a1 : Int32} {μ : mm} {r : Int32 × mm} (h : f_12_days a0 a1 μ = some r) (k0 : kd a0 = 12) : Fm μ r.2 := by
  unfold f_12_days at h
  obtain ⟨x2, e1, h⟩ := bi_el h
  by_cases hc : x2 = 0
  · rw [if_pos hc] at h
    obtain rfl := Option.some.inj h
    exact Fm_rf
  · rw [if_neg hc] at h
    obtain ⟨x3, e4, h⟩ := bi_el h
    by_cases hc : (x3 + a1) ≤ 999
    · rw [if_pos hc] at h
      obtain ⟨z5, e6, h⟩ := bi_el h
      have t0 := fr_12_days_l31 a0 a1 k0 FU 0 μ _ e6
      obtain ⟨x7, e8, h⟩ := bi_el h
      obtain rfl := Option.some.inj h
      exact (t0)
    · rw [if_neg hc] at h
      obtain rfl := Option.some.inj h
      exact Fm_rf
set_option maxRecDepth 100000 in
theorem fr_12_news  {a0 : Nat} {a1 : Int32} {a2 : Int32} {μ : mm} {r : Int32 × mm} (h : f_12_news a0 a1 a2 μ = some r) (k0 : kd a0 = 12) : Fm μ r.2 := by
  unfold f_12_news at h
  obtain ⟨x2, e1, h⟩ := bi_el h
  by_cases hc : x2 = 0
  · rw [if_pos hc] at h
    obtain rfl := Option.some.inj h
    exact Fm_rf
  · rw [if_neg hc] at h
    obtain ⟨x4, e3, h⟩ := bi_el h
    by_cases hc : x4 = 0
    · rw [if_pos hc] at h
      obtain rfl := Option.some.inj h
      exact Fm_rf
    · rw [if_neg hc] at h
      obtain ⟨x5, e6, h⟩ := bi_el h
      by_cases hc : x5 = 12
      · rw [if_pos hc] at h
        obtain rfl := Option.some.inj h
        exact Fm_rf
      · rw [if_neg hc] at h
        obtain ⟨μ7, e8, h⟩ := bi_el h
        have t0 := Fm_sto (mo_0 k0) e8
        obtain ⟨x9, e10, h⟩ := bi_el h
        obtain ⟨μ11, e12, h⟩ := bi_el h
        have t1 := Fm_sto (mo_0 k0) e12
        obtain ⟨μ13, e14, h⟩ := bi_el h
        have t2 := Fm_sto (mo_0 k0) e14
        obtain ⟨x15, e16, h⟩ := bi_el h
        obtain ⟨μ17, e18, h⟩ := bi_el h
        have t3 := Fm_sto (mo_0 k0) e18
        obtain rfl := Option.some.inj h
        exact (Fm_tr (t0) (Fm_tr (t1) (Fm_tr (t2) (t3))))
set_option maxRecDepth 100000 in
theorem fr_12_press  {a0 : Nat} {a1 : Int32} {μ : mm} {r : Int32 × mm} (h : f_12_press a0 a1 μ = some r) (k0 : kd a0 = 12) : Fm μ r.2 := by
  unfold f_12_press at h
  obtain ⟨z1, hz1, h⟩ := bi_el h
  obtain ⟨z2, hz2, h⟩ := bi_el h
  obtain ⟨x3, e4, h⟩ := bi_el h
  obtain ⟨μ5, e6, h⟩ := bi_el h
  have t0 := Fm_sto (mo_0 k0) e6
  by_cases hc : a1 = 0
  · rw [if_pos hc] at h
    obtain ⟨x7, e8, h⟩ := bi_el h
    obtain rfl := Option.some.inj h
    exact (t0)
  · rw [if_neg hc] at h
    obtain ⟨x9, e10, h⟩ := bi_el h
    obtain rfl := Option.some.inj h
    exact (t0)
set_option maxRecDepth 100000 in
theorem fr_12_paper  {a0 : Nat} {a1 : Int32} {μ : mm} {r : Int32 × mm} (h : f_12_paper a0 a1 μ = some r) (k0 : kd a0 = 12) : Fm μ r.2 := by
  unfold f_12_paper at h
  obtain ⟨x2, e1, h⟩ := bi_el h
  by_cases hc : x2 = 0
  · rw [if_pos hc] at h
    obtain rfl := Option.some.inj h
    exact Fm_rf
  · rw [if_neg hc] at h
    obtain ⟨x4, e3, h⟩ := bi_el h
    by_cases hc : x4 = 0
    · rw [if_pos hc] at h
      obtain ⟨x5, e6, h⟩ := bi_el h
      by_cases hc : x5 = 12
      · rw [if_pos hc] at h
        obtain rfl := Option.some.inj h
        exact Fm_rf
      · rw [if_neg hc] at h
        obtain ⟨μ7, e8, h⟩ := bi_el h
        have t0 := Fm_sto (mo_0 k0) e8
        obtain ⟨x9, e10, h⟩ := bi_el h
        obtain ⟨μ11, e12, h⟩ := bi_el h
        have t1 := Fm_sto (mo_0 k0) e12
        obtain ⟨μ13, e14, h⟩ := bi_el h
        have t2 := Fm_sto (mo_0 k0) e14
        obtain ⟨x15, e16, h⟩ := bi_el h
        obtain ⟨μ17, e18, h⟩ := bi_el h
        have t3 := Fm_sto (mo_0 k0) e18
        obtain rfl := Option.some.inj h
        exact (Fm_tr (t0) (Fm_tr (t1) (Fm_tr (t2) (t3))))
    · rw [if_neg hc] at h
      obtain rfl := Option.some.inj h
      exact Fm_rf
set_option maxRecDepth 100000 in
theorem fr_12_evict_b88  {a0 : Nat} {a1 : Int32} {μ : mm} {r : Int32 × mm} (h : f_12_evict_b88 a0 a1 μ = some r) (k0 : kd a0 = 12) : Fm μ r.2 := by
  unfold f_12_evict_b88 at h
  obtain ⟨μ1, e2, h⟩ := bi_el h
  have t0 := Fm_sto (mo_0 k0) e2
  obtain rfl := Option.some.inj h
  exact (t0)
set_option maxRecDepth 100000 in
theorem fr_12_evict  {a0 : Nat} {a1 : Int32} {μ : mm} {r : Int32 × mm} (h : f_12_evict a0 a1 μ = some r) (k0 : kd a0 = 12) : Fm μ r.2 := by
  unfold f_12_evict at h
  obtain ⟨x2, e1, h⟩ := bi_el h
  by_cases hc : x2 = 0
  · rw [if_pos hc] at h
    obtain rfl := Option.some.inj h
    exact Fm_rf
  · rw [if_neg hc] at h
    obtain ⟨x3, e4, h⟩ := bi_el h
    obtain ⟨x6, e5, h⟩ := bi_el h
    by_cases hc : x6 = 0
    · rw [if_pos hc] at h
      obtain ⟨x7, e8, h⟩ := bi_el h
      obtain ⟨x10, e9, h⟩ := bi_el h
      obtain ⟨x11, e12, h⟩ := bi_el h
      by_cases hc : x11 = 1
      · rw [if_pos hc] at h
        exact (fr_12_evict_b88  h k0)
      · rw [if_neg hc] at h
        obtain ⟨x13, e14, h⟩ := bi_el h
        by_cases hc : x13 ≤ (x7 + (7 * x10))
        · rw [if_pos hc] at h
          obtain ⟨x15, e16, h⟩ := bi_el h
          by_cases hc : (x7 + (7 * x10)) ≤ x15
          · rw [if_pos hc] at h
            obtain ⟨μ17, e18, h⟩ := bi_el h
            have t0 := Fm_sto (mo_0 k0) e18
            obtain ⟨μ19, e20, h⟩ := bi_el h
            have t1 := Fm_sto (mo_0 k0) e20
            obtain rfl := Option.some.inj h
            exact (Fm_tr (t0) (t1))
          · rw [if_neg hc] at h
            obtain rfl := Option.some.inj h
            exact Fm_rf
        · rw [if_neg hc] at h
          exact (fr_12_evict_b88  h k0)
    · rw [if_neg hc] at h
      obtain rfl := Option.some.inj h
      exact Fm_rf
set_option maxRecDepth 100000 in
theorem fr_12_draws  {a0 : Nat} {a1 : Int32} {μ : mm} {r : Int32 × mm} (h : f_12_draws a0 a1 μ = some r) (k0 : kd a0 = 12) : Fm μ r.2 := by
  unfold f_12_draws at h
  obtain ⟨x2, e1, h⟩ := bi_el h
  by_cases hc : x2 = 0
  · rw [if_pos hc] at h
    obtain rfl := Option.some.inj h
    exact Fm_rf
  · rw [if_neg hc] at h
    obtain ⟨μ4, e3, h⟩ := bi_el h
    have t0 := fr_12_findDraws e3 k0
    obtain ⟨x5, e6, h⟩ := bi_el h
    obtain rfl := Option.some.inj h
    exact (t0)
set_option maxRecDepth 100000 in
theorem fr_12_least  {a0 : Nat} {a1 : Int32} {μ : mm} {r : Int32 × mm} (h : f_12_least a0 a1 μ = some r) (k0 : kd a0 = 12) : Fm μ r.2 := by
  unfold f_12_least at h
  obtain ⟨x2, e1, h⟩ := bi_el h
  by_cases hc : x2 = 0
  · rw [if_pos hc] at h
    obtain rfl := Option.some.inj h
    exact Fm_rf
  · rw [if_neg hc] at h
    obtain ⟨μ4, e3, h⟩ := bi_el h
    have t0 := fr_12_findDraws e3 k0
    obtain ⟨z5, e6, h⟩ := bi_el h
    obtain ⟨x7, e8, h⟩ := bi_el h
    obtain rfl := Option.some.inj h
    exact (t0)
set_option maxRecDepth 100000 in
theorem fr_12_companyLasts_l2 (a0 : Nat) (a1 : Int32) (k0 : kd a0 = 12) : ∀ (n : Nat) (v2 : Int32) (μ : mm) (z : Int32 × mm), f_12_companyLasts_l2 a0 a1 n v2 μ = some z → Fm μ z.2
  | 0, _, _, _, h => by
    rw [f_12_companyLasts_l2] at h
    cases h
  | n + 1, v2, μ, z, h => by
    rw [f_12_companyLasts_l2] at h
    by_cases hc : 120 ≤ v2
    · rw [if_pos hc] at h
      obtain rfl := Option.some.inj h
      exact Fm_rf
    · rw [if_neg hc] at h
      obtain ⟨x1, e2, h⟩ := bi_el h
      by_cases hc : x1 ≤ 0
      · rw [if_pos hc] at h
        obtain rfl := Option.some.inj h
        exact Fm_rf
      · rw [if_neg hc] at h
        obtain ⟨x3, e4, h⟩ := bi_el h
        obtain ⟨μ5, e6, h⟩ := bi_el h
        have t0 := Fm_sto (mo_0 k0) e6
        obtain ⟨μ8, e7, h⟩ := bi_el h
        have t1 := fr_12_worksGo e7 k0
        exact (Fm_tr (t0) (Fm_tr (t1) (fr_12_companyLasts_l2 a0 a1 k0 n (v2 + 1) μ8 _ h)))
set_option maxRecDepth 100000 in
theorem fr_12_companyLasts  {a0 : Nat} {a1 : Int32} {μ : mm} {r : Int32 × mm} (h : f_12_companyLasts a0 a1 μ = some r) (k0 : kd a0 = 12) : Fm μ r.2 := by
  unfold f_12_companyLasts at h
  obtain ⟨z1, e2, h⟩ := bi_el h
  have t0 := fr_12_companyLasts_l2 a0 a1 k0 FU 0 μ _ e2
  obtain rfl := Option.some.inj h
  exact (t0)
set_option maxRecDepth 100000 in
theorem fr_12_valleyLasts_l2 (a0 : Nat) (k0 : kd a0 = 12) : ∀ (n : Nat) (v1 : Int32) (μ : mm) (z : Int32 × mm), f_12_valleyLasts_l2 a0 n v1 μ = some z → Fm μ z.2
  | 0, _, _, _, h => by
    rw [f_12_valleyLasts_l2] at h
    cases h
  | n + 1, v1, μ, z, h => by
    rw [f_12_valleyLasts_l2] at h
    by_cases hc : 120 ≤ v1
    · rw [if_pos hc] at h
      obtain rfl := Option.some.inj h
      exact Fm_rf
    · rw [if_neg hc] at h
      obtain ⟨x2, e1, h⟩ := bi_el h
      by_cases hc : x2 = 0
      · rw [if_pos hc] at h
        obtain ⟨x3, e4, h⟩ := bi_el h
        obtain ⟨μ5, e6, h⟩ := bi_el h
        have t0 := Fm_sto (mo_0 k0) e6
        obtain ⟨μ8, e7, h⟩ := bi_el h
        have t1 := fr_12_valleyGoes e7 k0
        exact (Fm_tr (t0) (Fm_tr (t1) (fr_12_valleyLasts_l2 a0 k0 n (v1 + 1) μ8 _ h)))
      · rw [if_neg hc] at h
        obtain rfl := Option.some.inj h
        exact Fm_rf
set_option maxRecDepth 100000 in
theorem fr_12_valleyLasts  {a0 : Nat} {μ : mm} {r : Int32 × mm} (h : f_12_valleyLasts a0 μ = some r) (k0 : kd a0 = 12) : Fm μ r.2 := by
  unfold f_12_valleyLasts at h
  obtain ⟨z1, e2, h⟩ := bi_el h
  have t0 := fr_12_valleyLasts_l2 a0 k0 FU 0 μ _ e2
  obtain rfl := Option.some.inj h
  exact (t0)
set_option maxRecDepth 100000 in
theorem fr_12_last_l13 (a0 : Nat) (a1 : Int32) (k0 : kd a0 = 12) : ∀ (n : Nat) (v2 : Int32) (μ : mm) (z : mm), f_12_last_l13 a0 a1 n v2 μ = some z → Fm μ z
  | 0, _, _, _, h => by
    rw [f_12_last_l13] at h
    cases h
  | n + 1, v2, μ, z, h => by
    rw [f_12_last_l13] at h
    by_cases hc : 912 ≤ v2
    · rw [if_pos hc] at h
      obtain rfl := Option.some.inj h
      exact Fm_rf
    · rw [if_neg hc] at h
      obtain ⟨x1, e2, h⟩ := bi_el h
      obtain ⟨μ3, e4, h⟩ := bi_el h
      have t0 := Fm_sto (mo_2 k0) e4
      exact (Fm_tr (t0) (fr_12_last_l13 a0 a1 k0 n (v2 + 1) μ3 _ h))
set_option maxRecDepth 100000 in
theorem fr_12_last_l122 (a0 : Nat) (a2 : Int32) (k0 : kd a0 = 12) : ∀ (n : Nat) (v3 : Int32) (μ : mm) (z : mm), f_12_last_l122 a0 a2 n v3 μ = some z → Fm μ z
  | 0, _, _, _, h => by
    rw [f_12_last_l122] at h
    cases h
  | n + 1, v3, μ, z, h => by
    rw [f_12_last_l122] at h
    by_cases hc : 912 ≤ v3
    · rw [if_pos hc] at h
      obtain rfl := Option.some.inj h
      exact Fm_rf
    · rw [if_neg hc] at h
      obtain ⟨x1, e2, h⟩ := bi_el h
      obtain ⟨μ3, e4, h⟩ := bi_el h
      have t0 := Fm_sto (mo_0 k0) e4
      exact (Fm_tr (t0) (fr_12_last_l122 a0 a2 k0 n (v3 + 1) μ3 _ h))
set_option maxRecDepth 100000 in
theorem fr_12_last  {a0 : Nat} {a1 : Int32} {μ : mm} {r : Int32 × mm} (h : f_12_last a0 a1 μ = some r) (k0 : kd a0 = 12) : Fm μ r.2 := by
  unfold f_12_last at h
  obtain ⟨x2, e1, h⟩ := bi_el h
  by_cases hc : x2 = 0
  · rw [if_pos hc] at h
    obtain rfl := Option.some.inj h
    exact Fm_rf
  · rw [if_neg hc] at h
    obtain ⟨z3, e4, h⟩ := bi_el h
    have t0 := fr_12_last_l13 a0 a1 k0 FU 0 μ _ e4
    obtain ⟨z9, hz9, h⟩ := bi_el h
    obtain ⟨μ10, e11, h⟩ := bi_el h
    have t1 := Fm_sto (mo_0 k0) e11
    obtain ⟨z16, hz16, h⟩ := bi_el h
    obtain ⟨μ17, e18, h⟩ := bi_el h
    have t2 := Fm_sto (mo_0 k0) e18
    obtain ⟨z24, hz24, h⟩ := bi_el h
    have tzz24 : Fm μ17 z24.2 := by
      clear h
      have h := hz24
      clear hz24
      by_cases hc : (a1 - a1 / 2 * 2) = 0
      · rw [if_pos hc] at h
        obtain ⟨z23, e22, h⟩ := bi_el h
        have t0 := fr_12_valleyLasts e22 k0
        obtain rfl := Option.some.inj h
        exact (t0)
      · rw [if_neg hc] at h
        obtain ⟨z19, hz19, h⟩ := bi_el h
        obtain ⟨z21, e20, h⟩ := bi_el h
        have t0 := fr_12_companyLasts e20 k0
        obtain rfl := Option.some.inj h
        exact (t0)
    obtain ⟨z25, e26, h⟩ := bi_el h
    have t4 := fr_12_last_l122 a0 z24.1 k0 FU 0 z24.2 _ e26
    obtain rfl := Option.some.inj h
    exact (Fm_tr (t0) (Fm_tr (t1) (Fm_tr (t2) (Fm_tr (tzz24) (t4)))))
set_option maxRecDepth 100000 in
theorem fr_12_post  {a0 : Nat} {a1 : Int32} {a2 : Int32} {μ : mm} {r : Int32 × mm} (h : f_12_post a0 a1 a2 μ = some r) (k0 : kd a0 = 12) : Fm μ r.2 := by
  unfold f_12_post at h
  obtain ⟨x2, e1, h⟩ := bi_el h
  by_cases hc : x2 = 0
  · rw [if_pos hc] at h
    obtain rfl := Option.some.inj h
    exact Fm_rf
  · rw [if_neg hc] at h
    obtain ⟨z3, hz3, h⟩ := bi_el h
    obtain ⟨x4, e5, h⟩ := bi_el h
    obtain ⟨z6, hz6, h⟩ := bi_el h
    by_cases hc : x4 = z6
    · rw [if_pos hc] at h
      obtain rfl := Option.some.inj h
      exact Fm_rf
    · rw [if_neg hc] at h
      obtain ⟨z7, hz7, h⟩ := bi_el h
      obtain ⟨μ8, e9, h⟩ := bi_el h
      have t0 := Fm_sto (mo_0 k0) e9
      obtain ⟨x10, e11, h⟩ := bi_el h
      obtain ⟨μ12, e13, h⟩ := bi_el h
      have t1 := Fm_sto (mo_0 k0) e13
      obtain rfl := Option.some.inj h
      exact (Fm_tr (t0) (t1))
set_option maxRecDepth 100000 in
theorem fr_12_findWatch_l24 (a0 : Nat) (a1 : Int32) (a2 : Int32) (k0 : kd a0 = 12) : ∀ (n : Nat) (v3 : Int32) (μ : mm) (z : mm), f_12_findWatch_l24 a0 a1 a2 n v3 μ = some z → Fm μ z
  | 0, _, _, _, h => by
    rw [f_12_findWatch_l24] at h
    cases h
  | n + 1, v3, μ, z, h => by
    rw [f_12_findWatch_l24] at h
    by_cases hc : a1 ≤ v3
    · rw [if_pos hc] at h
      obtain rfl := Option.some.inj h
      exact Fm_rf
    · rw [if_neg hc] at h
      obtain ⟨z1, hz1, h⟩ := bi_el h
      obtain ⟨z2, e3, h⟩ := bi_el h
      obtain ⟨μ4, e5, h⟩ := bi_el h
      have t0 := Fm_sto (mo_24 k0) e5
      exact (Fm_tr (t0) (fr_12_findWatch_l24 a0 a1 a2 k0 n (v3 + 1) μ4 _ h))
set_option maxRecDepth 100000 in
theorem fr_12_findWatch_l18 (a0 : Nat) (a1 : Int32) (k0 : kd a0 = 12) : ∀ (n : Nat) (v2 : Int32) (μ : mm) (z : mm), f_12_findWatch_l18 a0 a1 n v2 μ = some z → Fm μ z
  | 0, _, _, _, h => by
    rw [f_12_findWatch_l18] at h
    cases h
  | n + 1, v2, μ, z, h => by
    rw [f_12_findWatch_l18] at h
    by_cases hc : v2 < 0
    · rw [if_pos hc] at h
      obtain rfl := Option.some.inj h
      exact Fm_rf
    · rw [if_neg hc] at h
      obtain ⟨z1, e2, h⟩ := bi_el h
      have t0 := fr_12_findWatch_l24 a0 a1 v2 k0 FU 0 μ _ e2
      exact (Fm_tr (t0) (fr_12_findWatch_l18 a0 a1 k0 n (v2 + (-1)) z1 _ h))
set_option maxRecDepth 100000 in
theorem fr_12_findWatch  {a0 : Nat} {μ : mm} {r : mm} (h : f_12_findWatch a0 μ = some r) (k0 : kd a0 = 12) : Fm μ r := by
  unfold f_12_findWatch at h
  obtain ⟨x1, e2, h⟩ := bi_el h
  obtain ⟨x3, e4, h⟩ := bi_el h
  obtain ⟨z5, e6, h⟩ := bi_el h
  have t0 := fr_12_findWatch_l18 a0 (1 <<< (x1 &&& 31)) k0 FU x3 μ _ e6
  obtain rfl := Option.some.inj h
  exact (t0)
set_option maxRecDepth 100000 in
theorem fr_12_watch_l103 (a0 : Nat) (a1 : Int32) (a2 : Int32) (a3 : Int32) (a4 : Int32) (k0 : kd a0 = 12) : ∀ (n : Nat) (v5 : Int32) (μ : mm) (z : mm), f_12_watch_l103 a0 a1 a2 a3 a4 n v5 μ = some z → Fm μ z
  | 0, _, _, _, h => by
    rw [f_12_watch_l103] at h
    cases h
  | n + 1, v5, μ, z, h => by
    rw [f_12_watch_l103] at h
    by_cases hc : v5 < 0
    · rw [if_pos hc] at h
      obtain rfl := Option.some.inj h
      exact Fm_rf
    · rw [if_neg hc] at h
      obtain ⟨z7, hz7, h⟩ := bi_el h
      obtain ⟨z10, hz10, h⟩ := bi_el h
      obtain ⟨μ11, e12, h⟩ := bi_el h
      have t0 := Fm_sto (mo_25 k0) e12
      exact (Fm_tr (t0) (fr_12_watch_l103 a0 a1 a2 a3 a4 k0 n (v5 + (-1)) μ11 _ h))
set_option maxRecDepth 100000 in
theorem fr_12_watch_l71 (a0 : Nat) (a1 : Int32) (a3 : Int32) (k0 : kd a0 = 12) : ∀ (n : Nat) (v2 : Int32) (v4 : Int32) (μ : mm) (z : mm), f_12_watch_l71 a0 a1 a3 n v2 v4 μ = some z → Fm μ z
  | 0, _, _, _, _, h => by
    rw [f_12_watch_l71] at h
    cases h
  | n + 1, v2, v4, μ, z, h => by
    rw [f_12_watch_l71] at h
    obtain ⟨x1, e2, h⟩ := bi_el h
    by_cases hc : x1 ≤ v4
    · rw [if_pos hc] at h
      obtain rfl := Option.some.inj h
      exact Fm_rf
    · rw [if_neg hc] at h
      obtain ⟨μ3, e4, h⟩ := bi_el h
      have t0 := Fm_sto (mo_25 k0) e4
      obtain ⟨x5, e6, h⟩ := bi_el h
      obtain ⟨z7, e8, h⟩ := bi_el h
      have t1 := fr_12_watch_l103 a0 a1 v2 a3 v4 k0 FU (x5 - 1) μ3 _ e8
      obtain ⟨x9, e10, h⟩ := bi_el h
      by_cases hc : x9 < 0
      · rw [if_pos hc] at h
        exact (Fm_tr (t0) (Fm_tr (t1) (fr_12_watch_l71 a0 a1 a3 k0 n v2 (v4 + 1) z7 _ h)))
      · rw [if_neg hc] at h
        obtain ⟨x11, e12, h⟩ := bi_el h
        obtain ⟨μ13, e14, h⟩ := bi_el h
        have t2 := Fm_sto (mo_6 k0) e14
        obtain ⟨x15, e16, h⟩ := bi_el h
        obtain ⟨μ17, e18, h⟩ := bi_el h
        have t3 := Fm_sto (mo_6 k0) e18
        obtain ⟨μ19, e20, h⟩ := bi_el h
        have t4 := Fm_pf (mo_kd k0) e20
        exact (Fm_tr (t0) (Fm_tr (t1) (Fm_tr (t2) (Fm_tr (t3) (Fm_tr (t4) (fr_12_watch_l71 a0 a1 a3 k0 n (v2 ^^^ (1 <<< (x11 &&& 31))) (v4 + 1) μ19 _ h))))))
set_option maxRecDepth 100000 in
theorem fr_12_watch_l278 (a0 : Nat) (a1 : Int32) (a3 : Int32) (k0 : kd a0 = 12) : ∀ (n : Nat) (v4 : Int32) (μ : mm) (z : mm), f_12_watch_l278 a0 a1 a3 n v4 μ = some z → Fm μ z
  | 0, _, _, _, h => by
    rw [f_12_watch_l278] at h
    cases h
  | n + 1, v4, μ, z, h => by
    rw [f_12_watch_l278] at h
    by_cases hc : (2 * (μ a0 8)) ≤ v4
    · rw [if_pos hc] at h
      obtain rfl := Option.some.inj h
      exact Fm_rf
    · rw [if_neg hc] at h
      obtain ⟨x1, e2, h⟩ := bi_el h
      obtain ⟨μ3, e4, h⟩ := bi_el h
      have t0 := Fm_sto (mo_7 k0) e4
      exact (Fm_tr (t0) (fr_12_watch_l278 a0 a1 a3 k0 n (v4 + 1) μ3 _ h))
set_option maxRecDepth 100000 in
theorem fr_12_watch_b30  {a0 : Nat} {a1 : Int32} {μ : mm} {r : Int32 × mm} (h : f_12_watch_b30 a0 a1 μ = some r) (k0 : kd a0 = 12) : Fm μ r.2 := by
  unfold f_12_watch_b30 at h
  obtain ⟨μ2, e1, h⟩ := bi_el h
  have t0 := fr_12_findWatch e1 k0
  obtain ⟨x3, e4, h⟩ := bi_el h
  obtain ⟨x5, e6, h⟩ := bi_el h
  by_cases hc : x5 < 100000
  · rw [if_pos hc] at h
    obtain ⟨μ7, e8, h⟩ := bi_el h
    have t1 := Fm_pf (mo_kd k0) e8
    obtain ⟨z9, e10, h⟩ := bi_el h
    have t2 := fr_12_watch_l71 a0 a1 x5 k0 FU ((1 <<< (x3 &&& 31)) - 1) 0 μ7 _ e10
    obtain ⟨μ11, e12, h⟩ := bi_el h
    have t3 := Fm_pf (mo_kd k0) e12
    obtain ⟨z13, e14, h⟩ := bi_el h
    have t4 := fr_12_watch_l278 a0 a1 x5 k0 FU 0 μ11 _ e14
    by_cases hc : a1 = 0
    · rw [if_pos hc] at h
      obtain rfl := Option.some.inj h
      exact (Fm_tr (t0) (Fm_tr (t1) (Fm_tr (t2) (Fm_tr (t3) (t4)))))
    · rw [if_neg hc] at h
      by_cases hc : a1 = 1
      · rw [if_pos hc] at h
        obtain rfl := Option.some.inj h
        exact (Fm_tr (t0) (Fm_tr (t1) (Fm_tr (t2) (Fm_tr (t3) (t4)))))
      · rw [if_neg hc] at h
        obtain ⟨x15, e16, h⟩ := bi_el h
        obtain rfl := Option.some.inj h
        exact (Fm_tr (t0) (Fm_tr (t1) (Fm_tr (t2) (Fm_tr (t3) (t4)))))
  · rw [if_neg hc] at h
    obtain rfl := Option.some.inj h
    exact (t0)
set_option maxRecDepth 100000 in
theorem fr_12_watch  {a0 : Nat} {a1 : Int32} {μ : mm} {r : Int32 × mm} (h : f_12_watch a0 a1 μ = some r) (k0 : kd a0 = 12) : Fm μ r.2 := by
  unfold f_12_watch at h
  obtain ⟨x2, e1, h⟩ := bi_el h
  by_cases hc : x2 = 0
  · rw [if_pos hc] at h
    by_cases hc : a1 < 10
    · rw [if_pos hc] at h
      obtain rfl := Option.some.inj h
      exact Fm_rf
    · rw [if_neg hc] at h
      obtain ⟨x4, e3, h⟩ := bi_el h
      by_cases hc : x4 = 0
      · rw [if_pos hc] at h
        obtain rfl := Option.some.inj h
        exact Fm_rf
      · rw [if_neg hc] at h
        exact (fr_12_watch_b30  h k0)
  · rw [if_neg hc] at h
    exact (fr_12_watch_b30  h k0)
set_option maxRecDepth 100000 in
theorem fr_12_alterRow  {a0 : Nat} {a1 : Int32} {a2 : Int32} {a3 : Int32} {μ : mm} {r : Int32 × mm} (h : f_12_alterRow a0 a1 a2 a3 μ = some r) (k0 : kd a0 = 12) : Fm μ r.2 := by
  unfold f_12_alterRow at h
  obtain ⟨x2, e1, h⟩ := bi_el h
  by_cases hc : x2 = 0
  · rw [if_pos hc] at h
    obtain rfl := Option.some.inj h
    exact Fm_rf
  · rw [if_neg hc] at h
    obtain ⟨x3, e4, h⟩ := bi_el h
    obtain ⟨μ5, e6, h⟩ := bi_el h
    have t0 := Fm_sto (mo_6 k0) e6
    obtain rfl := Option.some.inj h
    exact (t0)
set_option maxRecDepth 100000 in
theorem fr_12_dropRow  {a0 : Nat} {μ : mm} {r : Int32 × mm} (h : f_12_dropRow a0 μ = some r) (k0 : kd a0 = 12) : Fm μ r.2 := by
  unfold f_12_dropRow at h
  by_cases hc : (μ a0 8) = 0
  · rw [if_pos hc] at h
    obtain rfl := Option.some.inj h
    exact Fm_rf
  · rw [if_neg hc] at h
    obtain ⟨μ1, e2, h⟩ := bi_el h
    have t0 := Fm_pf (mo_kd k0) e2
    obtain rfl := Option.some.inj h
    exact (t0)
set_option maxRecDepth 100000 in
theorem fr_12_clause_l44 (a0 : Nat) (a2 : Int32) (k0 : kd a0 = 12) : ∀ (n : Nat) (v3 : Int32) (μ : mm) (z : mm), f_12_clause_l44 a0 a2 n v3 μ = some z → Fm μ z
  | 0, _, _, _, h => by
    rw [f_12_clause_l44] at h
    cases h
  | n + 1, v3, μ, z, h => by
    rw [f_12_clause_l44] at h
    by_cases hc : 4 ≤ v3
    · rw [if_pos hc] at h
      obtain rfl := Option.some.inj h
      exact Fm_rf
    · rw [if_neg hc] at h
      obtain ⟨μ1, e2, h⟩ := bi_el h
      have t0 := Fm_sto (mo_0 k0) e2
      exact (Fm_tr (t0) (fr_12_clause_l44 a0 a2 k0 n (v3 + 1) μ1 _ h))
set_option maxRecDepth 100000 in
theorem fr_12_clause  {a0 : Nat} {a1 : Int32} {μ : mm} {r : Int32 × mm} (h : f_12_clause a0 a1 μ = some r) (k0 : kd a0 = 12) : Fm μ r.2 := by
  unfold f_12_clause at h
  obtain ⟨x2, e1, h⟩ := bi_el h
  by_cases hc : x2 = 0
  · rw [if_pos hc] at h
    obtain rfl := Option.some.inj h
    exact Fm_rf
  · rw [if_neg hc] at h
    obtain ⟨x3, e4, h⟩ := bi_el h
    by_cases hc : x3 = 9
    · rw [if_pos hc] at h
      obtain rfl := Option.some.inj h
      exact Fm_rf
    · rw [if_neg hc] at h
      obtain ⟨μ5, e6, h⟩ := bi_el h
      have t0 := Fm_sto (mo_0 k0) e6
      obtain ⟨z7, e8, h⟩ := bi_el h
      have t1 := fr_12_clause_l44 a0 x3 k0 FU 0 μ5 _ e8
      obtain ⟨x9, e10, h⟩ := bi_el h
      obtain ⟨μ11, e12, h⟩ := bi_el h
      have t2 := Fm_sto (mo_0 k0) e12
      obtain rfl := Option.some.inj h
      exact (Fm_tr (t0) (Fm_tr (t1) (t2)))
set_option maxRecDepth 100000 in
theorem fr_12_worth  {a0 : Nat} {a1 : Int32} {a2 : Int32} {a3 : Int32} {μ : mm} {r : Int32 × mm} (h : f_12_worth a0 a1 a2 a3 μ = some r) (k0 : kd a0 = 12) : Fm μ r.2 := by
  unfold f_12_worth at h
  obtain ⟨x2, e1, h⟩ := bi_el h
  by_cases hc : x2 = 0
  · rw [if_pos hc] at h
    obtain rfl := Option.some.inj h
    exact Fm_rf
  · rw [if_neg hc] at h
    obtain ⟨x4, e3, h⟩ := bi_el h
    by_cases hc : x4 = 0
    · rw [if_pos hc] at h
      obtain rfl := Option.some.inj h
      exact Fm_rf
    · rw [if_neg hc] at h
      obtain ⟨x6, e5, h⟩ := bi_el h
      by_cases hc : x6 = 0
      · rw [if_pos hc] at h
        obtain rfl := Option.some.inj h
        exact Fm_rf
      · rw [if_neg hc] at h
        obtain ⟨x7, e8, h⟩ := bi_el h
        obtain ⟨μ9, e10, h⟩ := bi_el h
        have t0 := Fm_sto (mo_0 k0) e10
        obtain rfl := Option.some.inj h
        exact (t0)
set_option maxRecDepth 100000 in
theorem fr_12_say_l5 (a0 : Nat) (a1 : Int32) (a2 : Int32) (k0 : kd a0 = 12) : ∀ (n : Nat) (v3 : Int32) (v4 : Int32) (μ : mm) (z : Int32 × mm), f_12_say_l5 a0 a1 a2 n v3 v4 μ = some z → Fm μ z.2
  | 0, _, _, _, _, h => by
    rw [f_12_say_l5] at h
    cases h
  | n + 1, v3, v4, μ, z, h => by
    rw [f_12_say_l5] at h
    obtain ⟨x1, e2, h⟩ := bi_el h
    by_cases hc : x1 ≤ v4
    · rw [if_pos hc] at h
      obtain rfl := Option.some.inj h
      exact Fm_rf
    · rw [if_neg hc] at h
      obtain ⟨x4, e3, h⟩ := bi_el h
      obtain ⟨z7, hz7, h⟩ := bi_el h
      obtain ⟨x9, e8, h⟩ := bi_el h
      by_cases hc : x9 = 0
      · rw [if_pos hc] at h
        obtain ⟨z11, e10, h⟩ := bi_el h
        have t0 := fr_12_mayVote e10 k0
        by_cases hc : z11.1 = 0
        · rw [if_pos hc] at h
          exact (Fm_tr (t0) (fr_12_say_l5 a0 a1 a2 k0 n (v3 + 0) (v4 + 1) z11.2 _ h))
        · rw [if_neg hc] at h
          by_cases hc : z7 = a2
          · rw [if_pos hc] at h
            exact (Fm_tr (t0) (fr_12_say_l5 a0 a1 a2 k0 n (v3 + 1) (v4 + 1) z11.2 _ h))
          · rw [if_neg hc] at h
            exact (Fm_tr (t0) (fr_12_say_l5 a0 a1 a2 k0 n (v3 + 0) (v4 + 1) z11.2 _ h))
      · rw [if_neg hc] at h
        exact (fr_12_say_l5 a0 a1 a2 k0 n (v3 + 0) (v4 + 1) μ _ h)
set_option maxRecDepth 100000 in
theorem fr_12_say  {a0 : Nat} {a1 : Int32} {a2 : Int32} {μ : mm} {r : Int32 × mm} (h : f_12_say a0 a1 a2 μ = some r) (k0 : kd a0 = 12) : Fm μ r.2 := by
  unfold f_12_say at h
  obtain ⟨z1, e2, h⟩ := bi_el h
  have t0 := fr_12_say_l5 a0 a1 a2 k0 FU 0 0 μ _ e2
  obtain rfl := Option.some.inj h
  exact (t0)
set_option maxRecDepth 100000 in
theorem fr_12_isCarried  {a0 : Nat} {a1 : Int32} {μ : mm} {r : Int32 × mm} (h : f_12_isCarried a0 a1 μ = some r) (k0 : kd a0 = 12) : Fm μ r.2 := by
  unfold f_12_isCarried at h
  obtain ⟨x2, e1, h⟩ := bi_el h
  obtain ⟨z4, e3, h⟩ := bi_el h
  have t0 := fr_12_say e3 k0
  obtain ⟨z6, e5, h⟩ := bi_el h
  have t1 := fr_12_say e5 k0
  obtain ⟨x8, e7, h⟩ := bi_el h
  obtain ⟨x9, e10, h⟩ := bi_el h
  by_cases hc : (100 * (z4.1 + z6.1)) < (x8 * x9)
  · rw [if_pos hc] at h
    obtain rfl := Option.some.inj h
    exact (Fm_tr (t0) (t1))
  · rw [if_neg hc] at h
    by_cases hc : z4.1 ≤ z6.1
    · rw [if_pos hc] at h
      obtain rfl := Option.some.inj h
      exact (Fm_tr (t0) (t1))
    · rw [if_neg hc] at h
      obtain rfl := Option.some.inj h
      exact (Fm_tr (t0) (t1))
set_option maxRecDepth 100000 in
theorem fr_12_ballot  {a0 : Nat} {a1 : Int32} {a2 : Int32} {μ : mm} {r : Int32 × mm} (h : f_12_ballot a0 a1 a2 μ = some r) (k0 : kd a0 = 12) : Fm μ r.2 := by
  unfold f_12_ballot at h
  by_cases hc : a1 < 0
  · rw [if_pos hc] at h
    obtain rfl := Option.some.inj h
    exact Fm_rf
  · rw [if_neg hc] at h
    obtain ⟨x1, e2, h⟩ := bi_el h
    by_cases hc : (1 <<< (x1 &&& 31)) ≤ a1
    · rw [if_pos hc] at h
      obtain rfl := Option.some.inj h
      exact Fm_rf
    · rw [if_neg hc] at h
      obtain ⟨x4, e3, h⟩ := bi_el h
      by_cases hc : x4 = 0
      · rw [if_pos hc] at h
        obtain rfl := Option.some.inj h
        exact Fm_rf
      · rw [if_neg hc] at h
        obtain ⟨x6, e5, h⟩ := bi_el h
        by_cases hc : a2 = 0
        · rw [if_pos hc] at h
          obtain ⟨z14, e13, h⟩ := bi_el h
          have t0 := fr_12_say e13 k0
          obtain rfl := Option.some.inj h
          exact (t0)
        · rw [if_neg hc] at h
          by_cases hc : a2 = 1
          · rw [if_pos hc] at h
            obtain ⟨z12, e11, h⟩ := bi_el h
            have t0 := fr_12_say e11 k0
            obtain rfl := Option.some.inj h
            exact (t0)
          · rw [if_neg hc] at h
            by_cases hc : a2 = 2
            · rw [if_pos hc] at h
              obtain ⟨z10, e9, h⟩ := bi_el h
              have t0 := fr_12_isCarried e9 k0
              by_cases hc : z10.1 = 0
              · rw [if_pos hc] at h
                obtain rfl := Option.some.inj h
                exact (t0)
              · rw [if_neg hc] at h
                obtain rfl := Option.some.inj h
                exact (t0)
            · rw [if_neg hc] at h
              by_cases hc : a2 = 3
              · rw [if_pos hc] at h
                obtain rfl := Option.some.inj h
                exact Fm_rf
              · rw [if_neg hc] at h
                obtain ⟨x8, e7, h⟩ := bi_el h
                obtain rfl := Option.some.inj h
                exact Fm_rf
set_option maxRecDepth 100000 in
theorem fr_12_offer_l5 (a0 : Nat) (k0 : kd a0 = 12) : ∀ (n : Nat) (v1 : Int32) (v2 : Int32) (μ : mm) (z : Int32 × mm), f_12_offer_l5 a0 n v1 v2 μ = some z → Fm μ z.2
  | 0, _, _, _, _, h => by
    rw [f_12_offer_l5] at h
    cases h
  | n + 1, v1, v2, μ, z, h => by
    rw [f_12_offer_l5] at h
    obtain ⟨x1, e2, h⟩ := bi_el h
    by_cases hc : (1 <<< (x1 &&& 31)) ≤ v2
    · rw [if_pos hc] at h
      obtain rfl := Option.some.inj h
      exact Fm_rf
    · rw [if_neg hc] at h
      by_cases hc : v1 = (-3)
      · rw [if_pos hc] at h
        obtain ⟨z4, e3, h⟩ := bi_el h
        have t0 := fr_12_isCarried e3 k0
        by_cases hc : z4.1 = 0
        · rw [if_pos hc] at h
          exact (Fm_tr (t0) (fr_12_offer_l5 a0 k0 n v1 (v2 + 1) z4.2 _ h))
        · rw [if_neg hc] at h
          exact (Fm_tr (t0) (fr_12_offer_l5 a0 k0 n v2 (v2 + 1) z4.2 _ h))
      · rw [if_neg hc] at h
        obtain ⟨x6, e5, h⟩ := bi_el h
        obtain ⟨x8, e7, h⟩ := bi_el h
        by_cases hc : x8 ≤ x6
        · rw [if_pos hc] at h
          exact (fr_12_offer_l5 a0 k0 n v1 (v2 + 1) μ _ h)
        · rw [if_neg hc] at h
          obtain ⟨z10, e9, h⟩ := bi_el h
          have t0 := fr_12_isCarried e9 k0
          by_cases hc : z10.1 = 0
          · rw [if_pos hc] at h
            exact (Fm_tr (t0) (fr_12_offer_l5 a0 k0 n v1 (v2 + 1) z10.2 _ h))
          · rw [if_neg hc] at h
            exact (Fm_tr (t0) (fr_12_offer_l5 a0 k0 n v2 (v2 + 1) z10.2 _ h))
set_option maxRecDepth 100000 in
theorem fr_12_offer  {a0 : Nat} {μ : mm} {r : Int32 × mm} (h : f_12_offer a0 μ = some r) (k0 : kd a0 = 12) : Fm μ r.2 := by
  unfold f_12_offer at h
  obtain ⟨z1, e2, h⟩ := bi_el h
  have t0 := fr_12_offer_l5 a0 k0 FU (-3) 0 μ _ e2
  obtain rfl := Option.some.inj h
  exact (t0)
set_option maxRecDepth 100000 in
theorem fr_12_sheet_l64 (a0 : Nat) (a1 : Int32) (k0 : kd a0 = 12) : ∀ (n : Nat) (v4 : Int32) (μ : mm) (z : mm), f_12_sheet_l64 a0 a1 n v4 μ = some z → Fm μ z
  | 0, _, _, _, h => by
    rw [f_12_sheet_l64] at h
    cases h
  | n + 1, v4, μ, z, h => by
    rw [f_12_sheet_l64] at h
    by_cases hc : 40 ≤ v4
    · rw [if_pos hc] at h
      obtain rfl := Option.some.inj h
      exact Fm_rf
    · rw [if_neg hc] at h
      obtain ⟨μ1, e2, h⟩ := bi_el h
      have t0 := Fm_sto (mo_28 k0) e2
      exact (Fm_tr (t0) (fr_12_sheet_l64 a0 a1 k0 n (v4 + 1) μ1 _ h))
set_option maxRecDepth 100000 in
theorem fr_12_sheet_b39  {a0 : Nat} {a1 : Int32} {a2 : Int32} {a3 : Int32} {μ : mm} {r : Int32 × mm} (h : f_12_sheet_b39 a0 a1 a2 a3 μ = some r) (k0 : kd a0 = 12) : Fm μ r.2 := by
  unfold f_12_sheet_b39 at h
  obtain ⟨μ1, e2, h⟩ := bi_el h
  have t0 := Fm_sto (mo_26 k0) e2
  obtain ⟨z3, hz3, h⟩ := bi_el h
  obtain ⟨μ4, e5, h⟩ := bi_el h
  have t1 := Fm_sto (mo_27 k0) e5
  obtain ⟨z6, e7, h⟩ := bi_el h
  have t2 := fr_12_sheet_l64 a0 a1 k0 FU 0 μ4 _ e7
  obtain rfl := Option.some.inj h
  exact (Fm_tr (t0) (Fm_tr (t1) (t2)))
set_option maxRecDepth 100000 in
theorem fr_12_sheet_b28  {a0 : Nat} {a1 : Int32} {a2 : Int32} {a3 : Int32} {μ : mm} {r : Int32 × mm} (h : f_12_sheet_b28 a0 a1 a2 a3 μ = some r) (k0 : kd a0 = 12) : Fm μ r.2 := by
  unfold f_12_sheet_b28 at h
  by_cases hc : a2 < 0
  · rw [if_pos hc] at h
    exact (fr_12_sheet_b39  h k0)
  · rw [if_neg hc] at h
    by_cases hc : 0 ≤ a3
    · rw [if_pos hc] at h
      exact (fr_12_sheet_b39  h k0)
    · rw [if_neg hc] at h
      obtain rfl := Option.some.inj h
      exact Fm_rf
set_option maxRecDepth 100000 in
theorem fr_12_sheet  {a0 : Nat} {a1 : Int32} {a2 : Int32} {a3 : Int32} {μ : mm} {r : Int32 × mm} (h : f_12_sheet a0 a1 a2 a3 μ = some r) (k0 : kd a0 = 12) : Fm μ r.2 := by
  unfold f_12_sheet at h
  obtain ⟨x2, e1, h⟩ := bi_el h
  by_cases hc : x2 = 0
  · rw [if_pos hc] at h
    obtain rfl := Option.some.inj h
    exact Fm_rf
  · rw [if_neg hc] at h
    obtain ⟨x4, e3, h⟩ := bi_el h
    by_cases hc : x4 = 0
    · rw [if_pos hc] at h
      obtain rfl := Option.some.inj h
      exact Fm_rf
    · rw [if_neg hc] at h
      by_cases hc : a2 < 0
      · rw [if_pos hc] at h
        exact (fr_12_sheet_b28  h k0)
      · rw [if_neg hc] at h
        by_cases hc : a3 ≤ 40
        · rw [if_pos hc] at h
          exact (fr_12_sheet_b28  h k0)
        · rw [if_neg hc] at h
          obtain rfl := Option.some.inj h
          exact Fm_rf
set_option maxRecDepth 100000 in
theorem fr_12_put  {a0 : Nat} {a1 : Int32} {a2 : Int32} {a3 : Int32} {μ : mm} {r : Int32 × mm} (h : f_12_put a0 a1 a2 a3 μ = some r) (k0 : kd a0 = 12) : Fm μ r.2 := by
  unfold f_12_put at h
  obtain ⟨x2, e1, h⟩ := bi_el h
  by_cases hc : x2 = 0
  · rw [if_pos hc] at h
    obtain rfl := Option.some.inj h
    exact Fm_rf
  · rw [if_neg hc] at h
    obtain ⟨x3, e4, h⟩ := bi_el h
    by_cases hc : 0 ≤ x3
    · rw [if_pos hc] at h
      obtain ⟨x5, e6, h⟩ := bi_el h
      obtain ⟨x8, e7, h⟩ := bi_el h
      by_cases hc : x8 = 0
      · rw [if_pos hc] at h
        obtain rfl := Option.some.inj h
        exact Fm_rf
      · rw [if_neg hc] at h
        obtain ⟨x9, e10, h⟩ := bi_el h
        obtain ⟨z15, hz15, h⟩ := bi_el h
        obtain ⟨μ16, e17, h⟩ := bi_el h
        have t0 := Fm_sto (mo_28 k0) e17
        obtain rfl := Option.some.inj h
        exact (t0)
    · rw [if_neg hc] at h
      obtain rfl := Option.some.inj h
      exact Fm_rf
set_option maxRecDepth 100000 in
theorem fr_12_comes  {a0 : Nat} {a1 : Int32} {a2 : Int32} {μ : mm} {r : Int32 × mm} (h : f_12_comes a0 a1 a2 μ = some r) (k0 : kd a0 = 12) : Fm μ r.2 := by
  unfold f_12_comes at h
  obtain ⟨x2, e1, h⟩ := bi_el h
  by_cases hc : x2 = 0
  · rw [if_pos hc] at h
    obtain rfl := Option.some.inj h
    exact Fm_rf
  · rw [if_neg hc] at h
    obtain ⟨x4, e3, h⟩ := bi_el h
    by_cases hc : x4 = 0
    · rw [if_pos hc] at h
      obtain ⟨x5, e6, h⟩ := bi_el h
      obtain ⟨x7, e8, h⟩ := bi_el h
      obtain ⟨x9, e10, h⟩ := bi_el h
      obtain ⟨x11, e12, h⟩ := bi_el h
      obtain ⟨x13, e14, h⟩ := bi_el h
      obtain ⟨z16, e15, h⟩ := bi_el h
      have t0 := fr_12_household e15 k0
      obtain rfl := Option.some.inj h
      exact (t0)
    · rw [if_neg hc] at h
      obtain rfl := Option.some.inj h
      exact Fm_rf
set_option maxRecDepth 100000 in
theorem fr_12_shelf  {a0 : Nat} {a1 : Int32} {a2 : Int32} {a3 : Int32} {μ : mm} {r : Int32 × mm} (h : f_12_shelf a0 a1 a2 a3 μ = some r) (k0 : kd a0 = 12) : Fm μ r.2 := by
  unfold f_12_shelf at h
  obtain ⟨z9, hz9, h⟩ := bi_el h
  obtain ⟨x11, e10, h⟩ := bi_el h
  by_cases hc : x11 = 0
  · rw [if_pos hc] at h
    obtain rfl := Option.some.inj h
    exact Fm_rf
  · rw [if_neg hc] at h
    obtain ⟨x13, e12, h⟩ := bi_el h
    by_cases hc : x13 = 0
    · rw [if_pos hc] at h
      obtain rfl := Option.some.inj h
      exact Fm_rf
    · rw [if_neg hc] at h
      by_cases hc : z9 = 0
      · rw [if_pos hc] at h
        obtain rfl := Option.some.inj h
        exact Fm_rf
      · rw [if_neg hc] at h
        obtain ⟨z16, hz16, h⟩ := bi_el h
        obtain ⟨z17, hz17, h⟩ := bi_el h
        obtain ⟨μ18, e19, h⟩ := bi_el h
        have t0 := Fm_sto (mo_29 k0) e19
        obtain ⟨z22, hz22, h⟩ := bi_el h
        obtain ⟨μ23, e24, h⟩ := bi_el h
        have t1 := Fm_sto (mo_30 k0) e24
        obtain ⟨z27, hz27, h⟩ := bi_el h
        obtain ⟨μ28, e29, h⟩ := bi_el h
        have t2 := Fm_sto (mo_31 k0) e29
        obtain rfl := Option.some.inj h
        exact (Fm_tr (t0) (Fm_tr (t1) (t2)))
set_option maxRecDepth 100000 in
theorem fr_12_began  {a0 : Nat} {a1 : Int32} {μ : mm} {r : mm} (h : f_12_began a0 a1 μ = some r) (k0 : kd a0 = 12) : Fm μ r := by
  unfold f_12_began at h
  by_cases hc : 30 ≤ (μ a0 33)
  · rw [if_pos hc] at h
    obtain rfl := Option.some.inj h
    exact Fm_rf
  · rw [if_neg hc] at h
    obtain ⟨μ1, e2, h⟩ := bi_el h
    have t0 := Fm_sto (mo_32 k0) e2
    obtain ⟨μ3, e4, h⟩ := bi_el h
    have t1 := Fm_pf (mo_kd k0) e4
    obtain rfl := Option.some.inj h
    exact (Fm_tr (t0) (t1))
set_option maxRecDepth 100000 in
theorem fr_12_dealt_b (rc : Nat → Nat → Int32 → Int32 → Int32 → mm → Option (Int32 × mm)) (hrc0 : ∀ {b0 : Nat} {x0 : Int32} {x1 : Int32} {μ : mm} {r : Int32 × mm}, rc 0 b0 x0 x1 0 μ = some r → kd b0 = 12 → Fm μ r.2) (hrc1 : ∀ {b0 : Nat} {x0 : Int32} {x1 : Int32} {x2 : Int32} {μ : mm} {r : Int32 × mm}, rc 1 b0 x0 x1 x2 μ = some r → kd b0 = 12 → Fm μ r.2) (hrc2 : ∀ {b0 : Nat} {x0 : Int32} {x1 : Int32} {x2 : Int32} {μ : mm} {r : Int32 × mm}, rc 2 b0 x0 x1 x2 μ = some r → kd b0 = 12 → Fm μ r.2)  {a0 : Nat} {a1 : Int32} {a2 : Int32} {μ : mm} {r : Int32 × mm} (h : f_12_dealt_b rc a0 a1 a2 μ = some r) (k0 : kd a0 = 12) : Fm μ r.2 := by
  unfold f_12_dealt_b at h
  obtain ⟨z2, e1, h⟩ := bi_el h
  have t0 := hrc1 e1 k0
  obtain rfl := Option.some.inj h
  exact (t0)
set_option maxRecDepth 100000 in
theorem fr_12_bodyFrom_b (rc : Nat → Nat → Int32 → Int32 → Int32 → mm → Option (Int32 × mm)) (hrc0 : ∀ {b0 : Nat} {x0 : Int32} {x1 : Int32} {μ : mm} {r : Int32 × mm}, rc 0 b0 x0 x1 0 μ = some r → kd b0 = 12 → Fm μ r.2) (hrc1 : ∀ {b0 : Nat} {x0 : Int32} {x1 : Int32} {x2 : Int32} {μ : mm} {r : Int32 × mm}, rc 1 b0 x0 x1 x2 μ = some r → kd b0 = 12 → Fm μ r.2) (hrc2 : ∀ {b0 : Nat} {x0 : Int32} {x1 : Int32} {x2 : Int32} {μ : mm} {r : Int32 × mm}, rc 2 b0 x0 x1 x2 μ = some r → kd b0 = 12 → Fm μ r.2)  {a0 : Nat} {a1 : Int32} {a2 : Int32} {a3 : Int32} {μ : mm} {r : Int32 × mm} (h : f_12_bodyFrom_b rc a0 a1 a2 a3 μ = some r) (k0 : kd a0 = 12) : Fm μ r.2 := by
  unfold f_12_bodyFrom_b at h
  obtain ⟨z1, e2, h⟩ := bi_el h
  obtain ⟨z4, e3, h⟩ := bi_el h
  have t0 := hrc2 e3 k0
  obtain rfl := Option.some.inj h
  exact (t0)
set_option maxRecDepth 100000 in
theorem fr_12_body_b (rc : Nat → Nat → Int32 → Int32 → Int32 → mm → Option (Int32 × mm)) (hrc0 : ∀ {b0 : Nat} {x0 : Int32} {x1 : Int32} {μ : mm} {r : Int32 × mm}, rc 0 b0 x0 x1 0 μ = some r → kd b0 = 12 → Fm μ r.2) (hrc1 : ∀ {b0 : Nat} {x0 : Int32} {x1 : Int32} {x2 : Int32} {μ : mm} {r : Int32 × mm}, rc 1 b0 x0 x1 x2 μ = some r → kd b0 = 12 → Fm μ r.2) (hrc2 : ∀ {b0 : Nat} {x0 : Int32} {x1 : Int32} {x2 : Int32} {μ : mm} {r : Int32 × mm}, rc 2 b0 x0 x1 x2 μ = some r → kd b0 = 12 → Fm μ r.2)  {a0 : Nat} {a1 : Int32} {a2 : Int32} {a3 : Int32} {μ : mm} {r : Int32 × mm} (h : f_12_body_b rc a0 a1 a2 a3 μ = some r) (k0 : kd a0 = 12) : Fm μ r.2 := by
  unfold f_12_body_b at h
  by_cases hs0 : ((4 * a1) + a2) = 0
  · rw [if_pos hs0] at h
    obtain ⟨μ2, e1, h⟩ := bi_el h
    have t0 := fr_12_began e1 k0
    obtain rfl := Option.some.inj h
    exact (t0)
  rw [if_neg hs0] at h
  by_cases hs1 : ((4 * a1) + a2) = 1
  · rw [if_pos hs1] at h
    obtain ⟨μ4, e3, h⟩ := bi_el h
    have t0 := fr_12_began e3 k0
    obtain ⟨z6, e5, h⟩ := bi_el h
    have t1 := hrc0 e5 k0
    obtain rfl := Option.some.inj h
    exact (Fm_tr (t0) (t1))
  rw [if_neg hs1] at h
  by_cases hs2 : ((4 * a1) + a2) = 2
  · rw [if_pos hs2] at h
    obtain ⟨μ8, e7, h⟩ := bi_el h
    have t0 := fr_12_began e7 k0
    obtain ⟨z10, e9, h⟩ := bi_el h
    have t1 := hrc0 e9 k0
    obtain rfl := Option.some.inj h
    exact (Fm_tr (t0) (t1))
  rw [if_neg hs2] at h
  by_cases hs3 : ((4 * a1) + a2) = 3
  · rw [if_pos hs3] at h
    obtain ⟨μ12, e11, h⟩ := bi_el h
    have t0 := fr_12_began e11 k0
    obtain ⟨z13, hz13, h⟩ := bi_el h
    obtain ⟨_, q16, h⟩ := bi_el h
    obtain ⟨μ14, e15, h⟩ := bi_el h
    have t1 := Fm_pf (mo_kd k0) e15
    by_cases hc : (μ14 a0 35) = 1
    · rw [if_pos hc] at h
      obtain rfl := Option.some.inj h
      exact (Fm_tr (t0) (t1))
    · rw [if_neg hc] at h
      obtain ⟨_, q17, h⟩ := bi_el h
      obtain rfl := Option.some.inj h
      exact (Fm_tr (t0) (t1))
  rw [if_neg hs3] at h
  by_cases hs4 : ((4 * a1) + a2) = 4
  · rw [if_pos hs4] at h
    obtain ⟨μ19, e18, h⟩ := bi_el h
    have t0 := fr_12_began e18 k0
    obtain ⟨z21, e20, h⟩ := bi_el h
    have t1 := hrc1 e20 k0
    obtain rfl := Option.some.inj h
    exact (Fm_tr (t0) (t1))
  rw [if_neg hs4] at h
  by_cases hs6 : ((4 * a1) + a2) = 6
  · rw [if_pos hs6] at h
    obtain ⟨μ23, e22, h⟩ := bi_el h
    have t0 := fr_12_began e22 k0
    obtain ⟨z25, e24, h⟩ := bi_el h
    have t1 := hrc1 e24 k0
    obtain ⟨z27, e26, h⟩ := bi_el h
    have t2 := hrc0 e26 k0
    obtain rfl := Option.some.inj h
    exact (Fm_tr (t0) (Fm_tr (t1) (t2)))
  rw [if_neg hs6] at h
  by_cases hs9 : ((4 * a1) + a2) = 9
  · rw [if_pos hs9] at h
    obtain ⟨μ29, e28, h⟩ := bi_el h
    have t0 := fr_12_began e28 k0
    obtain ⟨z31, e30, h⟩ := bi_el h
    have t1 := hrc1 e30 k0
    obtain rfl := Option.some.inj h
    exact (Fm_tr (t0) (t1))
  rw [if_neg hs9] at h
  by_cases hs14 : ((4 * a1) + a2) = 14
  · rw [if_pos hs14] at h
    obtain ⟨μ33, e32, h⟩ := bi_el h
    have t0 := fr_12_began e32 k0
    obtain ⟨z35, e34, h⟩ := bi_el h
    have t1 := hrc1 e34 k0
    obtain rfl := Option.some.inj h
    exact (Fm_tr (t0) (t1))
  rw [if_neg hs14] at h
  by_cases hs15 : ((4 * a1) + a2) = 15
  · rw [if_pos hs15] at h
    obtain ⟨μ37, e36, h⟩ := bi_el h
    have t0 := fr_12_began e36 k0
    obtain ⟨z39, e38, h⟩ := bi_el h
    have t1 := hrc1 e38 k0
    obtain rfl := Option.some.inj h
    exact (Fm_tr (t0) (t1))
  rw [if_neg hs15] at h
  by_cases hs16 : ((4 * a1) + a2) = 16
  · rw [if_pos hs16] at h
    obtain ⟨μ41, e40, h⟩ := bi_el h
    have t0 := fr_12_began e40 k0
    obtain ⟨z43, e42, h⟩ := bi_el h
    have t1 := hrc1 e42 k0
    obtain rfl := Option.some.inj h
    exact (Fm_tr (t0) (t1))
  rw [if_neg hs16] at h
  by_cases hs21 : ((4 * a1) + a2) = 21
  · rw [if_pos hs21] at h
    obtain ⟨μ45, e44, h⟩ := bi_el h
    have t0 := fr_12_began e44 k0
    obtain ⟨z47, e46, h⟩ := bi_el h
    have t1 := hrc1 e46 k0
    obtain rfl := Option.some.inj h
    exact (Fm_tr (t0) (t1))
  rw [if_neg hs21] at h
  by_cases hs23 : ((4 * a1) + a2) = 23
  · rw [if_pos hs23] at h
    obtain ⟨μ49, e48, h⟩ := bi_el h
    have t0 := fr_12_began e48 k0
    obtain ⟨z51, e50, h⟩ := bi_el h
    have t1 := hrc1 e50 k0
    obtain rfl := Option.some.inj h
    exact (Fm_tr (t0) (t1))
  rw [if_neg hs23] at h
  by_cases hs26 : ((4 * a1) + a2) = 26
  · rw [if_pos hs26] at h
    obtain ⟨μ53, e52, h⟩ := bi_el h
    have t0 := fr_12_began e52 k0
    obtain ⟨z55, e54, h⟩ := bi_el h
    have t1 := hrc1 e54 k0
    obtain ⟨z57, e56, h⟩ := bi_el h
    have t2 := hrc0 e56 k0
    obtain rfl := Option.some.inj h
    exact (Fm_tr (t0) (Fm_tr (t1) (t2)))
  rw [if_neg hs26] at h
  obtain ⟨μ59, e58, h⟩ := bi_el h
  have t0 := fr_12_began e58 k0
  obtain ⟨z61, e60, h⟩ := bi_el h
  have t1 := hrc1 e60 k0
  obtain rfl := Option.some.inj h
  exact (Fm_tr (t0) (t1))
set_option maxRecDepth 100000 in
theorem fr_12_dealt_G : ∀ n : Nat, (∀ {b0 : Nat} {x0 : Int32} {x1 : Int32} {μ : mm} {r : Int32 × mm}, f_12_dealt_G n 0 b0 x0 x1 0 μ = some r → kd b0 = 12 → Fm μ r.2) ∧ (∀ {b0 : Nat} {x0 : Int32} {x1 : Int32} {x2 : Int32} {μ : mm} {r : Int32 × mm}, f_12_dealt_G n 1 b0 x0 x1 x2 μ = some r → kd b0 = 12 → Fm μ r.2) ∧ (∀ {b0 : Nat} {x0 : Int32} {x1 : Int32} {x2 : Int32} {μ : mm} {r : Int32 × mm}, f_12_dealt_G n 2 b0 x0 x1 x2 μ = some r → kd b0 = 12 → Fm μ r.2) ∧ True
  | 0 => by
    refine ⟨?_, ?_, ?_, trivial⟩
    · intro b0 x0 x1 μ r h kb
      rw [f_12_dealt_G] at h
      cases h
    · intro b0 x0 x1 x2 μ r h kb
      rw [f_12_dealt_G] at h
      cases h
    · intro b0 x0 x1 x2 μ r h kb
      rw [f_12_dealt_G] at h
      cases h
  | n + 1 => by
    obtain ⟨i0, i1, i2, -⟩ := fr_12_dealt_G n
    refine ⟨?_, ?_, ?_, trivial⟩
    · intro b0 x0 x1 μ r h kb
      simp only [f_12_dealt_G, if_pos] at h
      exact fr_12_dealt_b (rc := f_12_dealt_G n) (fun h k => i0 h k) (fun h k => i1 h k) (fun h k => i2 h k) h kb
    · intro b0 x0 x1 x2 μ r h kb
      simp only [f_12_dealt_G, if_pos] at h
      exact fr_12_bodyFrom_b (rc := f_12_dealt_G n) (fun h k => i0 h k) (fun h k => i1 h k) (fun h k => i2 h k) h kb
    · intro b0 x0 x1 x2 μ r h kb
      simp only [f_12_dealt_G, if_pos] at h
      exact fr_12_body_b (rc := f_12_dealt_G n) (fun h k => i0 h k) (fun h k => i1 h k) (fun h k => i2 h k) h kb
set_option maxRecDepth 100000 in
theorem fr_12_dealt_G_0 (n : Nat) {b0 : Nat} {x0 : Int32} {x1 : Int32} {μ : mm} {r : Int32 × mm} (h : f_12_dealt_G n 0 b0 x0 x1 0 μ = some r) (kb : kd b0 = 12) : Fm μ r.2 := (fr_12_dealt_G n).1 h kb
set_option maxRecDepth 100000 in
theorem fr_12_dealt_G_1 (n : Nat) {b0 : Nat} {x0 : Int32} {x1 : Int32} {x2 : Int32} {μ : mm} {r : Int32 × mm} (h : f_12_dealt_G n 1 b0 x0 x1 x2 μ = some r) (kb : kd b0 = 12) : Fm μ r.2 := (fr_12_dealt_G n).2.1 h kb
set_option maxRecDepth 100000 in
theorem fr_12_dealt_G_2 (n : Nat) {b0 : Nat} {x0 : Int32} {x1 : Int32} {x2 : Int32} {μ : mm} {r : Int32 × mm} (h : f_12_dealt_G n 2 b0 x0 x1 x2 μ = some r) (kb : kd b0 = 12) : Fm μ r.2 := (fr_12_dealt_G n).2.2.1 h kb
set_option maxRecDepth 100000 in
theorem fr_12_deal  {a0 : Nat} {a1 : Int32} {a2 : Int32} {a3 : Int32} {μ : mm} {r : Int32 × mm} (h : f_12_deal a0 a1 a2 a3 μ = some r) (k0 : kd a0 = 12) : Fm μ r.2 := by
  unfold f_12_deal at h
  obtain ⟨μ1, e2, h⟩ := bi_el h
  have t0 := Fm_pf (mo_kd k0) e2
  obtain ⟨x4, e3, h⟩ := bi_el h
  obtain ⟨z9, hz9, h⟩ := bi_el h
  by_cases hc : 0 ≤ z9
  · rw [if_pos hc] at h
    obtain ⟨μ10, e11, h⟩ := bi_el h
    have t1 := Fm_pf (mo_kd k0) e11
    obtain ⟨x12, e13, h⟩ := bi_el h
    obtain ⟨μ14, e15, h⟩ := bi_el h
    have t2 := Fm_pf (mo_kd k0) e15
    obtain ⟨x16, e17, h⟩ := bi_el h
    obtain ⟨z18, hz18, h⟩ := bi_el h
    obtain ⟨x19, e20, h⟩ := bi_el h
    obtain ⟨z21, hz21, h⟩ := bi_el h
    obtain ⟨z32, hz32, h⟩ := bi_el h
    obtain ⟨μ33, e34, h⟩ := bi_el h
    have t3 := Fm_pf (mo_kd k0) e34
    obtain ⟨z45, hz45, h⟩ := bi_el h
    obtain ⟨μ46, e47, h⟩ := bi_el h
    have t4 := Fm_pf (mo_kd k0) e47
    obtain ⟨μ48, e49, h⟩ := bi_el h
    have t5 := Fm_pf (mo_kd k0) e49
    obtain ⟨z51, e50, h⟩ := bi_el h
    have t6 := fr_12_dealt_G_0 _ e50 k0
    by_cases hc : (z51.2 a0 38) = 0
    · rw [if_pos hc] at h
      obtain rfl := Option.some.inj h
      exact (Fm_tr (t0) (Fm_tr (t1) (Fm_tr (t2) (Fm_tr (t3) (Fm_tr (t4) (Fm_tr (t5) (t6)))))))
    · rw [if_neg hc] at h
      obtain rfl := Option.some.inj h
      exact (Fm_tr (t0) (Fm_tr (t1) (Fm_tr (t2) (Fm_tr (t3) (Fm_tr (t4) (Fm_tr (t5) (t6)))))))
  · rw [if_neg hc] at h
    obtain rfl := Option.some.inj h
    exact (t0)
set_option maxRecDepth 100000 in
theorem fr_12_keep_l2 (a0 : Nat) (k0 : kd a0 = 12) : ∀ (n : Nat) (v1 : Int32) (μ : mm) (z : mm), f_12_keep_l2 a0 n v1 μ = some z → Fm μ z
  | 0, _, _, _, h => by
    rw [f_12_keep_l2] at h
    cases h
  | n + 1, v1, μ, z, h => by
    rw [f_12_keep_l2] at h
    by_cases hc : 912 ≤ v1
    · rw [if_pos hc] at h
      obtain rfl := Option.some.inj h
      exact Fm_rf
    · rw [if_neg hc] at h
      obtain ⟨x1, e2, h⟩ := bi_el h
      obtain ⟨μ3, e4, h⟩ := bi_el h
      have t0 := Fm_sto (mo_1 k0) e4
      exact (Fm_tr (t0) (fr_12_keep_l2 a0 k0 n (v1 + 1) μ3 _ h))
set_option maxRecDepth 100000 in
theorem fr_12_keep  {a0 : Nat} {μ : mm} {r : Int32 × mm} (h : f_12_keep a0 μ = some r) (k0 : kd a0 = 12) : Fm μ r.2 := by
  unfold f_12_keep at h
  obtain ⟨z1, e2, h⟩ := bi_el h
  have t0 := fr_12_keep_l2 a0 k0 FU 0 μ _ e2
  obtain ⟨μ3, e4, h⟩ := bi_el h
  have t1 := Fm_pf (mo_kd k0) e4
  obtain rfl := Option.some.inj h
  exact (Fm_tr (t0) (t1))
set_option maxRecDepth 100000 in
theorem fr_12_again_l12 (a0 : Nat) (k0 : kd a0 = 12) : ∀ (n : Nat) (v1 : Int32) (μ : mm) (z : mm), f_12_again_l12 a0 n v1 μ = some z → Fm μ z
  | 0, _, _, _, h => by
    rw [f_12_again_l12] at h
    cases h
  | n + 1, v1, μ, z, h => by
    rw [f_12_again_l12] at h
    by_cases hc : 912 ≤ v1
    · rw [if_pos hc] at h
      obtain rfl := Option.some.inj h
      exact Fm_rf
    · rw [if_neg hc] at h
      obtain ⟨x1, e2, h⟩ := bi_el h
      obtain ⟨μ3, e4, h⟩ := bi_el h
      have t0 := Fm_sto (mo_0 k0) e4
      exact (Fm_tr (t0) (fr_12_again_l12 a0 k0 n (v1 + 1) μ3 _ h))
set_option maxRecDepth 100000 in
theorem fr_12_again  {a0 : Nat} {μ : mm} {r : Int32 × mm} (h : f_12_again a0 μ = some r) (k0 : kd a0 = 12) : Fm μ r.2 := by
  unfold f_12_again at h
  by_cases hc : (μ a0 3) = 0
  · rw [if_pos hc] at h
    obtain rfl := Option.some.inj h
    exact Fm_rf
  · rw [if_neg hc] at h
    obtain ⟨z1, e2, h⟩ := bi_el h
    have t0 := fr_12_again_l12 a0 k0 FU 0 μ _ e2
    obtain rfl := Option.some.inj h
    exact (t0)
