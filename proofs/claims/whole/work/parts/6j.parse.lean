/-! conditions: where both stand, and what they have laid -/
def PS (T : Nat → Nat) (n c i o z y : Nat) (μ ν : mm) : Prop := (TK T n c μ ∧ i ≤ c ∧ μ 24 6 = nI i ∧ μ 24 7 = cd T n (pz T n i) ∧ μ 26 5 = nI z ∧ z ≤ i) ∧ MP T n (pz T n i) ν ∧ ν 0 13 = 0 ∧ ν 0 14 = nI o ∧ ν 0 15 = nI y ∧ 3 * y ≤ pz T n i
def FC (z : Nat) (μ0 μ : mm) : Prop := (∀ b, b ≠ 24 → b ≠ 26 → b ≠ 31 → μ b = μ0 b) ∧ (∀ k, k ≠ 6 → k ≠ 7 → μ 24 k = μ0 24 k) ∧ (∀ k, k ≠ 5 → μ 26 k = μ0 26 k) ∧ (∀ k, k < z → μ 31 k = μ0 31 k)
def FM (y : Nat) (ν0 ν : mm) : Prop := (∀ b, b ≠ 0 → b ≠ 8 → ν b = ν0 b) ∧ (∀ k, ¬ (10 ≤ k ∧ k ≤ 15) → ν 0 k = ν0 0 k) ∧ (∀ k, k < y → ν 8 k = ν0 8 k)
theorem FC_t {z z' : Nat} {μ0 μ1 μ2 : mm} (h1 : FC z μ0 μ1) (h2 : FC z' μ1 μ2) (hz : z ≤ z') : FC z μ0 μ2 := ⟨fun b b1 b2 b3 => (h2.1 b b1 b2 b3).trans (h1.1 b b1 b2 b3), fun k k1 k2 => (h2.2.1 k k1 k2).trans (h1.2.1 k k1 k2), fun k k1 => (h2.2.2.1 k k1).trans (h1.2.2.1 k k1), fun k hk => (h2.2.2.2 k (by omega)).trans (h1.2.2.2 k hk)⟩
theorem FM_t {y y' : Nat} {ν0 ν1 ν2 : mm} (h1 : FM y ν0 ν1) (h2 : FM y' ν1 ν2) (hy : y ≤ y') : FM y ν0 ν2 := ⟨fun b b1 b2 => (h2.1 b b1 b2).trans (h1.1 b b1 b2), fun k k1 => (h2.2.1 k k1).trans (h1.2.1 k k1), fun k hk => (h2.2.2 k (by omega)).trans (h1.2.2 k hk)⟩
theorem FC_w {z z' : Nat} {μ0 μ : mm} (h : FC z μ0 μ) (hz : z' ≤ z) : FC z' μ0 μ := ⟨h.1, h.2.1, h.2.2.1, fun k hk => h.2.2.2 k (by omega)⟩
theorem FM_w {y y' : Nat} {ν0 ν : mm} (h : FM y ν0 ν) (hy : y' ≤ y) : FM y' ν0 ν := ⟨h.1, h.2.1, fun k hk => h.2.2 k (by omega)⟩
theorem FC_r {z : Nat} {μ : mm} : FC z μ μ := ⟨fun _ _ _ _ => rfl, fun _ _ _ => rfl, fun _ _ => rfl, fun _ _ => rfl⟩
theorem FM_r {y : Nat} {ν : mm} : FM y ν ν := ⟨fun _ _ _ => rfl, fun _ _ => rfl, fun _ _ => rfl⟩
theorem TK_cg {T : Nat → Nat} {n c : Nat} {μ μ' : mm} (h : TK T n c μ) (h2 : μ' 32 = μ 32) (h3 : μ' 33 = μ 33) (h4 : μ' 34 = μ 34) : TK T n c μ' := by
  refine ⟨h.1, h.2.1, h.2.2.1, fun i hi => ?_⟩
  rw [h2, h3, h4]
  exact h.2.2.2 i hi
theorem TK_FC {T : Nat → Nat} {n c z : Nat} {μ μ' : mm} (h : TK T n c μ) (hf : FC z μ μ') : TK T n c μ' := TK_cg h (hf.1 32 (by decide) (by decide) (by decide)) (hf.1 33 (by decide) (by decide) (by decide)) (hf.1 34 (by decide) (by decide) (by decide))
theorem PS_ic {T : Nat → Nat} {n c i o z y : Nat} {μ ν : mm} (h : PS T n c i o z y μ ν) (hp : pz T n i < n) : i < c := by
  have h1 := h.1.2.1
  rcases Nat.lt_or_ge i c with q | q
  · exact q
  · have : i = c := by omega
    subst this
    exact absurd h.1.1.2.1 (by omega)
theorem PS_T {T : Nat → Nat} {n c i o z y : Nat} {μ ν : mm} (h : PS T n c i o z y μ ν) : ∀ k, k < n → T k ≤ 255 := fun k hk => (h.2.1.1.2.2 k hk).1
theorem PS_step {T : Nat → Nat} {n c i o z y : Nat} {μ ν : mm} (h : PS T n c i o z y μ ν) (hp : pz T n i < n) : ∃ μ' ν', f_8_step 24 μ = some μ' ∧ f_12_next 0 ν = some ν' ∧ PS T n c (i + 1) o z y μ' ν' ∧ (FC z μ μ' ∧ μ' 31 = μ 31) ∧ (FM y ν ν' ∧ ν' 8 = ν 8) := by
  have hic := PS_ic h hp
  have hT := PS_T h
  obtain ⟨⟨hK, h1, h2, h3, h4, h5⟩, hM, m1, m2, m3, m4⟩ := h
  obtain ⟨ν', n1, n2, n3, n4⟩ := next_M hM.1 te_le hM.2.2.2.1
  have c300 := hK.1
  have hA := hK.2.2.2 (i + 1) (by omega)
  have hc1 : ¬ μ 24 7 = -1 := by rw [h3, cd_e hT]; omega
  refine ⟨up (up μ 24 6 (nI (i + 1))) 24 7 (cd T n (pz T n (i + 1))), ν', ?_, n1, ⟨⟨TK_cg hK (by rw [up_ne (by decide), up_ne (by decide)]) (by rw [up_ne (by decide), up_ne (by decide)]) (by rw [up_ne (by decide), up_ne (by decide)]), by omega, by rw [up_ns (by decide), up_at], up_at, by rw [up_ne (by decide), up_ne (by decide)]; exact h4, by omega⟩, n2, by rw [n3 13 (by decide) (by decide) (by decide)]; exact m1, by rw [n3 14 (by decide) (by decide) (by decide)]; exact m2, by rw [n3 15 (by decide) (by decide) (by decide)]; exact m3, Nat.le_trans m4 (pz_mono 1)⟩, ⟨⟨fun b b1 b2 b3 => by rw [up_ne b1, up_ne b1], fun k k1 k2 => by rw [up_ns k2, up_ns k1], fun k k1 => by rw [up_ne (by decide), up_ne (by decide)], fun k hk => by rw [up_ne (by decide), up_ne (by decide)]⟩, by rw [up_ne (by decide), up_ne (by decide)]⟩, ⟨⟨fun b b1 b2 => n4 b b1, fun k k1 => n3 k (by omega) (by omega) (by omega), fun k hk => by rw [n4 8 (by decide)]⟩, n4 8 (by decide)⟩⟩
  unfold f_8_step
  rw [if_neg hc1, pf_eq, h2, nI_1, Option.bind_some, rf_24_3, up_at, ldL len_32 (by omega) (by decide), up_ne (by decide), hA.1, Option.bind_some, pf_eq, Option.bind_some]
theorem addC {v : Int32} {z : Nat} {μ : mm} (h : μ 26 5 = nI z) (hz : z < 300) : f_5_addCode 26 v μ = some (up (up μ 31 z v) 26 5 (nI (z + 1))) := by
  unfold f_5_addCode
  rw [rf_26_6, len_31, h, if_neg (show ¬ Int32.ofNat 300 ≤ nI z from nI_ge hz (by decide)), stoL len_31 hz (by decide), Option.bind_some, pf_eq, Option.bind_some, up_ne (by decide), h, nI_1]
theorem addC_any {v : Int32} {z : Nat} {μ : mm} (h : μ 26 5 = nI z) (hz : z ≤ 300) : ∃ μ', f_5_addCode 26 v μ = some μ' ∧ (∃ z', z' ≤ 300 ∧ μ' 26 5 = nI z') ∧ FC 0 μ μ' ∧ μ' 24 = μ 24 := by
  by_cases c : z < 300
  · refine ⟨_, addC h c, ⟨z + 1, by omega, up_at⟩, ⟨fun b b1 b2 b3 => by rw [up_ne b2, up_ne b3], fun k k1 k2 => by rw [up_ne (by decide), up_ne (by decide)], fun k k1 => by rw [up_ns k1, up_ne (by decide)], fun k hk => absurd hk (by omega)⟩, by rw [up_ne (by decide), up_ne (by decide)]⟩
  · refine ⟨μ, ?_, ⟨z, hz, h⟩, FC_r, rfl⟩
    unfold f_5_addCode
    rw [rf_26_6, len_31, h, if_pos (show Int32.ofNat 300 ≤ nI z from nI_le (by omega) (by omega))]
theorem slc_app {f : Nat → Int32} : ∀ (m k a : Nat), slc f a (m + k) = slc f a m ++ slc f (a + m) k
  | 0, k, a => by rw [Nat.zero_add, slc_0]; rfl
  | m + 1, k, a => by
    rw [show m + 1 + k = (m + k) + 1 from by omega, slc_1, slc_1, slc_app m k (a + 1), show a + 1 + m = a + (m + 1) from by omega]
    rfl
theorem slc_cg {f g : Nat → Int32} {a m : Nat} (h : ∀ j, a ≤ j → j < a + m → f j = g j) : slc f a m = slc g a m := by
  unfold slc
  apply List.map_congr_left
  intro i hi
  have := List.mem_range.mp hi
  exact h _ (by omega) (by omega)
theorem slc_o {f : Nat → Int32} {a : Nat} : slc f a 1 = [f a] := by rw [slc_1, slc_0]
/-- a part of a condition was read and is good -/
def GdE (T : Nat → Nat) (n c o d : Nat) (μ0 ν0 : mm) (i0 z0 y0 : Nat) (μ ν : mm) (i z y : Nat) : Prop := PS T n c i o z y μ ν ∧ (i0 < i ∧ z0 ≤ z ∧ y0 ≤ y ∧ z - z0 ≤ i - i0 ∧ 3 * (y - y0) + 2 + pz T n i0 ≤ pz T n i) ∧ FC z0 μ0 μ ∧ FM y0 ν0 ν ∧ gq d (slc (ν 8) y0 (y - y0)) (slc (μ 31) z0 (z - z0))
/-- it has a fault: where both stand -/
def Bd (T : Nat → Nat) (n c : Nat) (μ0 ν0 μ ν : mm) : Prop := (∃ i, i ≤ c ∧ μ 24 6 = nI i ∧ ν 0 10 = nI (pz T n i)) ∧ ν 0 13 = 1 ∧ (∃ z, z ≤ 300 ∧ μ 26 5 = nI z) ∧ FC 0 μ0 μ ∧ FM 0 ν0 ν
def Rel (T : Nat → Nat) (n c o d : Nat) (C : Option (Int32 × mm)) (M : Option mm) (μ0 ν0 : mm) (i0 z0 y0 : Nat) : Prop := ∃ r μ ν, C = some (r, μ) ∧ M = some ν ∧ ((r = 1 ∧ ∃ i z y, GdE T n c o d μ0 ν0 i0 z0 y0 μ ν i z y) ∨ (r = 0 ∧ Bd T n c μ0 ν0 μ ν))
theorem Bd_t {T : Nat → Nat} {n c z y : Nat} {μ0 ν0 μ1 ν1 μ ν : mm} (h1 : FC z μ0 μ1) (h2 : FM y ν0 ν1) (h : Bd T n c μ1 ν1 μ ν) : Bd T n c μ0 ν0 μ ν := ⟨h.1, h.2.1, h.2.2.1, FC_t (FC_w h1 (Nat.zero_le _)) h.2.2.2.1 (Nat.le_refl _), FM_t (FM_w h2 (Nat.zero_le _)) h.2.2.2.2 (Nat.le_refl _)⟩
/-- the place where both stand is a fault -/
theorem Bd_here {T : Nat → Nat} {n c i o z y : Nat} {μ ν : mm} (h : PS T n c i o z y μ ν) : Bd T n c μ ν μ (up ν 0 13 1) := by
  have c300 := h.1.1.1
  have h1 := h.1.2.1
  have h5 := h.1.2.2.2.2.2
  exact ⟨⟨i, h1, h.1.2.2.1, by rw [up_ns (by decide)]; exact h.2.1.2.2.1⟩, up_at, ⟨z, by omega, h.1.2.2.2.2.1⟩, FC_r, ⟨fun b b1 _ => up_ne b1, fun k k1 => up_ns (by omega), fun k hk => absurd hk (by omega)⟩⟩
/-- both lay a code -/
theorem GdE_add {T : Nat → Nat} {n c o d i0 z0 y0 i z y : Nat} {u v : Int32} {μ0 ν0 μ ν : mm} (hP : PS T n c i o z y μ ν) (hz : z < i) (hy : 3 * y + 3 ≤ pz T n i) (h0 : i0 < i ∧ z0 ≤ z ∧ y0 ≤ y ∧ z + 1 - z0 ≤ i - i0 ∧ 3 * (y + 1 - y0) + 2 + pz T n i0 ≤ pz T n i) (hC : FC z0 μ0 μ) (hM : FM y0 ν0 ν) (hg : gq d (slc (ν 8) y0 (y - y0) ++ [u]) (slc (μ 31) z0 (z - z0) ++ [v])) : f_5_addCode 26 v μ = some (up (up μ 31 z v) 26 5 (nI (z + 1))) ∧ f_12_codes 0 u ν = some (up (up ν 8 y u) 0 15 (nI (y + 1))) ∧ GdE T n c o d μ0 ν0 i0 z0 y0 (up (up μ 31 z v) 26 5 (nI (z + 1))) (up (up ν 8 y u) 0 15 (nI (y + 1))) i (z + 1) (y + 1) := by
  obtain ⟨⟨hK, h1, h2, h3, h4, h5⟩, hMP, m1, m2, m3, m4⟩ := hP
  have c300 := hK.1
  have hpn := pz_le (T := T) (n := n) i
  have hn := hMP.1.1
  refine ⟨addC h4 (by omega), codes_Y m1 m3 (by omega), ⟨⟨TK_cg hK (by rw [up_ne (by decide), up_ne (by decide)]) (by rw [up_ne (by decide), up_ne (by decide)]) (by rw [up_ne (by decide), up_ne (by decide)]), h1, by rw [up_ne (by decide), up_ne (by decide)]; exact h2, by rw [up_ne (by decide), up_ne (by decide)]; exact h3, up_at, by omega⟩, MP_cg hMP (fun k hk => by rw [up_ns (by omega), up_ne (by decide)]) (by rw [up_ne (by decide), up_ne (by decide)]), by rw [up_ns (by decide), up_ne (by decide)]; exact m1, by rw [up_ns (by decide), up_ne (by decide)]; exact m2, up_at, by omega⟩, ⟨h0.1, by omega, by omega, h0.2.2.2.1, h0.2.2.2.2⟩, FC_t hC ⟨fun b b1 b2 b3 => by rw [up_ne b2, up_ne b3], fun k k1 k2 => by rw [up_ne (by decide), up_ne (by decide)], fun k k1 => by rw [up_ns k1, up_ne (by decide)], fun k hk => by rw [up_ne (by decide), up_ns (by omega)]⟩ h0.2.1, FM_t hM ⟨fun b b1 b2 => by rw [up_ne b1, up_ne b2], fun k k1 => by rw [up_ns (by omega), up_ne (by decide)], fun k hk => by rw [up_ne (by decide), up_ns (by omega)]⟩ h0.2.2.1, ?_⟩
  rw [show y + 1 - y0 = y - y0 + 1 from by omega, show z + 1 - z0 = z - z0 + 1 from by omega, slc_app, slc_app, slc_o, slc_o, show y0 + (y - y0) = y from by omega, show z0 + (z - z0) = z from by omega]
  rw [up_ne (a := 0) (b := 8) (by decide), up_ne (a := 26) (b := 31) (by decide), up_at, up_at]
  rw [slc_cg (f := up ν 8 y u 8) (g := ν 8) (fun j a b => up_ns (by omega)), slc_cg (f := up μ 31 z v 31) (g := μ 31) (fun j a b => up_ns (by omega))]
  exact hg
/-- a word of so many letters brings the place on -/
theorem word_on {T : Nat → Nat} {n i k : Nat} (hk : k < 18) (h : cd T n (pz T n i) = nI k) : pz T n i < n ∧ pz T n i + wl k ≤ pz T n (i + 1) := by
  obtain ⟨h1, h2, h3⟩ := (cd_w hk).mp h
  have := pz_lt h1
  exact ⟨h1, by have := h3.1; omega⟩
theorem sign_on {T : Nat → Nat} {n i : Nat} (h : pz T n i < n) : pz T n i + 1 ≤ pz T n (i + 1) := (pz_lt h).2
