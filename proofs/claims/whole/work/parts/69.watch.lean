/-! pickets: the watch -/
abbrev bi (s g : Nat) : Prop := s / 2 ^ g % 2 = 1
theorem wq_and : ∀ s, s < 16 → ∀ g, g < 4 → (nI s &&& ((1 : Int32) <<< (nI g &&& 31)) = 0 ↔ ¬ s / 2 ^ g % 2 = 1) := by decide +kernel
theorem wq_clr : ∀ s, s < 16 → ∀ g, g < 4 → s / 2 ^ g % 2 = 1 → nI s &&& (((1 : Int32) <<< (nI g &&& 31)) ^^^ (-1)) = nI (s - 2 ^ g) := by decide +kernel
theorem wq_xor : ∀ s, s < 16 → ∀ g, g < 4 → s / 2 ^ g % 2 = 1 → nI s ^^^ ((1 : Int32) <<< (nI g &&& 31)) = nI (s - 2 ^ g) := by decide +kernel
theorem wq_shr : ∀ s, s < 16 → ∀ g, g < 4 → ((nI s >>> (nI g &&& 31)) &&& 1 = (1 : Int32) ↔ s / 2 ^ g % 2 = 1) := by decide +kernel
theorem wq_one : ∀ g, g < 5 → (1 : Int32) <<< (nI g &&& 31) = nI (2 ^ g) := by decide +kernel
theorem wq_16 : ∀ m, m < 10 → nI m <<< ((4 : Int32) &&& 31) = nI (16 * m) := by decide +kernel
theorem wq_S : ∀ g, g < 5 → 1 ≤ 2 ^ g ∧ 2 ^ g ≤ 16 := by decide +kernel
def pc (s : Nat) : Nat := s % 2 + s / 2 % 2 + s / 4 % 2 + s / 8 % 2
theorem pc_c : ∀ s, s < 16 → ∀ g, g < 4 → s / 2 ^ g % 2 = 1 → pc (s - 2 ^ g) + 1 = pc s := by decide +kernel
theorem pc_4 : ∀ s, s < 16 → pc s ≤ 4 := by decide +kernel
theorem rf_75_ : ∀ s, s < 9 → rf 75 s = 76 + s := by decide +kernel
theorem len_76_ : ∀ s, s < 9 → len (76 + s) = 16 := by decide +kernel
theorem a75 {m : Nat} (h : m < 9) : lda 75 (nI m) = some (76 + m) := ldaL len_75 (rf_75_ m h) h (by decide)
def WS (G M mi : Nat) (w : Nat → Nat → Nat) (μ ν : mm) : Prop := (G ≤ 4 ∧ M ≤ 8 ∧ mi ≤ 9) ∧ (μ 71 1 = nI G ∧ μ 71 2 = nI M ∧ μ 71 0 = nI mi) ∧ (ν 1 15 = nI G ∧ ν 1 16 = nI M ∧ ν 1 5 = nI mi) ∧ ∀ m g, m < M → g < G → w m g ≤ 9 ∧ ∃ a b, (a < 6 ∧ b < 6) ∧ (μ 73 m = nI a ∧ μ 72 g = nI b ∧ μ (51 + a) b = nI (w m g)) ∧ (ν 1 (859 + m) = nI a ∧ ν 1 (855 + g) = nI b ∧ ν 1 (20 + 6 * a + b) = nI (w m g))
theorem WS_cg {G M mi : Nat} {w : Nat → Nat → Nat} {μ ν μ' ν' : mm} (h : WS G M mi w μ ν) (hm : ∀ b, (b = 71 ∨ b = 72 ∨ b = 73 ∨ 51 ≤ b ∧ b < 57) → μ' b = μ b) (hn : ν' 1 = ν 1) : WS G M mi w μ' ν' := by
  obtain ⟨h1, h2, h3, h4⟩ := h
  refine ⟨h1, by rw [hm 71 (by omega)]; exact h2, by rw [hn]; exact h3, fun m g q1 q2 => ?_⟩
  obtain ⟨k1, a, b, k2, k3, k4⟩ := h4 m g q1 q2
  exact ⟨k1, a, b, k2, by rw [hm 73 (by omega), hm 72 (by omega), hm (51 + a) (by omega)]; exact k3, by rw [hn]; exact k4⟩
theorem walk_C {G M mi m g s : Nat} {w : Nat → Nat → Nat} {μ ν : mm} (h : WS G M mi w μ ν) (hm : m < M) (hg : g < G) (hs : s < 16) : f_3_leastIfAt 71 (nI m) (nI g) (nI s) 50 μ = some (if bi s g then (if w m g ≤ mi then nI (w m g) + μ (77 + m) (s - 2 ^ g) else nI 1000000) else nI 1000000) := by
  obtain ⟨⟨g1, g2, g3⟩, ⟨m1, m2, m3⟩, -, h4⟩ := h
  obtain ⟨k1, a, b, ⟨ha, hb⟩, ⟨e1, e2, e3⟩, -⟩ := h4 m g hm hg
  have la : lda 50 (nI a) = some (51 + a) := ldaL len_50 (rf_50_ a ha) ha (by decide)
  unfold f_3_leastIfAt
  rw [rf_71_4, ldL len_73 (by omega) (by decide), Option.bind_some, e1, la, Option.bind_some, rf_71_3, ldL len_72 (by omega) (by decide), Option.bind_some, e2, ldL (len_51_ a ha) hb (by decide), Option.bind_some, e3, m3]
  by_cases c : bi s g
  · rw [if_neg (fun z => ((wq_and s hs g (by omega)).mp z) c), if_pos c]
    by_cases d : w m g ≤ mi
    · have d' : nI (w m g) ≤ nI mi := nI_le d (by omega)
      rw [if_pos d', if_pos d, rf_71_6, nI_1, a75 (by omega), Option.bind_some, wq_clr s hs g (by omega) c, ldL (len_76_ (m + 1) (by omega)) (by have := Nat.sub_le s (2 ^ g); omega) (by decide), Option.bind_some, show 76 + (m + 1) = 77 + m from by omega]
    · have d' : ¬ nI (w m g) ≤ nI mi := nI_ge (by omega) (by omega)
      rw [if_neg d', if_neg d]
      rfl
  · rw [if_pos ((wq_and s hs g (by omega)).mpr c), if_neg c]
    rfl
theorem walk_M {G M mi m g : Nat} {w : Nat → Nat → Nat} {μ ν : mm} (h : WS G M mi w μ ν) (hm : m < M) (hg : g < G) : f_12_walk 0 (nI m) (nI g) ν = some (if w m g ≤ mi then nI (w m g) else nI 100000) := by
  obtain ⟨⟨g1, g2, g3⟩, -, ⟨m1, m2, m3⟩, h4⟩ := h
  obtain ⟨k1, a, b, ⟨ha, hb⟩, -, ⟨e1, e2, e3⟩⟩ := h4 m g hm hg
  unfold f_12_walk f_12_roadOf
  rw [rf_0_0, ix_859_, ld1 (by omega), Option.bind_some, e1, ix_855_, ld1 (by omega), Option.bind_some, e2, ix_20_, nI_add, ld1 (by omega), Option.bind_some, Option.bind_some, e3, l_5, Option.bind_some, m3]
  by_cases d : w m g ≤ mi
  · rw [if_pos d, if_pos (show nI (w m g) ≤ nI mi from nI_le d (by omega))]
  · rw [if_neg d, if_neg (show ¬ nI (w m g) ≤ nI mi from nI_ge (by omega) (by omega))]
    rfl
/-- a least walk of the class and of the model: the same, or there is none -/
def Rs (k : Nat) (a b : Int32) : Prop := (∃ x, x ≤ 9 * k ∧ a = nI x ∧ b = nI x) ∨ (a = nI 1000000 ∧ b = nI 100000)
theorem Rs_mono {k j : Nat} {a b : Int32} (h : Rs k a b) (hj : k ≤ j) : Rs j a b := by
  rcases h with ⟨x, h1, h2⟩ | h
  · exact Or.inl ⟨x, by omega, h2⟩
  · exact Or.inr h
theorem mn_nl {a b : Nat} (h : a ≤ b) (hb : b < 2 ^ 31) : mn (nI a) (nI b) = nI a := mn_l (nI_le h hb)
theorem mn_nr {a b : Nat} (h : b < a) (ha : a < 2 ^ 31) : mn (nI a) (nI b) = nI b := mn_r (nI_ge h ha)
theorem Rs_step {k : Nat} {a b c d : Int32} (hk : k ≤ 8) (h : Rs k a b) (hc : (∃ z, z ≤ 9 * k ∧ c = nI z ∧ d = nI z) ∨ ((∃ z, 1000000 ≤ z ∧ z < 2000000 ∧ c = nI z) ∧ ∃ z, 100000 ≤ z ∧ z < 2000000 ∧ d = nI z)) : Rs k (mn a c) (mn b d) ∧ (mn a c = a ∨ mn a c = c ∧ ∃ z, z ≤ 9 * k ∧ c = nI z) := by
  rcases h with ⟨x, h1, rfl, rfl⟩ | ⟨rfl, rfl⟩
  · rcases hc with ⟨z, z1, rfl, rfl⟩ | ⟨⟨z, z1, z2, rfl⟩, ⟨y, y1, y2, rfl⟩⟩
    · by_cases q : x ≤ z
      · rw [mn_nl q (by omega)]
        exact ⟨Or.inl ⟨x, h1, rfl, rfl⟩, Or.inl rfl⟩
      · rw [mn_nr (by omega) (by omega)]
        exact ⟨Or.inl ⟨z, z1, rfl, rfl⟩, Or.inr ⟨rfl, z, z1, rfl⟩⟩
    · rw [mn_nl (show x ≤ z by omega) (by omega), mn_nl (show x ≤ y by omega) (by omega)]
      exact ⟨Or.inl ⟨x, h1, rfl, rfl⟩, Or.inl rfl⟩
  · rcases hc with ⟨z, z1, rfl, rfl⟩ | ⟨⟨z, z1, z2, rfl⟩, ⟨y, y1, y2, rfl⟩⟩
    · rw [mn_nr (show z < 1000000 by omega) (by omega), mn_nr (show z < 100000 by omega) (by omega)]
      exact ⟨Or.inl ⟨z, z1, rfl, rfl⟩, Or.inr ⟨rfl, z, z1, rfl⟩⟩
    · rw [mn_nl (show 1000000 ≤ z by omega) (by omega), mn_nl (show 100000 ≤ y by omega) (by omega)]
      exact ⟨Or.inr ⟨rfl, rfl⟩, Or.inl rfl⟩
/-- where the least walk comes from -/
def At (G mi : Nat) (w : Nat → Nat → Nat) (m s : Nat) (μ : mm) (a' a : Int32) : Prop := a' = a ∨ ∃ g x, g < G ∧ bi s g ∧ w m g ≤ mi ∧ x ≤ 72 ∧ μ (77 + m) (s - 2 ^ g) = nI x ∧ a' = nI (w m g + x)
theorem least_rel {G M mi m s k S : Nat} {w : Nat → Nat → Nat} {μ ν : mm} {A : Int32} (h : WS G M mi w μ ν) (hm : m < M) (hk : m + 1 + k = M) (hs : s < 16) (hsS : s < S) (hR : ∀ s', s' < S → Rs k (μ (77 + m) s') (ν 14 (16 * (m + 1) + s'))) : ∀ (n j f1 f2 : Nat) (a b : Int32), j + n = G → n < f1 → n < f2 → Rs (k + 1) a b → ∃ a' b', f_3_leastFrom_l15 71 (nI m) (nI s) 50 μ f1 a (nI j) = some a' ∧ f_12_findWatch_l45 0 A (nI m) (nI s) ν f2 b (nI j) = some b' ∧ Rs (k + 1) a' b' ∧ At G mi w m s μ a' a := by
  have hW := h
  obtain ⟨⟨g1, g2, g3⟩, ⟨m1, m2, m3⟩, ⟨n1, n2, n3⟩, h4⟩ := h
  intro n
  induction n with
  | zero =>
    intro j f1 f2 a b h1 h2 h3 hab
    obtain ⟨p, rfl⟩ : ∃ p, f1 = p + 1 := ⟨f1 - 1, by omega⟩
    obtain ⟨q, rfl⟩ : ∃ q, f2 = q + 1 := ⟨f2 - 1, by omega⟩
    obtain rfl : j = G := by omega
    refine ⟨a, b, ?_, ?_, hab, Or.inl rfl⟩
    · unfold f_3_leastFrom_l15
      rw [m1, if_pos (Int32.le_refl _)]
    · unfold f_12_findWatch_l45
      rw [rf_0_0, l_15, n1, Option.bind_some, if_pos (Int32.le_refl _)]
  | succ n ih =>
    intro j f1 f2 a b h1 h2 h3 hab
    obtain ⟨p, rfl⟩ : ∃ p, f1 = p + 1 := ⟨f1 - 1, by omega⟩
    obtain ⟨q, rfl⟩ : ∃ q, f2 = q + 1 := ⟨f2 - 1, by omega⟩
    have hw := (h4 m j hm (by omega)).1
    have hsub : s - 2 ^ j < S := by have := Nat.sub_le s (2 ^ j); omega
    have hsub2 : s - 2 ^ j < 16 := by have := Nat.sub_le s (2 ^ j); omega
    have hC := walk_C (s := s) hW hm (show j < G by omega) hs
    have hM := walk_M hW hm (show j < G by omega)
    have hl : ld ν 14 (nI (16 * (m + 1)) + nI (s - 2 ^ j)) = some (ν 14 (16 * (m + 1) + (s - 2 ^ j))) := by rw [nI_add]; exact ldL len_14 (by omega) (by decide)
    have key : ∃ c d, f_3_leastIfAt 71 (nI m) (nI j) (nI s) 50 μ = some c ∧ (if (nI s >>> (nI j &&& 31)) &&& 1 = (1 : Int32) then (f_12_walk 0 (nI m) (nI j) ν).bind fun x6 => (ld ν 14 (((nI m + 1) <<< (4 &&& 31)) + (nI s ^^^ (1 <<< (nI j &&& 31))))).bind fun x7 => f_12_findWatch_l45 0 A (nI m) (nI s) ν q (mn b (x6 + x7)) (nI j + 1) else f_12_findWatch_l45 0 A (nI m) (nI s) ν q b (nI j + 1)) = f_12_findWatch_l45 0 A (nI m) (nI s) ν q (mn b d) (nI (j + 1)) ∧ ((∃ z, z ≤ 9 * (k + 1) ∧ c = nI z ∧ d = nI z) ∨ ((∃ z, 1000000 ≤ z ∧ z < 2000000 ∧ c = nI z) ∧ ∃ z, 100000 ≤ z ∧ z < 2000000 ∧ d = nI z)) ∧ ((∃ z, z ≤ 9 * (k + 1) ∧ c = nI z) → ∃ x, bi s j ∧ w m j ≤ mi ∧ x ≤ 72 ∧ μ (77 + m) (s - 2 ^ j) = nI x ∧ c = nI (w m j + x)) := by
      by_cases c : bi s j
      · have c' : (nI s >>> (nI j &&& 31)) &&& 1 = (1 : Int32) := (wq_shr s hs j (by omega)).mpr c
        rw [if_pos c] at hC
        rw [if_pos c', hM, Option.bind_some, nI_1, wq_16 (m + 1) (by omega), wq_xor s hs j (by omega) c, hl, Option.bind_some, nI_1]
        by_cases d : w m j ≤ mi
        · rw [if_pos d] at hC
          rw [if_pos d]
          rcases hR (s - 2 ^ j) hsub with ⟨x, x1, x2, x3⟩ | ⟨x2, x3⟩
          · rw [x2, nI_add] at hC
            rw [x3, nI_add]
            refine ⟨_, _, hC, rfl, Or.inl ⟨w m j + x, by omega, rfl, rfl⟩, fun _ => ⟨x, c, d, by omega, x2, rfl⟩⟩
          · rw [x2, nI_add] at hC
            rw [x3, nI_add]
            refine ⟨_, _, hC, rfl, Or.inr ⟨⟨w m j + 1000000, by omega, by omega, rfl⟩, ⟨w m j + 100000, by omega, by omega, rfl⟩⟩, fun ⟨z, z1, z2⟩ => absurd ((nI_eq (by omega) (by omega)).mp z2) (by omega)⟩
        · rw [if_neg d] at hC
          rw [if_neg d]
          have hd : ∃ z, 100000 ≤ z ∧ z < 2000000 ∧ nI 100000 + ν 14 (16 * (m + 1) + (s - 2 ^ j)) = nI z := by
            rcases hR (s - 2 ^ j) hsub with ⟨x, x1, x2, x3⟩ | ⟨x2, x3⟩
            · rw [x3, nI_add]
              exact ⟨100000 + x, by omega, by omega, rfl⟩
            · rw [x3, nI_add]
              exact ⟨100000 + 100000, by omega, by omega, rfl⟩
          exact ⟨_, _, hC, rfl, Or.inr ⟨⟨1000000, by omega, by omega, rfl⟩, hd⟩, fun ⟨z, z1, z2⟩ => absurd ((nI_eq (by omega) (by omega)).mp z2) (by omega)⟩
      · have c' : ¬ (nI s >>> (nI j &&& 31)) &&& 1 = (1 : Int32) := fun z => c ((wq_shr s hs j (by omega)).mp z)
        rw [if_neg c] at hC
        rw [if_neg c', nI_1]
        have hb : mn b (nI 100000) = b := by
          rcases hab with ⟨x, x1, x2, x3⟩ | ⟨x2, x3⟩
          · rw [x3]; exact mn_nl (by omega) (by omega)
          · rw [x3]; exact mn_nl (by omega) (by omega)
        exact ⟨_, nI 100000, hC, by rw [hb], Or.inr ⟨⟨1000000, by omega, by omega, rfl⟩, ⟨100000, by omega, by omega, rfl⟩⟩, fun ⟨z, z1, z2⟩ => absurd ((nI_eq (by omega) (by omega)).mp z2) (by omega)⟩
    obtain ⟨c, d, k1, k2, k3, k4⟩ := key
    obtain ⟨s1, s2⟩ := Rs_step (by omega) hab k3
    obtain ⟨a', b', q1, q2, q3, q4⟩ := ih (j + 1) p q (mn a c) (mn b d) (by omega) (by omega) (by omega) s1
    refine ⟨a', b', ?_, ?_, q3, ?_⟩
    · unfold f_3_leastFrom_l15
      rw [m1, if_neg (lt_n1 (by omega) (by omega)), k1, Option.bind_some, nI_1]
      exact q1
    · unfold f_12_findWatch_l45
      rw [rf_0_0, l_15, n1, Option.bind_some, if_neg (lt_n1 (by omega) (by omega)), l_16, n2, Option.bind_some, if_neg (lt_n1 (by omega) (by omega)), if_pos (show (0 : Int32) ≤ nI j from nI_pos' (by omega)), rf_0_24, k2]
      exact q2
    · rcases q4 with q4 | q4
      · rcases s2 with s2 | ⟨s2, s3⟩
        · exact Or.inl (q4.trans s2)
        · obtain ⟨x, x1, x2, x3, x4, x5⟩ := k4 s3
          exact Or.inr ⟨j, x, by omega, x1, x2, x3, x4, (q4.trans s2).trans x5⟩
      · exact Or.inr q4
theorem mn_b {k : Nat} {a b : Int32} (hk : k ≤ 9) (h : Rs k a b) : mn 100000 b = b := by
  rcases h with ⟨x, h1, -, rfl⟩ | ⟨-, rfl⟩
  · rw [show (100000 : Int32) = nI 100000 from rfl]
    by_cases q : x < 100000
    · exact mn_nr q (by omega)
    · omega
  · exact mn_nl (a := 100000) (b := 100000) (by omega) (by omega)
/-- one man's row of the class and of the model -/
theorem rowW {G M mi m k S : Nat} {w : Nat → Nat → Nat} {μ ν : mm} (h : WS G M mi w μ ν) (hm : m < M) (hk : m + 1 + k = M) (hS : S = 2 ^ G) (hR : ∀ s, s < S → Rs k (μ (77 + m) s) (ν 14 (16 * (m + 1) + s))) (h0 : μ (77 + m) 0 = nI 0) : ∀ (n i f1 f2 : Nat) (μ1 ν1 : mm), i + n = S → n < f1 → n < f2 → (∀ b, b ≠ 76 + m → μ1 b = μ b) → (∀ b, b ≠ 14 → ν1 b = ν b) → (∀ j, 16 * (m + 1) ≤ j → ν1 14 j = ν 14 j) → (∀ s, s < i → Rs (k + 1) (μ1 (76 + m) s) (ν1 14 (16 * m + s)) ∧ At G mi w m s μ (μ1 (76 + m) s) (μ (77 + m) s)) → ∃ μ' ν', f_3_plan_l39 71 50 (nI m) f1 (nI i) μ1 = some μ' ∧ f_12_findWatch_l24 0 (nI S) (nI m) f2 (nI i) ν1 = some ν' ∧ (∀ b, b ≠ 76 + m → μ' b = μ b) ∧ (∀ b, b ≠ 14 → ν' b = ν b) ∧ (∀ j, 16 * (m + 1) ≤ j → ν' 14 j = ν 14 j) ∧ (∀ s, s < S → Rs (k + 1) (μ' (76 + m) s) (ν' 14 (16 * m + s)) ∧ At G mi w m s μ (μ' (76 + m) s) (μ (77 + m) s)) := by
  have hG := h.1.1
  have hM := h.1.2.1
  have hS2 := wq_S G (by omega)
  rw [← hS] at hS2
  intro n
  induction n with
  | zero =>
    intro i f1 f2 μ1 ν1 h1 h2 h3 hm1 hn1 hn2 hD
    obtain ⟨p, rfl⟩ : ∃ p, f1 = p + 1 := ⟨f1 - 1, by omega⟩
    obtain ⟨q, rfl⟩ : ∃ q, f2 = q + 1 := ⟨f2 - 1, by omega⟩
    obtain rfl : i = S := by omega
    refine ⟨μ1, ν1, ?_, ?_, hm1, hn1, hn2, hD⟩
    · unfold f_3_plan_l39
      rw [hm1 71 (by omega), h.2.1.1, wq_one G (by omega), ← hS, if_pos (Int32.le_refl _)]
    · unfold f_12_findWatch_l24
      rw [if_pos (Int32.le_refl _)]
  | succ n ih =>
    intro i f1 f2 μ1 ν1 h1 h2 h3 hm1 hn1 hn2 hD
    obtain ⟨p, rfl⟩ : ∃ p, f1 = p + 1 := ⟨f1 - 1, by omega⟩
    obtain ⟨q, rfl⟩ : ∃ q, f2 = q + 1 := ⟨f2 - 1, by omega⟩
    have hW1 : WS G M mi w μ1 ν1 := WS_cg h (fun b hb => hm1 b (by omega)) (hn1 1 (by decide))
    have hR1 : ∀ s', s' < S → Rs k (μ1 (77 + m) s') (ν1 14 (16 * (m + 1) + s')) := fun s' hs' => by rw [hm1 _ (by omega), hn2 _ (by omega)]; exact hR s' hs'
    have hr := hR i (by omega)
    have hb0 : ∃ z b0, (if nI i = 0 then some (0 : Int32) else some 100000) = some z ∧ Rs (k + 1) (μ1 (77 + m) i) b0 ∧ mn z (ν1 14 (16 * (m + 1) + i)) = b0 := by
      by_cases c : i = 0
      · subst c
        refine ⟨0, nI 0, if_pos rfl, Or.inl ⟨0, by omega, by rw [hm1 _ (by omega)]; exact h0, rfl⟩, ?_⟩
        have e := hn2 (16 * (m + 1) + 0) (by omega)
        rcases hr with ⟨x, x1, x2, x3⟩ | ⟨x2, x3⟩
        · have : x = 0 := by
            have := x2.symm.trans h0
            exact (nI_eq (by omega) (by omega)).mp this
          rw [e, x3, this]
          exact mn_nl (a := 0) (b := 0) (by omega) (by omega)
        · exact absurd (x2.symm.trans h0) (by decide)
      · refine ⟨100000, ν1 14 (16 * (m + 1) + i), if_neg (nI_ne0 (by omega) (by omega)), Rs_mono (hR1 i (by omega)) (by omega), ?_⟩
        rw [hn2 _ (by omega)]
        exact mn_b (show k ≤ 9 by omega) hr
    obtain ⟨z, b0, z1, z2, z3⟩ := hb0
    obtain ⟨a', b', g1, g2, g3, g4⟩ := least_rel (A := nI S) hW1 hm hk (show i < 16 by omega) (show i < S by omega) hR1 G 0 FU 1999 (μ1 (77 + m) i) b0 (by omega) (show G < 2000 by omega) (by omega) z2
    have e45 : f_12_findWatch_l45 0 (nI S) (nI m) (nI i) ν1 FU z (-1) = some b' := by
      show f_12_findWatch_l45 0 (nI S) (nI m) (nI i) ν1 (1999 + 1) z (-1) = some b'
      unfold f_12_findWatch_l45
      rw [rf_0_0, l_15, hW1.2.2.1.1, Option.bind_some, if_neg (show ¬ nI G ≤ -1 from fun y => absurd (Int32.le_trans (nI_pos' (by omega)) y) (by decide)), l_16, hW1.2.2.1.2.1, Option.bind_some, if_neg (lt_n1 (by omega) (by omega)), if_neg (by decide), rf_0_24, nI_1, wq_16 (m + 1) (by omega), nI_add, ldL len_14 (by omega) (by decide), Option.bind_some, z3, show (-1 + 1 : Int32) = nI 0 from by decide]
      exact g2
    have hl : ld μ1 (77 + m) (nI i) = some (μ1 (77 + m) i) := by
      rw [show 77 + m = 76 + (m + 1) from by omega]
      exact ldL (len_76_ (m + 1) (by omega)) (by omega) (by decide)
    have mf : ∀ b, b ≠ 76 + m → up μ1 (76 + m) i a' b = μ b := fun b hb => by rw [up_ne hb]; exact hm1 b hb
    obtain ⟨μ', ν', q1, q2, q3⟩ := ih (i + 1) p q (up μ1 (76 + m) i a') (up ν1 14 (16 * m + i) b') (by omega) (by omega) (by omega) mf (fun b hb => by rw [up_ne hb]; exact hn1 b hb) (fun j hj => by rw [up_ns (by omega)]; exact hn2 j hj) (fun s hs => by
      by_cases c : s = i
      · subst c
        rw [up_at, up_at]
        refine ⟨g3, ?_⟩
        rw [hm1 (77 + m) (by omega)] at g4
        rcases g4 with g4 | ⟨g, x, x1, x2, x3, x4, x5, x6⟩
        · exact Or.inl g4
        · exact Or.inr ⟨g, x, x1, x2, x3, x4, by rw [hm1 (77 + m) (by omega)] at x5; exact x5, x6⟩
      · rw [up_ns c, up_ns (by omega)]
        exact hD s (by omega))
    refine ⟨μ', ν', ?_, ?_, q3⟩
    · unfold f_3_plan_l39 f_3_leastFrom
      rw [hm1 71 (by omega), h.2.1.1, wq_one G (by omega), ← hS, if_neg (lt_n1 (by omega) (by omega)), rf_71_6, a75 (by omega), Option.bind_some, nI_1, a75 (by omega), Option.bind_some, show 76 + (m + 1) = 77 + m from by omega, hl, Option.bind_some]
      rw [show nI 0 = 0 from rfl] at g1
      rw [g1, Option.bind_some, Option.bind_some, stoL (len_76_ m (by omega)) (by omega) (by decide), Option.bind_some, nI_1]
      exact q1
    · unfold f_12_findWatch_l24
      rw [if_neg (lt_n1 (by omega) (by omega)), z1, Option.bind_some, e45, Option.bind_some, rf_0_24, wq_16 m (by omega), nI_add, mn_b (show k + 1 ≤ 9 by omega) g3, stoL len_14 (by omega) (by decide), Option.bind_some, nI_1]
      exact q2
/-- the tables are as told from man m on -/
def TB (G M mi S : Nat) (w : Nat → Nat → Nat) (m : Nat) (μ ν : mm) : Prop := ∀ j, m ≤ j → j ≤ M → μ (76 + j) 0 = nI 0 ∧ ∀ s, s < S → Rs (M - j) (μ (76 + j) s) (ν 14 (16 * j + s)) ∧ (j < M → At G mi w j s μ (μ (76 + j) s) (μ (77 + j) s))
theorem rows_rel {G M mi S : Nat} {w : Nat → Nat → Nat} {μ0 ν0 : mm} (h : WS G M mi w μ0 ν0) (hS : S = 2 ^ G) : ∀ (m f1 f2 : Nat) (μ ν : mm), m ≤ M → m < f1 → m < f2 → (∀ b, ¬ (76 ≤ b ∧ b < 85) → μ b = μ0 b) → (∀ b, b ≠ 14 → ν b = ν0 b) → TB G M mi S w m μ ν → ∃ μ' ν', f_3_plan_l33 71 50 f1 (nI m + (-1)) μ = some μ' ∧ f_12_findWatch_l18 0 (nI S) f2 (nI m + (-1)) ν = some ν' ∧ (∀ b, ¬ (76 ≤ b ∧ b < 85) → μ' b = μ0 b) ∧ (∀ b, b ≠ 14 → ν' b = ν0 b) ∧ TB G M mi S w 0 μ' ν' := by
  have hG := h.1.1
  have hM := h.1.2.1
  have hS2 := wq_S G (by omega)
  rw [← hS] at hS2
  intro m
  induction m with
  | zero =>
    intro f1 f2 μ ν h1 h2 h3 hm hn hT
    obtain ⟨p, rfl⟩ : ∃ p, f1 = p + 1 := ⟨f1 - 1, by omega⟩
    obtain ⟨q, rfl⟩ : ∃ q, f2 = q + 1 := ⟨f2 - 1, by omega⟩
    refine ⟨μ, ν, ?_, ?_, hm, hn, hT⟩
    · unfold f_3_plan_l33
      rw [if_pos (by decide)]
    · unfold f_12_findWatch_l18
      rw [if_pos (by decide)]
  | succ m ih =>
    intro f1 f2 μ ν h1 h2 h3 hm hn hT
    obtain ⟨p, rfl⟩ : ∃ p, f1 = p + 1 := ⟨f1 - 1, by omega⟩
    obtain ⟨q, rfl⟩ : ∃ q, f2 = q + 1 := ⟨f2 - 1, by omega⟩
    have hW1 : WS G M mi w μ ν := WS_cg h (fun b hb => hm b (by omega)) (hn 1 (by decide))
    have t1 := hT (m + 1) (by omega) (by omega)
    rw [show 76 + (m + 1) = 77 + m from by omega] at t1
    obtain ⟨μ1, ν1, g1, g2, g3, g4, g5, g6⟩ := rowW (k := M - (m + 1)) hW1 (show m < M by omega) (by omega) hS (fun s hs => (t1.2 s hs).1) t1.1 S 0 FU FU μ ν (by omega) (show S < 2000 by omega) (show S < 2000 by omega) (fun _ _ => rfl) (fun _ _ => rfl) (fun _ _ => rfl) (fun s hs => absurd hs (by omega))
    rw [show nI 0 = 0 from rfl] at g1 g2
    obtain ⟨μ', ν', q1, q2, q3⟩ := ih p q μ1 ν1 (by omega) (by omega) (by omega) (fun b hb => by rw [g3 b (by omega)]; exact hm b hb) (fun b hb => by rw [g4 b hb]; exact hn b hb) (fun j j1 j2 => by
      by_cases c : j = m
      · subst c
        refine ⟨?_, fun s hs => ?_⟩
        · rcases (g6 0 (by omega)).2 with e | ⟨g, x, -, x2, -⟩
          · rw [e]; exact t1.1
          · exact absurd x2 (by unfold bi; rw [Nat.zero_div]; decide)
        · have e := g6 s hs
          rw [show M - (j + 1) + 1 = M - j from by omega] at e
          refine ⟨e.1, fun _ => ?_⟩
          rcases e.2 with e2 | ⟨g, x, x1, x2, x3, x4, x5, x6⟩
          · exact Or.inl (by rw [g3 (77 + j) (by omega)]; exact e2)
          · exact Or.inr ⟨g, x, x1, x2, x3, x4, by rw [g3 (77 + j) (by omega)]; exact x5, x6⟩
      · have t := hT j (by omega) j2
        rw [g3 (76 + j) (by omega)]
        refine ⟨t.1, fun s hs => ?_⟩
        rw [g5 _ (by omega)]
        refine ⟨(t.2 s hs).1, fun q => ?_⟩
        have t2 := (t.2 s hs).2 q
        rw [show μ1 (77 + j) = μ (77 + j) from g3 (77 + j) (by omega)]
        rcases t2 with e2 | ⟨g, x, x1, x2, x3, x4, x5, x6⟩
        · exact Or.inl e2
        · exact Or.inr ⟨g, x, x1, x2, x3, x4, by rw [g3 (77 + j) (by omega)]; exact x5, x6⟩)
    refine ⟨μ', ν', ?_, ?_, q3⟩
    · unfold f_3_plan_l33
      rw [pk_m1, if_neg (nI_pos (by omega)), g1, Option.bind_some]
      exact q1
    · unfold f_12_findWatch_l18
      rw [pk_m1, if_neg (nI_pos (by omega)), g2, Option.bind_some]
      exact q2
theorem base_M {G M S : Nat} {ν : mm} (hM : M ≤ 8) (hS : S ≤ 16) (n1 : ν 1 15 = nI G) (hG : G ≤ 4) (n2 : ν 1 16 = nI M) : ∀ (n i f : Nat) (ν1 : mm), i + n = S → n < f → (∀ b, b ≠ 14 → ν1 b = ν b) → (∀ s, s < i → ν1 14 (16 * M + s) = if s = 0 then nI 0 else nI 100000) → ∃ ν', f_12_findWatch_l24 0 (nI S) (nI M) f (nI i) ν1 = some ν' ∧ (∀ b, b ≠ 14 → ν' b = ν b) ∧ (∀ s, s < S → ν' 14 (16 * M + s) = if s = 0 then nI 0 else nI 100000) := by
  intro n
  induction n with
  | zero =>
    intro i f ν1 h1 h2 hn hD
    obtain ⟨q, rfl⟩ : ∃ q, f = q + 1 := ⟨f - 1, by omega⟩
    obtain rfl : i = S := by omega
    refine ⟨ν1, ?_, hn, hD⟩
    unfold f_12_findWatch_l24
    rw [if_pos (Int32.le_refl _)]
  | succ n ih =>
    intro i f ν1 h1 h2 hn hD
    obtain ⟨q, rfl⟩ : ∃ q, f = q + 1 := ⟨f - 1, by omega⟩
    have e45 : ∀ z : Int32, f_12_findWatch_l45 0 (nI S) (nI M) (nI i) ν1 FU z (-1) = some z := fun z => by
      show f_12_findWatch_l45 0 (nI S) (nI M) (nI i) ν1 (1999 + 1) z (-1) = some z
      unfold f_12_findWatch_l45
      rw [rf_0_0, l_15, hn 1 (by decide), n1, Option.bind_some, if_neg (show ¬ nI G ≤ -1 from fun y => absurd (Int32.le_trans (nI_pos' (by omega)) y) (by decide)), l_16, hn 1 (by decide), n2, Option.bind_some, if_pos (Int32.le_refl _)]
    have hz : ∃ z : Int32, (if nI i = 0 then some (0 : Int32) else some 100000) = some z ∧ mn 100000 z = if i = 0 then nI 0 else nI 100000 := by
      by_cases c : i = 0
      · subst c
        exact ⟨0, if_pos rfl, by decide⟩
      · exact ⟨100000, if_neg (nI_ne0 (by omega) (by omega)), by rw [if_neg c]; decide⟩
    obtain ⟨z, z1, z2⟩ := hz
    obtain ⟨ν', q1, q2⟩ := ih (i + 1) q (up ν1 14 (16 * M + i) (if i = 0 then nI 0 else nI 100000)) (by omega) (by omega) (fun b hb => by rw [up_ne hb]; exact hn b hb) (fun s hs => by
      by_cases c : s = i
      · subst c; exact up_at
      · rw [up_ns (by omega)]
        exact hD s (by omega))
    refine ⟨ν', ?_, q2⟩
    unfold f_12_findWatch_l24
    rw [if_neg (lt_n1 (by omega) (by omega)), z1, Option.bind_some, e45, Option.bind_some, z2, rf_0_24, wq_16 M (by omega), nI_add, stoL len_14 (by omega) (by decide), Option.bind_some, nI_1]
    exact q1
theorem plan_rel {G M mi S : Nat} {w : Nat → Nat → Nat} {μ ν : mm} (h : WS G M mi w μ ν) (hS : S = 2 ^ G) : ∃ μ4 μ7 μ' ν', f_J7_fill (76 + M) 1000000 μ = some μ4 ∧ μ4 71 = μ 71 ∧ sto μ4 (76 + M) 0 0 = some μ7 ∧ μ7 71 = μ 71 ∧ f_3_plan_l33 71 50 FU (nI M + (-1)) μ7 = some μ' ∧ f_12_findWatch_l18 0 (nI S) FU (nI M) ν = some ν' ∧ (∀ b, ¬ (76 ≤ b ∧ b < 85) → μ' b = μ b) ∧ (∀ b, b ≠ 14 → ν' b = ν b) ∧ TB G M mi S w 0 μ' ν' := by
  have hG := h.1.1
  have hM := h.1.2.1
  have hS2 := wq_S G (by omega)
  rw [← hS] at hS2
  have m0 : ∀ b, b ≠ 76 + M → up (flM μ (76 + M) 0 16 1000000) (76 + M) 0 0 b = μ b := fun b hb => by rw [up_ne hb, flM_ne hb]
  obtain ⟨ν1, k1, k2, k3⟩ := base_M (S := S) hM hS2.2 h.2.2.1.1 hG h.2.2.1.2.1 S 0 FU ν (by omega) (show S < 2000 by omega) (fun _ _ => rfl) (fun s hs => absurd hs (by omega))
  obtain ⟨μ', ν', q1, q2, q3, q4, q5⟩ := rows_rel h hS M FU 1999 (up (flM μ (76 + M) 0 16 1000000) (76 + M) 0 0) ν1 (Nat.le_refl _) (show M < 2000 by omega) (by omega) (fun b hb => m0 b (by omega)) k2 (fun j j1 j2 => by
    obtain rfl : j = M := by omega
    refine ⟨up_at, fun s hs => ⟨?_, fun z => absurd z (by omega)⟩⟩
    rw [k3 s hs]
    by_cases c : s = 0
    · subst c
      rw [up_at, if_pos rfl]
      exact Or.inl ⟨0, by omega, rfl, rfl⟩
    · rw [up_ns c, flM_in (by omega), if_neg c]
      exact Or.inr ⟨rfl, rfl⟩)
  refine ⟨_, _, μ', ν', fill_eq (len_76_ M (by omega)) (by decide), flM_ne (by omega), stoL (k := 0) (len_76_ M (by omega)) (by decide) (by decide), m0 71 (by omega), q1, ?_, q3, q4, q5⟩
  show f_12_findWatch_l18 0 (nI S) (1999 + 1) (nI M) ν = some ν'
  unfold f_12_findWatch_l18
  rw [show nI 0 = 0 from rfl] at k1
  rw [if_neg (nI_pos (by omega)), k1, Option.bind_some]
  exact q2
/-- man m may stand at gate g -/
def Ew (G mi : Nat) (w : Nat → Nat → Nat) (m s : Nat) (μ : mm) (X g : Nat) : Prop := bi s g ∧ w m g ≤ mi ∧ ∃ x, x ≤ 72 ∧ μ (77 + m) (s - 2 ^ g) = nI x ∧ X = w m g + x
theorem E_C {G M mi m g s S X : Nat} {w : Nat → Nat → Nat} {μ ν : mm} (h : WS G M mi w μ ν) (hm : m < M) (hg : g < G) (hs : s < 16) (hsS : s < S) (hX : X ≤ 81) (hT : ∀ s', s' < S → ∃ y, Rs (M - (m + 1)) (μ (77 + m) s') y) : ∃ y, f_3_leastIfAt 71 (nI m) (nI g) (nI s) 50 μ = some y ∧ ((y = nI X ∧ Ew G mi w m s μ X g) ∨ (¬ y = nI X ∧ ¬ Ew G mi w m s μ X g)) := by
  have hC := walk_C (s := s) h hm hg hs
  have hw := (h.2.2.2 m g hm hg).1
  have hM := h.1.2.1
  refine ⟨_, hC, ?_⟩
  by_cases c : bi s g
  · rw [if_pos c]
    by_cases d : w m g ≤ mi
    · rw [if_pos d]
      obtain ⟨y, hy⟩ := hT (s - 2 ^ g) (by have := Nat.sub_le s (2 ^ g); omega)
      rcases hy with ⟨x, x1, x2, -⟩ | ⟨x2, -⟩
      · rw [x2, nI_add]
        by_cases e : X = w m g + x
        · exact Or.inl ⟨by rw [e], c, d, x, by omega, x2, e⟩
        · refine Or.inr ⟨fun z => e ((nI_eq (by omega) (by omega)).mp z).symm, fun ⟨_, _, x', x'1, x'2, x'3⟩ => e ?_⟩
          have := (nI_eq (by omega) (by omega)).mp (x2.symm.trans x'2)
          omega
      · rw [x2, nI_add]
        refine Or.inr ⟨fun z => absurd ((nI_eq (by omega) (by omega)).mp z) (by omega), fun ⟨_, _, x', x'1, x'2, x'3⟩ => ?_⟩
        have := (nI_eq (by omega) (by omega)).mp (x2.symm.trans x'2)
        omega
    · rw [if_neg d]
      exact Or.inr ⟨fun z => absurd ((nI_eq (by omega) (by omega)).mp z) (by omega), fun z => d z.2.1⟩
  · rw [if_neg c]
    exact Or.inr ⟨fun z => absurd ((nI_eq (by omega) (by omega)).mp z) (by omega), fun z => c z.1⟩
theorem E_M {G M mi m g s S X : Nat} {w : Nat → Nat → Nat} {μ ν : mm} (h : WS G M mi w μ ν) (hm : m < M) (hg : g < G) (hs : s < 16) (hsS : s < S) (hX : X ≤ 81) (hX2 : ν 14 (16 * m + s) = nI X) (hT : ∀ s', s' < S → Rs (M - (m + 1)) (μ (77 + m) s') (ν 14 (16 * (m + 1) + s'))) : ∃ y : Int32, (if (nI s >>> (nI g &&& 31)) &&& 1 = (1 : Int32) then (f_12_walk 0 (nI m) (nI g) ν).bind fun x2 => (ld ν 14 (((nI m + 1) <<< (4 &&& 31)) + (nI s ^^^ (1 <<< (nI g &&& 31))))).bind fun x3 => (ld ν 14 ((nI m <<< (4 &&& 31)) + nI s)).bind fun x5 => if (x2 + x3) = x5 then some (1 : Int32) else some 0 else some 0) = some y ∧ ((y = 1 ∧ Ew G mi w m s μ X g) ∨ (y = 0 ∧ ¬ Ew G mi w m s μ X g)) := by
  have hw := (h.2.2.2 m g hm hg).1
  have hM := h.1.2.1
  have hwM := walk_M h hm hg
  by_cases c : bi s g
  · have c' : (nI s >>> (nI g &&& 31)) &&& 1 = (1 : Int32) := (wq_shr s hs g (by have := h.1.1; omega)).mpr c
    rw [if_pos c', hwM, Option.bind_some, nI_1, wq_16 (m + 1) (by omega), wq_xor s hs g (by have := h.1.1; omega) c, nI_add, ldL len_14 (by have := Nat.sub_le s (2 ^ g); omega) (by decide), Option.bind_some, wq_16 m (by omega), nI_add, ldL len_14 (by omega) (by decide), Option.bind_some, hX2]
    have hy := hT (s - 2 ^ g) (by have := Nat.sub_le s (2 ^ g); omega)
    by_cases d : w m g ≤ mi
    · rw [if_pos d]
      rcases hy with ⟨x, x1, x2, x3⟩ | ⟨x2, x3⟩
      · rw [x3, nI_add]
        by_cases e : X = w m g + x
        · exact ⟨1, if_pos (by rw [e]), Or.inl ⟨rfl, c, d, x, by omega, x2, e⟩⟩
        · refine ⟨0, if_neg (fun z => e ((nI_eq (by omega) (by omega)).mp z).symm), Or.inr ⟨rfl, fun ⟨_, _, x', x'1, x'2, x'3⟩ => e ?_⟩⟩
          have := (nI_eq (by omega) (by omega)).mp (x2.symm.trans x'2)
          omega
      · rw [x3, nI_add]
        refine ⟨0, if_neg (fun z => absurd ((nI_eq (by omega) (by omega)).mp z) (by omega)), Or.inr ⟨rfl, fun ⟨_, _, x', x'1, x'2, x'3⟩ => ?_⟩⟩
        have := (nI_eq (by omega) (by omega)).mp (x2.symm.trans x'2)
        omega
    · rw [if_neg d]
      have hz : ¬ nI 100000 + ν 14 (16 * (m + 1) + (s - 2 ^ g)) = nI X := by
        rcases hy with ⟨x, x1, x2, x3⟩ | ⟨x2, x3⟩
        · rw [x3, nI_add]
          exact fun z => absurd ((nI_eq (by omega) (by omega)).mp z) (by omega)
        · rw [x3, nI_add]
          exact fun z => absurd ((nI_eq (by omega) (by omega)).mp z) (by omega)
      exact ⟨0, if_neg hz, Or.inr ⟨rfl, fun z => d z.2.1⟩⟩
  · have c' : ¬ (nI s >>> (nI g &&& 31)) &&& 1 = (1 : Int32) := fun z => c ((wq_shr s hs g (by have := h.1.1; omega)).mp z)
    exact ⟨0, if_neg c', Or.inr ⟨rfl, fun z => c z.1⟩⟩
theorem Ew_cg {G mi m s X g : Nat} {w : Nat → Nat → Nat} {μ μ' : mm} (e : μ' (77 + m) = μ (77 + m)) (h : ¬ Ew G mi w m s μ X g) : ¬ Ew G mi w m s μ' X g := fun ⟨a, b, x, c, d, f⟩ => h ⟨a, b, x, c, by rw [← e]; exact d, f⟩
theorem pick_C {G M mi m s S X : Nat} {w : Nat → Nat → Nat} {μ ν : mm} (h : WS G M mi w μ ν) (hm : m < M) (hs : s < 16) (hsS : s < S) (hX : X ≤ 81) (hX2 : μ (76 + m) s = nI X) (hT : ∀ s', s' < S → ∃ y, Rs (M - (m + 1)) (μ (77 + m) s') y) : ∀ (n j f : Nat) (μ1 : mm), j + n = G → n < f → (∀ b, b ≠ 74 → μ1 b = μ b) → μ1 74 m = -1 → ((∀ g, j ≤ g → g < G → ¬ Ew G mi w m s μ X g) ∧ f_3_sendMen_l29 71 50 (nI m) f (nI s) (nI j) μ1 = some (nI s, μ1)) ∨ ∃ g0, (j ≤ g0 ∧ g0 < G) ∧ Ew G mi w m s μ X g0 ∧ (∀ g, j ≤ g → g < g0 → ¬ Ew G mi w m s μ X g) ∧ f_3_sendMen_l29 71 50 (nI m) f (nI s) (nI j) μ1 = some (nI (s - 2 ^ g0), up μ1 74 m (nI g0)) := by
  have hG := h.1.1
  have hM := h.1.2.1
  intro n
  induction n with
  | zero =>
    intro j f μ1 h1 h2 hm1 e1
    obtain ⟨q, rfl⟩ : ∃ q, f = q + 1 := ⟨f - 1, by omega⟩
    refine Or.inl ⟨fun g g1 g2 => absurd g2 (by omega), ?_⟩
    unfold f_3_sendMen_l29
    rw [hm1 71 (by decide), h.2.1.1, show j = G from by omega, if_pos (Int32.le_refl _)]
  | succ n ih =>
    intro j f μ1 h1 h2 hm1 e1
    obtain ⟨q, rfl⟩ : ∃ q, f = q + 1 := ⟨f - 1, by omega⟩
    have hW1 : WS G M mi w μ1 ν := WS_cg h (fun b hb => hm1 b (by omega)) rfl
    have e77 := hm1 (77 + m) (by omega)
    obtain ⟨y, y1, y2⟩ := E_C (g := j) hW1 hm (by omega) hs hsS hX (fun s' hs' => by rw [e77]; exact hT s' hs')
    have hl : ld μ1 (76 + m) (nI s) = some (nI X) := by rw [ldL (len_76_ m (by omega)) hs (by decide), hm1 (76 + m) (by omega), hX2]
    have hd : f_3_sendMen_l29 71 50 (nI m) (q + 1) (nI s) (nI j) μ1 = if y = nI X then f_3_sendMen_l29 71 50 (nI m) q (nI s &&& (((1 : Int32) <<< (nI j &&& 31)) ^^^ (-1))) (nI (j + 1)) (up μ1 74 m (nI j)) else f_3_sendMen_l29 71 50 (nI m) q (nI s) (nI (j + 1)) μ1 := by
      conv => lhs; unfold f_3_sendMen_l29
      rw [hm1 71 (by decide), h.2.1.1, if_neg (lt_n1 (by omega) (by omega)), rf_71_5, ldL len_74 (by omega) (by decide), Option.bind_some, if_pos e1, y1, Option.bind_some, rf_71_6, a75 (by omega), Option.bind_some, hl, Option.bind_some, stoL len_74 (by omega) (by decide), Option.bind_some, nI_1]
    rcases y2 with ⟨y2, y3⟩ | ⟨y2, y3⟩
    · refine Or.inr ⟨j, ⟨Nat.le_refl _, by omega⟩, ?_, fun g g1 g2 => absurd g2 (by omega), ?_⟩
      · obtain ⟨a, b, x, c, d, f⟩ := y3
        exact ⟨a, b, x, c, by rw [← e77]; exact d, f⟩
      · rw [hd, if_pos y2, wq_clr s hs j (by omega) y3.1]
        obtain ⟨q', rfl⟩ : ∃ q', q = q' + 1 := ⟨q - 1, by omega⟩
        unfold f_3_sendMen_l29
        by_cases c : nI G ≤ nI (j + 1)
        · rw [up_ne (by decide), hm1 71 (by decide), h.2.1.1, if_pos c]
        · rw [up_ne (by decide), hm1 71 (by decide), h.2.1.1, if_neg c, rf_71_5, ldL len_74 (by omega) (by decide), Option.bind_some, up_at, if_neg (ne_m1 (by omega))]
    · have y3' : ¬ Ew G mi w m s μ X j := Ew_cg e77.symm y3
      rw [hd, if_neg y2]
      rcases ih (j + 1) q μ1 (by omega) (by omega) hm1 e1 with ⟨r1, r2⟩ | ⟨g0, ⟨r1, r2⟩, r3, r4, r5⟩
      · refine Or.inl ⟨fun g g1 g2 => ?_, r2⟩
        by_cases c : g = j
        · subst c; exact y3'
        · exact r1 g (by omega) g2
      · refine Or.inr ⟨g0, ⟨by omega, r2⟩, r3, fun g g1 g2 => ?_, r5⟩
        by_cases c : g = j
        · subst c; exact y3'
        · exact r4 g (by omega) g2
theorem pick_M {G M mi m s S X : Nat} {w : Nat → Nat → Nat} {μ ν : mm} {A B : Int32} (h : WS G M mi w μ ν) (hm : m < M) (hs : s < 16) (hsS : s < S) (hX : X ≤ 81) (hX2 : ν 14 (16 * m + s) = nI X) (hT : ∀ s', s' < S → Rs (M - (m + 1)) (μ (77 + m) s') (ν 14 (16 * (m + 1) + s'))) : ∀ (i f : Nat) (ν1 : mm), i ≤ G → i < f → (∀ b, b = 1 ∨ b = 14 → ν1 b = ν b) → ∃ ν', f_12_watch_l103 0 A (nI s) B (nI m) f (nI i + (-1)) ν1 = some ν' ∧ (∀ b, b ≠ 15 → ν' b = ν1 b) ∧ (∀ k, k ≠ m → ν' 15 k = ν1 15 k) ∧ (((∀ g, g < i → ¬ Ew G mi w m s μ X g) ∧ ν' 15 m = ν1 15 m) ∨ ∃ g0, g0 < i ∧ Ew G mi w m s μ X g0 ∧ (∀ g, g < g0 → ¬ Ew G mi w m s μ X g) ∧ ν' 15 m = nI g0) := by
  have hG := h.1.1
  have hM := h.1.2.1
  intro i
  induction i with
  | zero =>
    intro f ν1 h1 h2 hn1
    obtain ⟨q, rfl⟩ : ∃ q, f = q + 1 := ⟨f - 1, by omega⟩
    refine ⟨ν1, ?_, fun _ _ => rfl, fun _ _ => rfl, Or.inl ⟨fun g g1 => absurd g1 (by omega), rfl⟩⟩
    unfold f_12_watch_l103
    rw [if_pos (by decide)]
  | succ i ih =>
    intro f ν1 h1 h2 hn1
    obtain ⟨q, rfl⟩ : ∃ q, f = q + 1 := ⟨f - 1, by omega⟩
    have hW1 : WS G M mi w μ ν1 := WS_cg h (fun _ _ => rfl) (hn1 1 (by omega))
    obtain ⟨y, y1, y2⟩ := E_M (g := i) hW1 hm (by omega) hs hsS hX (by rw [hn1 14 (by omega)]; exact hX2) (fun s' hs' => by rw [hn1 14 (by omega)]; exact hT s' hs')
    have hd : ∃ z : Int32, (if y = 0 then (ld ν1 15 (nI m)).bind fun x8 => some x8 else some (nI i)) = some z ∧ ((y = 0 ∧ z = ν1 15 m) ∨ (y = 1 ∧ z = nI i)) := by
      rcases y2 with ⟨e, -⟩ | ⟨e, -⟩
      · subst e
        exact ⟨nI i, if_neg (by decide), Or.inr ⟨rfl, rfl⟩⟩
      · subst e
        exact ⟨ν1 15 m, by rw [if_pos rfl, ldL len_15 (by omega) (by decide), Option.bind_some], Or.inl ⟨rfl, rfl⟩⟩
    obtain ⟨z, z1, z2⟩ := hd
    obtain ⟨ν', k1, k2, k3, k4⟩ := ih q (up ν1 15 m z) (by omega) (by omega) (fun b hb => by rw [up_ne (by omega)]; exact hn1 b hb)
    refine ⟨ν', ?_, fun b hb => by rw [k2 b hb, up_ne hb], fun k hk => by rw [k3 k hk, up_ns hk], ?_⟩
    · unfold f_12_watch_l103
      rw [pk_m1, if_neg (nI_pos (by omega)), rf_0_24, y1, Option.bind_some, rf_0_25, z1, Option.bind_some, stoL len_15 (by omega) (by decide), Option.bind_some]
      exact k1
    · rcases k4 with ⟨r1, r2⟩ | ⟨g0, r1, r2, r3, r4⟩
      · rw [up_at] at r2
        rcases z2 with ⟨e, z2⟩ | ⟨e, z2⟩
        · rcases y2 with ⟨e2, -⟩ | ⟨-, y2⟩
          · rw [e] at e2; exact absurd e2 (by decide)
          · refine Or.inl ⟨fun g hg => ?_, r2.trans z2⟩
            by_cases c : g = i
            · subst c; exact y2
            · exact r1 g (by omega)
        · rcases y2 with ⟨-, y2⟩ | ⟨e2, -⟩
          · exact Or.inr ⟨i, by omega, y2, fun g hg => r1 g hg, r2.trans z2⟩
          · rw [e] at e2; exact absurd e2 (by decide)
      · exact Or.inr ⟨g0, by omega, r2, r3, r4⟩
