/-! the String constants: 1000 + k, and the two static rows 2000 (SORTS), 2001 (FACTS) -/
def slen (a : Nat) : Int32 := Int32.ofNat (strT.getD (a - 1000) []).length
def sch (a : Nat) (i : Int32) : Option Int32 := if i < 0 ∨ (strT.getD (a - 1000) []).length ≤ i.toNatClampNeg then none else some ((strT.getD (a - 1000) []).getD i.toNatClampNeg 0)
theorem kd_s0 : kd 1000 = 50 := by decide
theorem kd_s1 : kd 1001 = 50 := by decide
theorem kd_s2 : kd 1002 = 50 := by decide
theorem kd_s3 : kd 1003 = 50 := by decide
theorem kd_s4 : kd 1004 = 50 := by decide
theorem kd_s5 : kd 1005 = 50 := by decide
theorem kd_s6 : kd 1006 = 50 := by decide
theorem kd_s7 : kd 1007 = 50 := by decide
theorem kd_s8 : kd 1008 = 50 := by decide
theorem kd_s9 : kd 1009 = 50 := by decide
theorem kd_s10 : kd 1010 = 50 := by decide
theorem kd_s11 : kd 1011 = 50 := by decide
theorem kd_s12 : kd 1012 = 50 := by decide
theorem kd_s13 : kd 1013 = 50 := by decide
theorem kd_s14 : kd 1014 = 50 := by decide
theorem kd_s15 : kd 1015 = 50 := by decide
theorem kd_s16 : kd 1016 = 50 := by decide
theorem kd_s17 : kd 1017 = 50 := by decide
theorem kd_s18 : kd 1018 = 50 := by decide
theorem kd_t0 : kd 2000 = 51 := by decide
theorem kd_t1 : kd 2001 = 51 := by decide
theorem kd51 {a : Nat} (h : kd a = 51) : a = 2000 ∨ a = 2001 := by
  by_cases h1 : a = 2000
  · exact Or.inl h1
  · by_cases h2 : a = 2001
    · exact Or.inr h2
    · exfalso
      unfold kd at h
      split at h
      · have : ∀ b, b < 49 → kdT.getD b 99 ≠ 51 := by decide +kernel
        exact this a (by assumption) h
      · split at h
        · have : ∀ b, b < 94 → kdV.getD b 99 ≠ 51 := by decide +kernel
          exact this _ (Nat.mod_lt _ (by decide)) h
        · split at h
          · omega
          · split at h
            · omega
            · omega
theorem te_51_b : ∀ i, i < 7 → kd (rf 2000 i) = 50 ∧ kd (rf 2001 i) = 50 := by decide +kernel
theorem tl_51 {a b : Nat} {i : Int32} (h : lda a i = some b) (ha : kd a = 51) : kd b = 50 := by
  obtain ⟨j, hj, rfl⟩ := lda_lt h
  rcases kd51 ha with rfl | rfl
  · exact (te_51_b j hj).1
  · exact (te_51_b j hj).2
theorem R_str_14 {l : Launch} {E : ce} {d : Nat} {M : mt} {pc : Nat} {lv : List (Option Value)} {st : List Value} {μ : mm} {Q : Option Value → mm → Prop} (hM : M.1 = RX12) (hd : decode M.2.1 pc = .ok (.ldc 210, 2)) (K : Rj l E d M (pc + 2) lv (.ref 1014 :: st) μ Q) : Rj l E d M pc lv st μ Q := by
  intro p e s m args below meth c H locs ls C hP hS hX hl
  exact va_ldcS C.1 C.2.1 (own := RX12) (by rw [← hM]; exact C.2.2.2.2.2.1) hX.2.2.1.1 hd (K p e s m args below meth c H locs ls C hP hS hX hl)
theorem R_str_15 {l : Launch} {E : ce} {d : Nat} {M : mt} {pc : Nat} {lv : List (Option Value)} {st : List Value} {μ : mm} {Q : Option Value → mm → Prop} (hM : M.1 = RX12) (hd : decode M.2.1 pc = .ok (.ldc 189, 2)) (K : Rj l E d M (pc + 2) lv (.ref 1015 :: st) μ Q) : Rj l E d M pc lv st μ Q := by
  intro p e s m args below meth c H locs ls C hP hS hX hl
  exact va_ldcS C.1 C.2.1 (own := RX12) (by rw [← hM]; exact C.2.2.2.2.2.1) hX.2.2.1.2.1 hd (K p e s m args below meth c H locs ls C hP hS hX hl)
theorem R_str_16 {l : Launch} {E : ce} {d : Nat} {M : mt} {pc : Nat} {lv : List (Option Value)} {st : List Value} {μ : mm} {Q : Option Value → mm → Prop} (hM : M.1 = RX12) (hd : decode M.2.1 pc = .ok (.ldc 187, 2)) (K : Rj l E d M (pc + 2) lv (.ref 1016 :: st) μ Q) : Rj l E d M pc lv st μ Q := by
  intro p e s m args below meth c H locs ls C hP hS hX hl
  exact va_ldcS C.1 C.2.1 (own := RX12) (by rw [← hM]; exact C.2.2.2.2.2.1) hX.2.2.1.2.2.1 hd (K p e s m args below meth c H locs ls C hP hS hX hl)
theorem R_str_17 {l : Launch} {E : ce} {d : Nat} {M : mt} {pc : Nat} {lv : List (Option Value)} {st : List Value} {μ : mm} {Q : Option Value → mm → Prop} (hM : M.1 = RX12) (hd : decode M.2.1 pc = .ok (.ldc 174, 2)) (K : Rj l E d M (pc + 2) lv (.ref 1017 :: st) μ Q) : Rj l E d M pc lv st μ Q := by
  intro p e s m args below meth c H locs ls C hP hS hX hl
  exact va_ldcS C.1 C.2.1 (own := RX12) (by rw [← hM]; exact C.2.2.2.2.2.1) hX.2.2.1.2.2.2.1 hd (K p e s m args below meth c H locs ls C hP hS hX hl)
theorem R_str_18 {l : Launch} {E : ce} {d : Nat} {M : mt} {pc : Nat} {lv : List (Option Value)} {st : List Value} {μ : mm} {Q : Option Value → mm → Prop} (hM : M.1 = RX8) (hd : decode M.2.1 pc = .ok (.ldc 111, 2)) (K : Rj l E d M (pc + 2) lv (.ref 1018 :: st) μ Q) : Rj l E d M pc lv st μ Q := by
  intro p e s m args below meth c H locs ls C hP hS hX hl
  exact va_ldcS C.1 C.2.1 (own := RX8) (by rw [← hM]; exact C.2.2.2.2.2.1) hX.2.2.1.2.2.2.2 hd (K p e s m args below meth c H locs ls C hP hS hX hl)
theorem R_slen_8_113 {l : Launch} {E : ce} {d : Nat} {M : mt} {pc : Nat} {lv : List (Option Value)} {st : List Value} {μ : mm} {Q : Option Value → mm → Prop} {a : Nat} (hM : M.1 = RX8) (ha : kd a = 50) (hd : decode M.2.1 pc = .ok (.invokevirtual 113, 3)) (K : Rj l E (d + 5) M (pc + 3) lv (.int (slen a) :: st) μ Q) : Rj l E (d + 5) M pc lv (.ref a :: st) μ Q := sorry
theorem R_sch_8_118 {l : Launch} {E : ce} {d : Nat} {M : mt} {pc : Nat} {lv : List (Option Value)} {st : List Value} {μ : mm} {Q : Option Value → mm → Prop} {a : Nat} {i x : Int32} (hM : M.1 = RX8) (h : sch a i = some x) (ha : kd a = 50) (hd : decode M.2.1 pc = .ok (.invokevirtual 118, 3)) (K : Rj l E (d + 5) M (pc + 3) lv (.int x :: st) μ Q) : Rj l E (d + 5) M pc lv (.int i :: .ref a :: st) μ Q := sorry
theorem R_slen_12_151 {l : Launch} {E : ce} {d : Nat} {M : mt} {pc : Nat} {lv : List (Option Value)} {st : List Value} {μ : mm} {Q : Option Value → mm → Prop} {a : Nat} (hM : M.1 = RX12) (ha : kd a = 50) (hd : decode M.2.1 pc = .ok (.invokevirtual 151, 3)) (K : Rj l E (d + 5) M (pc + 3) lv (.int (slen a) :: st) μ Q) : Rj l E (d + 5) M pc lv (.ref a :: st) μ Q := sorry
theorem R_sch_12_157 {l : Launch} {E : ce} {d : Nat} {M : mt} {pc : Nat} {lv : List (Option Value)} {st : List Value} {μ : mm} {Q : Option Value → mm → Prop} {a : Nat} {i x : Int32} (hM : M.1 = RX12) (h : sch a i = some x) (ha : kd a = 50) (hd : decode M.2.1 pc = .ok (.invokevirtual 157, 3)) (K : Rj l E (d + 5) M (pc + 3) lv (.int x :: st) μ Q) : Rj l E (d + 5) M pc lv (.int i :: .ref a :: st) μ Q := sorry
theorem R_gs_0 {l : Launch} {E : ce} {d : Nat} {M : mt} {pc : Nat} {lv : List (Option Value)} {st : List Value} {μ : mm} {Q : Option Value → mm → Prop} (hM : M.1 = RX12) (hd : decode M.2.1 pc = .ok (.getstatic 207, 3)) (K : Rj l E d M (pc + 3) lv (.ref 2000 :: st) μ Q) : Rj l E d M pc lv st μ Q := sorry
theorem R_gs_1 {l : Launch} {E : ce} {d : Nat} {M : mt} {pc : Nat} {lv : List (Option Value)} {st : List Value} {μ : mm} {Q : Option Value → mm → Prop} (hM : M.1 = RX12) (hd : decode M.2.1 pc = .ok (.getstatic 200, 3)) (K : Rj l E d M (pc + 3) lv (.ref 2001 :: st) μ Q) : Rj l E d M pc lv st μ Q := sorry
theorem R_sald {l : Launch} {E : ce} {d : Nat} {M : mt} {pc : Nat} {lv : List (Option Value)} {st : List Value} {μ : mm} {Q : Option Value → mm → Prop} {a b : Nat} {i : Int32} (h : lda a i = some b) (ha : kd a = 51) (hd : decode M.2.1 pc = .ok (.aaload, 1)) (K : Rj l E d M (pc + 1) lv (.ref b :: st) μ Q) : Rj l E d M pc lv (.int i :: .ref a :: st) μ Q := by
  intro p e s m args below meth c H locs ls C hP hS hX hl
  obtain ⟨h1, rfl⟩ := lda_el h
  rcases kd51 ha with rfl | rfl
  · exact vb_tq C.1 C.2.1 hX.2.2.2.2.2.2.2.1 hS (N := 7) h1 rfl hd (K p e s m args below meth c H locs ls C hP hS hX hl)
  · exact vb_tq C.1 C.2.1 hX.2.2.2.2.2.2.2.2 hS (N := 7) h1 rfl hd (K p e s m args below meth c H locs ls C hP hS hX hl)
