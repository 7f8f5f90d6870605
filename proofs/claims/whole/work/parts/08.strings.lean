/-! the String constants: 1000 + k, and the two static rows 2000 (SORTS), 2001 (FACTS) -/
def slen (a : Nat) : Int32 := Int32.ofNat (strT.getD (a - 1000) []).length
def sch (a : Nat) (i : Int32) : Option Int32 := if i < 0 ∨ (strT.getD (a - 1000) []).length ≤ i.toNatClampNeg then none else some ((strT.getD (a - 1000) []).getD i.toNatClampNeg 0)
theorem kd_s0 : kd 1000 = 50 := by decide
theorem kd_s1 : kd 1001 = 50 := by decide
theorem kd_s2 : kd 1002 = 50 := by decide
theorem kd_s3 : kd 1003 = 50 := by decide
theorem kd_s4 : kd 1004 = 50 := by decide
theorem kd_s5 : kd 1005 = 50 := by decide
theorem kd_s6 : kd 1006 = 50 := by decide
theorem kd_s7 : kd 1007 = 50 := by decide
theorem kd_s8 : kd 1008 = 50 := by decide
theorem kd_s9 : kd 1009 = 50 := by decide
theorem kd_s10 : kd 1010 = 50 := by decide
theorem kd_s11 : kd 1011 = 50 := by decide
theorem kd_s12 : kd 1012 = 50 := by decide
theorem kd_s13 : kd 1013 = 50 := by decide
theorem kd_s14 : kd 1014 = 50 := by decide
theorem kd_s15 : kd 1015 = 50 := by decide
theorem kd_s16 : kd 1016 = 50 := by decide
theorem kd_s17 : kd 1017 = 50 := by decide
theorem kd_s18 : kd 1018 = 50 := by decide
theorem kd_t0 : kd 2000 = 51 := by decide
theorem kd_t1 : kd 2001 = 51 := by decide
theorem kd51 {a : Nat} (h : kd a = 51) : a = 2000 ∨ a = 2001 := by
  by_cases h1 : a = 2000
  · exact Or.inl h1
  · by_cases h2 : a = 2001
    · exact Or.inr h2
    · exfalso
      unfold kd at h
      split at h
      · have : ∀ b, b < 49 → kdT.getD b 99 ≠ 51 := by decide +kernel
        exact this a (by assumption) h
      · split at h
        · have : ∀ b, b < 94 → kdV.getD b 99 ≠ 51 := by decide +kernel
          exact this _ (Nat.mod_lt _ (by decide)) h
        · (repeat' split at h) <;> omega
theorem te_51_b : ∀ i, i < 7 → kd (rf 2000 i) = 50 ∧ kd (rf 2001 i) = 50 := by decide +kernel
theorem tl_51 {a b : Nat} {i : Int32} (h : lda a i = some b) (ha : kd a = 51) : kd b = 50 := by
  obtain ⟨j, hj, rfl⟩ := lda_lt h
  rcases kd51 ha with rfl | rfl
  · exact (te_51_b j hj).1
  · exact (te_51_b j hj).2
theorem R_str_14 {l : Launch} {E : ce} {d : Nat} {M : mt} {pc : Nat} {lv : List (Option Value)} {st : List Value} {μ : mm} {Q : Option Value → mm → Prop} (hM : M.1 = RX12) (hd : decode M.2.1 pc = .ok (.ldc 210, 2)) (K : Rj l E d M (pc + 2) lv (.ref 1014 :: st) μ Q) : Rj l E d M pc lv st μ Q := by
  intro p e s m args below meth c H locs ls R kc ns C hP hS hX hl hR
  exact va_ldcS C.1 C.2.1 (own := RX12) (by rw [← hM]; exact C.2.2.2.2.2.1) hX.2.2.1.1 hd (K p e s m args below meth c H locs ls R kc ns C hP hS hX hl hR)
theorem R_str_15 {l : Launch} {E : ce} {d : Nat} {M : mt} {pc : Nat} {lv : List (Option Value)} {st : List Value} {μ : mm} {Q : Option Value → mm → Prop} (hM : M.1 = RX12) (hd : decode M.2.1 pc = .ok (.ldc 189, 2)) (K : Rj l E d M (pc + 2) lv (.ref 1015 :: st) μ Q) : Rj l E d M pc lv st μ Q := by
  intro p e s m args below meth c H locs ls R kc ns C hP hS hX hl hR
  exact va_ldcS C.1 C.2.1 (own := RX12) (by rw [← hM]; exact C.2.2.2.2.2.1) hX.2.2.1.2.1 hd (K p e s m args below meth c H locs ls R kc ns C hP hS hX hl hR)
theorem R_str_16 {l : Launch} {E : ce} {d : Nat} {M : mt} {pc : Nat} {lv : List (Option Value)} {st : List Value} {μ : mm} {Q : Option Value → mm → Prop} (hM : M.1 = RX12) (hd : decode M.2.1 pc = .ok (.ldc 187, 2)) (K : Rj l E d M (pc + 2) lv (.ref 1016 :: st) μ Q) : Rj l E d M pc lv st μ Q := by
  intro p e s m args below meth c H locs ls R kc ns C hP hS hX hl hR
  exact va_ldcS C.1 C.2.1 (own := RX12) (by rw [← hM]; exact C.2.2.2.2.2.1) hX.2.2.1.2.2.1 hd (K p e s m args below meth c H locs ls R kc ns C hP hS hX hl hR)
theorem R_str_17 {l : Launch} {E : ce} {d : Nat} {M : mt} {pc : Nat} {lv : List (Option Value)} {st : List Value} {μ : mm} {Q : Option Value → mm → Prop} (hM : M.1 = RX12) (hd : decode M.2.1 pc = .ok (.ldc 174, 2)) (K : Rj l E d M (pc + 2) lv (.ref 1017 :: st) μ Q) : Rj l E d M pc lv st μ Q := by
  intro p e s m args below meth c H locs ls R kc ns C hP hS hX hl hR
  exact va_ldcS C.1 C.2.1 (own := RX12) (by rw [← hM]; exact C.2.2.2.2.2.1) hX.2.2.1.2.2.2.1 hd (K p e s m args below meth c H locs ls R kc ns C hP hS hX hl hR)
theorem R_str_18 {l : Launch} {E : ce} {d : Nat} {M : mt} {pc : Nat} {lv : List (Option Value)} {st : List Value} {μ : mm} {Q : Option Value → mm → Prop} (hM : M.1 = RX8) (hd : decode M.2.1 pc = .ok (.ldc 111, 2)) (K : Rj l E d M (pc + 2) lv (.ref 1018 :: st) μ Q) : Rj l E d M pc lv st μ Q := by
  intro p e s m args below meth c H locs ls R kc ns C hP hS hX hl hR
  exact va_ldcS C.1 C.2.1 (own := RX8) (by rw [← hM]; exact C.2.2.2.2.2.1) hX.2.2.1.2.2.2.2 hd (K p e s m args below meth c H locs ls R kc ns C hP hS hX hl hR)
section RS
variable {l : Launch} {E : ce} {d : Nat} {M : mt} {pc : Nat} {lv : List (Option Value)} {st : List Value} {μ : mm} {Q : Option Value → mm → Prop}
theorem kd50 {a : Nat} (h : kd a = 50) : ∃ k, k < 19 ∧ a = 1000 + k := by
  unfold kd at h
  split at h
  · have h9 : ∀ b, b < 49 → kdT.getD b 99 ≠ 50 := by decide +kernel
    exact absurd h (h9 a (by assumption))
  · split at h
    · have h9 : ∀ b, b < 94 → kdV.getD b 99 ≠ 50 := by decide +kernel
      exact absurd h (h9 _ (Nat.mod_lt _ (by decide)))
    · split at h
      · omega
      · split at h
        · exact ⟨a - 1000, by omega, by omega⟩
        · (repeat' split at h) <;> omega
theorem R_i2c {x : Int32} (hd : decode M.2.1 pc = .ok (.i2c, 1)) (K : Rj l E d M (pc + 1) lv (.int (x.toUInt32 % 65536).toInt32 :: st) μ Q) : Rj l E d M pc lv (.int x :: st) μ Q := by
  intro p e s m args below meth c H locs ls R kc ns C hP hS hX hl hR
  exact lv_i2c C.1 C.2.1 hd rfl (K p e s m args below meth c H locs ls R kc ns C hP hS hX hl hR)
theorem R_tret {x : Int32} {ty : FieldType} (hr : M.2.2.2 = some ty) (hn : narrow ty (.int x) = .int x) (hd : decode M.2.1 pc = .ok (.ireturn, 1)) (hq : Q (some (.int x)) μ) : Rj l E d M pc lv [.int x] μ Q := by
  intro p e s m args below meth c H locs ls R kc ns C hP hS hX hl hR
  exact W.zret C.1 C.2.1 (C.2.2.2.1.trans hr) hn (R_end C hP hS hX hq) (fun q h => hS.2.2 q h) hd C.2.2.2.2.1
theorem R_gstat {C0 n ds own : String} {idx : Nat} {v : Value} (hM : M.1 = own) (hw : Cond.fieldLink own idx C0 n ds ∈ tb) (hZ : ∀ s : State, Xf E s s.heap → va_Z C0 n ds (tr E v) (Ar E) s s.heap) (hd : decode M.2.1 pc = .ok (.getstatic idx, 3)) (K : Rj l E d M (pc + 3) lv (v :: st) μ Q) : Rj l E d M pc lv st μ Q := by
  intro p e s m args below meth c H locs ls R kc ns C hP hS hX hl hR
  have hts := C.2.2.2.2.2.2.1
  exact va_gets (ref := C0) C.1 C.2.1 (hZ s hX) hS (own := own) (by rw [← hM]; exact C.2.2.2.2.2.1) (hts _ hw) (fun x h => h) hd (K p e s m args below meth c H locs ls R kc ns C hP hS hX hl hR)
theorem R_gsF {C0 n ds own : String} {idx : Nat} {v w : Value} (hM : M.1 = own) (hw : Cond.fieldLink own idx C0 n ds ∈ tb) (hZ : ∀ s : State, Xf E s s.heap → va_Z C0 n ds (tr E v) (Ar E) s s.heap ∨ va_Z C0 n ds (tr E w) (Ar E) s s.heap) (hd : decode M.2.1 pc = .ok (.getstatic idx, 3)) (K1 : Rj l E d M (pc + 3) lv (v :: st) μ Q) (K2 : Rj l E d M (pc + 3) lv (w :: st) μ Q) : Rj l E d M pc lv st μ Q := by
  intro p e s m args below meth c H locs ls R kc ns C hP hS hX hl hR
  have hts := C.2.2.2.2.2.2.1
  rcases hZ s hX with h | h
  · exact va_gets (ref := C0) C.1 C.2.1 h hS (own := own) (by rw [← hM]; exact C.2.2.2.2.2.1) (hts _ hw) (fun x h => h) hd (K1 p e s m args below meth c H locs ls R kc ns C hP hS hX hl hR)
  · exact va_gets (ref := C0) C.1 C.2.1 h hS (own := own) (by rw [← hM]; exact C.2.2.2.2.2.1) (hts _ hw) (fun x h => h) hd (K2 p e s m args below meth c H locs ls R kc ns C hP hS hX hl hR)
theorem R_sval {k : Nat} (hM : M.1 = RJ0) (hw : Cond.fieldLink RJ0 9 "java/lang/String" "value" "[B" ∈ tb) (hk : k < 19) (hd : decode M.2.1 pc = .ok (.getfield 9, 3)) (K : Rj l E d M (pc + 3) lv (.ref (3000 + k) :: st) μ Q) : Rj l E d M pc lv (.ref (1000 + k) :: st) μ Q := by
  intro p e s m args below meth c H locs ls R kc ns C hP hS hX hl hR
  have hts := C.2.2.2.2.2.2.1
  exact vk_getf C.1 C.2.1 (hX.2.1.1 k hk).2.2.1 hS (own := RJ0) (by rw [← hM]; exact C.2.2.2.2.2.1) (hts _ hw) (fun x h => h) hd (K p e s m args below meth c H locs ls R kc ns C hP hS hX hl hR)
theorem R_scod {k : Nat} (hM : M.1 = RJ0) (hw : Cond.fieldLink RJ0 15 "java/lang/String" "coder" "B" ∈ tb) (hk : k < 19) (hd : decode M.2.1 pc = .ok (.getfield 15, 3)) (K : Rj l E d M (pc + 3) lv (.int 0 :: st) μ Q) : Rj l E d M pc lv (.ref (1000 + k) :: st) μ Q := by
  intro p e s m args below meth c H locs ls R kc ns C hP hS hX hl hR
  have hts := C.2.2.2.2.2.2.1
  exact vk_getf C.1 C.2.1 (hX.2.1.1 k hk).2.1 hS (own := RJ0) (by rw [← hM]; exact C.2.2.2.2.2.1) (hts _ hw) (fun x h => h) hd (K p e s m args below meth c H locs ls R kc ns C hP hS hX hl hR)
theorem R_svlen {k : Nat} (hk : k < 19) (hd : decode M.2.1 pc = .ok (.arraylength, 1)) (K : Rj l E d M (pc + 1) lv (.int (Int32.ofNat (lenT.getD k 0)) :: st) μ Q) : Rj l E d M pc lv (.ref (3000 + k) :: st) μ Q := by
  intro p e s m args below meth c H locs ls R kc ns C hP hS hX hl hR
  exact va_tlen C.1 C.2.1 (hX.2.1.1 k hk).2.2.2 hS rfl hd (K p e s m args below meth c H locs ls R kc ns C hP hS hX hl hR)
theorem R_svld {k : Nat} {i : Int32} (hk : k < 19) (hi : vp_in i (lenT.getD k 0)) (hd : decode M.2.1 pc = .ok (.baload, 1)) (K : Rj l E d M (pc + 1) lv (.int ((strT.getD k []).getD i.toNatClampNeg 0) :: st) μ Q) : Rj l E d M pc lv (.int i :: .ref (3000 + k) :: st) μ Q := by
  intro p e s m args below meth c H locs ls R kc ns C hP hS hX hl hR
  exact va_tb C.1 C.2.1 (hX.2.1.1 k hk).2.2.2 hS hi rfl hd (K p e s m args below meth c H locs ls R kc ns C hP hS hX hl hR)
theorem R_callVs {y : MethodName} {N : mt} {n idx k : Nat} {As st0 : List Value} {Q1 : Option Value → mm → Prop} (hM : Ct l E d y N (.ref (1000 + k) :: As) μ Q1) (hy : Cal y N n) (hin : Cond.instanceMethod y ∈ tb) (hse : Cond.selects y.cls y y ∈ tb) (hw : Cond.methodLink M.1 idx y ∈ tb) (hk : k < 19) (hc : y.cls = "java/lang/String") (hn : As.length = n) (hst : st0 = As.reverse ++ .ref (1000 + k) :: st) (hcat : (st.map fun v => v.category).sum ≤ 8) (hd : decode M.2.1 pc = .ok (.invokevirtual idx, 3)) (K : ∀ (v : Option Value) (μ' : mm), Q1 v μ' → Rj l E (d + 1) M (pc + 3) lv (v.toList ++ st) μ' Q) : Rj l E (d + 1) M pc lv st0 μ Q := by
  refine R_run (Q1 := Q1) (a0 := (Value.ref (E.1 (1000 + k)) :: As.map (tr E)).toArray) (fun p e s m args below meth c H locs ls R kc ns C hP hS hX hl hR => ?_) K
  have hts := C.2.2.2.2.2.2.1
  obtain ⟨b1, b2, b3, b4, b5, b6⟩ := callB0 (d := d) hR hts hy
  refine va_runV (C := y.cls) (As := As.map (tr E)) (b := E.1 (1000 + k)) (n := n) (Ts := tb) (own := M.1) ⟨C.1, C.2.1, C.2.2.1, C.2.2.2.2.2.1, hts⟩ hM ⟨⟨b1, b2, b3, b4, b5, b6, hts _ hy.1, hts _ hy.2.1, hy.2.2.1, len_of hy.2.2.2.1, hts _ hw⟩, hts _ hin, hts _ hse⟩ ⟨Wd_blind, ?_, fun U hU hW => ⟨rfl, Wd_at C hP hS hX U hU hW⟩⟩ rfl (by rw [List.length_map]; exact hn) hl.1 ?_ ?_ hd ⟨hR.2.2.1, hR.2.2.2⟩
  · have := vk_recv (i := k) hX.2.1 hk hS
    rw [hc]
    exact this
  · show st0.map (tr E) = _
    rw [hst, List.map_append, List.map_reverse]
    rfl
  · show 2 * 0 + _ ≤ 8
    rw [cat_sum]
    omega
end RS
def m_J0_length : mt := (RJ0, cJ0_length_8abf5, 1, (some .int))
def tab_J0_length : List (Nat × Instr × Nat) := [(0, .aload_n 0, 1), (1, .getfield 9, 3), (4, .arraylength, 1), (5, .aload_n 0, 1), (6, .invokevirtual 335, 3), (9, .ishr, 1), (10, .ireturn, 1)]
theorem dt_J0_length : ∀ q ∈ tab_J0_length, decode m_J0_length.2.1 q.1 = .ok q.2 := by decide +kernel
theorem cal_J0_length : Cal yJ0_length_8abf5 m_J0_length 0 := ⟨tm_4 (List.mem_of_getElem? (i := 77) rfl) (by decide), tm_1 (List.mem_of_getElem? (i := 16) rfl) (by decide), ⟨by decide +kernel, by decide +kernel⟩, by decide +kernel, by decide⟩
theorem in_J0_length : Cond.instanceMethod yJ0_length_8abf5 ∈ tb := tm_4 (List.mem_of_getElem? (i := 75) rfl) (by decide)
theorem se_J0_length : Cond.selects yJ0_length_8abf5.cls yJ0_length_8abf5 yJ0_length_8abf5 ∈ tb := tm_4 (List.mem_of_getElem? (i := 76) rfl) (by decide)
def m_J0_coder : mt := (RJ0, cJ0_coder_7d493, 1, (some .byte))
def tab_J0_coder : List (Nat × Instr × Nat) := [(0, .getstatic 38, 3), (3, .ifCond .eq 10, 3), (6, .aload_n 0, 1), (7, .getfield 15, 3), (10, .goto 4, 3), (13, .iconst 1, 1), (14, .ireturn, 1)]
theorem dt_J0_coder : ∀ q ∈ tab_J0_coder, decode m_J0_coder.2.1 q.1 = .ok q.2 := by decide +kernel
theorem cal_J0_coder : Cal yJ0_coder_7d493 m_J0_coder 0 := ⟨tm_4 (List.mem_of_getElem? (i := 81) rfl) (by decide), tm_1 (List.mem_of_getElem? (i := 16) rfl) (by decide), ⟨by decide +kernel, by decide +kernel⟩, by decide +kernel, by decide⟩
theorem in_J0_coder : Cond.instanceMethod yJ0_coder_7d493 ∈ tb := tm_4 (List.mem_of_getElem? (i := 79) rfl) (by decide)
theorem se_J0_coder : Cond.selects yJ0_coder_7d493.cls yJ0_coder_7d493 yJ0_coder_7d493 ∈ tb := tm_4 (List.mem_of_getElem? (i := 80) rfl) (by decide)
def m_J0_isLatin1 : mt := (RJ0, cJ0_isLatin1_aae02, 1, (some .boolean))
def tab_J0_isLatin1 : List (Nat × Instr × Nat) := [(0, .getstatic 38, 3), (3, .ifCond .eq 14, 3), (6, .aload_n 0, 1), (7, .getfield 15, 3), (10, .ifCond .ne 7, 3), (13, .iconst 1, 1), (14, .goto 4, 3), (17, .iconst 0, 1), (18, .ireturn, 1)]
theorem dt_J0_isLatin1 : ∀ q ∈ tab_J0_isLatin1, decode m_J0_isLatin1.2.1 q.1 = .ok q.2 := by decide +kernel
theorem cal_J0_isLatin1 : Cal yJ0_isLatin1_aae02 m_J0_isLatin1 0 := ⟨tm_4 (List.mem_of_getElem? (i := 91) rfl) (by decide), tm_1 (List.mem_of_getElem? (i := 16) rfl) (by decide), ⟨by decide +kernel, by decide +kernel⟩, by decide +kernel, by decide⟩
theorem in_J0_isLatin1 : Cond.instanceMethod yJ0_isLatin1_aae02 ∈ tb := tm_4 (List.mem_of_getElem? (i := 89) rfl) (by decide)
theorem se_J0_isLatin1 : Cond.selects yJ0_isLatin1_aae02.cls yJ0_isLatin1_aae02 yJ0_isLatin1_aae02 ∈ tb := tm_4 (List.mem_of_getElem? (i := 90) rfl) (by decide)
def m_J0_charAt : mt := (RJ0, cJ0_charAt_5068e, 2, (some .char))
def tab_J0_charAt : List (Nat × Instr × Nat) := [(0, .aload_n 0, 1), (1, .invokevirtual 492, 3), (4, .ifCond .eq 12, 3), (7, .aload_n 0, 1), (8, .getfield 9, 3), (11, .iload_n 1, 1), (12, .invokestatic 495, 3), (15, .ireturn, 1), (16, .aload_n 0, 1), (17, .getfield 9, 3), (20, .iload_n 1, 1), (21, .invokestatic 498, 3), (24, .ireturn, 1)]
theorem dt_J0_charAt : ∀ q ∈ tab_J0_charAt, decode m_J0_charAt.2.1 q.1 = .ok q.2 := by decide +kernel
theorem cal_J0_charAt : Cal yJ0_charAt_5068e m_J0_charAt 1 := ⟨tm_4 (List.mem_of_getElem? (i := 87) rfl) (by decide), tm_1 (List.mem_of_getElem? (i := 16) rfl) (by decide), ⟨by decide +kernel, by decide +kernel⟩, by decide +kernel, by decide⟩
theorem in_J0_charAt : Cond.instanceMethod yJ0_charAt_5068e ∈ tb := tm_4 (List.mem_of_getElem? (i := 85) rfl) (by decide)
theorem se_J0_charAt : Cond.selects yJ0_charAt_5068e.cls yJ0_charAt_5068e yJ0_charAt_5068e ∈ tb := tm_4 (List.mem_of_getElem? (i := 86) rfl) (by decide)
def m_J1_charAt : mt := (RJ1, cJ1_charAt_3b067, 2, (some .char))
def tab_J1_charAt : List (Nat × Instr × Nat) := [(0, .iload_n 1, 1), (1, .aload_n 0, 1), (2, .arraylength, 1), (3, .invokestatic 9, 3), (6, .aload_n 0, 1), (7, .iload_n 1, 1), (8, .baload, 1), (9, .sipush 255, 3), (12, .iand, 1), (13, .i2c, 1), (14, .ireturn, 1)]
theorem dt_J1_charAt : ∀ q ∈ tab_J1_charAt, decode m_J1_charAt.2.1 q.1 = .ok q.2 := by decide +kernel
theorem cal_J1_charAt : Cal yJ1_charAt_3b067 m_J1_charAt 2 := ⟨tm_4 (List.mem_of_getElem? (i := 94) rfl) (by decide), tm_1 (List.mem_of_getElem? (i := 17) rfl) (by decide), ⟨by decide +kernel, by decide +kernel⟩, by decide +kernel, by decide⟩
theorem sc_J1_charAt : Cond.static yJ1_charAt_3b067 ∈ tb := tm_4 (List.mem_of_getElem? (i := 93) rfl) (by decide)
def m_J0_checkIndex : mt := (RJ0, cJ0_checkIndex_df160, 2, none)
def tab_J0_checkIndex : List (Nat × Instr × Nat) := [(0, .iload_n 0, 1), (1, .iload_n 1, 1), (2, .getstatic 1053, 3), (5, .invokestatic 1059, 3), (8, .pop, 1), (9, .return_, 1)]
theorem dt_J0_checkIndex : ∀ q ∈ tab_J0_checkIndex, decode m_J0_checkIndex.2.1 q.1 = .ok q.2 := by decide +kernel
theorem cal_J0_checkIndex : Cal yJ0_checkIndex_df160 m_J0_checkIndex 2 := ⟨tm_4 (List.mem_of_getElem? (i := 97) rfl) (by decide), tm_1 (List.mem_of_getElem? (i := 16) rfl) (by decide), ⟨by decide +kernel, by decide +kernel⟩, by decide +kernel, by decide⟩
theorem sc_J0_checkIndex : Cond.static yJ0_checkIndex_df160 ∈ tb := tm_4 (List.mem_of_getElem? (i := 96) rfl) (by decide)
def m_J3_checkIndex : mt := (RJ3, cJ3_checkIndex_8e157, 3, (some .int))
def tab_J3_checkIndex : List (Nat × Instr × Nat) := [(0, .iload_n 0, 1), (1, .ifCond .lt 8, 3), (4, .iload_n 0, 1), (5, .iload_n 1, 1), (6, .if_icmp .lt 10, 3), (9, .aload_n 2, 1), (10, .iload_n 0, 1), (11, .iload_n 1, 1), (12, .invokestatic 95, 3), (15, .athrow, 1), (16, .iload_n 0, 1), (17, .ireturn, 1)]
theorem dt_J3_checkIndex : ∀ q ∈ tab_J3_checkIndex, decode m_J3_checkIndex.2.1 q.1 = .ok q.2 := by decide +kernel
theorem cal_J3_checkIndex : Cal yJ3_checkIndex_8e157 m_J3_checkIndex 3 := ⟨tm_4 (List.mem_of_getElem? (i := 102) rfl) (by decide), tm_1 (List.mem_of_getElem? (i := 18) rfl) (by decide), ⟨by decide +kernel, by decide +kernel⟩, by decide +kernel, by decide⟩
theorem sc_J3_checkIndex : Cond.static yJ3_checkIndex_8e157 ∈ tb := tm_4 (List.mem_of_getElem? (i := 101) rfl) (by decide)
theorem mj_335 : Cond.methodLink RJ0 335 yJ0_coder_7d493 ∈ tb := tm_4 (List.mem_of_getElem? (i := 78) rfl) (by decide)
theorem mj_492 : Cond.methodLink RJ0 492 yJ0_isLatin1_aae02 ∈ tb := tm_4 (List.mem_of_getElem? (i := 88) rfl) (by decide)
theorem mj_495 : Cond.methodLink RJ0 495 yJ1_charAt_3b067 ∈ tb := tm_4 (List.mem_of_getElem? (i := 92) rfl) (by decide)
theorem mj_9 : Cond.methodLink RJ1 9 yJ0_checkIndex_df160 ∈ tb := tm_4 (List.mem_of_getElem? (i := 95) rfl) (by decide)
theorem mj_1059 : Cond.methodLink RJ0 1059 yJ3_checkIndex_8e157 ∈ tb := tm_4 (List.mem_of_getElem? (i := 100) rfl) (by decide)
theorem fj_38 : Cond.fieldLink RJ0 38 "java/lang/String" "COMPACT_STRINGS" "Z" ∈ tb := tm_4 (List.mem_of_getElem? (i := 82) rfl) (by decide)
theorem fj_9 : Cond.fieldLink RJ0 9 "java/lang/String" "value" "[B" ∈ tb := tm_8 (List.mem_of_getElem? (i := 153) rfl) (by decide)
theorem fj_15 : Cond.fieldLink RJ0 15 "java/lang/String" "coder" "B" ∈ tb := tm_8 (List.mem_of_getElem? (i := 154) rfl) (by decide)
theorem fj_1053 : Cond.fieldLink RJ0 1053 "jdk/internal/util/Preconditions" "SIOOBE_FORMATTER" "Ljava/util/function/BiFunction;" ∈ tb := tm_4 (List.mem_of_getElem? (i := 98) rfl) (by decide)
theorem str_len : ∀ k, k < 19 → lenT.getD k 0 = (strT.getD k []).length := by decide +kernel
theorem str_sl : ∀ k, k < 19 → Int32.ofNat (lenT.getD k 0) >>> ((0 : Int32) &&& 31) = Int32.ofNat (strT.getD k []).length := by decide +kernel
theorem str_ch : ∀ k, k < 19 → ∀ j, j < (strT.getD k []).length → (((strT.getD k []).getD j 0 &&& 255).toUInt32 % 65536).toInt32 = (strT.getD k []).getD j 0 := by decide +kernel
theorem str_sm : ∀ k, k < 19 → lenT.getD k 0 < 200 := by decide +kernel
set_option maxRecDepth 100000 in
theorem ok_J0_coder {l : Launch} {E : ce} {d k : Nat} {μ : mm} {Q : Option Value → mm → Prop} (hk : k < 19) (hQ : Q (some (.int 0)) μ) : Ct l E d yJ0_coder_7d493 m_J0_coder [.ref (1000 + k)] μ Q := by
  refine Ct_of (lv := [some (.ref (1000 + k))]) (by decide) rfl (Nat.le_of_ble_eq_true rfl) rfl ?_
  refine R_gstat (v := .int 1) rfl fj_38 (fun s h => h.2.2.2.1) (dd dt_J0_coder 0 rfl) ?_
  refine R_ifeq (dd dt_J0_coder 1 rfl) (tgt := 13) rfl (fun hc => absurd hc (by decide)) (fun _ => ?_)
  refine R_aload_n (dd dt_J0_coder 2 rfl) 0 rfl rfl ?_
  refine R_scod rfl fj_15 hk (dd dt_J0_coder 3 rfl) ?_
  refine R_goto (dd dt_J0_coder 4 rfl) (tgt := 14) rfl ?_
  exact R_tret (ty := .byte) rfl (by decide) (dd dt_J0_coder 6 rfl) hQ
set_option maxRecDepth 100000 in
theorem ok_J0_isLatin1 {l : Launch} {E : ce} {d k : Nat} {μ : mm} {Q : Option Value → mm → Prop} (hk : k < 19) (hQ : Q (some (.int 1)) μ) : Ct l E d yJ0_isLatin1_aae02 m_J0_isLatin1 [.ref (1000 + k)] μ Q := by
  refine Ct_of (lv := [some (.ref (1000 + k))]) (by decide) rfl (Nat.le_of_ble_eq_true rfl) rfl ?_
  refine R_gstat (v := .int 1) rfl fj_38 (fun s h => h.2.2.2.1) (dd dt_J0_isLatin1 0 rfl) ?_
  refine R_ifeq (dd dt_J0_isLatin1 1 rfl) (tgt := 17) rfl (fun hc => absurd hc (by decide)) (fun _ => ?_)
  refine R_aload_n (dd dt_J0_isLatin1 2 rfl) 0 rfl rfl ?_
  refine R_scod rfl fj_15 hk (dd dt_J0_isLatin1 3 rfl) ?_
  refine R_ifne (dd dt_J0_isLatin1 4 rfl) (tgt := 17) rfl (fun hc => absurd rfl hc) (fun _ => ?_)
  refine R_iconst (v := 1) (dd dt_J0_isLatin1 5 rfl) (by decide) ?_
  refine R_goto (dd dt_J0_isLatin1 6 rfl) (tgt := 18) rfl ?_
  exact R_zret rfl (by decide) (dd dt_J0_isLatin1 8 rfl) hQ
set_option maxRecDepth 100000 in
theorem ok_J0_length {l : Launch} {E : ce} {d k : Nat} {μ : mm} {Q : Option Value → mm → Prop} (hk : k < 19) (hQ : Q (some (.int (slen (1000 + k)))) μ) : Ct l E (d + 1) yJ0_length_8abf5 m_J0_length [.ref (1000 + k)] μ Q := by
  refine Ct_of (lv := [some (.ref (1000 + k))]) (by decide) rfl (Nat.le_of_ble_eq_true rfl) rfl ?_
  refine R_aload_n (dd dt_J0_length 0 rfl) 0 rfl rfl ?_
  refine R_sval rfl fj_9 hk (dd dt_J0_length 1 rfl) ?_
  refine R_svlen hk (dd dt_J0_length 2 rfl) ?_
  refine R_aload_n (dd dt_J0_length 3 rfl) 0 rfl rfl ?_
  refine R_callVs (k := k) (As := []) (Q1 := fun v w => v = some (.int 0) ∧ w = μ) (ok_J0_coder hk ⟨rfl, rfl⟩) cal_J0_coder in_J0_coder se_J0_coder mj_335 hk rfl rfl rfl (Nat.le_of_ble_eq_true rfl) (dd dt_J0_length 4 rfl) (fun v w hq => ?_)
  rw [hq.1, hq.2]
  show Rj l E (d + 1) m_J0_length 9 _ [.int 0, .int (Int32.ofNat (lenT.getD k 0))] μ Q
  refine R_ishr (dd dt_J0_length 5 rfl) ?_
  refine R_iret rfl (dd dt_J0_length 6 rfl) ?_
  rw [str_sl k hk]
  have e : slen (1000 + k) = Int32.ofNat (strT.getD k []).length := by unfold slen; rw [show 1000 + k - 1000 = k by omega]
  rw [← e]
  exact hQ
set_option maxRecDepth 100000 in
theorem ok_J3_checkIndex {l : Launch} {E : ce} {d : Nat} {i n : Int32} {v : Value} {μ : mm} {Q : Option Value → mm → Prop} (hv : v = .null ∨ v = .ref 4000) (h0 : ¬ i < 0) (h1 : i < n) (hQ : Q (some (.int i)) μ) : Ct l E d yJ3_checkIndex_8e157 m_J3_checkIndex [.int i, .int n, v] μ Q := by
  have key : ∀ lv : List (Option Value), lv[0]? = some (some (.int i)) → lv[1]? = some (some (.int n)) → Rj l E d m_J3_checkIndex 0 lv [] μ Q := by
    intro lv e0 e1
    refine R_iload_n (dd dt_J3_checkIndex 0 rfl) 0 rfl e0 ?_
    refine R_iflt (dd dt_J3_checkIndex 1 rfl) (tgt := 9) rfl (fun hc => absurd hc h0) (fun _ => ?_)
    refine R_iload_n (dd dt_J3_checkIndex 2 rfl) 0 rfl e0 ?_
    refine R_iload_n (dd dt_J3_checkIndex 3 rfl) 1 rfl e1 ?_
    refine R_cmplt (dd dt_J3_checkIndex 4 rfl) (tgt := 16) rfl (fun _ => ?_) (fun hc => absurd h1 hc)
    refine R_iload_n (dd dt_J3_checkIndex 10 rfl) 0 rfl e0 ?_
    exact R_iret rfl (dd dt_J3_checkIndex 11 rfl) hQ
  rcases hv with rfl | rfl
  · exact Ct_of (lv := [some (.int i), some (.int n), some .null]) (by decide) rfl (Nat.le_of_ble_eq_true rfl) rfl (key _ rfl rfl)
  · exact Ct_of (lv := [some (.int i), some (.int n), some (.ref 4000)]) (by decide) rfl (Nat.le_of_ble_eq_true rfl) rfl (key _ rfl rfl)
set_option maxRecDepth 100000 in
theorem ok_J0_checkIndex {l : Launch} {E : ce} {d : Nat} {i n : Int32} {μ : mm} {Q : Option Value → mm → Prop} (h0 : ¬ i < 0) (h1 : i < n) (hQ : Q none μ) : Ct l E (d + 1) yJ0_checkIndex_df160 m_J0_checkIndex [.int i, .int n] μ Q := by
  refine Ct_of (lv := [some (.int i), some (.int n)]) (by decide) rfl (Nat.le_of_ble_eq_true rfl) rfl ?_
  have key : ∀ v : Value, (v = .null ∨ v = .ref 4000) → Rj l E (d + 1) m_J0_checkIndex 5 [some (.int i), some (.int n)] [v, .int n, .int i] μ Q := by
    intro v hv
    refine R_callS (Q1 := fun w z => w = some (.int i) ∧ z = μ) (As := [.int i, .int n, v]) (st := []) (ok_J3_checkIndex hv h0 h1 ⟨rfl, rfl⟩) cal_J3_checkIndex sc_J3_checkIndex mj_1059 rfl rfl (Nat.le_of_ble_eq_true rfl) (dd dt_J0_checkIndex 3 rfl) (fun w z hq => ?_)
    rw [hq.1, hq.2]
    refine R_pop (v := .int i) (st := []) (dd dt_J0_checkIndex 4 rfl) rfl ?_
    exact R_vret rfl (dd dt_J0_checkIndex 5 rfl) hQ
  refine R_iload_n (dd dt_J0_checkIndex 0 rfl) 0 rfl rfl ?_
  refine R_iload_n (dd dt_J0_checkIndex 1 rfl) 1 rfl rfl ?_
  exact R_gsF (v := .null) (w := .ref 4000) rfl fj_1053 (fun s h => h.2.2.2.2.1) (dd dt_J0_checkIndex 2 rfl) (key _ (Or.inl rfl)) (key _ (Or.inr rfl))
set_option maxRecDepth 100000 in
theorem ok_J1_charAt {l : Launch} {E : ce} {d k : Nat} {i : Int32} {μ : mm} {Q : Option Value → mm → Prop} (hk : k < 19) (hi : vp_in i (lenT.getD k 0)) (hQ : Q (some (.int (((strT.getD k []).getD i.toNatClampNeg 0 &&& 255).toUInt32 % 65536).toInt32)) μ) : Ct l E (d + 2) yJ1_charAt_3b067 m_J1_charAt [.ref (3000 + k), .int i] μ Q := by
  refine Ct_of (lv := [some (.ref (3000 + k)), some (.int i)]) (by decide) rfl (Nat.le_of_ble_eq_true rfl) rfl ?_
  obtain ⟨j, hj, rfl⟩ := vp_in_of hi (by have := str_sm k hk; omega)
  have hjn : nI j < Int32.ofNat (lenT.getD k 0) := nI_lt hj (by have := str_sm k hk; omega)
  refine R_iload_n (dd dt_J1_charAt 0 rfl) 1 rfl rfl ?_
  refine R_aload_n (dd dt_J1_charAt 1 rfl) 0 rfl rfl ?_
  refine R_svlen hk (dd dt_J1_charAt 2 rfl) ?_
  refine R_callS (Q1 := fun w z => w = none ∧ z = μ) (As := [.int (nI j), .int (Int32.ofNat (lenT.getD k 0))]) (st := []) (ok_J0_checkIndex (nI_pos (by have := str_sm k hk; omega)) hjn ⟨rfl, rfl⟩) cal_J0_checkIndex sc_J0_checkIndex mj_9 rfl rfl (Nat.le_of_ble_eq_true rfl) (dd dt_J1_charAt 3 rfl) (fun w z hq => ?_)
  rw [hq.1, hq.2]
  show Rj l E (d + 2) m_J1_charAt 6 _ [] μ Q
  refine R_aload_n (dd dt_J1_charAt 4 rfl) 0 rfl rfl ?_
  refine R_iload_n (dd dt_J1_charAt 5 rfl) 1 rfl rfl ?_
  refine R_svld hk hi (dd dt_J1_charAt 6 rfl) ?_
  refine R_sipush (v := 255) (dd dt_J1_charAt 7 rfl) (by decide) ?_
  refine R_iand (dd dt_J1_charAt 8 rfl) ?_
  refine R_i2c (dd dt_J1_charAt 9 rfl) ?_
  exact R_tret (ty := .char) rfl (pk_nc _) (dd dt_J1_charAt 10 rfl) hQ
set_option maxRecDepth 100000 in
theorem ok_J0_charAt {l : Launch} {E : ce} {d k : Nat} {i : Int32} {μ : mm} {Q : Option Value → mm → Prop} (hk : k < 19) (hi : vp_in i (lenT.getD k 0)) (hQ : Q (some (.int (((strT.getD k []).getD i.toNatClampNeg 0 &&& 255).toUInt32 % 65536).toInt32)) μ) : Ct l E (d + 3) yJ0_charAt_5068e m_J0_charAt [.ref (1000 + k), .int i] μ Q := by
  refine Ct_of (lv := [some (.ref (1000 + k)), some (.int i)]) (by decide) rfl (Nat.le_of_ble_eq_true rfl) rfl ?_
  refine R_aload_n (dd dt_J0_charAt 0 rfl) 0 rfl rfl ?_
  refine R_callVs (k := k) (As := []) (Q1 := fun v w => v = some (.int 1) ∧ w = μ) (ok_J0_isLatin1 hk ⟨rfl, rfl⟩) cal_J0_isLatin1 in_J0_isLatin1 se_J0_isLatin1 mj_492 hk rfl rfl rfl (Nat.le_of_ble_eq_true rfl) (dd dt_J0_charAt 1 rfl) (fun v w hq => ?_)
  rw [hq.1, hq.2]
  show Rj l E (d + 3) m_J0_charAt 4 _ [.int 1] μ Q
  refine R_ifeq (dd dt_J0_charAt 2 rfl) (tgt := 16) rfl (fun hc => absurd hc (by decide)) (fun _ => ?_)
  refine R_aload_n (dd dt_J0_charAt 3 rfl) 0 rfl rfl ?_
  refine R_sval rfl fj_9 hk (dd dt_J0_charAt 4 rfl) ?_
  refine R_iload_n (dd dt_J0_charAt 5 rfl) 1 rfl rfl ?_
  refine R_callS (Q1 := fun w z => w = some (.int (((strT.getD k []).getD i.toNatClampNeg 0 &&& 255).toUInt32 % 65536).toInt32) ∧ z = μ) (As := [.ref (3000 + k), .int i]) (st := []) (ok_J1_charAt hk hi ⟨rfl, rfl⟩) cal_J1_charAt sc_J1_charAt mj_495 rfl rfl (Nat.le_of_ble_eq_true rfl) (dd dt_J0_charAt 6 rfl) (fun w z hq => ?_)
  rw [hq.1, hq.2]
  exact R_tret (ty := .char) rfl (pk_nc _) (dd dt_J0_charAt 7 rfl) hQ
theorem mj_8_113 : Cond.methodLink RX8 113 yJ0_length_8abf5 ∈ tb := tm_4 (List.mem_of_getElem? (i := 74) rfl) (by decide)
theorem R_slen_8_113 {l : Launch} {E : ce} {d : Nat} {M : mt} {pc : Nat} {lv : List (Option Value)} {st : List Value} {μ : mm} {Q : Option Value → mm → Prop} {a : Nat} (hM : M.1 = RX8) (ha : kd a = 50) (hcat : (st.map fun v => v.category).sum ≤ 8) (hd : decode M.2.1 pc = .ok (.invokevirtual 113, 3)) (K : Rj l E (d + 5) M (pc + 3) lv (.int (slen a) :: st) μ Q) : Rj l E (d + 5) M pc lv (.ref a :: st) μ Q := by
  obtain ⟨k, hk, rfl⟩ := kd50 ha
  refine R_callVs (k := k) (As := []) (Q1 := fun v w => v = some (.int (slen (1000 + k))) ∧ w = μ) (ok_J0_length (d := d + 3) hk ⟨rfl, rfl⟩) cal_J0_length in_J0_length se_J0_length (by rw [hM]; exact mj_8_113) hk rfl rfl rfl hcat hd (fun v w hq => ?_)
  rw [hq.1, hq.2]
  exact K
theorem mj_8_118 : Cond.methodLink RX8 118 yJ0_charAt_5068e ∈ tb := tm_4 (List.mem_of_getElem? (i := 84) rfl) (by decide)
theorem R_sch_8_118 {l : Launch} {E : ce} {d : Nat} {M : mt} {pc : Nat} {lv : List (Option Value)} {st : List Value} {μ : mm} {Q : Option Value → mm → Prop} {a : Nat} {i x : Int32} (hM : M.1 = RX8) (h : sch a i = some x) (ha : kd a = 50) (hcat : (st.map fun v => v.category).sum ≤ 8) (hd : decode M.2.1 pc = .ok (.invokevirtual 118, 3)) (K : Rj l E (d + 5) M (pc + 3) lv (.int x :: st) μ Q) : Rj l E (d + 5) M pc lv (.int i :: .ref a :: st) μ Q := by
  obtain ⟨k, hk, rfl⟩ := kd50 ha
  unfold sch at h
  rw [show 1000 + k - 1000 = k by omega] at h
  split at h
  · cases h
  · rename_i hin
    have hj : i.toNatClampNeg < (strT.getD k []).length := Nat.not_le.mp fun q => hin (Or.inr q)
    obtain rfl := Option.some.inj h
    refine R_callVs (k := k) (As := [.int i]) (Q1 := fun v w => v = some (.int ((strT.getD k []).getD i.toNatClampNeg 0)) ∧ w = μ) (ok_J0_charAt (d := d + 1) hk (by unfold vp_in; rw [str_len k hk]; exact hin) ⟨by rw [str_ch k hk _ hj], rfl⟩) cal_J0_charAt in_J0_charAt se_J0_charAt (by rw [hM]; exact mj_8_118) hk rfl rfl rfl hcat hd (fun v w hq => ?_)
    rw [hq.1, hq.2]
    exact K
theorem mj_12_151 : Cond.methodLink RX12 151 yJ0_length_8abf5 ∈ tb := tm_7 (List.mem_of_getElem? (i := 109) rfl) (by decide)
theorem R_slen_12_151 {l : Launch} {E : ce} {d : Nat} {M : mt} {pc : Nat} {lv : List (Option Value)} {st : List Value} {μ : mm} {Q : Option Value → mm → Prop} {a : Nat} (hM : M.1 = RX12) (ha : kd a = 50) (hcat : (st.map fun v => v.category).sum ≤ 8) (hd : decode M.2.1 pc = .ok (.invokevirtual 151, 3)) (K : Rj l E (d + 5) M (pc + 3) lv (.int (slen a) :: st) μ Q) : Rj l E (d + 5) M pc lv (.ref a :: st) μ Q := by
  obtain ⟨k, hk, rfl⟩ := kd50 ha
  refine R_callVs (k := k) (As := []) (Q1 := fun v w => v = some (.int (slen (1000 + k))) ∧ w = μ) (ok_J0_length (d := d + 3) hk ⟨rfl, rfl⟩) cal_J0_length in_J0_length se_J0_length (by rw [hM]; exact mj_12_151) hk rfl rfl rfl hcat hd (fun v w hq => ?_)
  rw [hq.1, hq.2]
  exact K
theorem mj_12_157 : Cond.methodLink RX12 157 yJ0_charAt_5068e ∈ tb := tm_7 (List.mem_of_getElem? (i := 110) rfl) (by decide)
theorem R_sch_12_157 {l : Launch} {E : ce} {d : Nat} {M : mt} {pc : Nat} {lv : List (Option Value)} {st : List Value} {μ : mm} {Q : Option Value → mm → Prop} {a : Nat} {i x : Int32} (hM : M.1 = RX12) (h : sch a i = some x) (ha : kd a = 50) (hcat : (st.map fun v => v.category).sum ≤ 8) (hd : decode M.2.1 pc = .ok (.invokevirtual 157, 3)) (K : Rj l E (d + 5) M (pc + 3) lv (.int x :: st) μ Q) : Rj l E (d + 5) M pc lv (.int i :: .ref a :: st) μ Q := by
  obtain ⟨k, hk, rfl⟩ := kd50 ha
  unfold sch at h
  rw [show 1000 + k - 1000 = k by omega] at h
  split at h
  · cases h
  · rename_i hin
    have hj : i.toNatClampNeg < (strT.getD k []).length := Nat.not_le.mp fun q => hin (Or.inr q)
    obtain rfl := Option.some.inj h
    refine R_callVs (k := k) (As := [.int i]) (Q1 := fun v w => v = some (.int ((strT.getD k []).getD i.toNatClampNeg 0)) ∧ w = μ) (ok_J0_charAt (d := d + 1) hk (by unfold vp_in; rw [str_len k hk]; exact hin) ⟨by rw [str_ch k hk _ hj], rfl⟩) cal_J0_charAt in_J0_charAt se_J0_charAt (by rw [hM]; exact mj_12_157) hk rfl rfl rfl hcat hd (fun v w hq => ?_)
    rw [hq.1, hq.2]
    exact K
theorem fj_12_207 : Cond.fieldLink RX12 207 RX12 "SORTS" "[Ljava/lang/String;" ∈ tb := tm_7 (List.mem_of_getElem? (i := 103) rfl) (by decide)
theorem R_gs_0 {l : Launch} {E : ce} {d : Nat} {M : mt} {pc : Nat} {lv : List (Option Value)} {st : List Value} {μ : mm} {Q : Option Value → mm → Prop} (hM : M.1 = RX12) (hd : decode M.2.1 pc = .ok (.getstatic 207, 3)) (K : Rj l E d M (pc + 3) lv (.ref 2000 :: st) μ Q) : Rj l E d M pc lv st μ Q := R_gstat (v := .ref 2000) hM fj_12_207 (fun s h => h.2.2.2.2.2.1) hd K
theorem fj_12_200 : Cond.fieldLink RX12 200 RX12 "FACTS" "[Ljava/lang/String;" ∈ tb := tm_7 (List.mem_of_getElem? (i := 137) rfl) (by decide)
theorem R_gs_1 {l : Launch} {E : ce} {d : Nat} {M : mt} {pc : Nat} {lv : List (Option Value)} {st : List Value} {μ : mm} {Q : Option Value → mm → Prop} (hM : M.1 = RX12) (hd : decode M.2.1 pc = .ok (.getstatic 200, 3)) (K : Rj l E d M (pc + 3) lv (.ref 2001 :: st) μ Q) : Rj l E d M pc lv st μ Q := R_gstat (v := .ref 2001) hM fj_12_200 (fun s h => h.2.2.2.2.2.2.1) hd K
theorem R_sald {l : Launch} {E : ce} {d : Nat} {M : mt} {pc : Nat} {lv : List (Option Value)} {st : List Value} {μ : mm} {Q : Option Value → mm → Prop} {a b : Nat} {i : Int32} (h : lda a i = some b) (ha : kd a = 51) (hd : decode M.2.1 pc = .ok (.aaload, 1)) (K : Rj l E d M (pc + 1) lv (.ref b :: st) μ Q) : Rj l E d M pc lv (.int i :: .ref a :: st) μ Q := by
  intro p e s m args below meth c H locs ls R kc ns C hP hS hX hl hR
  obtain ⟨h1, rfl⟩ := lda_el h
  rcases kd51 ha with rfl | rfl
  · exact vb_tq C.1 C.2.1 hX.2.2.2.2.2.2.2.1 hS (N := 7) h1 rfl hd (K p e s m args below meth c H locs ls R kc ns C hP hS hX hl hR)
  · exact vb_tq C.1 C.2.1 hX.2.2.2.2.2.2.2.2.1 hS (N := 7) h1 rfl hd (K p e s m args below meth c H locs ls R kc ns C hP hS hX hl hR)
