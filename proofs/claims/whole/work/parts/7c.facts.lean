/-! what the start says of the constants, the statics, the array classes -/
def tmS (i : Nat) : Term := match i with
  | 0 => .string RX12 368
  | 1 => .string RX12 369
  | 2 => .string RX12 370
  | 3 => .string RX12 372
  | 4 => .string RX12 374
  | 5 => .string RX12 376
  | 6 => .string RX12 378
  | 7 => .string RX12 354
  | 8 => .string RX12 356
  | 9 => .string RX12 358
  | 10 => .string RX12 360
  | 11 => .string RX12 362
  | 12 => .string RX12 364
  | 13 => .string RX12 366
  | 14 => .string RX12 210
  | 15 => .string RX12 189
  | 16 => .string RX12 187
  | 17 => .string RX12 174
  | _ => .string RX8 111
abbrev gvw : List Cond := flatC (Jvm.Cond.and given_1 narrow_1)
def SO : Term := .static RX12 "SORTS" "[Ljava/lang/String;"
def FA : Term := .static RX12 "FACTS" "[Ljava/lang/String;"
set_option maxRecDepth 100000 in
theorem gs_ex : ∀ i, i < 19 → Cond.exactly (tmS i) "java/lang/String" ∈ gvw := by decide +kernel
set_option maxRecDepth 100000 in
theorem gs_co : ∀ i, i < 19 → Cond.eq (.field (tmS i) "java/lang/String" "coder" "B") (.int 0) ∈ gvw := by decide +kernel
set_option maxRecDepth 100000 in
theorem gs_ar : ∀ i, i < 19 → Cond.arrayOf (.field (tmS i) "java/lang/String" "value" "[B") .byte ∈ gvw := by decide +kernel
set_option maxRecDepth 100000 in
theorem gs_le : ∀ i, i < 19 → Cond.eq (.length (.field (tmS i) "java/lang/String" "value" "[B")) (.int (Int32.ofNat (lenT.getD i 0))) ∈ gvw := by decide +kernel
def orS : List Nat := [18, 14, 15, 16, 17, 0, 1, 2, 3, 4, 5, 6, 7, 8, 9, 10, 11, 12, 13]
def rkC : List Nat := [5, 6, 7, 8, 9, 10, 11, 12, 13, 14, 15, 16, 17, 18, 1, 2, 3, 4, 0]
set_option maxRecDepth 100000 in
theorem ge_18 : (List.range 99).map (fun j => Cond.eq (.elem (.field (tmS 18) "java/lang/String" "value" "[B") (.int (Int32.ofNat j))) (.int ((strT.getD 18 []).getD j 0))) = (gvw.drop 85).take 99 := by decide +kernel
set_option maxRecDepth 100000 in
theorem ge_14 : (List.range 2).map (fun j => Cond.eq (.elem (.field (tmS 14) "java/lang/String" "value" "[B") (.int (Int32.ofNat j))) (.int ((strT.getD 14 []).getD j 0))) = (gvw.drop 188).take 2 := by decide +kernel
set_option maxRecDepth 100000 in
theorem ge_15 : (List.range 3).map (fun j => Cond.eq (.elem (.field (tmS 15) "java/lang/String" "value" "[B") (.int (Int32.ofNat j))) (.int ((strT.getD 15 []).getD j 0))) = (gvw.drop 195).take 3 := by decide +kernel
set_option maxRecDepth 100000 in
theorem ge_16 : (List.range 3).map (fun j => Cond.eq (.elem (.field (tmS 16) "java/lang/String" "value" "[B") (.int (Int32.ofNat j))) (.int ((strT.getD 16 []).getD j 0))) = (gvw.drop 204).take 3 := by decide +kernel
set_option maxRecDepth 100000 in
theorem ge_17 : (List.range 2).map (fun j => Cond.eq (.elem (.field (tmS 17) "java/lang/String" "value" "[B") (.int (Int32.ofNat j))) (.int ((strT.getD 17 []).getD j 0))) = (gvw.drop 214).take 2 := by decide +kernel
set_option maxRecDepth 100000 in
theorem ge_0 : (List.range 6).map (fun j => Cond.eq (.elem (.field (tmS 0) "java/lang/String" "value" "[B") (.int (Int32.ofNat j))) (.int ((strT.getD 0 []).getD j 0))) = (gvw.drop 224).take 6 := by decide +kernel
set_option maxRecDepth 100000 in
theorem ge_1 : (List.range 4).map (fun j => Cond.eq (.elem (.field (tmS 1) "java/lang/String" "value" "[B") (.int (Int32.ofNat j))) (.int ((strT.getD 1 []).getD j 0))) = (gvw.drop 239).take 4 := by decide +kernel
set_option maxRecDepth 100000 in
theorem ge_2 : (List.range 6).map (fun j => Cond.eq (.elem (.field (tmS 2) "java/lang/String" "value" "[B") (.int (Int32.ofNat j))) (.int ((strT.getD 2 []).getD j 0))) = (gvw.drop 253).take 6 := by decide +kernel
set_option maxRecDepth 100000 in
theorem ge_3 : (List.range 6).map (fun j => Cond.eq (.elem (.field (tmS 3) "java/lang/String" "value" "[B") (.int (Int32.ofNat j))) (.int ((strT.getD 3 []).getD j 0))) = (gvw.drop 270).take 6 := by decide +kernel
set_option maxRecDepth 100000 in
theorem ge_4 : (List.range 5).map (fun j => Cond.eq (.elem (.field (tmS 4) "java/lang/String" "value" "[B") (.int (Int32.ofNat j))) (.int ((strT.getD 4 []).getD j 0))) = (gvw.drop 288).take 5 := by decide +kernel
set_option maxRecDepth 100000 in
theorem ge_5 : (List.range 4).map (fun j => Cond.eq (.elem (.field (tmS 5) "java/lang/String" "value" "[B") (.int (Int32.ofNat j))) (.int ((strT.getD 5 []).getD j 0))) = (gvw.drop 306).take 4 := by decide +kernel
set_option maxRecDepth 100000 in
theorem ge_6 : (List.range 6).map (fun j => Cond.eq (.elem (.field (tmS 6) "java/lang/String" "value" "[B") (.int (Int32.ofNat j))) (.int ((strT.getD 6 []).getD j 0))) = (gvw.drop 324).take 6 := by decide +kernel
set_option maxRecDepth 100000 in
theorem ge_7 : (List.range 6).map (fun j => Cond.eq (.elem (.field (tmS 7) "java/lang/String" "value" "[B") (.int (Int32.ofNat j))) (.int ((strT.getD 7 []).getD j 0))) = (gvw.drop 345).take 6 := by decide +kernel
set_option maxRecDepth 100000 in
theorem ge_8 : (List.range 4).map (fun j => Cond.eq (.elem (.field (tmS 8) "java/lang/String" "value" "[B") (.int (Int32.ofNat j))) (.int ((strT.getD 8 []).getD j 0))) = (gvw.drop 367).take 4 := by decide +kernel
set_option maxRecDepth 100000 in
theorem ge_9 : (List.range 4).map (fun j => Cond.eq (.elem (.field (tmS 9) "java/lang/String" "value" "[B") (.int (Int32.ofNat j))) (.int ((strT.getD 9 []).getD j 0))) = (gvw.drop 388).take 4 := by decide +kernel
set_option maxRecDepth 100000 in
theorem ge_10 : (List.range 4).map (fun j => Cond.eq (.elem (.field (tmS 10) "java/lang/String" "value" "[B") (.int (Int32.ofNat j))) (.int ((strT.getD 10 []).getD j 0))) = (gvw.drop 410).take 4 := by decide +kernel
set_option maxRecDepth 100000 in
theorem ge_11 : (List.range 6).map (fun j => Cond.eq (.elem (.field (tmS 11) "java/lang/String" "value" "[B") (.int (Int32.ofNat j))) (.int ((strT.getD 11 []).getD j 0))) = (gvw.drop 433).take 6 := by decide +kernel
set_option maxRecDepth 100000 in
theorem ge_12 : (List.range 3).map (fun j => Cond.eq (.elem (.field (tmS 12) "java/lang/String" "value" "[B") (.int (Int32.ofNat j))) (.int ((strT.getD 12 []).getD j 0))) = (gvw.drop 459).take 3 := by decide +kernel
set_option maxRecDepth 100000 in
theorem ge_13 : (List.range 7).map (fun j => Cond.eq (.elem (.field (tmS 13) "java/lang/String" "value" "[B") (.int (Int32.ofNat j))) (.int ((strT.getD 13 []).getD j 0))) = (gvw.drop 483).take 7 := by decide +kernel
set_option maxRecDepth 100000 in
theorem gn_1 : (List.range 1).map (fun q => Cond.not (Cond.eq (tmS (orS.getD q 0)) (tmS (orS.getD 1 0)))) = (gvw.drop 190).take 1 := by decide +kernel
set_option maxRecDepth 100000 in
theorem gn_2 : (List.range 2).map (fun q => Cond.not (Cond.eq (tmS (orS.getD q 0)) (tmS (orS.getD 2 0)))) = (gvw.drop 198).take 2 := by decide +kernel
set_option maxRecDepth 100000 in
theorem gn_3 : (List.range 3).map (fun q => Cond.not (Cond.eq (tmS (orS.getD q 0)) (tmS (orS.getD 3 0)))) = (gvw.drop 207).take 3 := by decide +kernel
set_option maxRecDepth 100000 in
theorem gn_4 : (List.range 4).map (fun q => Cond.not (Cond.eq (tmS (orS.getD q 0)) (tmS (orS.getD 4 0)))) = (gvw.drop 216).take 4 := by decide +kernel
set_option maxRecDepth 100000 in
theorem gn_5 : (List.range 5).map (fun q => Cond.not (Cond.eq (tmS (orS.getD q 0)) (tmS (orS.getD 5 0)))) = (gvw.drop 230).take 5 := by decide +kernel
set_option maxRecDepth 100000 in
theorem gn_6 : (List.range 6).map (fun q => Cond.not (Cond.eq (tmS (orS.getD q 0)) (tmS (orS.getD 6 0)))) = (gvw.drop 243).take 6 := by decide +kernel
set_option maxRecDepth 100000 in
theorem gn_7 : (List.range 7).map (fun q => Cond.not (Cond.eq (tmS (orS.getD q 0)) (tmS (orS.getD 7 0)))) = (gvw.drop 259).take 7 := by decide +kernel
set_option maxRecDepth 100000 in
theorem gn_8 : (List.range 8).map (fun q => Cond.not (Cond.eq (tmS (orS.getD q 0)) (tmS (orS.getD 8 0)))) = (gvw.drop 276).take 8 := by decide +kernel
set_option maxRecDepth 100000 in
theorem gn_9 : (List.range 9).map (fun q => Cond.not (Cond.eq (tmS (orS.getD q 0)) (tmS (orS.getD 9 0)))) = (gvw.drop 293).take 9 := by decide +kernel
set_option maxRecDepth 100000 in
theorem gn_10 : (List.range 10).map (fun q => Cond.not (Cond.eq (tmS (orS.getD q 0)) (tmS (orS.getD 10 0)))) = (gvw.drop 310).take 10 := by decide +kernel
set_option maxRecDepth 100000 in
theorem gn_11 : (List.range 11).map (fun q => Cond.not (Cond.eq (tmS (orS.getD q 0)) (tmS (orS.getD 11 0)))) = (gvw.drop 330).take 11 := by decide +kernel
set_option maxRecDepth 100000 in
theorem gn_12 : (List.range 12).map (fun q => Cond.not (Cond.eq (tmS (orS.getD q 0)) (tmS (orS.getD 12 0)))) = (gvw.drop 351).take 12 := by decide +kernel
set_option maxRecDepth 100000 in
theorem gn_13 : (List.range 13).map (fun q => Cond.not (Cond.eq (tmS (orS.getD q 0)) (tmS (orS.getD 13 0)))) = (gvw.drop 371).take 13 := by decide +kernel
set_option maxRecDepth 100000 in
theorem gn_14 : (List.range 14).map (fun q => Cond.not (Cond.eq (tmS (orS.getD q 0)) (tmS (orS.getD 14 0)))) = (gvw.drop 392).take 14 := by decide +kernel
set_option maxRecDepth 100000 in
theorem gn_15 : (List.range 15).map (fun q => Cond.not (Cond.eq (tmS (orS.getD q 0)) (tmS (orS.getD 15 0)))) = (gvw.drop 414).take 15 := by decide +kernel
set_option maxRecDepth 100000 in
theorem gn_16 : (List.range 16).map (fun q => Cond.not (Cond.eq (tmS (orS.getD q 0)) (tmS (orS.getD 16 0)))) = (gvw.drop 439).take 16 := by decide +kernel
set_option maxRecDepth 100000 in
theorem gn_17 : (List.range 17).map (fun q => Cond.not (Cond.eq (tmS (orS.getD q 0)) (tmS (orS.getD 17 0)))) = (gvw.drop 462).take 17 := by decide +kernel
set_option maxRecDepth 100000 in
theorem gn_18 : (List.range 18).map (fun q => Cond.not (Cond.eq (tmS (orS.getD q 0)) (tmS (orS.getD 18 0)))) = (gvw.drop 490).take 18 := by decide +kernel
theorem gs_el : ∀ i, i < 19 → ∀ j, j < lenT.getD i 0 → Cond.eq (.elem (.field (tmS i) "java/lang/String" "value" "[B") (.int (Int32.ofNat j))) (.int ((strT.getD i []).getD j 0)) ∈ gvw := by
  intro i hi j hj
  match i, hi, hj with
  | 0, _, hj => exact va_run ge_0 j hj
  | 1, _, hj => exact va_run ge_1 j hj
  | 2, _, hj => exact va_run ge_2 j hj
  | 3, _, hj => exact va_run ge_3 j hj
  | 4, _, hj => exact va_run ge_4 j hj
  | 5, _, hj => exact va_run ge_5 j hj
  | 6, _, hj => exact va_run ge_6 j hj
  | 7, _, hj => exact va_run ge_7 j hj
  | 8, _, hj => exact va_run ge_8 j hj
  | 9, _, hj => exact va_run ge_9 j hj
  | 10, _, hj => exact va_run ge_10 j hj
  | 11, _, hj => exact va_run ge_11 j hj
  | 12, _, hj => exact va_run ge_12 j hj
  | 13, _, hj => exact va_run ge_13 j hj
  | 14, _, hj => exact va_run ge_14 j hj
  | 15, _, hj => exact va_run ge_15 j hj
  | 16, _, hj => exact va_run ge_16 j hj
  | 17, _, hj => exact va_run ge_17 j hj
  | 18, _, hj => exact va_run ge_18 j hj
  | i + 19, h, _ => omega
theorem gs_nr : ∀ r, r < 19 → ∀ q, q < r → Cond.not (Cond.eq (tmS (orS.getD q 0)) (tmS (orS.getD r 0))) ∈ gvw := by
  intro r hr q hq
  match r, hr, hq with
  | 0, _, hq => exact absurd hq (Nat.not_lt_zero q)
  | 1, _, hq => exact va_run gn_1 q hq
  | 2, _, hq => exact va_run gn_2 q hq
  | 3, _, hq => exact va_run gn_3 q hq
  | 4, _, hq => exact va_run gn_4 q hq
  | 5, _, hq => exact va_run gn_5 q hq
  | 6, _, hq => exact va_run gn_6 q hq
  | 7, _, hq => exact va_run gn_7 q hq
  | 8, _, hq => exact va_run gn_8 q hq
  | 9, _, hq => exact va_run gn_9 q hq
  | 10, _, hq => exact va_run gn_10 q hq
  | 11, _, hq => exact va_run gn_11 q hq
  | 12, _, hq => exact va_run gn_12 q hq
  | 13, _, hq => exact va_run gn_13 q hq
  | 14, _, hq => exact va_run gn_14 q hq
  | 15, _, hq => exact va_run gn_15 q hq
  | 16, _, hq => exact va_run gn_16 q hq
  | 17, _, hq => exact va_run gn_17 q hq
  | 18, _, hq => exact va_run gn_18 q hq
  | r + 19, h, _ => omega
theorem or_rk : ∀ i, i < 19 → rkC.getD i 0 < 19 ∧ orS.getD (rkC.getD i 0) 0 = i := by decide
theorem gs_ne (i j : Nat) (hi : i < 19) (hj : j < 19) (h : i ≠ j) : Cond.not (Cond.eq (tmS i) (tmS j)) ∈ gvw ∨ Cond.not (Cond.eq (tmS j) (tmS i)) ∈ gvw := by
  obtain ⟨a1, a2⟩ := or_rk i hi
  obtain ⟨b1, b2⟩ := or_rk j hj
  rcases Nat.lt_trichotomy (rkC.getD i 0) (rkC.getD j 0) with q | q | q
  · have := gs_nr _ b1 _ q
    rw [a2, b2] at this
    exact Or.inl this
  · rw [← a2, ← b2, q] at h
    exact absurd rfl h
  · have := gs_nr _ a1 _ q
    rw [a2, b2] at this
    exact Or.inr this
set_option maxRecDepth 100000 in
theorem gs_le2 : ∀ i, i < 19 → lenT.getD i 0 < 2 ^ 31 := by decide +kernel
set_option maxRecDepth 100000 in
theorem gs_so : Cond.arrayOf SO (.object "java/lang/String") ∈ gvw ∧ Cond.eq (.length SO) (.int (Int32.ofNat 7)) ∈ gvw ∧ (∀ j, j < 7 → Cond.eq (.elem SO (.int (Int32.ofNat j))) (tmS j) ∈ gvw) := by decide +kernel
set_option maxRecDepth 100000 in
theorem gs_fa : Cond.arrayOf FA (.object "java/lang/String") ∈ gvw ∧ Cond.eq (.length FA) (.int (Int32.ofNat 7)) ∈ gvw ∧ (∀ j, j < 7 → Cond.eq (.elem FA (.int (Int32.ofNat j))) (tmS (7 + j)) ∈ gvw) := by decide +kernel
set_option maxRecDepth 100000 in
theorem gs_st : Cond.eq (.static "java/lang/String" "COMPACT_STRINGS" "Z") (.int 1) ∈ gvw ∧ Cond.isRef (.static "jdk/internal/util/Preconditions" "SIOOBE_FORMATTER" "Ljava/util/function/BiFunction;") ∈ gvw := by decide +kernel
set_option maxRecDepth 100000 in
theorem gw_1 : (∀ w ∈ nw, w ∈ lw_tbl) ∧ (∀ w ∈ nwc, w ∈ lw_tbl) := by decide +kernel
set_option maxRecDepth 100000 in
theorem gw_2 : Cond.stringRef RX12 210 "if" ∈ lw_tbl ∧ Cond.stringRef RX12 189 "not" ∈ lw_tbl ∧ Cond.stringRef RX12 187 "and" ∈ lw_tbl ∧ Cond.stringRef RX12 174 "or" ∈ lw_tbl ∧ Cond.stringRef RX8 111 "ticket rank safety quorum evict vote relief if and or not mouths owes will coal hungry pit village " ∈ lw_tbl := by decide +kernel
set_option maxRecDepth 100000 in
theorem gw_3 : Cond.laysStatic "java/lang/String" "COMPACT_STRINGS" "Z" ∈ lw_tbl ∧ Cond.laysStatic "jdk/internal/util/Preconditions" "SIOOBE_FORMATTER" "Ljava/util/function/BiFunction;" ∈ lw_tbl ∧ Cond.laysStatic RX12 "SORTS" "[Ljava/lang/String;" ∈ lw_tbl ∧ Cond.laysStatic RX12 "FACTS" "[Ljava/lang/String;" ∈ lw_tbl ∧ Cond.initialized "java/lang/String" ∈ lw_tbl ∧ Cond.initialized "jdk/internal/util/Preconditions" ∈ lw_tbl ∧ Cond.initialized RX12 ∈ lw_tbl := by decide +kernel
set_option maxRecDepth 100000 in
theorem gw_4 : Cond.arrayOver (.object RX4) ∈ lw_tbl ∧ Cond.arrayOver (.object RX6) ∈ lw_tbl ∧ Cond.arrayOver (.object RX1) ∈ lw_tbl ∧ Cond.arrayOver (.object RX5) ∈ lw_tbl ∧ Cond.arrayOver (.array .int) ∈ lw_tbl := by decide +kernel
theorem eq_ref {args : Array Value} {s : State} {t u : Term} {q : Nat} (h : (Cond.eq t u).before args s = true) (hu : u.eval args s none [] s = some (.ref q)) : t.eval args s none [] s = some (.ref q) := by
  cases hv : t.eval args s none [] s with
  | none => simp [Cond.before, Cond.holds, Cond.value, hv] at h
  | some w =>
    simp only [Cond.before, Cond.holds, Cond.value, hv, hu] at h
    cases w <;> simp_all
theorem ty_prim {s : State} {args : Array Value} {ty : FieldType} (h : (Cond.arrayClass ty).before args s = true) : ∃ cA, ArrOfT s cA ty ∧ s.vm.findClass ("[" ++ ty.toString) = some cA := by
  obtain ⟨c, k, comp, h1, h2, h3⟩ := Cond.arrayClass_spec h
  exact ⟨c, fun n z => ⟨fun q e => (by cases e), k, h2, comp, h3⟩, h1⟩
theorem ty_obj {s : State} {args : Array Value} {C : String} (h : (Cond.arrayOver (.object C)).before args s = true) : ∃ cA, ArrOfT s cA (.object C) ∧ va_RA s cA (.object C) := by
  obtain ⟨comp, c, k, h1, h2, h3, h4, h5⟩ := Cond.arrayOver_spec h
  exact ⟨c, fun n z => ⟨fun q e => (by cases e), k, h3, comp, h4⟩, k, comp, h3, h4, h1, h5⟩
theorem ty_arr {s : State} {args : Array Value} (h : (Cond.arrayOver (.array .int)).before args s = true) : ∃ cA, ArrOfT s cA (.array .int) ∧ va_RA s cA (.array .int) := by
  obtain ⟨comp, c, k, h1, h2, h3, h4, h5⟩ := arrayOver_specB h
  exact ⟨c, fun n z => ⟨fun q e => (by cases e), k, h3, comp, h4⟩, h5⟩
def adq (h0 t0 t1 z4 b : Nat) (adK adV : Nat → Nat) (a : Nat) : Nat := if a < 331 then h0 + od a else if a < 2000 then adK (a - 1000) else if a = 2000 then t0 else if a = 2001 then t1 else if a < 4000 then adV (a - 3000) else if a = 4000 then z4 else b
