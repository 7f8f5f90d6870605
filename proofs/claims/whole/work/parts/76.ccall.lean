/-! calls over the half made world -/
theorem Wn_blind {E : ce} {cn : Nat} {pd : List Nat} {μ : mm} {As : List Value} : FrameBlind (va_Pc As (fun U => Wn E cn pd μ U)) := by
  intro a U g mk h
  obtain ⟨h1, h2, h3, h4, h5, h6, h7, h8, h9⟩ := h
  exact ⟨h1, h2, h3, h4, h5, va_K.moved (u := U) (U := U.calling g mk a) (Vm.Alike.refl U.vm) h6, Yx_same (u := U) (U := U.calling g mk a) rfl h7, h8, h9⟩
theorem callB1 {d mc ms : Nat} {y : MethodName} {N : mt} {n : Nat} {s : State} {args : Array Value} {R : Room} (hR1 : d + 1 + 1 ≤ R.frames) (hR2 : 80 * (d + 1 + 1) ≤ R.locals) (hts : ∀ w ∈ tb, w.before args s = true) (hy : Cal y N n) : (rmN d mc ms).cells = mc ∧ (rmN d mc ms).slots = ms ∧ (rmN d mc ms).frames + 1 ≤ R.frames ∧ 8 + (N.2.2.1 + 11) + (rmN d mc ms).locals ≤ R.locals ∧ (∀ w ∈ (Cond.code y N.2.1 N.2.2.1 N.2.2.2 :: tb), ∀ (a' : Array Value) (U : State), s.WarmedH U.vm → w.before a' U = true) ∧ Cond.code y N.2.1 N.2.2.1 N.2.2.2 ∈ (Cond.code y N.2.1 N.2.2.1 N.2.2.2 :: tb) := by
  obtain ⟨h1, h2, h3, h4, h5⟩ := hy
  refine ⟨rfl, rfl, hR1, by show 8 + (N.2.2.1 + 11) + 80 * (d + 1) ≤ R.locals; omega, fun w hw a' U hW => ?_, List.mem_cons_self⟩
  have hm : w ∈ tb := by
    rcases List.mem_cons.mp hw with h | h
    · rw [h]; exact h1
    · exact h
  exact word_at hW (good_of_word (tb_good w hm)) (hts w hm)
theorem N_call {y : MethodName} {N : mt} {idx b mc ms cn' : Nat} {pd' : List Nat} {l : Launch} {E : ce} {d : Nat} {M : mt} {pc : Nat} {lv : List (Option Value)} {st : List Value} {cn : Nat} {pd : List Nat} {μ μ' : mm} {rc rs : Nat} {Qc : Array Value → State → Outcome → State → Prop} (hM : Cn l E d y N [.ref b] cn pd μ mc ms cn' pd' μ') (hy : Cal y N 0) (hr : N.2.2.2 = none) (hnm : y.name = "<init>") (hin : Cond.instanceMethod y ∈ tb) (hw : Cond.methodLink M.1 idx y ∈ tb) (h1 : 1 ≤ cn) (hcn : cn' = cn + mc) (hcat : (st.map fun v => v.category).sum ≤ 8) (hd : decode M.2.1 pc = .ok (.invokespecial idx, 3)) (K : Rn l E (d + 1) M (pc + 3) lv st cn' pd' μ' rc rs Qc) : Rn l E (d + 1) M pc lv (.ref b :: st) cn pd μ (mc + rc) (ms + rs) Qc := by
  obtain ⟨N1, N2, N3, N4⟩ := N
  obtain rfl : N4 = none := hr
  intro p e s m args below meth c H locs ls R kc ns C0 hB hl hR
  have C := C0.1
  have hts := C.2.2.2.2.2.2.1
  obtain ⟨hP, hS, hk, hz, hp, h0⟩ := hB
  obtain ⟨q1, q2, q3, q4⟩ := hR
  refine W_sz fun hsz => ?_
  have hlow := low_sz C0.2.1 hP h1 hp.1
  obtain ⟨b1, b2, b3, b4, b5, b6⟩ := callB1 (d := d) (mc := mc) (ms := ms) q1 q2 hts hy
  have hrun : va_Run p l e R s m args below meth c H locs kc ns mc ms (F0 m pc ls (.ref (E.1 b) :: st.map (tr E))) (st.map (tr E)) (Qn E cn' pd' μ' _) (An E) := va_runI (As := []) (b := E.1 b) (rest := st.map (tr E)) (n := 0) (Ts := tb) (own := M.1) ⟨C.1, C.2.1, C.2.2.1, C.2.2.2.2.2.1, hts⟩ hM ⟨⟨b1, b2, b3, b4, b5, b6, hts _ hy.1, hts _ hy.2.1, hy.2.2.1, len_of hy.2.2.2.1, hts _ hw⟩, hnm, hts _ hin⟩ ⟨Wn_blind, fun U hU hW => ⟨rfl, C.2.2.2.2.2.2.2.2, C0.2.1, by rw [hU]; exact hP, by rw [hU]; omega, va_K.moved hW.alike C.2.2.2.2.2.2.2.1, Yx_warm hW C0.2.2.1, hz, hp⟩⟩ rfl rfl hl.1 rfl (by show 2 * 0 + _ ≤ 8; rw [cat_sum]; omega) hd ⟨by omega, by omega⟩
  intro T hT X0
  obtain ⟨v, st₀, t, T', L, h0', X', hL, e1, e2, ⟨hv, hWd, ⟨hz1, hk1⟩⟩, stp⟩ := hrun T hT X0
  cases hv
  rw [h0'] at hz1 hk1
  have K1 := K p e s m args below meth c T'.heap (locs ++ L) ls R (kc + mc) (ns + ms) C0 ⟨by rw [e1]; exact hWd.2.2.1, ⟨Nat.le_trans hS.1 (by rw [e1]; exact hz1), fun q g1 g2 => by rw [e1, hk1 q (Nat.lt_of_lt_of_le g1 hS.1) g2]; exact hS.2.1 q g1 g2, fun q hq => by
      rcases List.mem_append.mp hq with h | h
      · exact hS.2.2 q h
      · exact hL q h⟩, by omega, hWd.2.2.2.2.2.2.1, hWd.2.2.2.2.2.2.2, h0⟩ hl ⟨q1, q2, by omega, by omega⟩
  rw [show kc + mc + rc = kc + (mc + rc) by omega, show ns + ms + rs = ns + (ms + rs) by omega] at K1
  obtain ⟨t2, a1, b1⟩ := K1 T' rfl X'
  exact ⟨t2, stp t2 a1, b1⟩
theorem N_callN {y : MethodName} {N : mt} {idx b mc ms cn' : Nat} {pd' : List Nat} {l : Launch} {E : ce} {d : Nat} {M : mt} {pc : Nat} {lv : List (Option Value)} {st : List Value} {cn : Nat} {pd : List Nat} {μ μ' : mm} {rc rs : Nat} {Qc : Array Value → State → Outcome → State → Prop} (hM : Cn l E d y N [.ref b] cn pd μ mc ms cn' pd' μ') (hy : Cal y N 0) (hr : N.2.2.2 = none) (hnm : y.name = "<init>") (hin : Cond.instanceMethod y ∈ tb) (hw : Cond.methodLinkNest M.1 idx y "LongStrike" ∈ nwc) (h1 : 1 ≤ cn) (hcn : cn' = cn + mc) (hcat : (st.map fun v => v.category).sum ≤ 8) (hd : decode M.2.1 pc = .ok (.invokespecial idx, 3)) (K : Rn l E (d + 1) M (pc + 3) lv st cn' pd' μ' rc rs Qc) : Rn l E (d + 1) M pc lv (.ref b :: st) cn pd μ (mc + rc) (ms + rs) Qc := by
  obtain ⟨N1, N2, N3, N4⟩ := N
  obtain rfl : N4 = none := hr
  intro p e s m args below meth c H locs ls R kc ns C0 hB hl hR
  have C := C0.1
  have hts := C.2.2.2.2.2.2.1
  obtain ⟨hP, hS, hk, hz, hp, h0⟩ := hB
  obtain ⟨q1, q2, q3, q4⟩ := hR
  refine W_sz fun hsz => ?_
  have hlow := low_sz C0.2.1 hP h1 hp.1
  obtain ⟨b1, b2, b3, b4, b5, b6⟩ := callB1 (d := d) (mc := mc) (ms := ms) q1 q2 hts hy
  have hrun : va_Run p l e R s m args below meth c H locs kc ns mc ms (F0 m pc ls (.ref (E.1 b) :: st.map (tr E))) (st.map (tr E)) (Qn E cn' pd' μ' _) (An E) := va_runIN (host := "LongStrike") (As := []) (b := E.1 b) (rest := st.map (tr E)) (n := 0) (Ts := tb) (own := M.1) ⟨C.1, C.2.1, C.2.2.1, C.2.2.2.2.2.1, hts⟩ hM ⟨⟨⟨b1, b2, b3, b4, b5, b6⟩, hts _ hy.1, hts _ hy.2.1, hy.2.2.1, len_of hy.2.2.2.1, va_Nw.use rfl (C0.2.2.1.2 _ hw)⟩, hnm, hts _ hin⟩ ⟨Wn_blind, fun U hU hW => ⟨rfl, C.2.2.2.2.2.2.2.2, C0.2.1, by rw [hU]; exact hP, by rw [hU]; omega, va_K.moved hW.alike C.2.2.2.2.2.2.2.1, Yx_warm hW C0.2.2.1, hz, hp⟩⟩ rfl rfl hl.1 rfl (by show 2 * 0 + _ ≤ 8; rw [cat_sum]; omega) hd ⟨by omega, by omega⟩
  intro T hT X0
  obtain ⟨v, st₀, t, T', L, h0', X', hL, e1, e2, ⟨hv, hWd, ⟨hz1, hk1⟩⟩, stp⟩ := hrun T hT X0
  cases hv
  rw [h0'] at hz1 hk1
  have K1 := K p e s m args below meth c T'.heap (locs ++ L) ls R (kc + mc) (ns + ms) C0 ⟨by rw [e1]; exact hWd.2.2.1, ⟨Nat.le_trans hS.1 (by rw [e1]; exact hz1), fun q g1 g2 => by rw [e1, hk1 q (Nat.lt_of_lt_of_le g1 hS.1) g2]; exact hS.2.1 q g1 g2, fun q hq => by
      rcases List.mem_append.mp hq with h | h
      · exact hS.2.2 q h
      · exact hL q h⟩, by omega, hWd.2.2.2.2.2.2.1, hWd.2.2.2.2.2.2.2, h0⟩ hl ⟨q1, q2, by omega, by omega⟩
  rw [show kc + mc + rc = kc + (mc + rc) by omega, show ns + ms + rs = ns + (ms + rs) by omega] at K1
  obtain ⟨t2, a1, b1⟩ := K1 T' rfl X'
  exact ⟨t2, stp t2 a1, b1⟩
theorem N_callS {y : MethodName} {N : mt} {idx b : Nat} {x : Int32} {l : Launch} {E : ce} {d : Nat} {M : mt} {pc : Nat} {lv : List (Option Value)} {st : List Value} {cn : Nat} {pd : List Nat} {μ μ' : mm} {rc rs : Nat} {Qc : Array Value → State → Outcome → State → Prop} (hM : Cn l E d y N [.ref b, .int x] cn pd μ 0 0 cn pd μ') (hy : Cal y N 2) (hr : N.2.2.2 = none) (hin : Cond.static y ∈ tb) (hw : Cond.methodLink M.1 idx y ∈ tb) (h1 : 1 ≤ cn) (hcat : (st.map fun v => v.category).sum ≤ 8) (hd : decode M.2.1 pc = .ok (.invokestatic idx, 3)) (K : Rn l E (d + 1) M (pc + 3) lv st cn pd μ' rc rs Qc) : Rn l E (d + 1) M pc lv (.int x :: .ref b :: st) cn pd μ rc rs Qc := by
  obtain ⟨N1, N2, N3, N4⟩ := N
  obtain rfl : N4 = none := hr
  intro p e s m args below meth c H locs ls R kc ns C0 hB hl hR
  have C := C0.1
  have hts := C.2.2.2.2.2.2.1
  obtain ⟨hP, hS, hk, hz, hp, h0⟩ := hB
  obtain ⟨q1, q2, q3, q4⟩ := hR
  refine W_sz fun hsz => ?_
  have hlow := low_sz C0.2.1 hP h1 hp.1
  obtain ⟨b1, b2, b3, b4, b5, b6⟩ := callB1 (d := d) (mc := 0) (ms := 0) q1 q2 hts hy
  have hrun : va_Run p l e R s m args below meth c H locs kc ns 0 0 (F0 m pc ls (.int x :: .ref (E.1 b) :: st.map (tr E))) (st.map (tr E)) (Qn E cn pd μ' _) (An E) := va_runS (As := [.ref (E.1 b), .int x]) (rest := st.map (tr E)) (n := 2) (Ts := tb) (own := M.1) ⟨C.1, C.2.1, C.2.2.1, C.2.2.2.2.2.1, hts⟩ hM ⟨⟨b1, b2, b3, b4, b5, b6, hts _ hy.1, hts _ hy.2.1, hy.2.2.1, len_of hy.2.2.2.1, hts _ hw⟩, hts _ hin⟩ ⟨Wn_blind, fun U hU hW => ⟨rfl, C.2.2.2.2.2.2.2.2, C0.2.1, by rw [hU]; exact hP, by rw [hU]; omega, va_K.moved hW.alike C.2.2.2.2.2.2.2.1, Yx_warm hW C0.2.2.1, hz, hp⟩⟩ rfl rfl hl.1 rfl (by show 2 * 0 + _ ≤ 8; rw [cat_sum]; omega) hd ⟨by omega, by omega⟩
  intro T hT X0
  obtain ⟨v, st₀, t, T', L, h0', X', hL, e1, e2, ⟨hv, hWd, ⟨hz1, hk1⟩⟩, stp⟩ := hrun T hT X0
  cases hv
  rw [h0'] at hz1 hk1
  have K1 := K p e s m args below meth c T'.heap (locs ++ L) ls R kc ns C0 ⟨by rw [e1]; exact hWd.2.2.1, ⟨Nat.le_trans hS.1 (by rw [e1]; exact hz1), fun q g1 g2 => by rw [e1, hk1 q (Nat.lt_of_lt_of_le g1 hS.1) g2]; exact hS.2.1 q g1 g2, fun q hq => by
      rcases List.mem_append.mp hq with h | h
      · exact hS.2.2 q h
      · exact hL q h⟩, by omega, hWd.2.2.2.2.2.2.1, hWd.2.2.2.2.2.2.2, h0⟩ hl ⟨q1, q2, by omega, by omega⟩
  obtain ⟨t2, a1, b1⟩ := K1 T' rfl X'
  exact ⟨t2, stp t2 a1, b1⟩
