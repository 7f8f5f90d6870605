/-! what is made, set, read and called over the half made world -/
theorem Zr_up {cn : Nat} {μ : mm} (h : Zr cn μ) : Zr (cn + 1) μ := fun a q k => h a (by omega) k
theorem Zr_put {cn : Nat} {μ : mm} {a k : Nat} {x : Int32} (h : Zr cn μ) (ha : od a < cn) : Zr cn (up μ a k x) := fun b q j => by
  rw [up_ne (fun e => by rw [e] at q; omega)]
  exact h b q j
theorem Pn_up {cn : Nat} {pd : List Nat} (h : Pn cn pd) (hn : cn < 331) : Pn (cn + 1) (oi cn :: pd) := by
  refine ⟨by omega, List.nodup_cons.mpr ⟨fun q => ?_, h.2.1⟩, fun c hc => ?_⟩
  · have := h.2.2 _ q
    rw [od_oi hn] at this
    omega
  · rcases List.mem_cons.mp hc with rfl | q
    · rw [od_oi hn]
      omega
    · have := h.2.2 c q
      omega
theorem celp_obj {E : ce} {n : Nat} {pd : List Nat} {μ : mm} {a ci : Nat} (h : kd a = ci) (hc : ci < 13) : celp E n pd μ a = .inr (ci, (List.range (nf ci)).map (fvp E n pd μ a)) := by
  unfold celp
  rw [if_pos (by omega), h]
theorem celp_arr {E : ce} {n : Nat} {pd : List Nat} {μ : mm} {a ci : Nat} (h : kd a = ci) (h1 : 13 ≤ ci) (h2 : ci < 23) : celp E n pd μ a = .inl (E.2.2.1 ci, len a, .inl (μ a)) := by
  unfold celp
  rw [if_neg (by omega), if_pos (by omega), h]
theorem celp_row {E : ce} {n : Nat} {pd : List Nat} {μ : mm} {a ci : Nat} (h : kd a = ci) (h1 : 23 ≤ ci) : celp E n pd μ a = .inl (E.2.2.1 ci, len a, .inr (.inr (.inr (.inr (fun i => if i < len a ∧ set_ n pd (rf a i) then some (E.1 (rf a i)) else none))))) := by
  unfold celp
  rw [if_neg (by omega), if_neg (by omega), h]
theorem fsp_at {E : ce} {n : Nat} {pd : List Nat} {μ : mm} {a k N : Nat} (h : k < N) : ((List.range N).map (fvp E n pd μ a))[k]? = some (fvp E n pd μ a k) := by
  rw [List.getElem?_map, List.getElem?_range h]
  rfl
theorem fsp_set {E : ce} {n : Nat} {pd pd' : List Nat} {μ μ' : mm} {a k N : Nat} {v : Value} (hk : fvp E n pd' μ' a k = v) (hj : ∀ j, j < N → j ≠ k → fvp E n pd' μ' a j = fvp E n pd μ a j) : ((List.range N).map (fvp E n pd μ a)).set k v = (List.range N).map (fvp E n pd' μ' a) := by
  apply List.ext_getElem?
  intro i
  by_cases hl : i < N
  · rw [fsp_at hl]
    by_cases e : i = k
    · subst e
      rw [List.getElem?_set_self (by simpa using hl), hk]
    · rw [List.getElem?_set_ne (Ne.symm e), fsp_at hl, hj i hl e]
  · rw [List.getElem?_eq_none (by simp; omega), List.getElem?_eq_none (by simp; omega)]
theorem unset_of {cn : Nat} {pd : List Nat} {c : Nat} (h : cn < od c) : ¬ set_ cn pd c := fun q => by
  have := q.1
  omega
theorem set_pop {cn : Nat} {t : List Nat} {c b : Nat} (h : b ≠ c) : set_ cn t b ↔ set_ cn (c :: t) b := by
  unfold set_
  rw [List.mem_cons, not_or]
  exact ⟨fun q => ⟨q.1, h, q.2⟩, fun q => ⟨q.1, q.2.2⟩⟩
theorem nap_outer (c : ClassId) (N h0 : Nat) (i : Nat) : Jvm.Free.Multi.outerC c N h0 i = arrV c N (fun j => va_rf (if j < i then some (h0 + 1 + j) else none)) := by
  induction i with
  | zero =>
    have e : (fun j => va_rf (if j < 0 then some (h0 + 1 + j) else none)) = fun _ => Value.null := funext fun j => by rw [if_neg (Nat.not_lt_zero j)]; rfl
    rw [e, ← arrV_new]
    rfl
  | succ i ih =>
    have e : Jvm.Free.Multi.outerC c N h0 (i + 1) = (Jvm.Free.Multi.outerC c N h0 i).setSlot i (.ref (h0 + 1 + i)) := rfl
    rw [e, ih, arrV_store]
    refine congrArg (arrV c N) (funext fun j => ?_)
    unfold updV
    dsimp only
    by_cases h : j = i
    · rw [if_pos h, if_pos (by omega), h]
      rfl
    · rw [if_neg h]
      by_cases h2 : j < i
      · rw [if_pos h2, if_pos (by omega)]
      · rw [if_neg h2, if_neg (by omega)]
theorem low_sz {E : ce} (hG : Ge E) {cn : Nat} {pd : List Nat} {μ : mm} {H : Heap} (hP : va_P E.2.1 vwCl (wp E cn pd μ) H) (h1 : 1 ≤ cn) (hn : cn ≤ 331) : E.1 23 + cn ≤ H.size := by
  have h9 : E.1 (oi (cn - 1)) < H.size := (hP _ _ (wp_at E cn pd μ (show cn - 1 < cn by omega))).lt
  have e : E.1 (oi (cn - 1)) = E.1 23 + (cn - 1) := Ge_oi hG (by omega)
  omega
section RN2
variable {l : Launch} {E : ce} {d : Nat} {M : mt} {pc : Nat} {lv lv' : List (Option Value)} {st : List Value} {cn : Nat} {pd : List Nat} {μ μ' : mm} {rc rs : Nat} {Qc : Array Value → State → Outcome → State → Prop}
theorem N_oinit {idx a : Nat} (hc : (st.map fun v => v.category).sum ≤ 8) (hw : Cond.methodLink M.1 idx objectInit ∈ tb) (h1 : Cond.instanceMethod objectInit ∈ tb) (h2 : Cond.code objectInit ⟨#[0xb1]⟩ 1 none ∈ tb) (hd : decode M.2.1 pc = .ok (.invokespecial idx, 3)) (K : Rn l E d M (pc + 3) lv st cn pd μ rc rs Qc) : Rn l E d M pc lv (.ref a :: st) cn pd μ rc rs Qc := by
  intro p e s m args below meth c H locs ls R kc ns C0 hB hl hR
  have C := C0.1
  have hts := C.2.2.2.2.2.2.1
  refine W.objInit (a := E.1 a) (rest := st.map (tr E)) C.1 C.2.1 C.2.2.2.2.2.1 (hts _ hw) (hts _ h1) (hts _ h2) rfl (hl.1.trans C.2.2.1.symm) rfl hd (Nat.le_trans (Nat.le_add_left 1 d) hR.1) ?_ (K p e s m args below meth c H locs ls R kc ns C0 hB hl hR)
  have h9 := hR.2.1
  have h8 := cat_sum E st
  show 2 * 0 + _ + 12 ≤ R.locals
  omega
theorem N_new {ci idx a N : Nat} {C1 : String} {T : u_T} (hcn : cn < 331) (ty : Nat → FieldType) (hty : ∀ k, k < N → parseFieldDescriptor (T k).2.2.1 = some (ty k)) (hc : vwCl[ci]? = some (C1, T, N)) (hci : ci < 13) (hin : ∀ w ∈ u_ws C1 T N, w ∈ tb) (hN : nf ci = N) (hdf : ∀ j, j < N → defaultValue (ty j) = if isr ci j = true then .null else .int 0) (hcl : Cond.classLink M.1 idx C1 ∈ tb) (hinst : Cond.instantiable C1 N ∈ tb) (hini : Cond.initialized C1 ∈ tb) (ha : oi cn = a) (hka : kd a = ci) (hd : decode M.2.1 pc = .ok (.new idx, 3)) (K : Rn l E d M (pc + 3) lv (.ref a :: st) (cn + 1) (a :: pd) μ rc rs Qc) : Rn l E d M pc lv st cn pd μ (1 + rc) (N + rs) Qc := by
  intro p e s m args below meth c H locs ls R kc ns C0 hB hl hR
  have C := C0.1
  have hts := C.2.2.2.2.2.2.1
  obtain ⟨hP, hS, hk, hz, hp, h0⟩ := hB
  have hR3 := hR.2.2.1
  have hR4 := hR.2.2.2
  have hoa : od a = cn := by rw [← ha, od_oi hcn]
  refine va_new (c0 := c) C.1 C.2.1 (own := M.1) hts hin ty hty C.2.2.2.2.2.1 (hts _ hcl) (hts _ hinst) (hts _ hini) C.2.2.2.2.2.2.2.1 hP (wp_D C0.2.1 hp.1 pd μ) hS (fun q h => Nat.le_trans h0 h) hc (fs := (List.range N).map (fvp E cn pd μ a)) ?_ (by omega) (by omega) hd (fun q H1 hP1 hD1 hS1 => W_sz fun hsz => ?_)
  · intro j hj
    have e : vp_V ((List.range N).map (fvp E cn pd μ a)) j = fvp E cn pd μ a j := by
      unfold vp_V
      rw [List.getD_eq_getElem?_getD, fsp_at hj]
      rfl
    rw [hdf j hj, e]
    unfold fvp
    rw [hka]
    by_cases hi : isr ci j = true
    · rw [if_pos hi, if_pos hi, if_neg (unset_of (by rw [← hoa]; exact (pt_o a (by rw [← ha]; exact oi_lt hcn) (by omega) j (by rw [hka]; omega) (by rw [hka]; exact hi)).2.1))]
    · rw [if_neg hi, if_neg hi, hz a (by omega) j]
  · obtain rfl := q_is C0.2.1 hcn hP1 hD1 (by omega)
    rw [ha] at hP1
    have hw := wp_push (E := E) hcn (pd := pd) (μ := μ) (e := celp E cn pd μ (oi cn)) rfl
    rw [ha, celp_obj hka hci, hN] at hw
    rw [hw] at hP1
    have K1 := K p e s m args below meth c H1 locs ls R (kc + 1) (ns + N) C0 ⟨hP1, hS1, by omega, Zr_up hz, by rw [← ha]; exact Pn_up hp hcn, h0⟩ hl ⟨hR.1, hR.2.1, by omega, by omega⟩
    rw [show kc + 1 + rc = kc + (1 + rc) by omega, show ns + N + rs = ns + (N + rs) by omega] at K1
    rw [ha]
    exact K1
theorem N_newa_int {a N : Nat} {nv : Int32} (hcn : cn < 331) (harr : Cond.arrayClass .int ∈ tb) (ha : oi cn = a) (hka : kd a = 20) (hla : len a = N) (hn : ¬ nv < 0) (hN : nv.toNatClampNeg = N) (hb : N ≤ 100000) (hd : decode M.2.1 pc = .ok (.newarray .int, 2)) (K : Rn l E d M (pc + 2) lv (.ref a :: st) (cn + 1) (a :: pd) μ rc rs Qc) : Rn l E d M pc lv (.int nv :: st) cn pd μ (1 + rc) (N + rs) Qc := by
  intro p e s m args below meth c H locs ls R kc ns C0 hB hl hR
  have C := C0.1
  have hts := C.2.2.2.2.2.2.1
  have hK := C.2.2.2.2.2.2.2.1
  obtain ⟨hP, hS, hk, hz, hp, h0⟩ := hB
  have hR3 := hR.2.2.1
  have hR4 := hR.2.2.2
  have hoa : od a = cn := by rw [← ha, od_oi hcn]
  refine va_newa (atype := .int) (ty := FieldType.int) (a0 := (N, .inl (fun _ => 0))) C.1 C.2.1 (hts _ harr) rfl hK hP (wp_D C0.2.1 hp.1 pd μ) hS (fun q h => Nat.le_trans h0 h) (fun cA => rfl) hn hN (by show N * 4 ≤ 536870912; omega) (by omega) (by omega) hd (fun q cA H1 hK1 hP1 hD1 hS1 => W_sz fun hsz => ?_)
  have hc1 : s.vm.findClass ("[" ++ (.int : FieldType).toString) = some cA := (hK1.2 8 (cA, .int) rfl).2
  have hc2 : s.vm.findClass ("[" ++ (.int : FieldType).toString) = some (E.2.2.1 20) := (hK.2 0 (E.2.2.1 20, .int) rfl).2
  obtain rfl : cA = E.2.2.1 20 := Option.some.inj (hc1.symm.trans hc2)
  obtain rfl := q_is C0.2.1 hcn hP1 hD1 (by omega)
  have hw := wp_push (E := E) hcn (pd := pd) (μ := μ) (e := celp E cn pd μ (oi cn)) rfl
  rw [ha, celp_arr hka (by decide) (by decide), hla, show μ a = fun _ => 0 from funext fun k => hz a (by omega) k] at hw
  rw [ha] at hP1
  rw [hw] at hP1
  have K1 := K p e s m args below meth c H1 locs ls R (kc + 1) (ns + N) C0 ⟨hP1, hS1, by omega, Zr_up hz, by rw [← ha]; exact Pn_up hp hcn, h0⟩ hl ⟨hR.1, hR.2.1, by omega, by omega⟩
  rw [show kc + 1 + rc = kc + (1 + rc) by omega, show ns + N + rs = ns + (N + rs) by omega] at K1
  rw [ha]
  exact K1
theorem N_newa_byte {a N : Nat} {nv : Int32} (hcn : cn < 331) (harr : Cond.arrayClass .byte ∈ tb) (ha : oi cn = a) (hka : kd a = 21) (hla : len a = N) (hn : ¬ nv < 0) (hN : nv.toNatClampNeg = N) (hb : N ≤ 100000) (hd : decode M.2.1 pc = .ok (.newarray .byte, 2)) (K : Rn l E d M (pc + 2) lv (.ref a :: st) (cn + 1) (a :: pd) μ rc rs Qc) : Rn l E d M pc lv (.int nv :: st) cn pd μ (1 + rc) (N + rs) Qc := by
  intro p e s m args below meth c H locs ls R kc ns C0 hB hl hR
  have C := C0.1
  have hts := C.2.2.2.2.2.2.1
  have hK := C.2.2.2.2.2.2.2.1
  obtain ⟨hP, hS, hk, hz, hp, h0⟩ := hB
  have hR3 := hR.2.2.1
  have hR4 := hR.2.2.2
  have hoa : od a = cn := by rw [← ha, od_oi hcn]
  refine va_newa (atype := .byte) (ty := FieldType.byte) (a0 := (N, .inl (fun _ => 0))) C.1 C.2.1 (hts _ harr) rfl hK hP (wp_D C0.2.1 hp.1 pd μ) hS (fun q h => Nat.le_trans h0 h) (fun cA => rfl) hn hN (by show N * 1 ≤ 536870912; omega) (by omega) (by omega) hd (fun q cA H1 hK1 hP1 hD1 hS1 => W_sz fun hsz => ?_)
  have hc1 : s.vm.findClass ("[" ++ (.byte : FieldType).toString) = some cA := (hK1.2 8 (cA, .byte) rfl).2
  have hc2 : s.vm.findClass ("[" ++ (.byte : FieldType).toString) = some (E.2.2.1 21) := (hK.2 1 (E.2.2.1 21, .byte) rfl).2
  obtain rfl : cA = E.2.2.1 21 := Option.some.inj (hc1.symm.trans hc2)
  obtain rfl := q_is C0.2.1 hcn hP1 hD1 (by omega)
  have hw := wp_push (E := E) hcn (pd := pd) (μ := μ) (e := celp E cn pd μ (oi cn)) rfl
  rw [ha, celp_arr hka (by decide) (by decide), hla, show μ a = fun _ => 0 from funext fun k => hz a (by omega) k] at hw
  rw [ha] at hP1
  rw [hw] at hP1
  have K1 := K p e s m args below meth c H1 locs ls R (kc + 1) (ns + N) C0 ⟨hP1, hS1, by omega, Zr_up hz, by rw [← ha]; exact Pn_up hp hcn, h0⟩ hl ⟨hR.1, hR.2.1, by omega, by omega⟩
  rw [show kc + 1 + rc = kc + (1 + rc) by omega, show ns + N + rs = ns + (N + rs) by omega] at K1
  rw [ha]
  exact K1
theorem N_newa_bool {a N : Nat} {nv : Int32} (hcn : cn < 331) (harr : Cond.arrayClass .boolean ∈ tb) (ha : oi cn = a) (hka : kd a = 22) (hla : len a = N) (hn : ¬ nv < 0) (hN : nv.toNatClampNeg = N) (hb : N ≤ 100000) (hd : decode M.2.1 pc = .ok (.newarray .boolean, 2)) (K : Rn l E d M (pc + 2) lv (.ref a :: st) (cn + 1) (a :: pd) μ rc rs Qc) : Rn l E d M pc lv (.int nv :: st) cn pd μ (1 + rc) (N + rs) Qc := by
  intro p e s m args below meth c H locs ls R kc ns C0 hB hl hR
  have C := C0.1
  have hts := C.2.2.2.2.2.2.1
  have hK := C.2.2.2.2.2.2.2.1
  obtain ⟨hP, hS, hk, hz, hp, h0⟩ := hB
  have hR3 := hR.2.2.1
  have hR4 := hR.2.2.2
  have hoa : od a = cn := by rw [← ha, od_oi hcn]
  refine va_newa (atype := .boolean) (ty := FieldType.boolean) (a0 := (N, .inl (fun _ => 0))) C.1 C.2.1 (hts _ harr) rfl hK hP (wp_D C0.2.1 hp.1 pd μ) hS (fun q h => Nat.le_trans h0 h) (fun cA => rfl) hn hN (by show N * 1 ≤ 536870912; omega) (by omega) (by omega) hd (fun q cA H1 hK1 hP1 hD1 hS1 => W_sz fun hsz => ?_)
  have hc1 : s.vm.findClass ("[" ++ (.boolean : FieldType).toString) = some cA := (hK1.2 8 (cA, .boolean) rfl).2
  have hc2 : s.vm.findClass ("[" ++ (.boolean : FieldType).toString) = some (E.2.2.1 22) := (hK.2 2 (E.2.2.1 22, .boolean) rfl).2
  obtain rfl : cA = E.2.2.1 22 := Option.some.inj (hc1.symm.trans hc2)
  obtain rfl := q_is C0.2.1 hcn hP1 hD1 (by omega)
  have hw := wp_push (E := E) hcn (pd := pd) (μ := μ) (e := celp E cn pd μ (oi cn)) rfl
  rw [ha, celp_arr hka (by decide) (by decide), hla, show μ a = fun _ => 0 from funext fun k => hz a (by omega) k] at hw
  rw [ha] at hP1
  rw [hw] at hP1
  have K1 := K p e s m args below meth c H1 locs ls R (kc + 1) (ns + N) C0 ⟨hP1, hS1, by omega, Zr_up hz, by rw [← ha]; exact Pn_up hp hcn, h0⟩ hl ⟨hR.1, hR.2.1, by omega, by omega⟩
  rw [show kc + 1 + rc = kc + (1 + rc) by omega, show ns + N + rs = ns + (N + rs) by omega] at K1
  rw [ha]
  exact K1
theorem N_anew {ci t0 idx a N : Nat} {C1 : String} {nv : Int32} (hcn : cn < 331) (hci : 23 ≤ ci) (ht : (tys E)[t0]? = some (E.2.2.1 ci, .object C1)) (hcl : Cond.classLink M.1 idx C1 ∈ tb) (hao : ∀ t, Yx t → va_AO C1 t) (ha : oi cn = a) (hka : kd a = ci) (hla : len a = N) (hn : ¬ nv < 0) (hN : nv.toNatClampNeg = N) (hb : N ≤ 100000) (hd : decode M.2.1 pc = .ok (.anewarray idx, 3)) (K : Rn l E d M (pc + 3) lv (.ref a :: st) (cn + 1) (a :: pd) μ rc rs Qc) : Rn l E d M pc lv (.int nv :: st) cn pd μ (1 + rc) (N + rs) Qc := by
  intro p e s m args below meth c H locs ls R kc ns C0 hB hl hR
  have C := C0.1
  have hts := C.2.2.2.2.2.2.1
  have hK := C.2.2.2.2.2.2.2.1
  obtain ⟨hP, hS, hk, hz, hp, h0⟩ := hB
  have hR3 := hR.2.2.1
  have hR4 := hR.2.2.2
  have hoa : od a = cn := by rw [← ha, od_oi hcn]
  refine va_newq C.1 C.2.1 C.2.2.2.2.2.1 (hts _ hcl) (hao s C0.2.2.1) hK hP (wp_D C0.2.1 hp.1 pd μ) hS (fun q h => Nat.le_trans h0 h) hn hN (by omega) (by omega) (by omega) hd (fun q cA H1 hK1 hP1 hD1 hS1 => W_sz fun hsz => ?_)
  obtain ⟨_, _, -, -, -, hc1⟩ : va_RA s cA (.object C1) := (hK1.2 8 (cA, .object C1) rfl).2
  obtain ⟨_, _, -, -, -, hc2⟩ : va_RA s (E.2.2.1 ci) (.object C1) := (hK.2 t0 _ ht).2
  obtain rfl : cA = E.2.2.1 ci := Option.some.inj (hc1.symm.trans hc2)
  obtain rfl := q_is C0.2.1 hcn hP1 hD1 (by omega)
  have hw := wp_push (E := E) hcn (pd := pd) (μ := μ) (e := celp E cn pd μ (oi cn)) rfl
  have e0 : (fun i => if i < len a ∧ set_ cn pd (rf a i) then some (E.1 (rf a i)) else none) = fun _ => (none : Option Nat) := funext fun i => if_neg fun q => unset_of (by rw [← hoa]; exact (pt_r a (by rw [← ha]; exact oi_lt hcn) (by omega) i q.1).2.1) q.2
  rw [ha, celp_row hka hci, e0, hla] at hw
  rw [ha] at hP1
  rw [hw] at hP1
  have K1 := K p e s m args below meth c H1 locs ls R (kc + 1) (ns + N) C0 ⟨hP1, hS1, by omega, Zr_up hz, by rw [← ha]; exact Pn_up hp hcn, h0⟩ hl ⟨hR.1, hR.2.1, by omega, by omega⟩
  rw [show kc + 1 + rc = kc + (1 + rc) by omega, show ns + N + rs = ns + (N + rs) by omega] at K1
  rw [ha]
  exact K1
theorem N_multi {idx a N L : Nat} {nv kv : Int32} (h1 : 1 ≤ cn) (hcn : cn + N < 331) (hcl : Cond.classLink M.1 idx "[[I" ∈ tb) (harr : Cond.arrayClass .int ∈ tb) (ha : oi cn = a) (hka : kd a = 23) (hla : len a = N) (hrow : ∀ i, i < N → rf a i = oi (cn + 1 + i) ∧ kd (rf a i) = 20 ∧ len (rf a i) = L) (hn : ¬ nv < 0) (hN : nv.toNatClampNeg = N) (hkn : ¬ kv < 0) (hL : kv.toNatClampNeg = L) (hb : N ≤ 1000 ∧ L ≤ 1000) (hd : decode M.2.1 pc = .ok (.multianewarray idx 2, 4)) (K : Rn l E d M (pc + 4) lv (.ref a :: st) (cn + 1 + N) (a :: pd) μ rc rs Qc) : Rn l E d M pc lv (.int kv :: .int nv :: st) cn pd μ (1 + N + rc) (N + N * L + rs) Qc := by
  intro p e s m args below meth c H locs ls R kc ns C0 hB hl hR
  have C := C0.1
  have hts := C.2.2.2.2.2.2.1
  have hK := C.2.2.2.2.2.2.2.1
  obtain ⟨hP, hS, hk, hz, hp, h0⟩ := hB
  have hR3 := hR.2.2.1
  have hR4 := hR.2.2.2
  have hoa : od a = cn := by rw [← ha, od_oi (by omega)]
  have hal : a < 331 := by rw [← ha]; exact oi_lt (by omega)
  refine W_sz fun hsz => ?_
  have hlow := low_sz C0.2.1 hP h1 hp.1
  have hH : H.size = E.1 23 + cn := by omega
  have hHa : H.size = E.1 a := by rw [← ha, Ge_oi C0.2.1 (by omega), hH]
  subst hN
  subst hL
  intro T hT Xs
  obtain ⟨vm₁, cA, comp, -, fA, fC, hO, -, X', step⟩ := Xs.multianewarray2F C.1 (own := M.1) (index := idx) (ty := .int) C.2.2.2.2.2.1 (hts _ hcl) C0.2.2.1.1.2.2.2.2 (hts _ harr) (g := F0 m pc ls (.int kv :: .int nv :: st.map (tr E))) rfl (by rw [C.2.1]; exact hd) rfl hn hkn (by omega) (by show _ * 4 ≤ _; omega) (by omega) rfl rfl (by omega) (by omega)
  have fA2 : s.vm.findClass ("[" ++ (FieldType.array .int).toString) = some (E.2.2.1 23) := (hK.2 3 (E.2.2.1 23, .array .int) rfl).2
  have fC2 : s.vm.findClass (FieldType.array .int).toString = some (E.2.2.1 20) := (hK.2 0 (E.2.2.1 20, .int) rfl).2
  obtain rfl : cA = E.2.2.1 23 := Option.some.inj (fA.symm.trans fA2)
  obtain rfl : comp = E.2.2.1 20 := Option.some.inj (fC.symm.trans fC2)
  have hTh : (T.setVm vm₁).heap = H := hT
  obtain ⟨f1, f2, -, -⟩ := Jvm.Free.Multi.fill_facts (T.setVm vm₁) (E.2.2.1 23) (E.2.2.1 20) nv.toNatClampNeg kv.toNatClampNeg (defaultValue .int) nv.toNatClampNeg
  have hold : ∀ x : Nat, x < H.size → (Jvm.Free.Multi.fill (T.setVm vm₁) (E.2.2.1 23) (E.2.2.1 20) nv.toNatClampNeg kv.toNatClampNeg (defaultValue .int) nv.toNatClampNeg).heap[x]? = H[x]? := fun x hx => by
    have := Jvm.Free.Multi.fill_old (T.setVm vm₁) (E.2.2.1 23) (E.2.2.1 20) nv.toNatClampNeg kv.toNatClampNeg (defaultValue .int) (a := x) (by rw [hTh]; exact hx) nv.toNatClampNeg
    rw [this, hTh]
  have hinn : ∀ j : Nat, j < nv.toNatClampNeg → (Jvm.Free.Multi.fill (T.setVm vm₁) (E.2.2.1 23) (E.2.2.1 20) nv.toNatClampNeg kv.toNatClampNeg (defaultValue .int) nv.toNatClampNeg).heap[H.size + 1 + j]? = some (arrV (E.2.2.1 20) kv.toNatClampNeg (fun _ => .int 0)) := fun j hj => by
    have := Jvm.Free.Multi.fill_inner (T.setVm vm₁) (E.2.2.1 23) (E.2.2.1 20) nv.toNatClampNeg kv.toNatClampNeg (defaultValue .int) nv.toNatClampNeg j hj
    rw [hTh] at this
    rw [this, ← arrV_new]
    rfl
  rw [hTh] at f1 f2
  rw [nap_outer] at f2
  generalize Jvm.Free.Multi.fill (T.setVm vm₁) (E.2.2.1 23) (E.2.2.1 20) nv.toNatClampNeg kv.toNatClampNeg (defaultValue .int) nv.toNatClampNeg = F at X' step f1 f2 hold hinn
  have hset : ∀ b k, od b < cn → pt (rf b k) = (b, k) → (set_ (cn + 1 + nv.toNatClampNeg) (a :: pd) (rf b k) ↔ set_ cn pd (rf b k)) := fun b k hb hpt => by
    unfold set_
    constructor
    · rintro ⟨g1, g2⟩
      rw [List.mem_cons, not_or] at g2
      refine ⟨Nat.lt_of_not_le fun g3 => ?_, g2.2⟩
      rcases Nat.lt_or_eq_of_le g3 with g4 | g4
      · obtain ⟨i, hi, e⟩ : ∃ i, i < nv.toNatClampNeg ∧ od (rf b k) = cn + 1 + i := ⟨od (rf b k) - (cn + 1), by omega, by omega⟩
        have e2 : rf b k = rf a i := by rw [(hrow i hi).1]; exact (od_eq (by omega)).mp e
        have e3 := (pt_r a hal (by omega) i (by omega)).1
        rw [← e2, hpt] at e3
        cases e3
        omega
      · exact g2.1 (by rw [← ha]; exact (od_eq (by omega)).mp g4.symm)
    · rintro ⟨g1, g2⟩
      refine ⟨by omega, fun q => ?_⟩
      rcases List.mem_cons.mp q with q | q
      · rw [q] at g1
        omega
      · exact g2 q
  have hP1 : va_P E.2.1 vwCl (wp E (cn + 1 + nv.toNatClampNeg) (a :: pd) μ) F.heap := by
    intro i q hq
    obtain ⟨g1, rfl⟩ := wp_out hq
    by_cases g2 : i < cn
    · have g3 := hP i _ (wp_at E cn pd μ g2)
      have e1 : celp E (cn + 1 + nv.toNatClampNeg) (a :: pd) μ (oi i) = celp E cn pd μ (oi i) := celp_cg (oi_lt (by omega)) rfl (fun k hpt => hset _ k (by rw [od_oi (by omega)]; exact g2) hpt)
      rw [e1]
      exact g3.kept (hold _ g3.lt)
    · by_cases g3 : i = cn
      · subst g3
        rw [ha, celp_row hka (by decide), ← hHa]
        show F.heap[H.size]? = some (vp_cell _ _)
        rw [f2, vp_cell_q, hla]
        refine congrArg some (congrArg (arrV _ _) (funext fun j => congrArg va_rf ?_))
        by_cases hj : j < nv.toNatClampNeg
        · obtain ⟨r1, r2, r3⟩ := hrow j hj
          have r4 : od (rf a j) = i + 1 + j := by rw [r1, od_oi (by omega)]
          have hnp : rf a j ∉ a :: pd := fun q => by
            rcases List.mem_cons.mp q with q | q
            · rw [q] at r4
              omega
            · have := hp.2.2 _ q
              omega
          rw [if_pos hj, if_pos ⟨hj, by omega, hnp⟩, r1, Ge_oi C0.2.1 (by omega), hH]
          all_goals (congr 1; omega)
        · rw [if_neg hj, if_neg (fun q => hj q.1)]
      · obtain ⟨j, rfl⟩ : ∃ j, i = cn + 1 + j := ⟨i - (cn + 1), by omega⟩
        obtain ⟨r1, r2, r3⟩ := hrow j (by omega)
        rw [← r1, celp_arr r2 (by decide) (by decide), r3, r1, Ge_oi C0.2.1 (by omega)]
        show F.heap[_]? = some (vp_cell _ _)
        have e0 : μ (oi (cn + 1 + j)) = fun _ => 0 := funext fun k => hz _ (by rw [od_oi (by omega)]; omega) k
        rw [e0, show E.1 23 + (cn + 1 + j) = H.size + 1 + j by omega, hinn j (by omega)]
        rfl
  have hZ : Zr (cn + 1 + nv.toNatClampNeg) μ := fun b q k => hz b (by omega) k
  have hPd : Pn (cn + 1 + nv.toNatClampNeg) (a :: pd) := by
    have h9 := Pn_up hp (show cn < 331 by omega)
    rw [ha] at h9
    exact ⟨by omega, h9.2.1, fun c hc => by have := h9.2.2 c hc; omega⟩
  have K1 := K p e s m args below meth c F.heap locs ls R (kc + 1 + nv.toNatClampNeg) (ns + nv.toNatClampNeg + nv.toNatClampNeg * kv.toNatClampNeg) C0 ⟨hP1, ⟨Nat.le_trans hS.1 (by omega), fun x g1 g2 => (hold x (Nat.lt_of_lt_of_le g1 hS.1)).trans (hS.2.1 x g1 g2), hS.2.2⟩, by omega, hZ, hPd, h0⟩ hl ⟨hR.1, hR.2.1, by omega, by omega⟩
  rw [show kc + 1 + nv.toNatClampNeg + rc = kc + (1 + nv.toNatClampNeg + rc) by omega, show ns + nv.toNatClampNeg + nv.toNatClampNeg * kv.toNatClampNeg + rs = ns + (nv.toNatClampNeg + nv.toNatClampNeg * kv.toNatClampNeg + rs) by omega] at K1
  obtain ⟨t, a1, b1⟩ := K1 F rfl X'
  refine ⟨t, step t ?_, b1⟩
  rw [hT, hHa]
  exact a1
theorem N_put {ci k idx a N : Nat} {C0 : String} {T : u_T} {x : Int32} {ty : FieldType} (ty0 : Nat → FieldType) (hty : ∀ k, k < N → parseFieldDescriptor (T k).2.2.1 = some (ty0 k)) (hnm : ∀ a, a < N → ∀ b, b < N → a ≠ b → (T a).2.1 ≠ (T b).2.1) (hc : vwCl[ci]? = some (C0, T, N)) (hci : ci < 13) (hin : ∀ w ∈ u_ws C0 T N, w ∈ tb) (hk : k < N) (hN : nf ci = N) (hi : isr ci k = false) (hfin : (T k).2.2.2 = false) (htk : ty0 k = ty) (hn : narrow ty (.int x) = .int x) (hfit : fits ty (.int x) = true) (hw : Cond.fieldLink M.1 idx (T k).1 (T k).2.1 (T k).2.2.1 ∈ tb) (ha : kd a = ci) (hoa : od a < cn) (hm : up μ a k x = μ') (hd : decode M.2.1 pc = .ok (.putfield idx, 3)) (K : Rn l E d M (pc + 3) lv st cn pd μ' rc rs Qc) : Rn l E d M pc lv (.int x :: .ref a :: st) cn pd μ rc rs Qc := by
  subst hm
  intro p e s m args below meth c H locs ls R kc ns C1 hB hl hR
  have C := C1.1
  have hts := C.2.2.2.2.2.2.1
  obtain ⟨hP, hS, hkk, hz, hp, h0⟩ := hB
  have he := wp_od E pd μ hp.1 hoa
  rw [celp_obj ha hci, hN] at he
  refine va_put (C := C0) (T := T) (N := N) (ref := (T k).1) C.1 C.2.1 hts hin ty0 hty hnm C.2.2.2.2.2.1 C.2.2.2.2.2.2.2.1 hP (wp_D C1.2.1 hp.1 pd μ) hS (od a) he hc k hk (hts _ hw) (fun x h => h) hfin (v := .int x) (hty k hk) (by rw [htk]; exact hn) (by rw [htk]; exact hfit) (by simp [hk]) hd (fun H1 locs1 hP1 _ hS1 => ?_)
  have e1 : ((List.range N).map (fvp E cn pd μ a)).set k (.int x) = (List.range N).map (fvp E cn pd (up μ a k x) a) := by
    refine fsp_set ?_ (fun j hj hne => ?_)
    · unfold fvp
      rw [ha, hi, up_eq]
      simp [upd]
    · unfold fvp
      rw [up_eq]
      simp [upd, hne]
  rw [e1, wp_set hp.1 hoa (by rw [celp_obj ha hci, hN]) (fun b hb hne => celp_cg hb (up_ne hne) (fun _ _ => Iff.rfl))] at hP1
  exact K p e s m args below meth c H1 locs1 ls R kc ns C1 ⟨hP1, hS1, hkk, Zr_put hz hoa, hp, h0⟩ hl hR
theorem N_putR {ci k idx a b N : Nat} {C0 : String} {T : u_T} {ty : FieldType} {t : List Nat} (ty0 : Nat → FieldType) (hty : ∀ k, k < N → parseFieldDescriptor (T k).2.2.1 = some (ty0 k)) (hnm : ∀ a, a < N → ∀ b, b < N → a ≠ b → (T a).2.1 ≠ (T b).2.1) (hc : vwCl[ci]? = some (C0, T, N)) (hci : ci < 13) (hin : ∀ w ∈ u_ws C0 T N, w ∈ tb) (hk : k < N) (hN : nf ci = N) (hi : isr ci k = true) (hfin : (T k).2.2.2 = true) (hdecl : (T k).1 = M.1) (htk : ty0 k = ty) (hn : ∀ q, narrow ty (.ref q) = .ref q) (hfit : ∀ q, fits ty (.ref q) = true) (hM1 : M.1 ≠ RJ7) (hM2 : M.1 ≠ "LongStrikeLaw") (hw : Cond.fieldLink M.1 idx (T k).1 (T k).2.1 (T k).2.2.1 ∈ tb) (ha : kd a = ci) (hoa : od a < cn) (hb : rf a k = b) (hd : decode M.2.1 pc = .ok (.putfield idx, 3)) (K : Rn l E d M (pc + 3) lv st cn t μ rc rs Qc) : Rn l E d M pc lv (.ref b :: .ref a :: st) cn (b :: t) μ rc rs Qc := by
  intro p e s m args below meth c H locs ls R kc ns C1 hB hl hR
  have C := C1.1
  have hts := C.2.2.2.2.2.2.1
  obtain ⟨hP, hS, hkk, hz, hp, h0⟩ := hB
  have hal : a < 331 := od_of hoa hp.1
  have hob : od b < cn := hp.2.2 b List.mem_cons_self
  have hnt := List.nodup_cons.mp hp.2.1
  have he := wp_od E (b :: t) μ hp.1 hoa
  rw [celp_obj ha hci, hN] at he
  refine va_putF (C := C0) (T := T) (N := N) (ref := (T k).1) C.1 C.2.1 hts hin ty0 hty hnm C.2.2.2.2.2.1 C.2.2.2.2.2.2.2.1 hP (wp_D C1.2.1 hp.1 _ μ) hS (od a) he hc k hk (hts _ hw) (fun x h => h) hfin (C1.2.2.2.1 hM1 hM2) hdecl (v := .ref (E.1 b)) (hty k hk) (by rw [htk]; exact hn _) (by rw [htk]; exact hfit _) (by simp [hk]) hd (fun H1 locs1 hP1 _ hS1 => ?_)
  have hpk := pt_o a hal (by omega) k (by rw [ha, hN]; exact hk) (by rw [ha]; exact hi)
  have e1 : ((List.range N).map (fvp E cn (b :: t) μ a)).set k (.ref (E.1 b)) = (List.range N).map (fvp E cn t μ a) := by
    refine fsp_set ?_ (fun j hj hne => ?_)
    · unfold fvp
      rw [ha, if_pos hi, hb, if_pos ⟨hob, hnt.1⟩]
    · unfold fvp
      by_cases hji : isr (kd a) j = true
      · rw [if_pos hji, if_pos hji]
        have hpj := pt_o a hal (by omega) j (by rw [ha, hN]; exact hj) hji
        have hbj : rf a j ≠ b := fun q => by
          rw [q, ← hb, hpk.1] at hpj
          exact hne (congrArg Prod.snd hpj.1).symm
        simp only [← set_pop (t := t) hbj]
      · rw [if_neg hji, if_neg hji]
  rw [e1, wp_set (pd' := t) (μ' := μ) hp.1 hoa (by rw [celp_obj ha hci, hN]) (fun b' hb' hne => celp_cg hb' rfl (fun j hj => set_pop fun q => hne (by rw [q, ← hb, hpk.1] at hj; exact (congrArg Prod.fst hj).symm)))] at hP1
  exact K p e s m args below meth c H1 locs1 ls R kc ns C1 ⟨hP1, hS1, hkk, hz, ⟨hp.1, hnt.2, fun c hc => hp.2.2 c (List.mem_cons_of_mem _ hc)⟩, h0⟩ hl hR
theorem N_getR {ci k idx a b N : Nat} {C0 : String} {T : u_T} (hc : vwCl[ci]? = some (C0, T, N)) (hci : ci < 13) (hin : ∀ w ∈ u_ws C0 T N, w ∈ tb) (hk : k < N) (hN : nf ci = N) (hi : isr ci k = true) (hw : Cond.fieldLink M.1 idx (T k).1 (T k).2.1 (T k).2.2.1 ∈ tb) (ha : kd a = ci) (hoa : od a < cn) (hb : rf a k = b) (hs : set_ cn pd b) (hd : decode M.2.1 pc = .ok (.getfield idx, 3)) (K : Rn l E d M (pc + 3) lv (.ref b :: st) cn pd μ rc rs Qc) : Rn l E d M pc lv (.ref a :: st) cn pd μ rc rs Qc := by
  intro p e s m args below meth c H locs ls R kc ns C1 hB hl hR
  have C := C1.1
  have hts := C.2.2.2.2.2.2.1
  obtain ⟨hP, hS, hkk, hz, hp, h0⟩ := id hB
  have he := wp_od E pd μ hp.1 hoa
  rw [celp_obj ha hci, hN] at he
  refine va_get (C := C0) (T := T) (N := N) (ref := (T k).1) C.1 C.2.1 hts hin C.2.2.2.2.2.1 C.2.2.2.2.2.2.2.1 hP (od a) he hc k hk (hts _ hw) (fun x h => h) (v := .ref (E.1 b)) ?_ hd (K p e s m args below meth c H locs ls R kc ns C1 hB hl hR)
  rw [fsp_at hk]
  unfold fvp
  rw [ha, if_pos hi, hb, if_pos hs]
theorem N_aald {a b ci t0 : Nat} {i : Int32} {ty : FieldType} (hin : ¬ (i < 0 ∨ len a ≤ i.toNatClampNeg)) (hb : rf a i.toNatClampNeg = b) (hs : set_ cn pd b) (ha : kd a = ci) (h23 : 23 ≤ ci) (hoa : od a < cn) (ht : (tys E)[t0]? = some (E.2.2.1 ci, ty)) (hty : ty.isReference = true) (hd : decode M.2.1 pc = .ok (.aaload, 1)) (K : Rn l E d M (pc + 1) lv (.ref b :: st) cn pd μ rc rs Qc) : Rn l E d M pc lv (.int i :: .ref a :: st) cn pd μ rc rs Qc := by
  intro p e s m args below meth c H locs ls R kc ns C1 hB hl hR
  have C := C1.1
  obtain ⟨hP, hS, hkk, hz, hp, h0⟩ := id hB
  have hlt : i.toNatClampNeg < len a := Nat.not_le.mp fun q => hin (Or.inr q)
  have hK := C.2.2.2.2.2.2.2.1
  have he := wp_od E pd μ hp.1 hoa
  rw [celp_row ha h23] at he
  have hcell := hP _ _ he
  refine W.aald (v := .ref (E.1 b)) (ty := ty) C.1 C.2.1 hcell ((hK.2 t0 _ ht).1 (len a) (fun j => va_rf (if j < len a ∧ set_ cn pd (rf a j) then some (E.1 (rf a j)) else none))) hty (fun q => by cases q) (by show ¬ (i < 0 ∨ (arrV _ _ _).slots.size ≤ _); rw [arrV_size]; exact hin) ?_ rfl rfl hd (K p e s m args below meth c H locs ls R kc ns C1 hB hl hR)
  show (arrV _ _ _).slots[_]? = _
  rw [arrV_read _ _ hlt]
  dsimp only
  rw [if_pos ⟨hlt, by rw [hb]; exact hs⟩, hb]
  rfl
theorem N_isto {a : Nat} {i x : Int32} (hin : ¬ (i < 0 ∨ len a ≤ i.toNatClampNeg)) (ha : kd a = 20) (hoa : od a < cn) (hm : up μ a i.toNatClampNeg x = μ') (hd : decode M.2.1 pc = .ok (.iastore, 1)) (K : Rn l E d M (pc + 1) lv st cn pd μ' rc rs Qc) : Rn l E d M pc lv (.int x :: .int i :: .ref a :: st) cn pd μ rc rs Qc := by
  subst hm
  intro p e s m args below meth c H locs ls R kc ns C1 hB hl hR
  have C := C1.1
  obtain ⟨hP, hS, hkk, hz, hp, h0⟩ := hB
  have he := wp_od E pd μ hp.1 hoa
  rw [celp_arr ha (by decide) (by decide)] at he
  refine va_iast C.1 C.2.1 C.2.2.2.2.2.2.2.1 hP (wp_D C1.2.1 hp.1 pd μ) hS (od a) 0 he rfl hin hd (fun H1 locs1 hP1 _ hS1 => ?_)
  rw [wp_set (pd' := pd) (μ' := up μ a i.toNatClampNeg x) hp.1 hoa (by rw [celp_arr ha (by decide) (by decide), up_eq]) (fun b hb hne => celp_cg hb (up_ne hne) (fun _ _ => Iff.rfl))] at hP1
  exact K p e s m args below meth c H1 locs1 ls R kc ns C1 ⟨hP1, hS1, hkk, Zr_put hz hoa, hp, h0⟩ hl hR
theorem N_alen {a : Nat} {v : Int32} (hv : Int32.ofNat (len a) = v) (ha : kd a = 20) (hoa : od a < cn) (hd : decode M.2.1 pc = .ok (.arraylength, 1)) (K : Rn l E d M (pc + 1) lv (.int v :: st) cn pd μ rc rs Qc) : Rn l E d M pc lv (.ref a :: st) cn pd μ rc rs Qc := by
  intro p e s m args below meth c H locs ls R kc ns C1 hB hl hR
  have C := C1.1
  obtain ⟨hP, hS, hkk, hz, hp, h0⟩ := id hB
  have he := wp_od E pd μ hp.1 hoa
  rw [celp_arr ha (by decide) (by decide)] at he
  exact va_alen C.1 C.2.1 C.2.2.2.2.2.2.2.1 hP (od a) 0 he (ty := .int) rfl hv hd (K p e s m args below meth c H locs ls R kc ns C1 hB hl hR)
theorem N_aast {a b ci cr t0 : Nat} {i : Int32} {r : vw_C} {t : List Nat} (hin : ¬ (i < 0 ∨ len a ≤ i.toNatClampNeg)) (hb : rf a i.toNatClampNeg = b) (ha : kd a = cr) (h23 : 23 ≤ cr) (hoa : od a < cn) (ht : (tys E)[t0]? = some (E.2.2.1 cr, .object r.1)) (hkb : kd b = ci) (hci : ci < 13) (hc : vwCl[ci]? = some r) (hd : decode M.2.1 pc = .ok (.aastore, 1)) (K : Rn l E d M (pc + 1) lv st cn t μ rc rs Qc) : Rn l E d M pc lv (.ref b :: .int i :: .ref a :: st) cn (b :: t) μ rc rs Qc := by
  intro p e s m args below meth c H locs ls R kc ns C1 hB hl hR
  have C := C1.1
  obtain ⟨hP, hS, hkk, hz, hp, h0⟩ := hB
  have hal : a < 331 := od_of hoa hp.1
  have hob : od b < cn := hp.2.2 b List.mem_cons_self
  have hnt := List.nodup_cons.mp hp.2.1
  have hlt : i.toNatClampNeg < len a := Nat.not_le.mp fun q => hin (Or.inr q)
  have he := wp_od E (b :: t) μ hp.1 hoa
  rw [celp_row ha h23] at he
  have hv := wp_od E (b :: t) μ hp.1 hob
  rw [celp_obj hkb hci] at hv
  refine va_astq C.1 C.2.1 C.2.2.2.2.2.2.2.1 hP (wp_D C1.2.1 hp.1 _ μ) hS (od a) t0 (od b) ci he ht hv hc hin hd (fun H1 locs1 hP1 _ hS1 => ?_)
  have hpk := pt_r a hal (by omega) _ hlt
  have e1 : va_up (fun j => if j < len a ∧ set_ cn (b :: t) (rf a j) then some (E.1 (rf a j)) else none) i.toNatClampNeg (some (E.1 b)) = fun j => if j < len a ∧ set_ cn t (rf a j) then some (E.1 (rf a j)) else none := by
    funext j
    by_cases hj : j = i.toNatClampNeg
    · subst hj
      rw [va_up_self, if_pos ⟨hlt, by rw [hb]; exact ⟨hob, hnt.1⟩⟩, hb]
    · rw [va_up_ne _ _ hj]
      by_cases hjl : j < len a
      · have hpj := pt_r a hal (by omega) j hjl
        have hbj : rf a j ≠ b := fun q => by
          rw [q, ← hb, hpk.1] at hpj
          exact hj (congrArg Prod.snd hpj.1).symm
        simp only [← set_pop (t := t) hbj]
      · simp only [hjl, false_and, if_false]
  rw [e1, wp_set (pd' := t) (μ' := μ) hp.1 hoa (by rw [celp_row ha h23]) (fun b' hb' hne => celp_cg hb' rfl (fun j hj => set_pop fun q => hne (by rw [q, ← hb, hpk.1] at hj; exact (congrArg Prod.fst hj).symm)))] at hP1
  exact K p e s m args below meth c H1 locs1 ls R kc ns C1 ⟨hP1, hS1, hkk, hz, ⟨hp.1, hnt.2, fun c hc => hp.2.2 c (List.mem_cons_of_mem _ hc)⟩, h0⟩ hl hR
end RN2
