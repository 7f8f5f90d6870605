/-! reads, writes, calls, contracts over Rj -/
def ld (μ : mm) (a : Nat) (i : Int32) : Option Int32 := if i < 0 ∨ len a ≤ i.toNatClampNeg then none else some (μ a i.toNatClampNeg)
def sto (μ : mm) (a : Nat) (i v : Int32) : Option mm := if i < 0 ∨ len a ≤ i.toNatClampNeg then none else some (up μ a i.toNatClampNeg v)
def lda (a : Nat) (i : Int32) : Option Nat := if i < 0 ∨ len a ≤ i.toNatClampNeg then none else some (rf a i.toNatClampNeg)
def bo (v : Int32) : Bool := v == 0 || v == 1
/-- an int that is taken as a boolean -/
def gb (v : Int32) : Option Int32 := if bo v = true then some v else none
/-- a divisor -/
def gd (v : Int32) : Option Int32 := if v = 0 then none else some v
def gdL (v : Int64) : Option Int64 := if v = 0 then none else some v
/-- a field's new value -/
def pf (μ : mm) (a k : Nat) (v : Int32) : Option mm := some (up μ a k v)
def cpo (μ : mm) (s : Nat) (sp : Int32) (t : Nat) (dp n : Int32) : Option mm := if sp < 0 ∨ dp < 0 ∨ n < 0 ∨ len s < sp.toNatClampNeg + n.toNatClampNeg ∨ len t < dp.toNatClampNeg + n.toNatClampNeg then none else some (cpM μ s sp.toNatClampNeg t dp.toNatClampNeg n.toNatClampNeg)
def cpz (μ : mm) (s : Nat) (sp : Int32) (t : Nat) (dp n : Int32) : Option mm := if (List.range n.toNatClampNeg).all (fun i => bo (μ s (sp.toNatClampNeg + i))) = true then cpo μ s sp t dp n else none
theorem bo_narrow {v : Int32} (h : bo v = true) : narrow .boolean (.int v) = .int v := by
  unfold bo at h
  rw [Bool.or_eq_true] at h
  rcases h with h | h
  · rw [eq_of_beq h]; rfl
  · rw [eq_of_beq h]; rfl
theorem bo_fits {v : Int32} (h : bo v = true) : fits .boolean (.int v) = true := h
theorem gb_el {v w : Int32} (h : gb v = some w) : bo v = true ∧ v = w := by
  unfold gb at h
  split at h
  · exact ⟨by assumption, Option.some.inj h⟩
  · cases h
theorem gd_el {v w : Int32} (h : gd v = some w) : ¬ v = 0 ∧ v = w := by
  unfold gd at h
  split at h
  · cases h
  · exact ⟨by assumption, Option.some.inj h⟩
theorem gdL_el {v w : Int64} (h : gdL v = some w) : ¬ v = 0 ∧ v = w := by
  unfold gdL at h
  split at h
  · cases h
  · exact ⟨by assumption, Option.some.inj h⟩
theorem bi_el {α β : Type} {x : Option α} {f : α → Option β} {r : β} (h : x.bind f = some r) : ∃ y, x = some y ∧ f y = some r := by
  cases x with
  | none => cases h
  | some y => exact ⟨y, rfl, h⟩
theorem ld_el {μ : mm} {a : Nat} {i x : Int32} (h : ld μ a i = some x) : vp_in i (len a) ∧ x = μ a i.toNatClampNeg := by
  unfold ld at h
  split at h
  · cases h
  · exact ⟨by assumption, (Option.some.inj h).symm⟩
theorem sto_el {μ μ' : mm} {a : Nat} {i v : Int32} (h : sto μ a i v = some μ') : vp_in i (len a) ∧ μ' = up μ a i.toNatClampNeg v := by
  unfold sto at h
  split at h
  · cases h
  · exact ⟨by assumption, (Option.some.inj h).symm⟩
theorem lda_el {a b : Nat} {i : Int32} (h : lda a i = some b) : vp_in i (len a) ∧ b = rf a i.toNatClampNeg := by
  unfold lda at h
  split at h
  · cases h
  · exact ⟨by assumption, (Option.some.inj h).symm⟩
theorem lda_lt {a b : Nat} {i : Int32} (h : lda a i = some b) : ∃ j, j < len a ∧ b = rf a j := by
  obtain ⟨h1, h2⟩ := lda_el h
  exact ⟨i.toNatClampNeg, Nat.not_le.mp fun q => h1 (Or.inr q), h2⟩
theorem tl_23 {a b : Nat} {i : Int32} (h : lda a i = some b) (ha : kd a = 23) : kd b = 20 := by
  obtain ⟨j, hj, rfl⟩ := lda_lt h
  exact te_23 ha hj
theorem tl_24 {a b : Nat} {i : Int32} (h : lda a i = some b) (ha : kd a = 24) : kd b = 4 := by
  obtain ⟨j, hj, rfl⟩ := lda_lt h
  exact te_24 ha hj
theorem tl_25 {a b : Nat} {i : Int32} (h : lda a i = some b) (ha : kd a = 25) : kd b = 6 := by
  obtain ⟨j, hj, rfl⟩ := lda_lt h
  exact te_25 ha hj
theorem tl_26 {a b : Nat} {i : Int32} (h : lda a i = some b) (ha : kd a = 26) : kd b = 1 := by
  obtain ⟨j, hj, rfl⟩ := lda_lt h
  exact te_26 ha hj
theorem tl_27 {a b : Nat} {i : Int32} (h : lda a i = some b) (ha : kd a = 27) : kd b = 5 := by
  obtain ⟨j, hj, rfl⟩ := lda_lt h
  exact te_27 ha hj
theorem wo_obj (E : ce) (μ : mm) {a ci : Nat} (h : kd a = ci) (hc : ci < 13) : (wo E μ)[a]? = some (E.1 a, .inr (ci, (List.range (nf ci)).map (fv E μ a))) := by
  rw [wo_at E μ (kd_lt h (by omega)), cel_obj h hc]
theorem wo_arr (E : ce) (μ : mm) {a ci : Nat} (h : kd a = ci) (h1 : 13 ≤ ci) (h2 : ci < 23) : (wo E μ)[a]? = some (E.1 a, .inl (E.2.2.1 ci, len a, .inl (μ a))) := by
  rw [wo_at E μ (kd_lt h (by omega)), cel_arr h h1 h2]
theorem wo_row (E : ce) (μ : mm) {a ci : Nat} (h : kd a = ci) (h1 : 23 ≤ ci) (h2 : ci < 50) : (wo E μ)[a]? = some (E.1 a, .inl (E.2.2.1 ci, len a, .inr (.inr (.inr (.inr (fun i => if i < len a then some (E.1 (rf a i)) else none)))))) := by
  rw [wo_at E μ (kd_lt h h2), cel_row h h1]
theorem wo_put {E : ce} {μ : mm} {a ci k : Nat} {x : Int32} (h : kd a = ci) (hc : ci < 13) (hi : isr ci k = false) : (wo E μ).set a (E.1 a, .inr (ci, ((List.range (nf ci)).map (fv E μ a)).set k (.int x))) = wo E (up μ a k x) := by
  rw [fs_set h hi, ← cel_obj (E := E) (μ := up μ a k x) h hc]
  exact wo_set (kd_lt h (by omega)) (fun b hb => cel_ne (up_ne hb))
theorem wo_ast {E : ce} {μ μ' : mm} {a ci : Nat} {f : Nat → Int32} (h : kd a = ci) (h1 : 13 ≤ ci) (h2 : ci < 23) (hf : μ' a = f) (hne : ∀ b, b ≠ a → μ' b = μ b) : (wo E μ).set a (E.1 a, .inl (E.2.2.1 ci, len a, .inl f)) = wo E μ' := by
  rw [← hf, ← cel_arr (E := E) (μ := μ') h h1 h2]
  exact wo_set (kd_lt h (by omega)) (fun b hb => cel_ne (hne b hb))
theorem dd {cc : ByteArray} {tab : List (Nat × Instr × Nat)} (h : ∀ q ∈ tab, decode cc q.1 = .ok q.2) (k : Nat) {pc n : Nat} {i : Instr} (hk : tab[k]? = some (pc, i, n)) : decode cc pc = .ok (i, n) := h (pc, i, n) (List.mem_of_getElem? hk)
section RH
variable {l : Launch} {E : ce} {d : Nat} {M : mt} {pc : Nat} {lv lv' : List (Option Value)} {st : List Value} {μ μ' : mm} {Q : Option Value → mm → Prop}
theorem R_get {ci k idx a N : Nat} {C0 : String} {T : u_T} {v : Value} (hc : vwCl[ci]? = some (C0, T, N)) (hci : ci < 13) (hin : ∀ w ∈ u_ws C0 T N, w ∈ tb) (hk : k < N) (hN : nf ci = N) (hw : Cond.fieldLink M.1 idx (T k).1 (T k).2.1 (T k).2.2.1 ∈ tb) (ha : kd a = ci) (hv : fv E μ a k = tr E v) (hd : decode M.2.1 pc = .ok (.getfield idx, 3)) (K : Rj l E d M (pc + 3) lv (v :: st) μ Q) : Rj l E d M pc lv (.ref a :: st) μ Q := by
  intro p e s m args below meth c H locs ls R kc ns C hP hS hX hl hR
  have hts := C.2.2.2.2.2.2.1
  refine va_get (C := C0) (T := T) (N := N) (ref := (T k).1) C.1 C.2.1 hts hin C.2.2.2.2.2.1 C.2.2.2.2.2.2.2.1 hP a (wo_obj E μ ha hci) hc k hk (hts _ hw) (fun x h => h) (v := tr E v) ?_ hd (K p e s m args below meth c H locs ls R kc ns C hP hS hX hl hR)
  rw [fs_at (by omega), hv]
theorem R_getI {ci k idx a N : Nat} {C0 : String} {T : u_T} (hc : vwCl[ci]? = some (C0, T, N)) (hci : ci < 13) (hin : ∀ w ∈ u_ws C0 T N, w ∈ tb) (hk : k < N) (hN : nf ci = N) (hi : isr ci k = false) (hw : Cond.fieldLink M.1 idx (T k).1 (T k).2.1 (T k).2.2.1 ∈ tb) (ha : kd a = ci) (hd : decode M.2.1 pc = .ok (.getfield idx, 3)) (K : Rj l E d M (pc + 3) lv (.int (μ a k) :: st) μ Q) : Rj l E d M pc lv (.ref a :: st) μ Q :=
  R_get hc hci hin hk hN hw ha (fv_int ha hi) hd K
theorem R_getR {ci k idx a N : Nat} {C0 : String} {T : u_T} (hc : vwCl[ci]? = some (C0, T, N)) (hci : ci < 13) (hin : ∀ w ∈ u_ws C0 T N, w ∈ tb) (hk : k < N) (hN : nf ci = N) (hi : isr ci k = true) (hw : Cond.fieldLink M.1 idx (T k).1 (T k).2.1 (T k).2.2.1 ∈ tb) (ha : kd a = ci) (hd : decode M.2.1 pc = .ok (.getfield idx, 3)) (K : Rj l E d M (pc + 3) lv (.ref (rf a k) :: st) μ Q) : Rj l E d M pc lv (.ref a :: st) μ Q :=
  R_get hc hci hin hk hN hw ha (fv_ref ha hi) hd K
theorem R_put {ci k idx a N : Nat} {C0 : String} {T : u_T} {x : Int32} {ty : FieldType} (ty0 : Nat → FieldType) (hty : ∀ k, k < N → parseFieldDescriptor (T k).2.2.1 = some (ty0 k)) (hnm : ∀ a, a < N → ∀ b, b < N → a ≠ b → (T a).2.1 ≠ (T b).2.1) (hc : vwCl[ci]? = some (C0, T, N)) (hci : ci < 13) (hin : ∀ w ∈ u_ws C0 T N, w ∈ tb) (hk : k < N) (hN : nf ci = N) (hi : isr ci k = false) (hfin : (T k).2.2.2 = false) (htk : ty0 k = ty) (hn : narrow ty (.int x) = .int x) (hfit : fits ty (.int x) = true) (hw : Cond.fieldLink M.1 idx (T k).1 (T k).2.1 (T k).2.2.1 ∈ tb) (ha : kd a = ci) (hd : decode M.2.1 pc = .ok (.putfield idx, 3)) (K : Rj l E d M (pc + 3) lv st (up μ a k x) Q) : Rj l E d M pc lv (.int x :: .ref a :: st) μ Q := by
  intro p e s m args below meth c H locs ls R kc ns C hP hS hX hl hR
  have hts := C.2.2.2.2.2.2.1
  have hg := C.2.2.2.2.2.2.2.2
  refine va_put (C := C0) (T := T) (N := N) (ref := (T k).1) C.1 C.2.1 hts hin ty0 hty hnm C.2.2.2.2.2.1 C.2.2.2.2.2.2.2.1 hP (wo_D hg μ) hS a (wo_obj E μ ha hci) hc k hk (hts _ hw) (fun x h => h) hfin (v := .int x) (hty k hk) (by rw [htk]; exact hn) (by rw [htk]; exact hfit) (by simp [hN, hk]) hd (fun H1 locs1 hP1 _ hS1 => ?_)
  rw [wo_put ha hci hi] at hP1
  exact K p e s m args below meth c H1 locs1 ls R kc ns C hP1 hS1 hX hl hR
theorem R_ild {a : Nat} {i x : Int32} (h : ld μ a i = some x) (ha : kd a = 20) (hd : decode M.2.1 pc = .ok (.iaload, 1)) (K : Rj l E d M (pc + 1) lv (.int x :: st) μ Q) : Rj l E d M pc lv (.int i :: .ref a :: st) μ Q := by
  intro p e s m args below meth c H locs ls R kc ns C hP hS hX hl hR
  obtain ⟨h1, rfl⟩ := ld_el h
  exact va_iald C.1 C.2.1 C.2.2.2.2.2.2.2.1 hP a 0 (wo_arr E μ ha (by decide) (by decide)) rfl h1 hd (K p e s m args below meth c H locs ls R kc ns C hP hS hX hl hR)
theorem R_bld {a : Nat} {i x : Int32} (h : ld μ a i = some x) (ha : kd a = 21) (hd : decode M.2.1 pc = .ok (.baload, 1)) (K : Rj l E d M (pc + 1) lv (.int x :: st) μ Q) : Rj l E d M pc lv (.int i :: .ref a :: st) μ Q := by
  intro p e s m args below meth c H locs ls R kc ns C hP hS hX hl hR
  obtain ⟨h1, rfl⟩ := ld_el h
  exact va_bald C.1 C.2.1 C.2.2.2.2.2.2.2.1 hP a 1 (wo_arr E μ ha (by decide) (by decide)) rfl h1 hd (K p e s m args below meth c H locs ls R kc ns C hP hS hX hl hR)
theorem R_zld {a : Nat} {i x : Int32} (h : ld μ a i = some x) (ha : kd a = 22) (hd : decode M.2.1 pc = .ok (.baload, 1)) (K : Rj l E d M (pc + 1) lv (.int x :: st) μ Q) : Rj l E d M pc lv (.int i :: .ref a :: st) μ Q := by
  intro p e s m args below meth c H locs ls R kc ns C hP hS hX hl hR
  obtain ⟨h1, rfl⟩ := ld_el h
  exact va_zald C.1 C.2.1 C.2.2.2.2.2.2.2.1 hP a 2 (wo_arr E μ ha (by decide) (by decide)) rfl h1 hd (K p e s m args below meth c H locs ls R kc ns C hP hS hX hl hR)
theorem R_isto {a : Nat} {i x : Int32} (h : sto μ a i x = some μ') (ha : kd a = 20) (hd : decode M.2.1 pc = .ok (.iastore, 1)) (K : Rj l E d M (pc + 1) lv st μ' Q) : Rj l E d M pc lv (.int x :: .int i :: .ref a :: st) μ Q := by
  intro p e s m args below meth c H locs ls R kc ns C hP hS hX hl hR
  obtain ⟨h1, rfl⟩ := sto_el h
  refine va_iast C.1 C.2.1 C.2.2.2.2.2.2.2.1 hP (wo_D C.2.2.2.2.2.2.2.2 μ) hS a 0 (wo_arr E μ ha (by decide) (by decide)) rfl h1 hd (fun H1 locs1 hP1 _ hS1 => ?_)
  rw [wo_ast ha (by decide) (by decide) up_eq (fun b hb => up_ne hb)] at hP1
  exact K p e s m args below meth c H1 locs1 ls R kc ns C hP1 hS1 hX hl hR
theorem R_bsto {a : Nat} {i x : Int32} (h : sto μ a i x.toInt8.toInt32 = some μ') (ha : kd a = 21) (hd : decode M.2.1 pc = .ok (.bastore, 1)) (K : Rj l E d M (pc + 1) lv st μ' Q) : Rj l E d M pc lv (.int x :: .int i :: .ref a :: st) μ Q := by
  intro p e s m args below meth c H locs ls R kc ns C hP hS hX hl hR
  obtain ⟨h1, rfl⟩ := sto_el h
  refine va_bast C.1 C.2.1 C.2.2.2.2.2.2.2.1 hP (wo_D C.2.2.2.2.2.2.2.2 μ) hS a 1 (wo_arr E μ ha (by decide) (by decide)) rfl h1 hd (fun H1 locs1 hP1 _ hS1 => ?_)
  rw [vp_nar_byte, wo_ast ha (by decide) (by decide) up_eq (fun b hb => up_ne hb)] at hP1
  exact K p e s m args below meth c H1 locs1 ls R kc ns C hP1 hS1 hX hl hR
theorem R_zsto {a : Nat} {i x : Int32} (hb : bo x = true) (h : sto μ a i x = some μ') (ha : kd a = 22) (hd : decode M.2.1 pc = .ok (.bastore, 1)) (K : Rj l E d M (pc + 1) lv st μ' Q) : Rj l E d M pc lv (.int x :: .int i :: .ref a :: st) μ Q := by
  intro p e s m args below meth c H locs ls R kc ns C hP hS hX hl hR
  obtain ⟨h1, rfl⟩ := sto_el h
  refine va_zast C.1 C.2.1 C.2.2.2.2.2.2.2.1 hP (wo_D C.2.2.2.2.2.2.2.2 μ) hS a 2 (wo_arr E μ ha (by decide) (by decide)) rfl h1 hd (fun H1 locs1 hP1 _ hS1 => ?_)
  have e1 : vp_nar .boolean x = x := by
    unfold vp_nar
    rw [bo_narrow hb]
  rw [e1, wo_ast ha (by decide) (by decide) up_eq (fun b hb => up_ne hb)] at hP1
  exact K p e s m args below meth c H1 locs1 ls R kc ns C hP1 hS1 hX hl hR
theorem R_aald {a b ci t0 : Nat} {i : Int32} {ty : FieldType} (h : lda a i = some b) (ha : kd a = ci) (h23 : 23 ≤ ci) (h50 : ci < 50) (ht : (tys E)[t0]? = some (E.2.2.1 ci, ty)) (hty : ty.isReference = true) (hd : decode M.2.1 pc = .ok (.aaload, 1)) (K : Rj l E d M (pc + 1) lv (.ref b :: st) μ Q) : Rj l E d M pc lv (.int i :: .ref a :: st) μ Q := by
  intro p e s m args below meth c H locs ls R kc ns C hP hS hX hl hR
  obtain ⟨h1, rfl⟩ := lda_el h
  have hlt : i.toNatClampNeg < len a := Nat.not_le.mp fun q => h1 (Or.inr q)
  have hK := C.2.2.2.2.2.2.2.1
  have hcell := hP a _ (wo_row E μ ha h23 h50)
  refine W.aald (v := .ref (E.1 (rf a i.toNatClampNeg))) (ty := ty) C.1 C.2.1 hcell ((hK.2 t0 _ ht).1 (len a) (fun j => va_rf (if j < len a then some (E.1 (rf a j)) else none))) hty (fun q => by cases q) (by show ¬ (i < 0 ∨ (arrV _ _ _).slots.size ≤ _); rw [arrV_size]; exact h1) (by show (arrV _ _ _).slots[_]? = _; rw [arrV_read _ _ hlt]; simp [hlt, va_rf]) rfl rfl hd (K p e s m args below meth c H locs ls R kc ns C hP hS hX hl hR)
theorem R_alen {a : Nat} {v : Int32} (hv : Int32.ofNat (len a) = v) (ha : kd a = 20) (hd : decode M.2.1 pc = .ok (.arraylength, 1)) (K : Rj l E d M (pc + 1) lv (.int v :: st) μ Q) : Rj l E d M pc lv (.ref a :: st) μ Q := by
  intro p e s m args below meth c H locs ls R kc ns C hP hS hX hl hR
  exact va_alen C.1 C.2.1 C.2.2.2.2.2.2.2.1 hP a 0 (wo_arr E μ ha (by decide) (by decide)) (ty := .int) rfl hv hd (K p e s m args below meth c H locs ls R kc ns C hP hS hX hl hR)
theorem R_copy {s0 t0 idx : Nat} {sp dp n : Int32} (h : cpo μ s0 sp t0 dp n = some μ') (hs : kd s0 = 20) (ht : kd t0 = 20) (hc : (st.map fun v => v.category).sum ≤ 8) (hw : Cond.methodLink M.1 idx arraycopyName ∈ tb) (h1 : Cond.native arraycopyName ∈ tb) (h2 : Cond.static arraycopyName ∈ tb) (h3 : Cond.initialized "java/lang/System" ∈ tb) (hd : decode M.2.1 pc = .ok (.invokestatic idx, 3)) (K : Rj l E d M (pc + 3) lv st μ' Q) : Rj l E d M pc lv (.int n :: .int dp :: .ref t0 :: .int sp :: .ref s0 :: st) μ Q := by
  intro p e s m args below meth c H locs ls R kc ns C hP hS hX hl hR
  have hts := C.2.2.2.2.2.2.1
  unfold cpo at h
  split at h
  · cases h
  · rename_i hq
    cases h
    have e0 : ((st.map (tr E)).map fun v => v.category).sum = (st.map fun v => v.category).sum := by
      rw [List.map_map]
      congr 1
      apply List.map_congr_left
      intro v _
      exact tr_cat E v
    have hfr : 1 ≤ R.frames := Nat.le_trans (Nat.le_add_left 1 d) hR.1
    have hlo : ((st.map (tr E)).map fun v => v.category).sum + (nativeFrameWords "java/lang/System" "arraycopy" 5 + 11) ≤ R.locals := by
      rw [e0]
      have h70 : nativeFrameWords "java/lang/System" "arraycopy" 5 + 11 ≤ 70 := by decide +kernel
      have hRl := hR.2.1
      omega
    refine va_copyi C.1 C.2.1 (C.2.2.1.trans hl.1.symm) C.2.2.2.2.2.1 (hts _ hw) (hts _ h1) (hts _ h2) (hts _ h3) C.2.2.2.2.2.2.2.1 hP (wo_D C.2.2.2.2.2.2.2.2 μ) hS s0 t0 0 0 (wo_arr E μ hs (by decide) (by decide)) (wo_arr E μ ht (by decide) (by decide)) (ty := .int) rfl rfl rfl (by intro q; exact hq (Or.inl q)) (by intro q; exact hq (Or.inr (Or.inl q))) (by intro q; exact hq (Or.inr (Or.inr (Or.inl q)))) (Nat.not_lt.mp fun q => hq (Or.inr (Or.inr (Or.inr (Or.inl q))))) (Nat.not_lt.mp fun q => hq (Or.inr (Or.inr (Or.inr (Or.inr q))))) (fun _ _ => rfl) hfr hlo hd (fun H1 locs1 hP1 _ hS1 => ?_)
    rw [wo_ast ht (by decide) (by decide) cpM_eq (fun b hb => cpM_ne hb)] at hP1
    exact K p e s m args below meth c H1 locs1 ls R kc ns C hP1 hS1 hX hl hR
theorem R_copz {s0 t0 idx : Nat} {sp dp n : Int32} (h : cpz μ s0 sp t0 dp n = some μ') (hs : kd s0 = 22) (ht : kd t0 = 22) (hc : (st.map fun v => v.category).sum ≤ 8) (hw : Cond.methodLink M.1 idx arraycopyName ∈ tb) (h1 : Cond.native arraycopyName ∈ tb) (h2 : Cond.static arraycopyName ∈ tb) (h3 : Cond.initialized "java/lang/System" ∈ tb) (hd : decode M.2.1 pc = .ok (.invokestatic idx, 3)) (K : Rj l E d M (pc + 3) lv st μ' Q) : Rj l E d M pc lv (.int n :: .int dp :: .ref t0 :: .int sp :: .ref s0 :: st) μ Q := by
  intro p e s m args below meth c H locs ls R kc ns C hP hS hX hl hR
  have hts := C.2.2.2.2.2.2.1
  unfold cpz at h
  split at h
  · rename_i hz
    rw [List.all_eq_true] at hz
    unfold cpo at h
    split at h
    · cases h
    · rename_i hq
      cases h
      have e0 : ((st.map (tr E)).map fun v => v.category).sum = (st.map fun v => v.category).sum := by
        rw [List.map_map]
        congr 1
        apply List.map_congr_left
        intro v _
        exact tr_cat E v
      have hfr : 1 ≤ R.frames := Nat.le_trans (Nat.le_add_left 1 d) hR.1
      have hlo : ((st.map (tr E)).map fun v => v.category).sum + (nativeFrameWords "java/lang/System" "arraycopy" 5 + 11) ≤ R.locals := by
        rw [e0]
        have h70 : nativeFrameWords "java/lang/System" "arraycopy" 5 + 11 ≤ 70 := by decide +kernel
        have hRl := hR.2.1
        omega
      refine va_copyi C.1 C.2.1 (C.2.2.1.trans hl.1.symm) C.2.2.2.2.2.1 (hts _ hw) (hts _ h1) (hts _ h2) (hts _ h3) C.2.2.2.2.2.2.2.1 hP (wo_D C.2.2.2.2.2.2.2.2 μ) hS s0 t0 2 2 (wo_arr E μ hs (by decide) (by decide)) (wo_arr E μ ht (by decide) (by decide)) (ty := .boolean) rfl rfl rfl (by intro q; exact hq (Or.inl q)) (by intro q; exact hq (Or.inr (Or.inl q))) (by intro q; exact hq (Or.inr (Or.inr (Or.inl q)))) (Nat.not_lt.mp fun q => hq (Or.inr (Or.inr (Or.inr (Or.inl q))))) (Nat.not_lt.mp fun q => hq (Or.inr (Or.inr (Or.inr (Or.inr q))))) (fun i hi => bo_fits (hz i (List.mem_range.mpr hi))) hfr hlo hd (fun H1 locs1 hP1 _ hS1 => ?_)
      rw [wo_ast ht (by decide) (by decide) cpM_eq (fun b hb => cpM_ne hb)] at hP1
      exact K p e s m args below meth c H1 locs1 ls R kc ns C hP1 hS1 hX hl hR
  · cases h
theorem R_run {Q1 : Option Value → mm → Prop} {st0 : List Value} {a0 : Array Value}
    (hr : ∀ (p : Program) (e : Env) (s : State) (m : MethodId) (args : Array Value) (below : List Frame) (meth : Method) (c : Code) (H : Heap) (locs : List Loc) (ls : Array Slot) (R : Room) (kc ns : Nat), Cx E M p s m args meth c → va_P E.2.1 vwCl (wo E μ) H → va_S (Ar E) s.heap H locs → Xf E s s.heap → lo E ls M.2.2.1 lv → rmOk d R kc ns → va_Run p l e R s m args below meth c H locs kc ns 0 0 (F0 m pc ls (st0.map (tr E))) (st.map (tr E)) (Qm E Q1 a0) (Ar E))
    (K : ∀ (v : Option Value) (μ' : mm), Q1 v μ' → Rj l E d M (pc + 3) lv (v.toList ++ st) μ' Q) : Rj l E d M pc lv st0 μ Q := by
  intro p e s m args below meth c H locs ls R kc ns C hP hS hX hl hR T hT X0
  obtain ⟨v, st₀, t, T', L, h0, X', hL, e1, e2, ⟨v1, μ1, hv, hWd, ⟨hz, hk⟩, hq⟩, stp⟩ := hr p e s m args below meth c H locs ls R kc ns C hP hS hX hl hR T hT X0
  cases hv
  rw [h0] at hz hk
  have K1 := K v1 μ1 hq p e s m args below meth c T'.heap (locs ++ L) ls R kc ns C (by rw [e1]; exact hWd.2.1) ⟨Nat.le_trans hS.1 (by rw [e1]; exact hz), fun q h1 h2 => by rw [e1, hk q (Nat.lt_of_lt_of_le h1 hS.1) h2]; exact hS.2.1 q h1 h2, fun q hq => by
      rcases List.mem_append.mp hq with h | h
      · exact hS.2.2 q h
      · exact hL q h⟩ hX hl hR
  rw [show (v1.toList ++ st).map (tr E) = (v1.map (tr E)).toList ++ st.map (tr E) by cases v1 <;> simp] at K1
  obtain ⟨t2, a1, b1⟩ := K1 T' rfl X'
  exact ⟨t2, stp t2 a1, b1⟩
/-- what the tables say of a callee -/
def Cal (y : MethodName) (N : mt) (n : Nat) : Prop := Cond.code y N.2.1 N.2.2.1 N.2.2.2 ∈ tb ∧ Cond.initialized y.cls ∈ tb ∧ (y.cls ≠ "java/lang/invoke/MethodHandle" ∧ y.cls ≠ "java/lang/invoke/VarHandle") ∧ (parseMethodDescriptor y.desc).map (fun d => d.parameters.length) = some n ∧ N.2.2.1 ≤ 50
theorem Wd_blind {As : List Value} : FrameBlind (va_Pc As (fun U => Wd E μ U)) := by
  intro a U g mk h
  obtain ⟨h1, h2, h3, h4, h5⟩ := h
  exact ⟨h1, h2, h3, va_K.moved (u := U) (U := U.calling g mk a) (Vm.Alike.refl U.vm) h4, Xf_same (u := U) (U := U.calling g mk a) (H := U.heap) rfl h5⟩
theorem Wd_at {p : Program} {s : State} {m : MethodId} {args : Array Value} {meth : Method} {c : Code} {H : Heap} {locs : List Loc} (C : Cx E M p s m args meth c) (hP : va_P E.2.1 vwCl (wo E μ) H) (hS : va_S (Ar E) s.heap H locs) (hX : Xf E s s.heap) (U : State) (hU : U.heap = H) (hW : s.WarmedH U.vm) : Wd E μ U := by
  have hg := C.2.2.2.2.2.2.2.2
  exact ⟨hg, by rw [hU]; exact hP, va_K.moved hW.alike C.2.2.2.2.2.2.2.1, by rw [hU]; exact Xf_warm hW (Xf_kept hS.2.1 hX)⟩
theorem callB0 {y : MethodName} {N : mt} {n : Nat} {s : State} {args : Array Value} {R : Room} {kc ns : Nat} (hR : rmOk (d + 1) R kc ns) (hts : ∀ w ∈ tb, w.before args s = true) (hy : Cal y N n) : (rmD d).cells = 0 ∧ (rmD d).slots = 0 ∧ (rmD d).frames + 1 ≤ R.frames ∧ 8 + (N.2.2.1 + 11) + (rmD d).locals ≤ R.locals ∧ (∀ w ∈ (Cond.code y N.2.1 N.2.2.1 N.2.2.2 :: tb), ∀ (a' : Array Value) (U : State), s.WarmedH U.vm → w.before a' U = true) ∧ Cond.code y N.2.1 N.2.2.1 N.2.2.2 ∈ (Cond.code y N.2.1 N.2.2.1 N.2.2.2 :: tb) := by
  obtain ⟨h1, h2, h3, h4, h5⟩ := hy
  refine ⟨rfl, rfl, hR.1, by have hRl := hR.2.1; show 8 + (N.2.2.1 + 11) + 80 * (d + 1) ≤ R.locals; omega, fun w hw a' U hW => ?_, List.mem_cons_self⟩
  have hm : w ∈ tb := by
    rcases List.mem_cons.mp hw with h | h
    · rw [h]; exact h1
    · exact h
  exact word_at hW (good_of_word (tb_good w hm)) (hts w hm)
theorem len_of {y : MethodName} {n : Nat} (h : (parseMethodDescriptor y.desc).map (fun d => d.parameters.length) = some n) : ∀ sig, parseMethodDescriptor y.desc = some sig → n = sig.parameters.length := by
  intro sig hs
  rw [hs] at h
  exact (Option.some.inj h).symm
theorem cat_sum (E : ce) (st : List Value) : ((st.map (tr E)).map fun v => v.category).sum = (st.map fun v => v.category).sum := by
  rw [List.map_map]
  congr 1
  apply List.map_congr_left
  intro v _
  exact tr_cat E v
theorem R_callV {y : MethodName} {N : mt} {n idx ci a : Nat} {As st0 : List Value} {Q1 : Option Value → mm → Prop} {r : vw_C} (hM : Ct l E d y N (.ref a :: As) μ Q1) (hy : Cal y N n) (hin : Cond.instanceMethod y ∈ tb) (hse : Cond.selects y.cls y y ∈ tb) (hw : Cond.methodLink M.1 idx y ∈ tb) (ha : kd a = ci) (hci : ci < 13) (hc : vwCl[ci]? = some r) (hr : r.1 = y.cls) (hn : As.length = n) (hst : st0 = As.reverse ++ .ref a :: st) (hcat : (st.map fun v => v.category).sum ≤ 8) (hd : decode M.2.1 pc = .ok (.invokevirtual idx, 3)) (K : ∀ (v : Option Value) (μ' : mm), Q1 v μ' → Rj l E (d + 1) M (pc + 3) lv (v.toList ++ st) μ' Q) : Rj l E (d + 1) M pc lv st0 μ Q := by
  refine R_run (Q1 := Q1) (a0 := (Value.ref (E.1 a) :: As.map (tr E)).toArray) (fun p e s m args below meth c H locs ls R kc ns C hP hS hX hl hR => ?_) K
  have hts := C.2.2.2.2.2.2.1
  obtain ⟨b1, b2, b3, b4, b5, b6⟩ := callB0 (d := d) hR hts hy
  refine va_runV (C := y.cls) (As := As.map (tr E)) (b := E.1 a) (n := n) (Ts := tb) (own := M.1) ⟨C.1, C.2.1, C.2.2.1, C.2.2.2.2.2.1, hts⟩ hM ⟨⟨b1, b2, b3, b4, b5, b6, hts _ hy.1, hts _ hy.2.1, hy.2.2.1, len_of hy.2.2.2.1, hts _ hw⟩, hts _ hin, hts _ hse⟩ ⟨Wd_blind, ?_, fun U hU hW => ⟨rfl, Wd_at C hP hS hX U hU hW⟩⟩ rfl (by rw [List.length_map]; exact hn) hl.1 ?_ ?_ hd ⟨hR.2.2.1, hR.2.2.2⟩
  · have := va_recv C.2.2.2.2.2.2.2.1 hP hc (wo_obj E μ ha hci)
    rw [hr] at this
    exact this
  · show st0.map (tr E) = _
    rw [hst, List.map_append, List.map_reverse]
    rfl
  · show 2 * 0 + _ ≤ 8
    rw [cat_sum]
    omega
theorem R_callS {y : MethodName} {N : mt} {n idx : Nat} {As st0 : List Value} {Q1 : Option Value → mm → Prop} (hM : Ct l E d y N As μ Q1) (hy : Cal y N n) (hin : Cond.static y ∈ tb) (hw : Cond.methodLink M.1 idx y ∈ tb) (hn : As.length = n) (hst : st0 = As.reverse ++ st) (hcat : (st.map fun v => v.category).sum ≤ 8) (hd : decode M.2.1 pc = .ok (.invokestatic idx, 3)) (K : ∀ (v : Option Value) (μ' : mm), Q1 v μ' → Rj l E (d + 1) M (pc + 3) lv (v.toList ++ st) μ' Q) : Rj l E (d + 1) M pc lv st0 μ Q := by
  refine R_run (Q1 := Q1) (a0 := (As.map (tr E)).toArray) (fun p e s m args below meth c H locs ls R kc ns C hP hS hX hl hR => ?_) K
  have hts := C.2.2.2.2.2.2.1
  obtain ⟨b1, b2, b3, b4, b5, b6⟩ := callB0 (d := d) hR hts hy
  refine va_runS (As := As.map (tr E)) (n := n) (Ts := tb) (own := M.1) ⟨C.1, C.2.1, C.2.2.1, C.2.2.2.2.2.1, hts⟩ hM ⟨⟨b1, b2, b3, b4, b5, b6, hts _ hy.1, hts _ hy.2.1, hy.2.2.1, len_of hy.2.2.2.1, hts _ hw⟩, hts _ hin⟩ ⟨Wd_blind, fun U hU hW => ⟨rfl, Wd_at C hP hS hX U hU hW⟩⟩ rfl (by rw [List.length_map]; exact hn) hl.1 ?_ ?_ hd ⟨hR.2.2.1, hR.2.2.2⟩
  · show st0.map (tr E) = _
    rw [hst, List.map_append, List.map_reverse]
  · show 2 * 0 + _ ≤ 8
    rw [cat_sum]
    omega
theorem R_callSN {y : MethodName} {N : mt} {n idx : Nat} {host : String} {As st0 : List Value} {Q1 : Option Value → mm → Prop} (hM : Ct l E d y N As μ Q1) (hy : Cal y N n) (hin : Cond.static y ∈ tb) (hw : Cond.methodLinkNest M.1 idx y host ∈ nw) (hn : As.length = n) (hst : st0 = As.reverse ++ st) (hcat : (st.map fun v => v.category).sum ≤ 8) (hd : decode M.2.1 pc = .ok (.invokestatic idx, 3)) (K : ∀ (v : Option Value) (μ' : mm), Q1 v μ' → Rj l E (d + 1) M (pc + 3) lv (v.toList ++ st) μ' Q) : Rj l E (d + 1) M pc lv st0 μ Q := by
  refine R_run (Q1 := Q1) (a0 := (As.map (tr E)).toArray) (fun p e s m args below meth c H locs ls R kc ns C hP hS hX hl hR => ?_) K
  have hts := C.2.2.2.2.2.2.1
  obtain ⟨b1, b2, b3, b4, b5, b6⟩ := callB0 (d := d) hR hts hy
  refine va_runSN (As := As.map (tr E)) (n := n) (Ts := tb) (own := M.1) (host := host) ⟨C.1, C.2.1, C.2.2.1, C.2.2.2.2.2.1, hts⟩ hM ⟨⟨⟨b1, b2, b3, b4, b5, b6⟩, hts _ hy.1, hts _ hy.2.1, hy.2.2.1, len_of hy.2.2.2.1, va_Nw.use rfl (hX.1 _ hw)⟩, hts _ hin, trivial⟩ ⟨Wd_blind, fun U hU hW => ⟨rfl, Wd_at C hP hS hX U hU hW⟩⟩ rfl (by rw [List.length_map]; exact hn) hl.1 ?_ ?_ hd ⟨hR.2.2.1, hR.2.2.2⟩
  · show st0.map (tr E) = _
    rw [hst, List.map_append, List.map_reverse]
  · show 2 * 0 + _ ≤ 8
    rw [cat_sum]
    omega
theorem Ct_of {y : MethodName} {As : List Value} (hp : plainName y.cls = true) (hown : M.1 = y.cls) (hlen : (ea As).length ≤ M.2.2.1) (hlv : lvE M.2.2.1 As = lv) (h : Rj l E d M 0 lv [] μ Q) : Ct l E d y M As μ Q := by
  refine Met.ofW (cc := M.2.1) (maxL := M.2.2.1) (ret := M.2.2.2) hp rfl ?_
  intro p e s m args below meth c s₁ B hml hv
  obtain ⟨rfl, hg, hP, hK, hX⟩ := hv
  have hts := atoms_spec (ws := Cond.code y M.2.1 M.2.2.1 M.2.2.2 :: tb) B.pre
  subst hlv
  rw [lg_entry_eq]
  exact h p e s m _ below meth c s.heap [] _ (rmD d) 0 0 ⟨B.exec, B.bytes, hml, B.returns, B.notSynchronized, by rw [hown]; exact findClass_of_methodNamed B.named, fun w hw => hts w (List.mem_cons_of_mem _ hw), hK, hg⟩ hP va_S.rf hX (lo_entry E As hlen) (rmOk_D d)
def ldx (L : Nat) (xs : Nat → Int32) (i : Int32) : Option Int32 := if i < 0 ∨ L ≤ i.toNatClampNeg then none else some (xs i.toNatClampNeg)
theorem kd60 {a : Nat} (h : kd a = 60) : a = 6000 := by
  unfold kd at h
  split at h
  · have h9 : ∀ b, b < 49 → kdT.getD b 99 ≠ 60 := by decide +kernel
    exact absurd h (h9 a (by assumption))
  · split at h
    · have h9 : ∀ b, b < 94 → kdV.getD b 99 ≠ 60 := by decide +kernel
      exact absurd h (h9 _ (Nat.mod_lt _ (by decide)))
    · (repeat' split at h) <;> omega
theorem R_scr {a L : Nat} {xs : Nat → Int32} {i x : Int32} (hE : E.2.2.2 = (L, xs)) (h : ldx L xs i = some x) (ha : kd a = 60) (hd : decode M.2.1 pc = .ok (.iaload, 1)) (K : Rj l E d M (pc + 1) lv (.int x :: st) μ Q) : Rj l E d M pc lv (.int i :: .ref a :: st) μ Q := by
  intro p e s m args below meth c H locs ls R kc ns C hP hS hX hl hR
  obtain rfl := kd60 ha
  obtain ⟨-, -, -, -, -, -, -, -, -, h9, h0⟩ := id hX
  rw [hE] at h0
  unfold ldx at h
  split at h
  · cases h
  · rename_i hin
    obtain rfl := Option.some.inj h
    refine va_sld C.1 C.2.1 h0 (by obtain ⟨scr, q, -⟩ := h0; exact (Array.getElem?_eq_some_iff.mp q).1) h9 hS hin hd (K p e s m args below meth c H locs ls R kc ns C hP hS hX hl hR)
theorem R_scl {a L : Nat} {xs : Nat → Int32} (hE : E.2.2.2 = (L, xs)) (ha : kd a = 60) (hd : decode M.2.1 pc = .ok (.arraylength, 1)) (K : Rj l E d M (pc + 1) lv (.int (Int32.ofNat L) :: st) μ Q) : Rj l E d M pc lv (.ref a :: st) μ Q := by
  intro p e s m args below meth c H locs ls R kc ns C hP hS hX hl hR
  obtain rfl := kd60 ha
  obtain ⟨-, -, -, -, -, -, -, -, -, h9, h0⟩ := id hX
  rw [hE] at h0
  exact va_slen C.1 C.2.1 h0 (by obtain ⟨scr, q, -⟩ := h0; exact (Array.getElem?_eq_some_iff.mp q).1) h9 hS hd (K p e s m args below meth c H locs ls R kc ns C hP hS hX hl hR)
end RH
