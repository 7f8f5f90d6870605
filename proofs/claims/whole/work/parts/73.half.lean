/-! the judgement over the half made world: cn cells are made, pd of them are held by no slot yet -/
def nwc : List Cond := [.methodLinkNest RX9 65 yX10_init "LongStrike", .methodLinkNest RX9 72 yX7_init "LongStrike", .methodLinkNest RX9 79 yX3_init "LongStrike", .methodLinkNest RX9 86 yX2_init "LongStrike", .methodLinkNest RX9 107 yX4_init "LongStrike", .methodLinkNest RX9 108 yX6_init "LongStrike", .methodLinkNest RX9 109 yX1_init "LongStrike", .methodLinkNest RX9 110 yX5_init "LongStrike", .methodLinkNest RX11 28 yX8_init "LongStrike", .methodLinkNest RX8 19 yX5_init "LongStrike", .methodLinkNest RX11 35 yX0_init "LongStrike"]
theorem nwc_form : ∀ w ∈ nwc, ∃ a i x h, w = .methodLinkNest a i x h := List.forall_mem_cons.mpr ⟨⟨_, _, _, _, rfl⟩, List.forall_mem_cons.mpr ⟨⟨_, _, _, _, rfl⟩, List.forall_mem_cons.mpr ⟨⟨_, _, _, _, rfl⟩, List.forall_mem_cons.mpr ⟨⟨_, _, _, _, rfl⟩, List.forall_mem_cons.mpr ⟨⟨_, _, _, _, rfl⟩, List.forall_mem_cons.mpr ⟨⟨_, _, _, _, rfl⟩, List.forall_mem_cons.mpr ⟨⟨_, _, _, _, rfl⟩, List.forall_mem_cons.mpr ⟨⟨_, _, _, _, rfl⟩, List.forall_mem_cons.mpr ⟨⟨_, _, _, _, rfl⟩, List.forall_mem_cons.mpr ⟨⟨_, _, _, _, rfl⟩, List.forall_mem_cons.mpr ⟨⟨_, _, _, _, rfl⟩, fun _ h => by cases h⟩⟩⟩⟩⟩⟩⟩⟩⟩⟩⟩
theorem nwc_on : ∀ w ∈ nwc, w.onTables = true := fun w hw => by
  obtain ⟨a, i, x, h, rfl⟩ := nwc_form w hw
  rfl
def Yx (t : State) : Prop := (va_AO RX4 t ∧ va_AO RX6 t ∧ va_AO RX1 t ∧ va_AO RX5 t ∧ (Cond.arrayOver (.array .int)).before #[] t = true) ∧ ∀ w ∈ nwc, va_Nw w t
theorem Ya_moved {u U : State} (hvm : u.vm.Alike U.vm) (h : (va_AO RX4 u ∧ va_AO RX6 u ∧ va_AO RX1 u ∧ va_AO RX5 u ∧ (Cond.arrayOver (.array .int)).before #[] u = true)) : (va_AO RX4 U ∧ va_AO RX6 U ∧ va_AO RX1 U ∧ va_AO RX5 U ∧ (Cond.arrayOver (.array .int)).before #[] U = true) := ⟨h.1.moved hvm, h.2.1.moved hvm, h.2.2.1.moved hvm, h.2.2.2.1.moved hvm, arrayOver_alikeB hvm h.2.2.2.2⟩
theorem Yx_warm {u U : State} (hW : u.WarmedH U.vm) (h : Yx u) : Yx U := ⟨Ya_moved hW.alike h.1, fun w hw => by
  obtain ⟨a, i, x, q, rfl⟩ := nwc_form w hw
  exact va_Nw.warmM hW (h.2 _ hw)⟩
theorem Yx_same {u U : State} (hv : U.vm = u.vm) (h : Yx u) : Yx U := ⟨Ya_moved (by rw [hv]; exact Vm.Alike.refl _) h.1, fun w hw => va_Nw.same (nwc_on w hw) hv.symm (h.2 w hw)⟩
def Cy (E : ce) (M : mt) (p : Program) (s : State) (m : MethodId) (args : Array Value) (meth : Method) (c : Code) : Prop :=
  Cx E M p s m args meth c ∧ Ge E ∧ Yx s ∧ (M.1 ≠ RJ7 → M.1 ≠ "LongStrikeLaw" → meth.name = "<init>") ∧ (M.1 = "LongStrikeLaw" → Xf E s s.heap ∧ s.heap.size = E.1 23)
def Nb (E : ce) (cn : Nat) (pd : List Nat) (μ : mm) (s : State) (H : Heap) (locs : List Loc) (kc : Nat) : Prop :=
  va_P E.2.1 vwCl (wp E cn pd μ) H ∧ va_S (An E) s.heap H locs ∧ s.heap.size + kc = E.1 23 + cn ∧ Zr cn μ ∧ Pn cn pd ∧ E.1 23 ≤ s.heap.size
def Wn (E : ce) (cn : Nat) (pd : List Nat) (μ : mm) (t : State) : Prop :=
  Gd E ∧ Ge E ∧ va_P E.2.1 vwCl (wp E cn pd μ) t.heap ∧ t.heap.size = E.1 23 + cn ∧ va_K E.2.1 vwCl (tys E) t ∧ Yx t ∧ Zr cn μ ∧ Pn cn pd
def Qn (E : ce) (cn : Nat) (pd : List Nat) (μ : mm) : Array Value → State → Outcome → State → Prop := fun _ st o t => o = .returned none ∧ Wn E cn pd μ t ∧ va_F (An E) st t
def rmN (d mc ms : Nat) : Room := { frames := d + 1, cells := mc, slots := ms, locals := 80 * (d + 1) }
def Rn (l : Launch) (E : ce) (d : Nat) (M : mt) (pc : Nat) (lv : List (Option Value)) (st : List Value) (cn : Nat) (pd : List Nat) (μ : mm) (rc rs : Nat) (Qc : Array Value → State → Outcome → State → Prop) : Prop :=
  ∀ (p : Program) (e : Env) (s : State) (m : MethodId) (args : Array Value) (below : List Frame) (meth : Method) (c : Code) (H : Heap) (locs : List Loc) (ls : Array Slot) (R : Room) (kc ns : Nat),
    Cy E M p s m args meth c → Nb E cn pd μ s H locs kc → lo E ls M.2.2.1 lv → rmOk d R (kc + rc) (ns + rs) →
    W p l e R s m args below meth c H locs kc ns (MQ below Qc args s (kc + rc) (ns + rs) (An E)) (F0 m pc ls (st.map (tr E)))
def Cn (l : Launch) (E : ce) (d : Nat) (y : MethodName) (M : mt) (As : List Value) (cn : Nat) (pd : List Nat) (μ : mm) (mc ms : Nat) (cn' : Nat) (pd' : List Nat) (μ' : mm) : Prop :=
  Met l y (Cond.code y M.2.1 M.2.2.1 M.2.2.2 :: tb) (rmN d mc ms) (va_Pc (As.map (tr E)) (fun U => Wn E cn pd μ U)) (Qn E cn' pd' μ') mc ms (An E)
theorem W_sz {p : Program} {l : Launch} {e : Env} {R : Room} {s : State} {m : MethodId} {args : Array Value} {below : List Frame} {meth : Method} {c : Code} {H : Heap} {locs : List Loc} {cells slots : Nat} {Q : State → Prop} {g : JFrame} (h : H.size ≤ s.heap.size + cells → W p l e R s m args below meth c H locs cells slots Q g) : W p l e R s m args below meth c H locs cells slots Q g :=
  fun T hT X => h (by rw [← hT]; exact X.heapSize) T hT X
section RN
variable {l : Launch} {E : ce} {d : Nat} {M : mt} {pc : Nat} {lv lv' : List (Option Value)} {st : List Value} {cn : Nat} {pd : List Nat} {μ : mm} {rc rs : Nat} {Qc : Array Value → State → Outcome → State → Prop}
theorem N_iadd {x y : Int32} (hd : decode M.2.1 pc = .ok (.iadd, 1))  (K : Rn l E d M (pc + 1) lv (.int (x + y) :: st) cn pd μ rc rs Qc) : Rn l E d M pc lv (.int y :: .int x :: st) cn pd μ rc rs Qc := by
  intro p e s m args below meth c H locs ls R kc ns C0 hB hl hR
  have C := C0.1
  exact lv_iadd C.1 C.2.1 hd (K p e s m args below meth c H locs ls R kc ns C0 hB hl hR)
theorem N_iconst {n : Int} {v : Int32} (hd : decode M.2.1 pc = .ok (.iconst n, 1)) (hv : Int32.ofInt n = v) (K : Rn l E d M (pc + 1) lv (.int v :: st) cn pd μ rc rs Qc) : Rn l E d M pc lv (st) cn pd μ rc rs Qc := by
  intro p e s m args below meth c H locs ls R kc ns C0 hB hl hR
  have C := C0.1
  exact lv_iconst C.1 C.2.1 hd hv (K p e s m args below meth c H locs ls R kc ns C0 hB hl hR)
theorem N_bipush {n : Int} {v : Int32} (hd : decode M.2.1 pc = .ok (.bipush n, 2)) (hv : (Int8.ofInt n).toInt32 = v) (K : Rn l E d M (pc + 2) lv (.int v :: st) cn pd μ rc rs Qc) : Rn l E d M pc lv (st) cn pd μ rc rs Qc := by
  intro p e s m args below meth c H locs ls R kc ns C0 hB hl hR
  have C := C0.1
  exact lv_bipush C.1 C.2.1 hd hv (K p e s m args below meth c H locs ls R kc ns C0 hB hl hR)
theorem N_sipush {n : Int} {v : Int32} (hd : decode M.2.1 pc = .ok (.sipush n, 3)) (hv : (Int16.ofInt n).toInt32 = v) (K : Rn l E d M (pc + 3) lv (.int v :: st) cn pd μ rc rs Qc) : Rn l E d M pc lv (st) cn pd μ rc rs Qc := by
  intro p e s m args below meth c H locs ls R kc ns C0 hB hl hR
  have C := C0.1
  exact lv_sipush C.1 C.2.1 hd hv (K p e s m args below meth c H locs ls R kc ns C0 hB hl hR)
theorem N_dup {v : Value} (hd : decode M.2.1 pc = .ok (.dup, 1)) (hc : v.category = 1) (K : Rn l E d M (pc + 1) lv (v :: v :: st) cn pd μ rc rs Qc) : Rn l E d M pc lv (v :: st) cn pd μ rc rs Qc := by
  intro p e s m args below meth c H locs ls R kc ns C0 hB hl hR
  have C := C0.1
  exact lv_dup C.1 C.2.1 hd (by rw [tr_cat]; exact hc) (K p e s m args below meth c H locs ls R kc ns C0 hB hl hR)
theorem N_iload_n {k : Fin 4} {x : Int32} (hd : decode M.2.1 pc = .ok (.iload_n k, 1)) (i : Nat) (hi : (k : Nat) = i) (hv : lv[i]? = some (some (.int x))) (K : Rn l E d M (pc + 1) lv (.int x :: st) cn pd μ rc rs Qc) : Rn l E d M pc lv (st) cn pd μ rc rs Qc := by
  intro p e s m args below meth c H locs ls R kc ns C0 hB hl hR
  have C := C0.1
  exact lv_iload_n C.1 C.2.1 hd hi (hl.2.2 i _ hv) (K p e s m args below meth c H locs ls R kc ns C0 hB hl hR)
theorem N_aload_n {k : Fin 4} {x : Nat} (hd : decode M.2.1 pc = .ok (.aload_n k, 1)) (i : Nat) (hi : (k : Nat) = i) (hv : lv[i]? = some (some (.ref x))) (K : Rn l E d M (pc + 1) lv (.ref x :: st) cn pd μ rc rs Qc) : Rn l E d M pc lv (st) cn pd μ rc rs Qc := by
  intro p e s m args below meth c H locs ls R kc ns C0 hB hl hR
  have C := C0.1
  exact lv_aload_n C.1 C.2.1 hd hi (hl.2.2 i _ hv) (K p e s m args below meth c H locs ls R kc ns C0 hB hl hR)
theorem N_istore_n {k : Fin 4} {x : Int32} (hd : decode M.2.1 pc = .ok (.istore_n k, 1)) (i : Nat) (hi : (k : Nat) = i) (hm : i < M.2.2.1) (hn : nol lv i = true) (hs : lv.set i (some (.int x)) = lv') (K : Rn l E d M (pc + 1) lv' st cn pd μ rc rs Qc) : Rn l E d M pc lv (.int x :: st) cn pd μ rc rs Qc := by
  intro p e s m args below meth c H locs ls R kc ns C0 hB hl hR
  have C := C0.1
  exact lv_istore_n C.1 C.2.1 hd hi (lo_has hl) hm rfl (fun ls1 h1 => K p e s m args below meth c H locs ls1 R kc ns C0 hB (by rw [← hs]; exact lo_set (v := .int x) h1 hn) hR)
theorem N_astore_n {k : Fin 4} {x : Nat} (hd : decode M.2.1 pc = .ok (.astore_n k, 1)) (i : Nat) (hi : (k : Nat) = i) (hm : i < M.2.2.1) (hn : nol lv i = true) (hs : lv.set i (some (.ref x)) = lv') (K : Rn l E d M (pc + 1) lv' st cn pd μ rc rs Qc) : Rn l E d M pc lv (.ref x :: st) cn pd μ rc rs Qc := by
  intro p e s m args below meth c H locs ls R kc ns C0 hB hl hR
  have C := C0.1
  exact lv_astore_n C.1 C.2.1 hd hi (lo_has hl) hm rfl (fun ls1 h1 => K p e s m args below meth c H locs ls1 R kc ns C0 hB (by rw [← hs]; exact lo_set (v := .ref x) h1 hn) hR)
theorem N_iinc {i : Nat} {n : Int} {x v : Int32} (hd : decode M.2.1 pc = .ok (.iinc i n, 3)) (hm : i < M.2.2.1) (hn : nol lv i = true) (hx : lv[i]? = some (some (.int x))) (hv : Int32.ofInt n = v) (hs : lv.set i (some (.int (x + v))) = lv') (K : Rn l E d M (pc + 3) lv' st cn pd μ rc rs Qc) : Rn l E d M pc lv st cn pd μ rc rs Qc := by
  intro p e s m args below meth c H locs ls R kc ns C0 hB hl hR
  have C := C0.1
  subst hv
  obtain ⟨k, hk⟩ := List.getElem?_of_mem (plq_in (E := E) hx)
  exact lv_iinc C.1 C.2.1 hd (lo_has hl) hk rfl hm rfl (fun ls1 h1 => K p e s m args below meth c H locs ls1 R kc ns C0 hB (by rw [← hs]; exact lo_set (v := .int (x + Int32.ofInt n)) h1 hn) hR)
theorem N_ifne {x : Int32} {off : Int} {tgt : Nat} (hd : decode M.2.1 pc = .ok (.ifCond .ne off, 3)) (ht : (pc : Int) + off = (tgt : Int)) (kt : ¬ x = 0 → Rn l E d M tgt lv st cn pd μ rc rs Qc) (kf : x = 0 → Rn l E d M (pc + 3) lv st cn pd μ rc rs Qc) : Rn l E d M pc lv (.int x :: st) cn pd μ rc rs Qc := by
  intro p e s m args below meth c H locs ls R kc ns C0 hB hl hR
  have C := C0.1
  exact lv_if_ne C.1 C.2.1 hd ht (fun h => kt h p e s m args below meth c H locs ls R kc ns C0 hB hl hR) (fun h => kf h p e s m args below meth c H locs ls R kc ns C0 hB hl hR)
theorem N_cmpge {x y : Int32} {off : Int} {tgt : Nat} (hd : decode M.2.1 pc = .ok (.if_icmp .ge off, 3)) (ht : (pc : Int) + off = (tgt : Int)) (kt : y ≤ x → Rn l E d M tgt lv st cn pd μ rc rs Qc) (kf : ¬ (y ≤ x) → Rn l E d M (pc + 3) lv st cn pd μ rc rs Qc) : Rn l E d M pc lv (.int y :: .int x :: st) cn pd μ rc rs Qc := by
  intro p e s m args below meth c H locs ls R kc ns C0 hB hl hR
  have C := C0.1
  exact lv_icmp_ge C.1 C.2.1 hd ht (fun h => kt h p e s m args below meth c H locs ls R kc ns C0 hB hl hR) (fun h => kf h p e s m args below meth c H locs ls R kc ns C0 hB hl hR)
theorem N_goto {off : Int} {tgt : Nat} (hd : decode M.2.1 pc = .ok (.goto off, 3)) (ht : (pc : Int) + off = (tgt : Int)) (K : Rn l E d M tgt lv st cn pd μ rc rs Qc) : Rn l E d M pc lv st cn pd μ rc rs Qc := by
  intro p e s m args below meth c H locs ls R kc ns C0 hB hl hR
  have C := C0.1
  exact lv_goto C.1 C.2.1 hd ht (K p e s m args below meth c H locs ls R kc ns C0 hB hl hR)
theorem N_irem {x y : Int32} (hd : decode M.2.1 pc = .ok (.irem, 1)) (hne : ¬ y = 0) (K : Rn l E d M (pc + 1) lv (.int (x - x / y * y) :: st) cn pd μ rc rs Qc) : Rn l E d M pc lv (.int y :: .int x :: st) cn pd μ rc rs Qc := by
  intro p e s m args below meth c H locs ls R kc ns C0 hB hl hR
  have C := C0.1
  exact lv_irem C.1 C.2.1 hd hne (K p e s m args below meth c H locs ls R kc ns C0 hB hl hR)
theorem N_vret {cn' : Nat} {pd' : List Nat} {μ' : mm} (hr : M.2.2.2 = none) (e1 : cn = cn') (e2 : pd = pd') (e3 : μ = μ') (h1 : 1 ≤ cn) (hd : decode M.2.1 pc = .ok (.return_, 1)) : Rn l E d M pc lv [] cn pd μ 0 0 (Qn E cn' pd' μ') := by
  subst e1 e2 e3
  intro p e s m args below meth c H locs ls R kc ns C0 hB hl hR
  have C := C0.1
  obtain ⟨hP, hS, hk, hz, hp, h0⟩ := hB
  refine W_sz fun hsz => ?_
  have hlow : E.1 23 + cn ≤ H.size := by
    have := (hP _ _ (wp_at E cn pd μ (show cn - 1 < cn by omega))).lt
    have e : E.1 (oi (cn - 1)) = E.1 23 + (cn - 1) := Ge_oi C0.2.1 (by have := hp.1; omega)
    have h9 : E.1 (oi (cn - 1)) < H.size := this
    omega
  refine W.vret C.1 C.2.1 (C.2.2.2.1.trans hr) (fun t ht hw => ⟨rfl, ⟨C.2.2.2.2.2.2.2.2, C0.2.1, by rw [ht]; exact hP, by rw [ht]; omega, va_K.moved hw.alike C.2.2.2.2.2.2.2.1, Yx_warm hw C0.2.2.1, hz, hp⟩, hS.F ht⟩) (fun q h => hS.2.2 q h) hd C.2.2.2.2.1
theorem Cn_of {y : MethodName} {As : List Value} {mc ms cn' : Nat} {pd' : List Nat} {μ' : mm} (hp : plainName y.cls = true) (hown : M.1 = y.cls) (hin : M.1 ≠ RJ7 → M.1 ≠ "LongStrikeLaw" → y.name = "<init>") (hnl : M.1 ≠ "LongStrikeLaw") (hlen : (ea As).length ≤ M.2.2.1) (hlv : lvE M.2.2.1 As = lv) (h : Rn l E d M 0 lv [] cn pd μ mc ms (Qn E cn' pd' μ')) : Cn l E d y M As cn pd μ mc ms cn' pd' μ' := by
  refine Met.ofW (cc := M.2.1) (maxL := M.2.2.1) (ret := M.2.2.2) hp rfl ?_
  intro p e s m args below meth c s₁ B hml hv
  obtain ⟨rfl, hg, hG, hP, hsz, hK, hY, hz, hpn⟩ := hv
  have hts := atoms_spec (ws := Cond.code y M.2.1 M.2.2.1 M.2.2.2 :: tb) B.pre
  subst hlv
  rw [lg_entry_eq]
  have K := h p e s m _ below meth c s.heap [] _ (rmN d mc ms) 0 0 ⟨⟨B.exec, B.bytes, hml, B.returns, B.notSynchronized, by rw [hown]; exact findClass_of_methodNamed B.named, fun w hw => hts w (List.mem_cons_of_mem _ hw), hK, hg⟩, hG, hY, fun h1 h2 => (name_of_methodNamed B.named B.method).1.trans (hin h1 h2), fun h => absurd h hnl⟩ ⟨hP, va_S.rf, by omega, hz, hpn, by omega⟩ (lo_entry E As hlen) ⟨Nat.le_refl _, Nat.le_refl _, by show 0 + mc ≤ mc; omega, by show 0 + ms ≤ ms; omega⟩
  rw [Nat.zero_add, Nat.zero_add] at K
  exact K
end RN
