/-! the memory, the world that holds it, the judgement Rj -/
abbrev mm : Type := Nat → Nat → Int32
def up (μ : mm) (a k : Nat) (v : Int32) : mm := fun b => if b = a then upd (μ a) k v else μ b
def cpM (μ : mm) (src sp dst dp n : Nat) : mm := fun b => if b = dst then va_cpy (μ src) (μ dst) sp dp n else μ b
abbrev ce : Type := (Nat → Nat) × va_G × (Nat → ClassId) × Nat × (Nat → Int32)
def tr (E : ce) : Value → Value
  | .ref a => .ref (E.1 a)
  | v => v
theorem tr_cat (E : ce) (v : Value) : (tr E v).category = v.category := by cases v <;> rfl
def fv (E : ce) (μ : mm) (a k : Nat) : Value := if isr (kd a) k = true then .ref (E.1 (rf a k)) else .int (μ a k)
def cel (E : ce) (μ : mm) (a : Nat) : va_E :=
  if kd a < 13 then .inr (kd a, (List.range (nf (kd a))).map (fv E μ a))
  else if kd a < 23 then .inl (E.2.2.1 (kd a), len a, .inl (μ a))
  else .inl (E.2.2.1 (kd a), len a, .inr (.inr (.inr (.inr (fun i => if i < len a then some (E.1 (rf a i)) else none)))))
def wo (E : ce) (μ : mm) : va_W := (List.range 331).map (fun a => (E.1 a, cel E μ a))
def Ar (E : ce) : Nat → Prop := fun q => ∃ a : Nat, a < 331 ∧ q = E.1 a
def tys (E : ce) : List (ClassId × FieldType) := [(E.2.2.1 20, .int), (E.2.2.1 21, .byte), (E.2.2.1 22, .boolean), (E.2.2.1 23, .array .int), (E.2.2.1 24, .object RX4), (E.2.2.1 25, .object RX6), (E.2.2.1 26, .object RX1), (E.2.2.1 27, .object RX5)]
def Gd (E : ce) : Prop := ∀ a b : Nat, a < 331 → b < 331 → E.1 a = E.1 b → a = b
/-! what stands outside the world: words of nest mates, the String constants, two static rows -/
def nw : List Cond := [.methodLinkNest RX5 65 yX11_asBit "LongStrike", .methodLinkNest RX9 142 yX11_isIn "LongStrike", .methodLinkNest RX8 54 yX11_isIn "LongStrike"]
def strT : List (List Int32) := [[116, 105, 99, 107, 101, 116], [114, 97, 110, 107], [115, 97, 102, 101, 116, 121], [113, 117, 111, 114, 117, 109], [101, 118, 105, 99, 116], [118, 111, 116, 101], [114, 101, 108, 105, 101, 102], [109, 111, 117, 116, 104, 115], [111, 119, 101, 115], [119, 105, 108, 108], [99, 111, 97, 108], [104, 117, 110, 103, 114, 121], [112, 105, 116], [118, 105, 108, 108, 97, 103, 101], [105, 102], [110, 111, 116], [97, 110, 100], [111, 114], [116, 105, 99, 107, 101, 116, 32, 114, 97, 110, 107, 32, 115, 97, 102, 101, 116, 121, 32, 113, 117, 111, 114, 117, 109, 32, 101, 118, 105, 99, 116, 32, 118, 111, 116, 101, 32, 114, 101, 108, 105, 101, 102, 32, 105, 102, 32, 97, 110, 100, 32, 111, 114, 32, 110, 111, 116, 32, 109, 111, 117, 116, 104, 115, 32, 111, 119, 101, 115, 32, 119, 105, 108, 108, 32, 99, 111, 97, 108, 32, 104, 117, 110, 103, 114, 121, 32, 112, 105, 116, 32, 118, 105, 108, 108, 97, 103, 101, 32]]
def lenT : List Nat := [6, 4, 6, 6, 5, 4, 6, 6, 4, 4, 4, 6, 3, 7, 2, 3, 3, 2, 99]
def Xf (E : ce) (u : State) (H : Heap) : Prop :=
  (∀ w ∈ nw, va_Nw w u) ∧ vk_S 19 lenT strT (fun k => E.1 (1000 + k)) (fun k => E.1 (3000 + k)) (Ar E) u H ∧
  (vk_R RX12 210 "if" (E.1 1014) u ∧ vk_R RX12 189 "not" (E.1 1015) u ∧ vk_R RX12 187 "and" (E.1 1016) u ∧ vk_R RX12 174 "or" (E.1 1017) u ∧ vk_R RX8 111 "ticket rank safety quorum evict vote relief if and or not mouths owes will coal hungry pit village " (E.1 1018) u) ∧
  va_Z "java/lang/String" "COMPACT_STRINGS" "Z" (.int 1) (Ar E) u H ∧ (va_Z "jdk/internal/util/Preconditions" "SIOOBE_FORMATTER" "Ljava/util/function/BiFunction;" .null (Ar E) u H ∨ va_Z "jdk/internal/util/Preconditions" "SIOOBE_FORMATTER" "Ljava/util/function/BiFunction;" (.ref (E.1 4000)) (Ar E) u H) ∧
  va_Z RX12 "SORTS" "[Ljava/lang/String;" (.ref (E.1 2000)) (Ar E) u H ∧ va_Z RX12 "FACTS" "[Ljava/lang/String;" (.ref (E.1 2001)) (Ar E) u H ∧
  va_T (.object "java/lang/String") (E.1 2000) 7 (fun j => .ref (E.1 (1000 + j))) (Ar E) u H ∧ va_T (.object "java/lang/String") (E.1 2001) 7 (fun j => .ref (E.1 (1007 + j))) (Ar E) u H ∧
  ¬ Ar E (E.1 6000) ∧ va_X (E.1 6000) E.2.2.2.1 E.2.2.2.2 u H
theorem nw_on : ∀ w ∈ nw, w.onTables = true := by decide +kernel
theorem nw_form : ∀ w ∈ nw, ∃ a i x h, w = .methodLinkNest a i x h := by
  intro w hw
  rcases List.mem_cons.mp hw with rfl | hw
  · exact ⟨_, _, _, _, rfl⟩
  · rcases List.mem_cons.mp hw with rfl | hw
    · exact ⟨_, _, _, _, rfl⟩
    · rcases List.mem_cons.mp hw with rfl | hw
      · exact ⟨_, _, _, _, rfl⟩
      · cases hw
theorem Xf_same {E : ce} {u U : State} {H : Heap} (hv : U.vm = u.vm) (h : Xf E u H) : Xf E U H := by
  have ha : u.vm.Alike U.vm := by rw [hv]; exact Vm.Alike.refl _
  obtain ⟨h1, h2, ⟨r1, r2, r3, r4, r5⟩, h3, h4, h5, h6, h7, h8, h9, h0⟩ := h
  exact ⟨fun w hw => va_Nw.same (nw_on w hw) hv.symm (h1 w hw), h2.moved ha, ⟨r1.same hv, r2.same hv, r3.same hv, r4.same hv, r5.same hv⟩, h3.moved ha, h4.imp (fun q => q.moved ha) (fun q => q.moved ha), h5.moved ha, h6.moved ha, h7.moved ha, h8.moved ha, h9, h0.moved ha⟩
theorem Xf_warm {E : ce} {u U : State} {H : Heap} (hW : u.WarmedH U.vm) (h : Xf E u H) : Xf E U H := by
  have ha : u.vm.Alike U.vm := hW.alike
  obtain ⟨h1, h2, ⟨r1, r2, r3, r4, r5⟩, h3, h4, h5, h6, h7, h8, h9, h0⟩ := h
  refine ⟨fun w hw => ?_, h2.moved ha, ⟨r1.warm hW, r2.warm hW, r3.warm hW, r4.warm hW, r5.warm hW⟩, h3.moved ha, h4.imp (fun q => q.moved ha) (fun q => q.moved ha), h5.moved ha, h6.moved ha, h7.moved ha, h8.moved ha, h9, h0.moved ha⟩
  obtain ⟨a, i, x, q, rfl⟩ := nw_form w hw
  exact va_Nw.warmM hW (h1 _ hw)
theorem Xf_kept {E : ce} {u : State} {H H1 : Heap} (hq : ∀ q : Nat, q < H.size → ¬ Ar E q → H1[q]? = H[q]?) (h : Xf E u H) : Xf E u H1 := by
  obtain ⟨h1, h2, r, h3, h4, h5, h6, h7, h8, h9, h0⟩ := h
  exact ⟨h1, h2.kept hq, r, h3.kept hq, h4.imp (fun q => q.kept hq) (fun q => q.kept hq), h5.kept hq, h6.kept hq, h7.kept hq, h8.kept hq, h9, h0.kept (hq _ (by obtain ⟨scr, q, -⟩ := h0; exact (Array.getElem?_eq_some_iff.mp q).1) h9)⟩
theorem wo_at (E : ce) (μ : mm) {a : Nat} (h : a < 331) : (wo E μ)[a]? = some (E.1 a, cel E μ a) := by
  unfold wo
  rw [List.getElem?_map, List.getElem?_range h]
  rfl
theorem wo_out (E : ce) (μ : mm) {a : Nat} {q : Nat × va_E} (h : (wo E μ)[a]? = some q) : a < 331 := by
  have := (List.getElem?_eq_some_iff.mp h).1
  simpa [wo] using this
theorem wo_D {E : ce} (h : Gd E) (μ : mm) : va_D (Ar E) (wo E μ) := by
  refine ⟨fun i j p q hi hj e => ?_, fun k q hk => ?_⟩
  · have h1 := wo_out E μ hi
    have h2 := wo_out E μ hj
    rw [wo_at E μ h1] at hi
    rw [wo_at E μ h2] at hj
    cases hi
    cases hj
    exact h i j h1 h2 e
  · have h1 := wo_out E μ hk
    rw [wo_at E μ h1] at hk
    cases hk
    exact ⟨k, h1, rfl⟩
theorem wo_set {E : ce} {μ μ' : mm} {a : Nat} (h : a < 331) (hb : ∀ b : Nat, b ≠ a → cel E μ' b = cel E μ b) : (wo E μ).set a (E.1 a, cel E μ' a) = wo E μ' := by
  apply List.ext_getElem?
  intro i
  by_cases hi : i = a
  · subst hi
    rw [List.getElem?_set_self (by simp [wo]; exact h), wo_at E μ' h]
  · rw [List.getElem?_set_ne (Ne.symm hi)]
    by_cases hl : i < 331
    · rw [wo_at E μ hl, wo_at E μ' hl, hb i hi]
    · rw [List.getElem?_eq_none (by simp [wo]; omega), List.getElem?_eq_none (by simp [wo]; omega)]
theorem cel_ne {E : ce} {μ μ' : mm} {b : Nat} (h : μ' b = μ b) : cel E μ' b = cel E μ b := by
  have e : fv E μ' b = fv E μ b := by funext k; unfold fv; rw [h]
  unfold cel
  rw [e, h]
theorem up_ne {μ : mm} {a k b : Nat} {v : Int32} (h : b ≠ a) : up μ a k v b = μ b := if_neg h
theorem up_eq {μ : mm} {a k : Nat} {v : Int32} : up μ a k v a = upd (μ a) k v := if_pos rfl
theorem cpM_ne {μ : mm} {s sp a dp n b : Nat} (h : b ≠ a) : cpM μ s sp a dp n b = μ b := if_neg h
theorem cpM_eq {μ : mm} {s sp a dp n : Nat} : cpM μ s sp a dp n a = va_cpy (μ s) (μ a) sp dp n := if_pos rfl
theorem cel_obj {E : ce} {μ : mm} {a ci : Nat} (h : kd a = ci) (hc : ci < 13) : cel E μ a = .inr (ci, (List.range (nf ci)).map (fv E μ a)) := by
  unfold cel
  rw [if_pos (by omega), h]
theorem cel_arr {E : ce} {μ : mm} {a ci : Nat} (h : kd a = ci) (h1 : 13 ≤ ci) (h2 : ci < 23) : cel E μ a = .inl (E.2.2.1 ci, len a, .inl (μ a)) := by
  unfold cel
  rw [if_neg (by omega), if_pos (by omega), h]
theorem cel_row {E : ce} {μ : mm} {a ci : Nat} (h : kd a = ci) (h1 : 23 ≤ ci) : cel E μ a = .inl (E.2.2.1 ci, len a, .inr (.inr (.inr (.inr (fun i => if i < len a then some (E.1 (rf a i)) else none))))) := by
  unfold cel
  rw [if_neg (by omega), if_neg (by omega), h]
theorem fv_int {E : ce} {μ : mm} {a k ci : Nat} (h : kd a = ci) (hi : isr ci k = false) : fv E μ a k = .int (μ a k) := by
  unfold fv
  rw [h, hi]
  rfl
theorem fv_ref {E : ce} {μ : mm} {a k ci : Nat} (h : kd a = ci) (hi : isr ci k = true) : fv E μ a k = .ref (E.1 (rf a k)) := by
  unfold fv
  rw [h, hi]
  rfl
theorem fs_at {E : ce} {μ : mm} {a k n : Nat} (h : k < n) : ((List.range n).map (fv E μ a))[k]? = some (fv E μ a k) := by
  rw [List.getElem?_map, List.getElem?_range h]
  rfl
theorem fs_set {E : ce} {μ : mm} {a k ci n : Nat} {x : Int32} (h : kd a = ci) (hi : isr ci k = false) : ((List.range n).map (fv E μ a)).set k (.int x) = (List.range n).map (fv E (up μ a k x) a) := by
  apply List.ext_getElem?
  intro i
  by_cases hl : i < n
  · rw [fs_at hl]
    by_cases e : i = k
    · subst e
      rw [List.getElem?_set_self (by simpa using hl), fv_int h hi, up_eq]
      simp [upd]
    · rw [List.getElem?_set_ne (Ne.symm e), fs_at hl]
      unfold fv
      rw [up_eq]
      simp [upd, e]
  · rw [List.getElem?_eq_none (by simp; omega), List.getElem?_eq_none (by simp; omega)]
def tb : List Cond := lw_tbl.filter goodWord
theorem tb_of {w : Cond} (h : w ∈ lw_tbl) (hg : goodWord w = true) : w ∈ tb := List.mem_filter.mpr ⟨h, hg⟩
theorem tb_good : ∀ w ∈ tb, goodWord w = true := fun w h => (List.mem_filter.mp h).2
/-- a method: its class, code, locals, what it returns -/
abbrev mt : Type := String × ByteArray × Nat × Option FieldType
def Cx (E : ce) (M : mt) (p : Program) (s : State) (m : MethodId) (args : Array Value) (meth : Method) (c : Code) : Prop :=
  p.tables.exec = Jvm.exec ∧ c.code = M.2.1 ∧ c.maxLocals = M.2.2.1 ∧ meth.sig.returnType = M.2.2.2 ∧ meth.locks = false ∧ s.vm.findClass M.1 = some m.cls ∧ (∀ w ∈ tb, w.before args s = true) ∧ va_K E.2.1 vwCl (tys E) s ∧ Gd E
def lo (E : ce) (ls : Array Slot) (n : Nat) (lv : List (Option Value)) : Prop := ls.size = n ∧ lv_wf ls ∧ ∀ (i : Nat) (v : Value), lv[i]? = some (some v) → ls[i]? = some (.val (tr E v))
def Wd (E : ce) (μ : mm) (t : State) : Prop := Gd E ∧ va_P E.2.1 vwCl (wo E μ) t.heap ∧ va_K E.2.1 vwCl (tys E) t ∧ Xf E t t.heap
def Qm (E : ce) (Q : Option Value → mm → Prop) : Array Value → State → Outcome → State → Prop := fun _ st o t => ∃ (v : Option Value) (μ : mm), o = .returned (v.map (tr E)) ∧ Wd E μ t ∧ va_F (Ar E) st t ∧ Q v μ
def rmD (d : Nat) : Room := { frames := d + 1, cells := 0, slots := 0, locals := 80 * (d + 1) }
/-- a room with d frames below, where kc cells of ns slots are made already -/
def rmOk (d : Nat) (R : Room) (kc ns : Nat) : Prop := d + 1 ≤ R.frames ∧ 80 * (d + 1) ≤ R.locals ∧ kc ≤ R.cells ∧ ns ≤ R.slots
theorem rmOk_D (d : Nat) : rmOk d (rmD d) 0 0 := ⟨Nat.le_refl _, Nat.le_refl _, Nat.le_refl _, Nat.le_refl _⟩
def Rj (l : Launch) (E : ce) (d : Nat) (M : mt) (pc : Nat) (lv : List (Option Value)) (st : List Value) (μ : mm) (Q : Option Value → mm → Prop) : Prop :=
  ∀ (p : Program) (e : Env) (s : State) (m : MethodId) (args : Array Value) (below : List Frame) (meth : Method) (c : Code) (H : Heap) (locs : List Loc) (ls : Array Slot) (R : Room) (kc ns : Nat),
    Cx E M p s m args meth c → va_P E.2.1 vwCl (wo E μ) H → va_S (Ar E) s.heap H locs → Xf E s s.heap → lo E ls M.2.2.1 lv → rmOk d R kc ns →
    W p l e R s m args below meth c H locs kc ns (MQ below (Qm E Q) args s kc ns (Ar E)) (F0 m pc ls (st.map (tr E)))
def Ct (l : Launch) (E : ce) (d : Nat) (y : MethodName) (M : mt) (As : List Value) (μ : mm) (Q : Option Value → mm → Prop) : Prop :=
  Met l y (Cond.code y M.2.1 M.2.2.1 M.2.2.2 :: tb) (rmD d) (va_Pc (As.map (tr E)) (fun U => Wd E μ U)) (Qm E Q) 0 0 (Ar E)
/-! locals -/
def ea : List Value → List (Option Value)
  | [] => []
  | v :: r => if v.category = 2 then some v :: none :: ea r else some v :: ea r
def lvE (n : Nat) (As : List Value) : List (Option Value) := ea As ++ List.replicate (n - (ea As).length) none
theorem ea_in (E : ce) : ∀ (As : List Value) (j i : Nat) (v : Value), (ea As)[i]? = some (some v) → (j + i, tr E v) ∈ lv_args j (As.map (tr E))
  | [], j, i, v, h => by simp [ea] at h
  | a :: r, j, i, v, h => by
    simp only [List.map_cons, lv_args, tr_cat]
    by_cases hc : a.category = 2
    · simp only [ea, if_pos hc] at h
      match i, h with
      | 0, h => simp at h; subst h; simp
      | 1, h => simp at h
      | i + 2, h =>
        simp at h
        have := ea_in E r (j + 2) i v h
        simp only [if_pos hc]
        rw [show j + (i + 2) = j + 2 + i by omega]
        exact List.mem_cons_of_mem _ this
    · simp only [ea, if_neg hc] at h
      match i, h with
      | 0, h => simp at h; subst h; simp
      | i + 1, h =>
        simp at h
        have := ea_in E r (j + 1) i v h
        simp only [if_neg hc]
        rw [show j + (i + 1) = j + 1 + i by omega]
        exact List.mem_cons_of_mem _ this
theorem ea_sl (E : ce) : ∀ As : List Value, (lg_sl (As.map (tr E))).length = (ea As).length
  | [] => rfl
  | a :: r => by
    have ih := ea_sl E r
    simp only [List.map_cons, lg_sl, List.flatMap_cons, tr_cat, ea] at ih ⊢
    by_cases hc : a.category = 2
    · simp only [if_pos hc, List.length_append, List.length_cons, List.length_nil]
      omega
    · simp only [if_neg hc, List.length_append, List.length_cons, List.length_nil]
      omega
theorem lo_entry (E : ce) (As : List Value) {n : Nat} (h : (ea As).length ≤ n) : lo E ((lg_sl (As.map (tr E)) ++ List.replicate (n - (lg_sl (As.map (tr E))).length) Slot.unset).toArray) n (lvE n As) := by
  obtain ⟨h1, h2, h3⟩ := lv_entry (As.map (tr E)) (n := n) (by rw [ea_sl]; exact h)
  refine ⟨h1, h2, fun i v hv => ?_⟩
  have hq : (ea As)[i]? = some (some v) := by
    unfold lvE at hv
    by_cases hl : i < (ea As).length
    · rw [List.getElem?_append_left hl] at hv
      exact hv
    · rw [List.getElem?_append_right (by omega)] at hv
      have := List.mem_of_getElem? hv
      rw [List.mem_replicate] at this
      cases this.2
  have := ea_in E As 0 i v hq
  rw [Nat.zero_add] at this
  exact h3 _ this
def plq (E : ce) (lv : List (Option Value)) : List (Nat × Value) := (List.range lv.length).filterMap (fun j => match lv[j]? with
  | some (some v) => some (j, tr E v)
  | _ => none)
theorem lo_has {E : ce} {ls : Array Slot} {n : Nat} {lv : List (Option Value)} (h : lo E ls n lv) : lv_has ls n (plq E lv) := by
  refine ⟨h.1, h.2.1, fun q hq => ?_⟩
  obtain ⟨j, -, hj⟩ := List.mem_filterMap.mp hq
  split at hj
  · cases hj
    exact h.2.2 _ _ (by assumption)
  · cases hj
theorem plq_in {E : ce} {lv : List (Option Value)} {j : Nat} {v : Value} (h : lv[j]? = some (some v)) : (j, tr E v) ∈ plq E lv := by
  refine List.mem_filterMap.mpr ⟨j, List.mem_range.mpr (List.getElem?_eq_some_iff.mp h).1, ?_⟩
  rw [h]
def nol (lv : List (Option Value)) (i : Nat) : Bool := match i with
  | 0 => true
  | j + 1 => match lv[j]? with
    | some (some v) => v.category != 2
    | _ => true
theorem nol_ne {lv : List (Option Value)} {i j : Nat} {v : Value} (h : nol lv i = true) (hj : lv[j]? = some (some v)) (hi : j + 1 = i) : ¬ v.category = 2 := by
  subst hi
  simp only [nol, hj] at h
  simpa using h
theorem lo_set {E : ce} {ls : Array Slot} {n i : Nat} {v : Value} {lv : List (Option Value)} (h : lv_has ls n ((i, tr E v) :: (plq E lv).filter (fun q => !(q.1 == i) && !(q.1 + 1 == i && q.2.category == 2)))) (hn : nol lv i = true) : lo E ls n (lv.set i (some v)) := by
  refine ⟨h.1, h.2.1, fun j w hw => ?_⟩
  by_cases e : j = i
  · subst e
    have hl : j < lv.length := by
      have := (List.getElem?_eq_some_iff.mp hw).1
      simpa using this
    rw [List.getElem?_set_self hl] at hw
    cases hw
    exact h.2.2 _ List.mem_cons_self
  · rw [List.getElem?_set_ne (Ne.symm e)] at hw
    refine h.2.2 (j, tr E w) (List.mem_cons_of_mem _ (List.mem_filter.mpr ⟨plq_in hw, ?_⟩))
    simp only [Bool.and_eq_true, Bool.not_eq_true', beq_eq_false_iff_ne, ne_eq, Bool.and_eq_false_iff, tr_cat]
    refine ⟨e, ?_⟩
    by_cases e2 : j + 1 = i
    · exact Or.inr (nol_ne hn hw e2)
    · exact Or.inl e2
/-- fewer locals are known -/
def mk (ks : List Bool) (lv : List (Option Value)) : List (Option Value) := List.zipWith (fun b v => if b then v else none) ks lv
theorem mk_at {ks : List Bool} {lv : List (Option Value)} {i : Nat} {v : Value} (h : (mk ks lv)[i]? = some (some v)) : lv[i]? = some (some v) := by
  unfold mk at h
  rw [List.getElem?_zipWith] at h
  cases hk : ks[i]? with
  | none => simp [hk] at h
  | some b =>
    cases hl : lv[i]? with
    | none => simp [hk, hl] at h
    | some w =>
      simp [hk, hl] at h
      rw [h.2]
section RR
variable {l : Launch} {E : ce} {d : Nat} {M : mt} {pc : Nat} {lv lv' : List (Option Value)} {st : List Value} {μ : mm} {Q : Option Value → mm → Prop}
theorem R_mask (ks : List Bool) (hm : mk ks lv = lv') (K : Rj l E d M pc lv' st μ Q) : Rj l E d M pc lv st μ Q := by
  intro p e s m args below meth c H locs ls R kc ns C hP hS hX hl hR
  subst hm
  exact K p e s m args below meth c H locs ls R kc ns C hP hS hX ⟨hl.1, hl.2.1, fun i v hv => hl.2.2 i v (mk_at hv)⟩ hR
theorem R_iadd {x y : Int32} (hd : decode M.2.1 pc = .ok (.iadd, 1))  (K : Rj l E d M (pc + 1) lv (.int (x + y) :: st) μ Q) : Rj l E d M pc lv (.int y :: .int x :: st) μ Q := by
  intro p e s m args below meth c H locs ls R kc ns C hP hS hX hl hR
  exact lv_iadd C.1 C.2.1 hd (K p e s m args below meth c H locs ls R kc ns C hP hS hX hl hR)
theorem R_isub {x y : Int32} (hd : decode M.2.1 pc = .ok (.isub, 1))  (K : Rj l E d M (pc + 1) lv (.int (x - y) :: st) μ Q) : Rj l E d M pc lv (.int y :: .int x :: st) μ Q := by
  intro p e s m args below meth c H locs ls R kc ns C hP hS hX hl hR
  exact lv_isub C.1 C.2.1 hd (K p e s m args below meth c H locs ls R kc ns C hP hS hX hl hR)
theorem R_imul {x y : Int32} (hd : decode M.2.1 pc = .ok (.imul, 1))  (K : Rj l E d M (pc + 1) lv (.int (x * y) :: st) μ Q) : Rj l E d M pc lv (.int y :: .int x :: st) μ Q := by
  intro p e s m args below meth c H locs ls R kc ns C hP hS hX hl hR
  exact lv_imul C.1 C.2.1 hd (K p e s m args below meth c H locs ls R kc ns C hP hS hX hl hR)
theorem R_iand {x y : Int32} (hd : decode M.2.1 pc = .ok (.iand, 1))  (K : Rj l E d M (pc + 1) lv (.int (x &&& y) :: st) μ Q) : Rj l E d M pc lv (.int y :: .int x :: st) μ Q := by
  intro p e s m args below meth c H locs ls R kc ns C hP hS hX hl hR
  exact lv_iand C.1 C.2.1 hd (K p e s m args below meth c H locs ls R kc ns C hP hS hX hl hR)
theorem R_ior {x y : Int32} (hd : decode M.2.1 pc = .ok (.ior, 1))  (K : Rj l E d M (pc + 1) lv (.int (x ||| y) :: st) μ Q) : Rj l E d M pc lv (.int y :: .int x :: st) μ Q := by
  intro p e s m args below meth c H locs ls R kc ns C hP hS hX hl hR
  exact lv_ior C.1 C.2.1 hd (K p e s m args below meth c H locs ls R kc ns C hP hS hX hl hR)
theorem R_ixor {x y : Int32} (hd : decode M.2.1 pc = .ok (.ixor, 1))  (K : Rj l E d M (pc + 1) lv (.int (x ^^^ y) :: st) μ Q) : Rj l E d M pc lv (.int y :: .int x :: st) μ Q := by
  intro p e s m args below meth c H locs ls R kc ns C hP hS hX hl hR
  exact lv_ixor C.1 C.2.1 hd (K p e s m args below meth c H locs ls R kc ns C hP hS hX hl hR)
theorem R_ishl {x y : Int32} (hd : decode M.2.1 pc = .ok (.ishl, 1))  (K : Rj l E d M (pc + 1) lv (.int (x <<< (y &&& 31)) :: st) μ Q) : Rj l E d M pc lv (.int y :: .int x :: st) μ Q := by
  intro p e s m args below meth c H locs ls R kc ns C hP hS hX hl hR
  exact lv_ishl C.1 C.2.1 hd (K p e s m args below meth c H locs ls R kc ns C hP hS hX hl hR)
theorem R_ishr {x y : Int32} (hd : decode M.2.1 pc = .ok (.ishr, 1))  (K : Rj l E d M (pc + 1) lv (.int (x >>> (y &&& 31)) :: st) μ Q) : Rj l E d M pc lv (.int y :: .int x :: st) μ Q := by
  intro p e s m args below meth c H locs ls R kc ns C hP hS hX hl hR
  exact lv_ishr C.1 C.2.1 hd (K p e s m args below meth c H locs ls R kc ns C hP hS hX hl hR)
theorem R_idiv {x y : Int32} (hd : decode M.2.1 pc = .ok (.idiv, 1)) (hne : ¬ y = 0) (K : Rj l E d M (pc + 1) lv (.int (x / y) :: st) μ Q) : Rj l E d M pc lv (.int y :: .int x :: st) μ Q := by
  intro p e s m args below meth c H locs ls R kc ns C hP hS hX hl hR
  exact lv_idiv C.1 C.2.1 hd hne (K p e s m args below meth c H locs ls R kc ns C hP hS hX hl hR)
theorem R_irem {x y : Int32} (hd : decode M.2.1 pc = .ok (.irem, 1)) (hne : ¬ y = 0) (K : Rj l E d M (pc + 1) lv (.int (x - x / y * y) :: st) μ Q) : Rj l E d M pc lv (.int y :: .int x :: st) μ Q := by
  intro p e s m args below meth c H locs ls R kc ns C hP hS hX hl hR
  exact lv_irem C.1 C.2.1 hd hne (K p e s m args below meth c H locs ls R kc ns C hP hS hX hl hR)
theorem R_iushr {x y : Int32} (hd : decode M.2.1 pc = .ok (.iushr, 1))  (K : Rj l E d M (pc + 1) lv (.int (x.toUInt32 >>> (y.toUInt32 &&& Int32.toUInt32 31)).toInt32 :: st) μ Q) : Rj l E d M pc lv (.int y :: .int x :: st) μ Q := by
  intro p e s m args below meth c H locs ls R kc ns C hP hS hX hl hR
  exact lv_iushr C.1 C.2.1 hd rfl (K p e s m args below meth c H locs ls R kc ns C hP hS hX hl hR)
theorem R_i2l {x : Int32} (hd : decode M.2.1 pc = .ok (.i2l, 1))  (K : Rj l E d M (pc + 1) lv (.long x.toInt64 :: st) μ Q) : Rj l E d M pc lv (.int x :: st) μ Q := by
  intro p e s m args below meth c H locs ls R kc ns C hP hS hX hl hR
  exact lv_i2l C.1 C.2.1 hd rfl (K p e s m args below meth c H locs ls R kc ns C hP hS hX hl hR)
theorem R_l2i {x : Int64} (hd : decode M.2.1 pc = .ok (.l2i, 1))  (K : Rj l E d M (pc + 1) lv (.int x.toInt32 :: st) μ Q) : Rj l E d M pc lv (.long x :: st) μ Q := by
  intro p e s m args below meth c H locs ls R kc ns C hP hS hX hl hR
  exact lv_l2i C.1 C.2.1 hd rfl (K p e s m args below meth c H locs ls R kc ns C hP hS hX hl hR)
theorem R_i2b {x : Int32} (hd : decode M.2.1 pc = .ok (.i2b, 1))  (K : Rj l E d M (pc + 1) lv (.int x.toInt8.toInt32 :: st) μ Q) : Rj l E d M pc lv (.int x :: st) μ Q := by
  intro p e s m args below meth c H locs ls R kc ns C hP hS hX hl hR
  exact lv_i2b C.1 C.2.1 hd rfl (K p e s m args below meth c H locs ls R kc ns C hP hS hX hl hR)
theorem R_i2s {x : Int32} (hd : decode M.2.1 pc = .ok (.i2s, 1))  (K : Rj l E d M (pc + 1) lv (.int x.toInt16.toInt32 :: st) μ Q) : Rj l E d M pc lv (.int x :: st) μ Q := by
  intro p e s m args below meth c H locs ls R kc ns C hP hS hX hl hR
  exact lv_i2s C.1 C.2.1 hd rfl (K p e s m args below meth c H locs ls R kc ns C hP hS hX hl hR)
theorem R_lmul {x y : Int64} (hd : decode M.2.1 pc = .ok (.lmul, 1))  (K : Rj l E d M (pc + 1) lv (.long (x * y) :: st) μ Q) : Rj l E d M pc lv (.long y :: .long x :: st) μ Q := by
  intro p e s m args below meth c H locs ls R kc ns C hP hS hX hl hR
  exact lv_lmul C.1 C.2.1 hd (K p e s m args below meth c H locs ls R kc ns C hP hS hX hl hR)
theorem R_land {x y : Int64} (hd : decode M.2.1 pc = .ok (.land, 1))  (K : Rj l E d M (pc + 1) lv (.long (x &&& y) :: st) μ Q) : Rj l E d M pc lv (.long y :: .long x :: st) μ Q := by
  intro p e s m args below meth c H locs ls R kc ns C hP hS hX hl hR
  exact lv_land C.1 C.2.1 hd (K p e s m args below meth c H locs ls R kc ns C hP hS hX hl hR)
theorem R_lor {x y : Int64} (hd : decode M.2.1 pc = .ok (.lor, 1))  (K : Rj l E d M (pc + 1) lv (.long (x ||| y) :: st) μ Q) : Rj l E d M pc lv (.long y :: .long x :: st) μ Q := by
  intro p e s m args below meth c H locs ls R kc ns C hP hS hX hl hR
  exact lv_lor C.1 C.2.1 hd (K p e s m args below meth c H locs ls R kc ns C hP hS hX hl hR)
theorem R_ldiv {x y : Int64} (hd : decode M.2.1 pc = .ok (.ldiv, 1)) (hne : ¬ y = 0) (K : Rj l E d M (pc + 1) lv (.long (x / y) :: st) μ Q) : Rj l E d M pc lv (.long y :: .long x :: st) μ Q := by
  intro p e s m args below meth c H locs ls R kc ns C hP hS hX hl hR
  exact lv_ldiv C.1 C.2.1 hd hne (K p e s m args below meth c H locs ls R kc ns C hP hS hX hl hR)
theorem R_lushr {x : Int64} {y : Int32} (hd : decode M.2.1 pc = .ok (.lushr, 1))  (K : Rj l E d M (pc + 1) lv (.long (x.toUInt64 >>> (y.toInt64.toUInt64 &&& Int64.toUInt64 63)).toInt64 :: st) μ Q) : Rj l E d M pc lv (.int y :: .long x :: st) μ Q := by
  intro p e s m args below meth c H locs ls R kc ns C hP hS hX hl hR
  exact lv_lushr C.1 C.2.1 hd rfl (K p e s m args below meth c H locs ls R kc ns C hP hS hX hl hR)
theorem R_lshl {x : Int64} {y : Int32} (hd : decode M.2.1 pc = .ok (.lshl, 1))  (K : Rj l E d M (pc + 1) lv (.long (x <<< (y.toInt64 &&& 63)) :: st) μ Q) : Rj l E d M pc lv (.int y :: .long x :: st) μ Q := by
  intro p e s m args below meth c H locs ls R kc ns C hP hS hX hl hR
  exact lv_lshl C.1 C.2.1 hd rfl (K p e s m args below meth c H locs ls R kc ns C hP hS hX hl hR)
theorem R_lshr {x : Int64} {y : Int32} (hd : decode M.2.1 pc = .ok (.lshr, 1))  (K : Rj l E d M (pc + 1) lv (.long (x >>> (y.toInt64 &&& 63)) :: st) μ Q) : Rj l E d M pc lv (.int y :: .long x :: st) μ Q := by
  intro p e s m args below meth c H locs ls R kc ns C hP hS hX hl hR
  exact lv_lshr C.1 C.2.1 hd rfl (K p e s m args below meth c H locs ls R kc ns C hP hS hX hl hR)
theorem R_iconst {n : Int} {v : Int32} (hd : decode M.2.1 pc = .ok (.iconst n, 1)) (hv : Int32.ofInt n = v) (K : Rj l E d M (pc + 1) lv (.int v :: st) μ Q) : Rj l E d M pc lv (st) μ Q := by
  intro p e s m args below meth c H locs ls R kc ns C hP hS hX hl hR
  exact lv_iconst C.1 C.2.1 hd hv (K p e s m args below meth c H locs ls R kc ns C hP hS hX hl hR)
theorem R_bipush {n : Int} {v : Int32} (hd : decode M.2.1 pc = .ok (.bipush n, 2)) (hv : (Int8.ofInt n).toInt32 = v) (K : Rj l E d M (pc + 2) lv (.int v :: st) μ Q) : Rj l E d M pc lv (st) μ Q := by
  intro p e s m args below meth c H locs ls R kc ns C hP hS hX hl hR
  exact lv_bipush C.1 C.2.1 hd hv (K p e s m args below meth c H locs ls R kc ns C hP hS hX hl hR)
theorem R_sipush {n : Int} {v : Int32} (hd : decode M.2.1 pc = .ok (.sipush n, 3)) (hv : (Int16.ofInt n).toInt32 = v) (K : Rj l E d M (pc + 3) lv (.int v :: st) μ Q) : Rj l E d M pc lv (st) μ Q := by
  intro p e s m args below meth c H locs ls R kc ns C hP hS hX hl hR
  exact lv_sipush C.1 C.2.1 hd hv (K p e s m args below meth c H locs ls R kc ns C hP hS hX hl hR)
theorem R_ldc {i : Nat} {v : Int32} (hd : decode M.2.1 pc = .ok (.ldc i, 2)) (hw : Cond.constant M.1 i v ∈ tb) (K : Rj l E d M (pc + 2) lv (.int v :: st) μ Q) : Rj l E d M pc lv (st) μ Q := by
  intro p e s m args below meth c H locs ls R kc ns C hP hS hX hl hR
  exact lv_ldc C.1 C.2.1 C.2.2.2.2.2.1 (C.2.2.2.2.2.2.1 _ hw) hd (K p e s m args below meth c H locs ls R kc ns C hP hS hX hl hR)
theorem R_ldcw {i : Nat} {v : Int32} (hd : decode M.2.1 pc = .ok (.ldc_w i, 3)) (hw : Cond.constant M.1 i v ∈ tb) (K : Rj l E d M (pc + 3) lv (.int v :: st) μ Q) : Rj l E d M pc lv (st) μ Q := by
  intro p e s m args below meth c H locs ls R kc ns C hP hS hX hl hR
  exact lv_ldcw C.1 C.2.1 C.2.2.2.2.2.1 (C.2.2.2.2.2.2.1 _ hw) hd (K p e s m args below meth c H locs ls R kc ns C hP hS hX hl hR)
theorem R_ldc2 {i : Nat} {v : Int64} (hd : decode M.2.1 pc = .ok (.ldc2_w i, 3)) (hw : Cond.constantLong M.1 i v ∈ tb) (K : Rj l E d M (pc + 3) lv (.long v :: st) μ Q) : Rj l E d M pc lv (st) μ Q := by
  intro p e s m args below meth c H locs ls R kc ns C hP hS hX hl hR
  exact lv_ldc2 C.1 C.2.1 C.2.2.2.2.2.1 (C.2.2.2.2.2.2.1 _ hw) hd (K p e s m args below meth c H locs ls R kc ns C hP hS hX hl hR)
theorem R_dup {v : Value} (hd : decode M.2.1 pc = .ok (.dup, 1)) (hc : v.category = 1) (K : Rj l E d M (pc + 1) lv (v :: v :: st) μ Q) : Rj l E d M pc lv (v :: st) μ Q := by
  intro p e s m args below meth c H locs ls R kc ns C hP hS hX hl hR
  exact lv_dup C.1 C.2.1 hd (by rw [tr_cat]; exact hc) (K p e s m args below meth c H locs ls R kc ns C hP hS hX hl hR)
theorem R_pop {v : Value} (hd : decode M.2.1 pc = .ok (.pop, 1)) (hc : v.category = 1) (K : Rj l E d M (pc + 1) lv (st) μ Q) : Rj l E d M pc lv (v :: st) μ Q := by
  intro p e s m args below meth c H locs ls R kc ns C hP hS hX hl hR
  exact lv_pop C.1 C.2.1 hd (by rw [tr_cat]; exact hc) (K p e s m args below meth c H locs ls R kc ns C hP hS hX hl hR)
theorem R_dup2 {v w : Value} (hd : decode M.2.1 pc = .ok (.dup2, 1)) (hc : v.category = 1) (hw : w.category = 1) (K : Rj l E d M (pc + 1) lv (v :: w :: v :: w :: st) μ Q) : Rj l E d M pc lv (v :: w :: st) μ Q := by
  intro p e s m args below meth c H locs ls R kc ns C hP hS hX hl hR
  exact lv_dup2_11 C.1 C.2.1 hd (by rw [tr_cat]; exact hc) (by rw [tr_cat]; exact hw) (K p e s m args below meth c H locs ls R kc ns C hP hS hX hl hR)
theorem R_iload_n {k : Fin 4} {x : Int32} (hd : decode M.2.1 pc = .ok (.iload_n k, 1)) (i : Nat) (hi : (k : Nat) = i) (hv : lv[i]? = some (some (.int x))) (K : Rj l E d M (pc + 1) lv (.int x :: st) μ Q) : Rj l E d M pc lv (st) μ Q := by
  intro p e s m args below meth c H locs ls R kc ns C hP hS hX hl hR
  exact lv_iload_n C.1 C.2.1 hd hi (hl.2.2 i _ hv) (K p e s m args below meth c H locs ls R kc ns C hP hS hX hl hR)
theorem R_iload {i : Nat} {x : Int32} (hd : decode M.2.1 pc = .ok (.iload i, 2)) (hv : lv[i]? = some (some (.int x))) (K : Rj l E d M (pc + 2) lv (.int x :: st) μ Q) : Rj l E d M pc lv (st) μ Q := by
  intro p e s m args below meth c H locs ls R kc ns C hP hS hX hl hR
  exact lv_iload C.1 C.2.1 hd (hl.2.2 i _ hv) (K p e s m args below meth c H locs ls R kc ns C hP hS hX hl hR)
theorem R_lload_n {k : Fin 4} {x : Int64} (hd : decode M.2.1 pc = .ok (.lload_n k, 1)) (i : Nat) (hi : (k : Nat) = i) (hv : lv[i]? = some (some (.long x))) (K : Rj l E d M (pc + 1) lv (.long x :: st) μ Q) : Rj l E d M pc lv (st) μ Q := by
  intro p e s m args below meth c H locs ls R kc ns C hP hS hX hl hR
  exact lv_lload_n C.1 C.2.1 hd hi (hl.2.2 i _ hv) (K p e s m args below meth c H locs ls R kc ns C hP hS hX hl hR)
theorem R_aload_n {k : Fin 4} {x : Nat} (hd : decode M.2.1 pc = .ok (.aload_n k, 1)) (i : Nat) (hi : (k : Nat) = i) (hv : lv[i]? = some (some (.ref x))) (K : Rj l E d M (pc + 1) lv (.ref x :: st) μ Q) : Rj l E d M pc lv (st) μ Q := by
  intro p e s m args below meth c H locs ls R kc ns C hP hS hX hl hR
  exact lv_aload_n C.1 C.2.1 hd hi (hl.2.2 i _ hv) (K p e s m args below meth c H locs ls R kc ns C hP hS hX hl hR)
theorem R_aload {i : Nat} {x : Nat} (hd : decode M.2.1 pc = .ok (.aload i, 2)) (hv : lv[i]? = some (some (.ref x))) (K : Rj l E d M (pc + 2) lv (.ref x :: st) μ Q) : Rj l E d M pc lv (st) μ Q := by
  intro p e s m args below meth c H locs ls R kc ns C hP hS hX hl hR
  exact lv_aload C.1 C.2.1 hd (hl.2.2 i _ hv) (K p e s m args below meth c H locs ls R kc ns C hP hS hX hl hR)
theorem R_istore_n {k : Fin 4} {x : Int32} (hd : decode M.2.1 pc = .ok (.istore_n k, 1)) (i : Nat) (hi : (k : Nat) = i) (hm : i < M.2.2.1) (hn : nol lv i = true) (hs : lv.set i (some (.int x)) = lv') (K : Rj l E d M (pc + 1) lv' st μ Q) : Rj l E d M pc lv (.int x :: st) μ Q := by
  intro p e s m args below meth c H locs ls R kc ns C hP hS hX hl hR
  exact lv_istore_n C.1 C.2.1 hd hi (lo_has hl) hm rfl (fun ls1 h1 => K p e s m args below meth c H locs ls1 R kc ns C hP hS hX (by rw [← hs]; exact lo_set (v := .int x) h1 hn) hR)
theorem R_istore {i : Nat} {x : Int32} (hd : decode M.2.1 pc = .ok (.istore i, 2)) (hm : i < M.2.2.1) (hn : nol lv i = true) (hs : lv.set i (some (.int x)) = lv') (K : Rj l E d M (pc + 2) lv' st μ Q) : Rj l E d M pc lv (.int x :: st) μ Q := by
  intro p e s m args below meth c H locs ls R kc ns C hP hS hX hl hR
  exact lv_istore C.1 C.2.1 hd (lo_has hl) hm rfl (fun ls1 h1 => K p e s m args below meth c H locs ls1 R kc ns C hP hS hX (by rw [← hs]; exact lo_set (v := .int x) h1 hn) hR)
theorem R_astore_n {k : Fin 4} {x : Nat} (hd : decode M.2.1 pc = .ok (.astore_n k, 1)) (i : Nat) (hi : (k : Nat) = i) (hm : i < M.2.2.1) (hn : nol lv i = true) (hs : lv.set i (some (.ref x)) = lv') (K : Rj l E d M (pc + 1) lv' st μ Q) : Rj l E d M pc lv (.ref x :: st) μ Q := by
  intro p e s m args below meth c H locs ls R kc ns C hP hS hX hl hR
  exact lv_astore_n C.1 C.2.1 hd hi (lo_has hl) hm rfl (fun ls1 h1 => K p e s m args below meth c H locs ls1 R kc ns C hP hS hX (by rw [← hs]; exact lo_set (v := .ref x) h1 hn) hR)
theorem R_astore {i : Nat} {x : Nat} (hd : decode M.2.1 pc = .ok (.astore i, 2)) (hm : i < M.2.2.1) (hn : nol lv i = true) (hs : lv.set i (some (.ref x)) = lv') (K : Rj l E d M (pc + 2) lv' st μ Q) : Rj l E d M pc lv (.ref x :: st) μ Q := by
  intro p e s m args below meth c H locs ls R kc ns C hP hS hX hl hR
  exact lv_astore C.1 C.2.1 hd (lo_has hl) hm rfl (fun ls1 h1 => K p e s m args below meth c H locs ls1 R kc ns C hP hS hX (by rw [← hs]; exact lo_set (v := .ref x) h1 hn) hR)
theorem R_iinc {i : Nat} {n : Int} {x v : Int32} (hd : decode M.2.1 pc = .ok (.iinc i n, 3)) (hm : i < M.2.2.1) (hn : nol lv i = true) (hx : lv[i]? = some (some (.int x))) (hv : Int32.ofInt n = v) (hs : lv.set i (some (.int (x + v))) = lv') (K : Rj l E d M (pc + 3) lv' st μ Q) : Rj l E d M pc lv st μ Q := by
  intro p e s m args below meth c H locs ls R kc ns C hP hS hX hl hR
  subst hv
  obtain ⟨k, hk⟩ := List.getElem?_of_mem (plq_in (E := E) hx)
  exact lv_iinc C.1 C.2.1 hd (lo_has hl) hk rfl hm rfl (fun ls1 h1 => K p e s m args below meth c H locs ls1 R kc ns C hP hS hX (by rw [← hs]; exact lo_set (v := .int (x + Int32.ofInt n)) h1 hn) hR)
theorem R_ifeq {x : Int32} {off : Int} {tgt : Nat} (hd : decode M.2.1 pc = .ok (.ifCond .eq off, 3)) (ht : (pc : Int) + off = (tgt : Int)) (kt : x = 0 → Rj l E d M tgt lv st μ Q) (kf : ¬ (x = 0) → Rj l E d M (pc + 3) lv st μ Q) : Rj l E d M pc lv (.int x :: st) μ Q := by
  intro p e s m args below meth c H locs ls R kc ns C hP hS hX hl hR
  exact lv_if_eq C.1 C.2.1 hd ht (fun h => kt h p e s m args below meth c H locs ls R kc ns C hP hS hX hl hR) (fun h => kf h p e s m args below meth c H locs ls R kc ns C hP hS hX hl hR)
theorem R_cmpeq {x y : Int32} {off : Int} {tgt : Nat} (hd : decode M.2.1 pc = .ok (.if_icmp .eq off, 3)) (ht : (pc : Int) + off = (tgt : Int)) (kt : x = y → Rj l E d M tgt lv st μ Q) (kf : ¬ (x = y) → Rj l E d M (pc + 3) lv st μ Q) : Rj l E d M pc lv (.int y :: .int x :: st) μ Q := by
  intro p e s m args below meth c H locs ls R kc ns C hP hS hX hl hR
  exact lv_icmp_eq C.1 C.2.1 hd ht (fun h => kt h p e s m args below meth c H locs ls R kc ns C hP hS hX hl hR) (fun h => kf h p e s m args below meth c H locs ls R kc ns C hP hS hX hl hR)
theorem R_ifne {x : Int32} {off : Int} {tgt : Nat} (hd : decode M.2.1 pc = .ok (.ifCond .ne off, 3)) (ht : (pc : Int) + off = (tgt : Int)) (kt : ¬ x = 0 → Rj l E d M tgt lv st μ Q) (kf : x = 0 → Rj l E d M (pc + 3) lv st μ Q) : Rj l E d M pc lv (.int x :: st) μ Q := by
  intro p e s m args below meth c H locs ls R kc ns C hP hS hX hl hR
  exact lv_if_ne C.1 C.2.1 hd ht (fun h => kt h p e s m args below meth c H locs ls R kc ns C hP hS hX hl hR) (fun h => kf h p e s m args below meth c H locs ls R kc ns C hP hS hX hl hR)
theorem R_cmpne {x y : Int32} {off : Int} {tgt : Nat} (hd : decode M.2.1 pc = .ok (.if_icmp .ne off, 3)) (ht : (pc : Int) + off = (tgt : Int)) (kt : ¬ x = y → Rj l E d M tgt lv st μ Q) (kf : x = y → Rj l E d M (pc + 3) lv st μ Q) : Rj l E d M pc lv (.int y :: .int x :: st) μ Q := by
  intro p e s m args below meth c H locs ls R kc ns C hP hS hX hl hR
  exact lv_icmp_ne C.1 C.2.1 hd ht (fun h => kt h p e s m args below meth c H locs ls R kc ns C hP hS hX hl hR) (fun h => kf h p e s m args below meth c H locs ls R kc ns C hP hS hX hl hR)
theorem R_iflt {x : Int32} {off : Int} {tgt : Nat} (hd : decode M.2.1 pc = .ok (.ifCond .lt off, 3)) (ht : (pc : Int) + off = (tgt : Int)) (kt : x < 0 → Rj l E d M tgt lv st μ Q) (kf : ¬ (x < 0) → Rj l E d M (pc + 3) lv st μ Q) : Rj l E d M pc lv (.int x :: st) μ Q := by
  intro p e s m args below meth c H locs ls R kc ns C hP hS hX hl hR
  exact lv_if_lt C.1 C.2.1 hd ht (fun h => kt h p e s m args below meth c H locs ls R kc ns C hP hS hX hl hR) (fun h => kf h p e s m args below meth c H locs ls R kc ns C hP hS hX hl hR)
theorem R_cmplt {x y : Int32} {off : Int} {tgt : Nat} (hd : decode M.2.1 pc = .ok (.if_icmp .lt off, 3)) (ht : (pc : Int) + off = (tgt : Int)) (kt : x < y → Rj l E d M tgt lv st μ Q) (kf : ¬ (x < y) → Rj l E d M (pc + 3) lv st μ Q) : Rj l E d M pc lv (.int y :: .int x :: st) μ Q := by
  intro p e s m args below meth c H locs ls R kc ns C hP hS hX hl hR
  exact lv_icmp_lt C.1 C.2.1 hd ht (fun h => kt h p e s m args below meth c H locs ls R kc ns C hP hS hX hl hR) (fun h => kf h p e s m args below meth c H locs ls R kc ns C hP hS hX hl hR)
theorem R_ifge {x : Int32} {off : Int} {tgt : Nat} (hd : decode M.2.1 pc = .ok (.ifCond .ge off, 3)) (ht : (pc : Int) + off = (tgt : Int)) (kt : 0 ≤ x → Rj l E d M tgt lv st μ Q) (kf : ¬ (0 ≤ x) → Rj l E d M (pc + 3) lv st μ Q) : Rj l E d M pc lv (.int x :: st) μ Q := by
  intro p e s m args below meth c H locs ls R kc ns C hP hS hX hl hR
  exact lv_if_ge C.1 C.2.1 hd ht (fun h => kt h p e s m args below meth c H locs ls R kc ns C hP hS hX hl hR) (fun h => kf h p e s m args below meth c H locs ls R kc ns C hP hS hX hl hR)
theorem R_cmpge {x y : Int32} {off : Int} {tgt : Nat} (hd : decode M.2.1 pc = .ok (.if_icmp .ge off, 3)) (ht : (pc : Int) + off = (tgt : Int)) (kt : y ≤ x → Rj l E d M tgt lv st μ Q) (kf : ¬ (y ≤ x) → Rj l E d M (pc + 3) lv st μ Q) : Rj l E d M pc lv (.int y :: .int x :: st) μ Q := by
  intro p e s m args below meth c H locs ls R kc ns C hP hS hX hl hR
  exact lv_icmp_ge C.1 C.2.1 hd ht (fun h => kt h p e s m args below meth c H locs ls R kc ns C hP hS hX hl hR) (fun h => kf h p e s m args below meth c H locs ls R kc ns C hP hS hX hl hR)
theorem R_ifgt {x : Int32} {off : Int} {tgt : Nat} (hd : decode M.2.1 pc = .ok (.ifCond .gt off, 3)) (ht : (pc : Int) + off = (tgt : Int)) (kt : 0 < x → Rj l E d M tgt lv st μ Q) (kf : ¬ (0 < x) → Rj l E d M (pc + 3) lv st μ Q) : Rj l E d M pc lv (.int x :: st) μ Q := by
  intro p e s m args below meth c H locs ls R kc ns C hP hS hX hl hR
  exact lv_if_gt C.1 C.2.1 hd ht (fun h => kt h p e s m args below meth c H locs ls R kc ns C hP hS hX hl hR) (fun h => kf h p e s m args below meth c H locs ls R kc ns C hP hS hX hl hR)
theorem R_cmpgt {x y : Int32} {off : Int} {tgt : Nat} (hd : decode M.2.1 pc = .ok (.if_icmp .gt off, 3)) (ht : (pc : Int) + off = (tgt : Int)) (kt : y < x → Rj l E d M tgt lv st μ Q) (kf : ¬ (y < x) → Rj l E d M (pc + 3) lv st μ Q) : Rj l E d M pc lv (.int y :: .int x :: st) μ Q := by
  intro p e s m args below meth c H locs ls R kc ns C hP hS hX hl hR
  exact lv_icmp_gt C.1 C.2.1 hd ht (fun h => kt h p e s m args below meth c H locs ls R kc ns C hP hS hX hl hR) (fun h => kf h p e s m args below meth c H locs ls R kc ns C hP hS hX hl hR)
theorem R_ifle {x : Int32} {off : Int} {tgt : Nat} (hd : decode M.2.1 pc = .ok (.ifCond .le off, 3)) (ht : (pc : Int) + off = (tgt : Int)) (kt : x ≤ 0 → Rj l E d M tgt lv st μ Q) (kf : ¬ (x ≤ 0) → Rj l E d M (pc + 3) lv st μ Q) : Rj l E d M pc lv (.int x :: st) μ Q := by
  intro p e s m args below meth c H locs ls R kc ns C hP hS hX hl hR
  exact lv_if_le C.1 C.2.1 hd ht (fun h => kt h p e s m args below meth c H locs ls R kc ns C hP hS hX hl hR) (fun h => kf h p e s m args below meth c H locs ls R kc ns C hP hS hX hl hR)
theorem R_cmple {x y : Int32} {off : Int} {tgt : Nat} (hd : decode M.2.1 pc = .ok (.if_icmp .le off, 3)) (ht : (pc : Int) + off = (tgt : Int)) (kt : x ≤ y → Rj l E d M tgt lv st μ Q) (kf : ¬ (x ≤ y) → Rj l E d M (pc + 3) lv st μ Q) : Rj l E d M pc lv (.int y :: .int x :: st) μ Q := by
  intro p e s m args below meth c H locs ls R kc ns C hP hS hX hl hR
  exact lv_icmp_le C.1 C.2.1 hd ht (fun h => kt h p e s m args below meth c H locs ls R kc ns C hP hS hX hl hR) (fun h => kf h p e s m args below meth c H locs ls R kc ns C hP hS hX hl hR)
theorem R_goto {off : Int} {tgt : Nat} (hd : decode M.2.1 pc = .ok (.goto off, 3)) (ht : (pc : Int) + off = (tgt : Int)) (K : Rj l E d M tgt lv st μ Q) : Rj l E d M pc lv st μ Q := by
  intro p e s m args below meth c H locs ls R kc ns C hP hS hX hl hR
  exact lv_goto C.1 C.2.1 hd ht (K p e s m args below meth c H locs ls R kc ns C hP hS hX hl hR)
theorem R_lookup {dflt : Int} {ps : Array (Int × Int)} {n : Nat} {x : Int32} {off : Int} {tgt : Nat} (hd : decode M.2.1 pc = .ok (.lookupswitch dflt ps, n)) (hp : (ps.toList.zip (ps.toList.drop 1)).all (fun (a, next) => a.1 < next.1) = true) (ho : Op.lookupswitch.offset ps.toList dflt x.toInt = off) (ht : (pc : Int) + off = (tgt : Int)) (K : Rj l E d M tgt lv st μ Q) : Rj l E d M pc lv (.int x :: st) μ Q := by
  intro p e s m args below meth c H locs ls R kc ns C hP hS hX hl hR
  exact lv_lookup C.1 C.2.1 hd hp ho ht (K p e s m args below meth c H locs ls R kc ns C hP hS hX hl hR)
theorem R_tabOut {dflt lo hi : Int} {offs : Array Int} {n : Nat} {x : Int32} {tgt : Nat} (hd : decode M.2.1 pc = .ok (.tableswitch dflt lo hi offs, n)) (h : x.toInt < lo ∨ hi < x.toInt) (ht : (pc : Int) + dflt = (tgt : Int)) (K : Rj l E d M tgt lv st μ Q) : Rj l E d M pc lv (.int x :: st) μ Q := by
  intro p e s m args below meth c H locs ls R kc ns C hP hS hX hl hR
  exact lv_tableOut C.1 C.2.1 hd h ht (K p e s m args below meth c H locs ls R kc ns C hP hS hX hl hR)
theorem R_tabIn {dflt lo hi : Int} {offs : Array Int} {n : Nat} {x : Int32} {off : Int} {tgt : Nat} (hd : decode M.2.1 pc = .ok (.tableswitch dflt lo hi offs, n)) (h1 : ¬ x.toInt < lo) (h2 : ¬ hi < x.toInt) (ho : offs[(x.toInt - lo).toNat]? = some off) (ht : (pc : Int) + off = (tgt : Int)) (K : Rj l E d M tgt lv st μ Q) : Rj l E d M pc lv (.int x :: st) μ Q := by
  intro p e s m args below meth c H locs ls R kc ns C hP hS hX hl hR
  exact lv_tableIn C.1 C.2.1 hd h1 h2 ho ht (K p e s m args below meth c H locs ls R kc ns C hP hS hX hl hR)
theorem R_end {Q : Option Value → mm → Prop} {p : Program} {s : State} {m : MethodId} {args : Array Value} {meth : Method} {c : Code} {H : Heap} {locs : List Loc} {v : Option Value} (C : Cx E M p s m args meth c) (hP : va_P E.2.1 vwCl (wo E μ) H) (hS : va_S (Ar E) s.heap H locs) (hX : Xf E s s.heap) (hq : Q v μ) : ∀ t : State, t.heap = H → s.WarmedH t.vm → Qm E Q args s (.returned (v.map (tr E))) t := by
  intro t ht hw
  have hg := C.2.2.2.2.2.2.2.2
  exact ⟨v, μ, rfl, ⟨hg, by rw [ht]; exact hP, va_K.moved hw.alike C.2.2.2.2.2.2.2.1, by rw [ht]; exact Xf_warm hw (Xf_kept hS.2.1 hX)⟩, hS.F ht, hq⟩
theorem R_iret {x : Int32} (hr : M.2.2.2 = some .int) (hd : decode M.2.1 pc = .ok (.ireturn, 1)) (hq : Q (some (.int x)) μ) : Rj l E d M pc lv [.int x] μ Q := by
  intro p e s m args below meth c H locs ls R kc ns C hP hS hX hl hR
  exact W.iret C.1 C.2.1 (C.2.2.2.1.trans hr) (R_end C hP hS hX hq) (fun q h => hS.2.2 q h) hd C.2.2.2.2.1
theorem R_zret {x : Int32} (hr : M.2.2.2 = some .boolean) (hn : narrow .boolean (.int x) = .int x) (hd : decode M.2.1 pc = .ok (.ireturn, 1)) (hq : Q (some (.int x)) μ) : Rj l E d M pc lv [.int x] μ Q := by
  intro p e s m args below meth c H locs ls R kc ns C hP hS hX hl hR
  exact W.zret C.1 C.2.1 (C.2.2.2.1.trans hr) hn (R_end C hP hS hX hq) (fun q h => hS.2.2 q h) hd C.2.2.2.2.1
theorem R_vret (hr : M.2.2.2 = none) (hd : decode M.2.1 pc = .ok (.return_, 1)) (hq : Q none μ) : Rj l E d M pc lv [] μ Q := by
  intro p e s m args below meth c H locs ls R kc ns C hP hS hX hl hR
  exact W.vret C.1 C.2.1 (C.2.2.2.1.trans hr) (R_end C hP hS hX hq) (fun q h => hS.2.2 q h) hd C.2.2.2.2.1
end RR

