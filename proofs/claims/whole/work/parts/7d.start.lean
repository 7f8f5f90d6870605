/-! THE CLAIM OUT OF ONE WALK OF THE LAW'S BODY. Your part is whole_start (and what it stands on); all else here is the same for every law, but numbers. -/
def R_law : String := "LongStrikeLaw"
def lw_P (b : Addr) (xs : List Int32) (args : Array Value) (s : State) : Prop := args = #[.ref b] ∧ s.IntsAt b xs ∧ xs.length ≤ 3072 ∧ (Jvm.Cond.and given_1 narrow_1).before args s = true
def lw_Q (_ : Array Value) (s : State) (o : Outcome) (t : State) : Prop := o = .returned (some (.int 1)) ∧ Framed s o t [] 600000 7302249
def lw_Z (below : List Frame) (a : Array Value) (s : State) : State → Prop := fun t => ∃ o, t.status = .running ∧ Ended t below o ∧ lw_Q a s o t
/-- the law's own end, with 1 on the stack, nothing written that was there before, its room as the claim has it -/
theorem lw_ret {p : Program} {l : Launch} {e : Env} {s : State} {m : MethodId} {below : List Frame} {meth : Method} {c : Code} {b : Nat} (hx : p.tables.exec = Jvm.exec) (hb : c.code = code) (hr : meth.sig.returnType = ret) (hlocks : meth.locks = false) {pc : Nat} {H : Heap} {ls : Array Slot} (hdg : decode code pc = .ok (.ireturn, 1)) : W p l e room_1 s m #[Value.ref b] below meth c H [] 600000 7302249 (lw_Z below #[Value.ref b] s) (F0 m pc ls [.int 1]) := by
  intro T hT X
  obtain ⟨fs, hret, hrun, hended, hW, hframe⟩ := X.leave (v := some (.int 1)) (hlocks := hlocks) (fun h => by rw [hr] at h; cases h)
  have hmeth' : T.vm.method? m = some meth := X.method'
  refine ⟨T.setFrames fs, ?_, .returned (some (.int 1)), hrun, hended, rfl, ⟨_, rfl⟩, hW, hframe⟩
  jvm_step X.here [X.here.top, hx, hb, hdg, hmeth', hr, ret, narrow_b1]
  (try refine ⟨rfl, ?_⟩); (try refine ⟨rfl, ?_⟩)
  first | (intro acts; rw [hret _ acts rfl rfl rfl]) | rw [hret _ _ rfl rfl rfl]
  exact Steps.refl _
/-- what holds at the law's entry: the machine, the code, the tables' words (any of lw_tbl by 'hts w (by decide +kernel)'), the script of L ints xs at the cell b, what the Statement gives of the start (any of its parts by flat_of_before) -/
def lw_At (p : Program) (s : State) (m : MethodId) (meth : Method) (c : Code) (b L : Nat) (xs : Nat → Int32) : Prop :=
  p.tables.exec = Jvm.exec ∧ c.code = code ∧ meth.sig.returnType = ret ∧ c.maxLocals = 4 ∧ s.vm.findClass R_law = some m.cls ∧ (∀ w ∈ lw_tbl, w.before #[Value.ref b] s = true) ∧ va_X b L xs s s.heap ∧ b < s.heap.size ∧ meth.locks = false ∧ (Jvm.Cond.and given_1 narrow_1).before #[Value.ref b] s = true
/-! the whole law from its entry -/
theorem va_T_cg {ty : FieldType} {t N : Nat} {f g : Nat → Value} {A : Nat → Prop} {U : State} {H : Heap} (h : va_T ty t N f A U H) (e : ∀ j, j < N → f j = g j) : va_T ty t N g A U H := by
  obtain ⟨cell, h1, h2, h3, h4, h5, h6, h7⟩ := h
  exact ⟨cell, h1, h2, h3, h4, h5, fun j hj => by rw [← e j hj]; exact h6 j hj, h7⟩
set_option maxHeartbeats 4000000 in
set_option maxRecDepth 100000 in
theorem whole_start {p : Program} {e : Env} {s : State} {m : MethodId} {below : List Frame} {meth : Method} {c : Code} (l : Launch) (hflags : l.flags = flags0) {b L : Nat} {xs : Nat → Int32} (hL : L ≤ 3072) (C0 : lw_At p s m meth c b L xs) : W p l e room_1 s m #[Value.ref b] below meth c s.heap [] 0 0 (lw_Z below #[Value.ref b] s) (entryFrame m ([Value.ref b] : List Value).toArray 4) := by
  obtain ⟨hx, hb, hr, hml, hown, hts, hX, hbl, hlocks, hgv⟩ := id C0
  have gv : ∀ w ∈ gvw, w.before #[Value.ref b] s = true := flat_of_before _ hgv
  have htb : ∀ w ∈ tb, w.before #[Value.ref b] s = true := fun w hw => hts w (List.mem_filter.mp hw).1
  have hA : ∀ a : Nat, a < s.heap.size → ¬ (fun q : Nat => s.heap.size ≤ q) a := fun a h => Nat.not_le.mpr h
  obtain ⟨adK, adV, hSt, hev⟩ := vk_Sof (N := 19) (tm := tmS) (len := lenT) (byt := strT) (A := fun q => s.heap.size ≤ q) gs_le2 (fun i hi => gv _ (gs_ex i hi)) (fun i hi => gv _ (gs_co i hi)) (fun i hi => gv _ (gs_ar i hi)) (fun i hi => gv _ (gs_le i hi)) (fun i hi j hj => gv _ (gs_el i hi j hj)) (fun i j hi hj h => (gs_ne i j hi hj h).imp (gv _) (gv _)) hA
  obtain ⟨t0, ev0, hT0⟩ := va_Tof (tm := SO) (ty := .object "java/lang/String") (N := 7) (f := fun j => .ref (adK j)) (A := fun q => s.heap.size ≤ q) (by decide) (gv _ gs_so.1) (va_eqt (gv _ gs_so.2.1)) (fun j hj => eq_ref (gv _ (gs_so.2.2 j hj)) (hev j (by omega))) hA
  obtain ⟨t1, ev1, hT1⟩ := va_Tof (tm := FA) (ty := .object "java/lang/String") (N := 7) (f := fun j => .ref (adK (7 + j))) (A := fun q => s.heap.size ≤ q) (by decide) (gv _ gs_fa.1) (va_eqt (gv _ gs_fa.2.1)) (fun j hj => eq_ref (gv _ (gs_fa.2.2 j hj)) (hev (7 + j) (by omega))) hA
  obtain ⟨w1, w2, w3, w4, w5, w6, w7⟩ := gw_3
  have hZ0 : va_Z RX12 "SORTS" "[Ljava/lang/String;" (.ref t0) (fun q => s.heap.size ≤ q) s s.heap := va_Zof (hts _ w3) (hts _ w7) ev0 hA
  have hZ1 : va_Z RX12 "FACTS" "[Ljava/lang/String;" (.ref t1) (fun q => s.heap.size ≤ q) s s.heap := va_Zof (hts _ w4) (hts _ w7) ev1 hA
  have hZc : va_Z "java/lang/String" "COMPACT_STRINGS" "Z" (.int 1) (fun q => s.heap.size ≤ q) s s.heap := va_Zof (hts _ w1) (hts _ w5) (va_eqi (gv _ gs_st.1)) hA
  have hZq : va_Zq "jdk/internal/util/Preconditions" "SIOOBE_FORMATTER" "Ljava/util/function/BiFunction;" (fun q => s.heap.size ≤ q) s s.heap := va_Zqof (hts _ w2) (hts _ w6) (gv _ gs_st.2) hA
  obtain ⟨z4, hz4⟩ : ∃ z4 : Nat, va_Z "jdk/internal/util/Preconditions" "SIOOBE_FORMATTER" "Ljava/util/function/BiFunction;" .null (fun q => s.heap.size ≤ q) s s.heap ∨ va_Z "jdk/internal/util/Preconditions" "SIOOBE_FORMATTER" "Ljava/util/function/BiFunction;" (.ref z4) (fun q => s.heap.size ≤ q) s s.heap := by
    rcases hZq with h | ⟨t, h⟩
    · exact ⟨0, Or.inl h⟩
    · exact ⟨t, Or.inr h⟩
  obtain ⟨c0, i0, k0⟩ := u_known (C := RX0) (T := TX0) (N := 7) (n := 7) htb iw_0 (htb _ ist_0)
  obtain ⟨c1, i1, k1⟩ := u_known (C := RX1) (T := TX1) (N := 12) (n := 12) htb iw_1 (htb _ ist_1)
  obtain ⟨c2, i2, k2⟩ := u_known (C := RX2) (T := TX2) (N := 6) (n := 6) htb iw_2 (htb _ ist_2)
  obtain ⟨c3, i3, k3⟩ := u_known (C := RX3) (T := TX3) (N := 7) (n := 7) htb iw_3 (htb _ ist_3)
  obtain ⟨c4, i4, k4⟩ := u_known (C := RX4) (T := TX4) (N := 7) (n := 7) htb iw_4 (htb _ ist_4)
  obtain ⟨c5, i5, k5⟩ := u_known (C := RX5) (T := TX5) (N := 7) (n := 7) htb iw_5 (htb _ ist_5)
  obtain ⟨c6, i6, k6⟩ := u_known (C := RX6) (T := TX6) (N := 3) (n := 3) htb iw_6 (htb _ ist_6)
  obtain ⟨c7, i7, k7⟩ := u_known (C := RX7) (T := TX7) (N := 10) (n := 10) htb iw_7 (htb _ ist_7)
  obtain ⟨c8, i8, k8⟩ := u_known (C := RX8) (T := TX8) (N := 8) (n := 8) htb iw_8 (htb _ ist_8)
  obtain ⟨c9, i9, k9⟩ := u_known (C := RX9) (T := TX9) (N := 19) (n := 19) htb iw_9 (htb _ ist_9)
  obtain ⟨c10, i10, k10⟩ := u_known (C := RX10) (T := TX10) (N := 5) (n := 5) htb iw_10 (htb _ ist_10)
  obtain ⟨c11, i11, k11⟩ := u_known (C := RX11) (T := TX11) (N := 17) (n := 17) htb iw_11 (htb _ ist_11)
  obtain ⟨c12, i12, k12⟩ := u_known (C := RX12) (T := TX12) (N := 39) (n := 39) htb iw_12 (htb _ ist_12)
  obtain ⟨a20, p20, q20⟩ := ty_prim (htb _ aw_int)
  obtain ⟨a21, p21, q21⟩ := ty_prim (htb _ aw_byte)
  obtain ⟨a22, p22, q22⟩ := ty_prim (htb _ aw_boolean)
  obtain ⟨v4, v6, v1, v5, v0⟩ := gw_4
  obtain ⟨a23, p23, q23⟩ := ty_arr (hts _ v0)
  obtain ⟨a24, p24, q24⟩ := ty_obj (C := RX4) (hts _ v4)
  obtain ⟨a25, p25, q25⟩ := ty_obj (C := RX6) (hts _ v6)
  obtain ⟨a26, p26, q26⟩ := ty_obj (C := RX1) (hts _ v1)
  obtain ⟨a27, p27, q27⟩ := ty_obj (C := RX5) (hts _ v5)
  obtain ⟨E, hE1, hE2, hE3, hE4⟩ : ∃ E : ce, E.1 = adq s.heap.size t0 t1 z4 b adK adV ∧ E.2.1 = ((fun k => [c0, c1, c2, c3, c4, c5, c6, c7, c8, c9, c10, c11, c12].getD k c0), (fun k => [i0, i1, i2, i3, i4, i5, i6, i7, i8, i9, i10, i11, i12].getD k i0)) ∧ E.2.2.1 = (fun k => [a20, a21, a22, a23, a24, a25, a26, a27].getD (k - 20) a20) ∧ E.2.2.2 = (L, xs) := ⟨⟨_, _, _, _, _⟩, rfl, rfl, rfl, rfl⟩
  have hlow : ∀ a, a < 331 → E.1 a = s.heap.size + od a := fun a ha => by
    rw [hE1]
    exact if_pos ha
  have h23 : E.1 23 = s.heap.size := hlow 23 (by decide)
  have hGe : Ge E := fun a ha => by rw [hlow a ha, h23]
  have hGd : Gd E := fun a a' ha ha' e => by
    rw [hlow a ha, hlow a' ha'] at e
    have e2 : od a = od a' := by omega
    rw [← oi_od ha, e2, oi_od ha']
  have hAr : ∀ q, Ar E q → (fun q : Nat => s.heap.size ≤ q) q := fun q hq => by
    obtain ⟨a, ha, e⟩ := hq
    show s.heap.size ≤ q
    rw [e, hlow a ha]
    omega
  have hs : ∀ k, k < 19 → E.1 (1000 + k) = adK k := fun k hk => by
    rw [hE1]
    unfold adq
    rw [if_neg (by omega), if_pos (by omega), Nat.add_sub_cancel_left]
  have hv : ∀ k, k < 19 → E.1 (3000 + k) = adV k := fun k hk => by
    rw [hE1]
    unfold adq
    rw [if_neg (by omega), if_neg (by omega), if_neg (by omega), if_neg (by omega), if_pos (by omega), Nat.add_sub_cancel_left]
  have e2 : E.1 2000 = t0 := by rw [hE1]; rfl
  have e3 : E.1 2001 = t1 := by rw [hE1]; rfl
  have e4 : E.1 4000 = z4 := by rw [hE1]; rfl
  have e6 : E.1 6000 = b := by rw [hE1]; rfl
  have hK : va_K E.2.1 vwCl (tys E) s := by
    refine ⟨fun k q hq => ?_, fun k q hq => ?_⟩
    · rw [hE2]
      match k, hq with
      | 0, hq => cases hq; exact k0
      | 1, hq => cases hq; exact k1
      | 2, hq => cases hq; exact k2
      | 3, hq => cases hq; exact k3
      | 4, hq => cases hq; exact k4
      | 5, hq => cases hq; exact k5
      | 6, hq => cases hq; exact k6
      | 7, hq => cases hq; exact k7
      | 8, hq => cases hq; exact k8
      | 9, hq => cases hq; exact k9
      | 10, hq => cases hq; exact k10
      | 11, hq => cases hq; exact k11
      | 12, hq => cases hq; exact k12
      | k + 13, hq => simp [vwCl] at hq
    · unfold tys at hq
      rw [hE3] at hq
      match k, hq with
      | 0, hq => cases hq; exact ⟨p20, q20⟩
      | 1, hq => cases hq; exact ⟨p21, q21⟩
      | 2, hq => cases hq; exact ⟨p22, q22⟩
      | 3, hq => cases hq; exact ⟨p23, q23⟩
      | 4, hq => cases hq; exact ⟨p24, q24⟩
      | 5, hq => cases hq; exact ⟨p25, q25⟩
      | 6, hq => cases hq; exact ⟨p26, q26⟩
      | 7, hq => cases hq; exact ⟨p27, q27⟩
      | k + 8, hq => simp at hq
  have hXf : Xf E s s.heap := by
    refine ⟨fun w hw => va_Nw.of (nw_on w hw) (hts w (gw_1.1 w hw)), ?_, ⟨vk_R.of (hts _ gw_2.1) ?_, vk_R.of (hts _ gw_2.2.1) ?_, vk_R.of (hts _ gw_2.2.2.1) ?_, vk_R.of (hts _ gw_2.2.2.2.1) ?_, vk_R.of (hts _ gw_2.2.2.2.2) ?_⟩, hZc.narrow hAr, ?_, ?_, ?_, ?_, ?_, ?_, ?_⟩
    · obtain ⟨g1, g2⟩ := hSt.narrow hAr
      refine ⟨fun i hi => ?_, fun i j hi hj e => g2 i j hi hj ?_⟩
      · dsimp only
        rw [hs i hi, hv i hi]
        exact g1 i hi
      · rw [← hs i hi, ← hs j hj]
        exact e
    · rw [show E.1 1014 = adK 14 from hs 14 (by decide)]
      exact hev 14 (by decide)
    · rw [show E.1 1015 = adK 15 from hs 15 (by decide)]
      exact hev 15 (by decide)
    · rw [show E.1 1016 = adK 16 from hs 16 (by decide)]
      exact hev 16 (by decide)
    · rw [show E.1 1017 = adK 17 from hs 17 (by decide)]
      exact hev 17 (by decide)
    · rw [show E.1 1018 = adK 18 from hs 18 (by decide)]
      exact hev 18 (by decide)
    · rw [e4]
      exact hz4.imp (fun q => q.narrow hAr) (fun q => q.narrow hAr)
    · rw [e2]
      exact hZ0.narrow hAr
    · rw [e3]
      exact hZ1.narrow hAr
    · rw [e2]
      exact va_T_cg (hT0.narrow hAr) (fun j hj => by rw [hs j (by omega)])
    · rw [e3]
      exact va_T_cg (hT1.narrow hAr) (fun j hj => by rw [show 1007 + j = 1000 + (7 + j) by omega, hs (7 + j) (by omega)])
    · rw [e6]
      exact fun q => absurd (hAr b q) (Nat.not_le.mpr hbl)
    · rw [e6, hE4]
      exact hX
  have hYx : Yx s := ⟨⟨va_AO.of (hts _ v4), va_AO.of (hts _ v6), va_AO.of (hts _ v1), va_AO.of (hts _ v5), hts _ v0⟩, fun w hw => va_Nw.of (nwc_on w hw) (hts w (gw_1.2 w hw))⟩
  have hm : [Value.ref 6000].map (tr E) = [Value.ref b] := by
    show [Value.ref (E.1 6000)] = _
    rw [e6]
  have hl := lo_entry E [.ref 6000] (n := 4) (Nat.le_of_ble_eq_true rfl)
  rw [hm] at hl
  rw [lg_entry_eq]
  have K := n_law (l := l) hE4 hL p e s m #[Value.ref b] below meth c s.heap [] _ room_1 0 0 ⟨⟨hx, hb, hml, hr, hlocks, hown, htb, hK, hGd⟩, hGe, hYx, fun _ h => absurd rfl h, fun _ => ⟨hXf, h23.symm⟩⟩ ⟨fun k q h => by simp [wp] at h, va_S.rf, by omega, fun _ _ _ => rfl, ⟨by decide, List.nodup_nil, fun _ h => by cases h⟩, by omega⟩ hl ⟨by decide, by decide, by decide, by decide⟩
  intro T hT X
  obtain ⟨t, a1, o, b1, b2, ⟨v, μ', hvv, hWd, hF, hq⟩, L', b4, b5⟩ := K T hT X
  subst hq
  obtain ⟨h1, h2, h3⟩ := b4
  exact ⟨t, a1, o, b1, b2, hvv, h1, h2, h3.weaken (fun x hx hlt => absurd hlt (Nat.not_lt.mpr (by rw [← h23]; exact b5 x hx))) (by decide) (by decide)⟩
