/-! the start: the law's own first steps, over the half made world -/
theorem lc_7 : Cond.classLink RL 7 RX11 ∈ tb := tm_1 (List.mem_of_getElem? (i := 21) rfl) (by decide)
theorem lc_10 : Cond.classLink RL 10 RX12 ∈ tb := tm_6 (List.mem_of_getElem? (i := 87) rfl) (by decide)
theorem lm_9 : Cond.methodLink RL 9 yX11_init ∈ tb := tm_1 (List.mem_of_getElem? (i := 23) rfl) (by decide)
theorem lm_12 : Cond.methodLink RL 12 yX12_init ∈ tb := tm_6 (List.mem_of_getElem? (i := 89) rfl) (by decide)
set_option maxRecDepth 100000 in
theorem rf_o_b : ∀ b, b < 331 → ∀ k, k < (if kd b < 13 then nf (kd b) else len b) → rf b k < 331 := by decide +kernel
theorem celp_full {E : ce} {pd : List Nat} {μ : mm} {a : Nat} (ha : a < 331) (hpd : ∀ c ∈ pd, c = 23 ∨ c = 0) : celp E 331 pd μ a = cel E μ a := by
  unfold celp cel
  split
  · rename_i hc
    congr 2
    apply List.map_congr_left
    intro k hk
    have hk := List.mem_range.mp hk
    unfold fvp fv
    split
    · rename_i hi
      obtain ⟨-, -, h1, h2⟩ := pt_o a ha hc k hk hi
      rw [if_pos ⟨od_lt (rf_o_b a ha k (by rw [if_pos hc]; exact hk)), fun q => by
        rcases hpd _ q with q | q
        · exact h1 q
        · exact h2 q⟩]
    · rfl
  · split
    · rfl
    · rename_i hc h2
      congr 7
      funext i
      by_cases hi : i < len a
      · obtain ⟨-, -, h1, h2⟩ := pt_r a ha (by omega) i hi
        rw [if_pos hi, if_pos ⟨hi, od_lt (rf_o_b a ha i (by rw [if_neg hc]; exact hi)), fun q => by
          rcases hpd _ q with q | q
          · exact h1 q
          · exact h2 q⟩]
      · rw [if_neg hi, if_neg (fun q => hi q.1)]
theorem to_Rj {l : Launch} {E : ce} {d : Nat} {M : mt} {pc : Nat} {lv : List (Option Value)} {st : List Value} {pd : List Nat} {μ : mm} {Q : Option Value → mm → Prop} (hM : M.1 = "LongStrikeLaw") (hpd : ∀ c ∈ pd, c = 23 ∨ c = 0) (h : Rj l E d M pc lv st μ Q) : Rn l E d M pc lv st 331 pd μ 0 0 (Qm E Q) := by
  intro p e s m args below meth c H locs ls R kc ns C0 hB hl hR
  obtain ⟨hP, hS, hk, hz, hp, h0⟩ := hB
  obtain ⟨hX, hs⟩ := C0.2.2.2.2 hM
  have hG := C0.2.1
  have hAr : ∀ q, Ar E q → E.1 23 ≤ q := fun q hq => by
    obtain ⟨a, ha, e⟩ := hq
    rw [e, hG a ha]
    omega
  have hP' : va_P E.2.1 vwCl (wo E μ) H := by
    intro a q hq
    have ha := wo_out E μ hq
    rw [wo_at E μ ha] at hq
    cases hq
    have h1 := hP _ _ (wp_od E pd μ (Nat.le_refl 331) (od_lt ha))
    rw [celp_full ha hpd] at h1
    exact h1
  refine va_forget (fun q hq => by rw [hs]; exact hS.2.2 q hq) ?_
  have K := h p e s m args below meth c H [] ls R kc ns C0.1 hP' ⟨hS.1, fun q g1 g2 => hS.2.1 q g1 (fun g3 => by have g4 : E.1 23 ≤ q := g3; omega), fun q hq => by cases hq⟩ hX hl ⟨hR.1, hR.2.1, hR.2.2.1, hR.2.2.2⟩
  intro T hT X
  obtain ⟨t, a1, o, b1, b2, b3, L, b4, b5⟩ := K T hT X
  exact ⟨t, a1, o, b1, b2, b3, L, b4, fun q hq => hAr _ (b5 q hq)⟩
theorem lsm0 (b : Nat) (hb : b < 23) (k : Nat) : lsm b k = 0 := by
  unfold lsm
  rw [fl_ne (by omega), fl_ne (by omega), up_ne (by omega), vm_ne (by omega) (by omega), vm_ne (by omega) (by omega), vm_ne (by omega) (by omega)]
  rfl
set_option maxHeartbeats 2000000 in
theorem n_law {l : Launch} {E : ce} {L : Nat} {xs : Nat → Int32} (hE : E.2.2.2 = (L, xs)) (hL : L ≤ 3072) : Rn l E 32 m_L_law 0 [some (.ref 6000), none, none, none] [] 0 [] zm 331 10865 (Qm E (fun v _ => v = some (.int 1))) := by
  refine N_new (ci := 11) (a := 23) (C1 := RX11) (T := TX11) (N := 17) (rc := 330) (rs := 10848) (by decide) tyX11 tyX11_ok rfl (by decide) iw_11 rfl (by decide) lc_7 ist_11 izt_11 rfl rfl (dd dt_L_law_0 0 rfl) ?_
  refine N_dup (dd dt_L_law_0 1 rfl) rfl ?_
  refine N_call (d := 31) (mc := 307) (ms := 7051) (rc := 23) (rs := 3797) (c_11 (d := 29)) cal_11_init rfl rfl in_11_init lm_9 (by decide) rfl (by decide) (dd dt_L_law_0 2 rfl) ?_
  refine N_astore_n (lv' := [some (.ref 6000), some (.ref 23), none, none]) (dd dt_L_law_0 3 rfl) 1 rfl (by decide) rfl rfl ?_
  refine N_new (ci := 12) (a := 0) (C1 := RX12) (T := TX12) (N := 39) (rc := 22) (rs := 3758) (by decide) tyX12 tyX12_ok rfl (by decide) iw_12 rfl (by decide) lc_10 ist_12 izt_12 rfl rfl (dd dt_L_law_0 4 rfl) ?_
  refine N_dup (dd dt_L_law_0 5 rfl) rfl ?_
  refine N_call (d := 31) (mc := 22) (ms := 3758) (rc := 0) (rs := 0) (c_12 lsm0) cal_12_init rfl rfl in_12_init lm_12 (by decide) rfl (by decide) (dd dt_L_law_0 6 rfl) ?_
  refine N_astore_n (lv' := [some (.ref 6000), some (.ref 23), some (.ref 0), none]) (dd dt_L_law_0 7 rfl) 2 rfl (by decide) rfl rfl ?_
  exact to_Rj rfl (fun c hc => by
    rcases List.mem_cons.mp hc with rfl | hc
    · exact Or.inr rfl
    · exact Or.inl (List.mem_singleton.mp hc)) (ok_L_law (d := 0) hE (law_ok hL Cp0) (fun _ => rfl))
