/-! the model's parts -/
theorem up_self {μ : mm} {a k : Nat} {v : Int32} (h : μ a k = v) : up μ a k v = μ := by
  funext b
  by_cases e : b = a
  · subst e
    funext j
    by_cases e2 : j = k
    · subst e2; rw [up_at, h]
    · exact up_ns e2
  · exact up_ne e
def TM (T : Nat → Nat) (n : Nat) (ν : mm) : Prop := n ≤ 300 ∧ ν 0 5 = nI n ∧ ∀ k, k < n → T k ≤ 255 ∧ ν 4 k = nI (T k)
theorem TM_cg {T : Nat → Nat} {n : Nat} {ν ν' : mm} (h : TM T n ν) (h5 : ν' 0 5 = ν 0 5) (h4 : ν' 4 = ν 4) : TM T n ν' := ⟨h.1, by rw [h5]; exact h.2.1, fun k hk => by rw [h4]; exact h.2.2 k hk⟩
theorem TP_TM {T : Nat → Nat} {n : Nat} {μ ν : mm} (h : TP T n μ ν) : TM T n ν := ⟨h.1, h.2.2.1, fun k hk => ⟨(h.2.2.2 k hk).1, (h.2.2.2 k hk).2.1⟩⟩
theorem ldT {T : Nat → Nat} {n p : Nat} {ν : mm} (h : TM T n ν) (hp : p < n) : ld ν 4 (nI p) = some (nI (T p)) := by
  rw [ldL (show len 4 = 300 from by decide) (by have := h.1; omega) (by decide), (h.2.2 p hp).2]
theorem mIn {T : Nat → Nat} {n p lo hi : Nat} {ν : mm} (h : TM T n ν) (hp : p ≤ n) (hl : lo < 128) (hh : hi < 128) : f_12_isIn 0 (nI p) (nI lo) (nI hi) ν = some (if p < n ∧ lo ≤ T p ∧ T p ≤ hi then 1 else 0) := by
  have hn := h.1
  unfold f_12_isIn
  rw [h.2.1]
  by_cases c : p < n
  · have ht := (h.2.2 p c).1
    rw [if_neg (lt_n1 c (by omega)), rf_0_4, ldT h c, Option.bind_some, within_eq]
    by_cases d : lo ≤ T p ∧ T p ≤ hi
    · rw [if_pos ⟨nI_le d.1 (by omega), nI_le d.2 (by omega)⟩, Option.bind_some, if_neg (by decide), if_pos ⟨c, d⟩]
    · rw [if_neg (fun z => d ⟨(nI_leI (by omega) (by omega)).mp z.1, (nI_leI (by omega) (by omega)).mp z.2⟩), Option.bind_some, if_pos rfl, if_neg (fun z => d z.2)]
  · rw [if_pos (nI_le (by omega) (by omega)), if_neg (fun z => c z.1)]
theorem next_8 {T : Nat → Nat} {n : Nat} : ∀ (m p f : Nat) (ν : mm), p + m = n → m < f → TM T n ν → ν 0 10 = nI p → ∃ ν', f_12_next_l8 0 f ν = some ν' ∧ ν' 0 10 = nI (sk T n p) ∧ (∀ k, k ≠ 10 → ν' 0 k = ν 0 k) ∧ (∀ b, b ≠ 0 → ν' b = ν b) := by
  intro m
  induction m with
  | zero =>
    intro p f ν h1 h2 h e
    obtain ⟨q, rfl⟩ : ∃ q, f = q + 1 := ⟨f - 1, by omega⟩
    obtain rfl : p = n := by omega
    refine ⟨ν, ?_, by rw [e]; unfold sk; rw [er_n (Nat.le_refl _)], fun _ _ => rfl, fun _ _ => rfl⟩
    unfold f_12_next_l8
    rw [h.2.1, e, if_pos (Int32.le_refl _)]
  | succ m ih =>
    intro p f ν h1 h2 h e
    have hn := h.1
    obtain ⟨q, rfl⟩ : ∃ q, f = q + 1 := ⟨f - 1, by omega⟩
    have ht := (h.2.2 p (by omega)).1
    unfold f_12_next_l8
    rw [h.2.1, e, if_neg (lt_n1 (by omega) (by omega)), rf_0_4, ldT h (by omega), Option.bind_some]
    by_cases c : T p = 32
    · rw [if_pos (show nI (T p) = 32 from by rw [c]; rfl), pf_eq, Option.bind_some, nI_1]
      obtain ⟨ν', k1, k2, k3, k4⟩ := ih (p + 1) q (up ν 0 10 (nI (p + 1))) (by omega) (by omega) (TM_cg h (up_ns (by decide)) (up_ne (by decide))) up_at
      refine ⟨ν', k1, ?_, fun k hk => by rw [k3 k hk, up_ns hk], fun b hb => by rw [k4 b hb, up_ne hb]⟩
      rw [k2]
      unfold sk
      rw [er_s (T := T) (n := n) (p := p) (by omega) (by omega)]
    · rw [if_neg (show ¬ nI (T p) = 32 from fun z => c ((nI_eq (b := 32) (by omega) (by decide)).mp z))]
      refine ⟨ν, rfl, ?_, fun _ _ => rfl, fun _ _ => rfl⟩
      rw [e]
      unfold sk
      rw [er_x (T := T) (n := n) (p := p) (by omega)]
theorem next_124 {T : Nat → Nat} {n lo hi : Nat} {s : Int32} (hs : (s = 1 ∧ lo = 97 ∧ hi = 122) ∨ (s = 2 ∧ lo = 48 ∧ hi = 57)) : ∀ (m p f : Nat) (ν : mm), p + m = n → m < f → TM T n ν → ν 0 11 = nI p → ν 0 12 = s → ∃ ν', f_12_next_l124 0 f ν = some ν' ∧ ν' 0 11 = nI (er T n lo hi p) ∧ (∀ k, k ≠ 11 → ν' 0 k = ν 0 k) ∧ (∀ b, b ≠ 0 → ν' b = ν b) := by
  have key : ∀ (p q : Nat) (ν : mm), p ≤ n → TM T n ν → ν 0 11 = nI p → ν 0 12 = s → f_12_next_l124 0 (q + 1) ν = if p < n ∧ lo ≤ T p ∧ T p ≤ hi then f_12_next_l124 0 q (up ν 0 11 (nI (p + 1))) else some ν := by
    intro p q ν hp h e es
    conv => lhs; unfold f_12_next_l124
    rcases hs with ⟨rfl, rfl, rfl⟩ | ⟨rfl, rfl, rfl⟩
    · rw [es, if_pos rfl, e, show f_12_isIn 0 (nI p) 97 122 ν = _ from mIn (lo := 97) (hi := 122) h hp (by decide) (by decide), Option.bind_some]
      by_cases c : p < n ∧ 97 ≤ T p ∧ T p ≤ 122
      · rw [if_pos c, if_neg (by decide), if_pos c, pf_eq, Option.bind_some, nI_1]
      · rw [if_neg c, if_pos rfl, if_neg c, if_neg (by decide)]
    · rw [es, if_neg (by decide), if_pos rfl, e, show f_12_isIn 0 (nI p) 48 57 ν = _ from mIn (lo := 48) (hi := 57) h hp (by decide) (by decide), Option.bind_some]
      by_cases c : p < n ∧ 48 ≤ T p ∧ T p ≤ 57
      · rw [if_pos c, if_neg (by decide), if_pos c, pf_eq, Option.bind_some, nI_1]
      · rw [if_neg c, if_pos rfl, if_neg c]
  intro m
  induction m with
  | zero =>
    intro p f ν h1 h2 h e es
    obtain ⟨q, rfl⟩ : ∃ q, f = q + 1 := ⟨f - 1, by omega⟩
    obtain rfl : p = n := by omega
    refine ⟨ν, ?_, by rw [e, er_n (Nat.le_refl _)], fun _ _ => rfl, fun _ _ => rfl⟩
    rw [key p q ν (Nat.le_refl _) h e es, if_neg (by omega)]
  | succ m ih =>
    intro p f ν h1 h2 h e es
    obtain ⟨q, rfl⟩ : ∃ q, f = q + 1 := ⟨f - 1, by omega⟩
    rw [key p q ν (by omega) h e es]
    by_cases c : lo ≤ T p ∧ T p ≤ hi
    · rw [if_pos ⟨by omega, c⟩]
      obtain ⟨ν', k1, k2, k3, k4⟩ := ih (p + 1) q (up ν 0 11 (nI (p + 1))) (by omega) (by omega) (TM_cg h (up_ns (by decide)) (up_ne (by decide))) up_at (by rw [up_ns (by decide)]; exact es)
      exact ⟨ν', k1, by rw [k2, er_s (T := T) (n := n) (p := p) (by omega) c], fun k hk => by rw [k3 k hk, up_ns hk], fun b hb => by rw [k4 b hb, up_ne hb]⟩
    · rw [if_neg (fun z => c z.2)]
      exact ⟨ν, rfl, by rw [e, er_x c], fun _ _ => rfl, fun _ _ => rfl⟩
/-- the sort of the part at p, as the model has it -/
def sS (T : Nat → Nat) (n p : Nat) : Int32 := if p < n then (if 97 ≤ T p ∧ T p ≤ 122 then 1 else if 48 ≤ T p ∧ T p ≤ 57 then 2 else 3) else 0
/-- the model stands at the part at p -/
def MP (T : Nat → Nat) (n p : Nat) (ν : mm) : Prop := TM T n ν ∧ p ≤ n ∧ ν 0 10 = nI p ∧ ν 0 11 = nI (te T n p) ∧ ν 0 12 = sS T n p
theorem MP_cg {T : Nat → Nat} {n p : Nat} {ν ν' : mm} (h : MP T n p ν) (h0 : ∀ k, k = 5 ∨ k = 10 ∨ k = 11 ∨ k = 12 → ν' 0 k = ν 0 k) (h4 : ν' 4 = ν 4) : MP T n p ν' := ⟨TM_cg h.1 (h0 5 (by omega)) h4, h.2.1, by rw [h0 10 (by omega)]; exact h.2.2.1, by rw [h0 11 (by omega)]; exact h.2.2.2.1, by rw [h0 12 (by omega)]; exact h.2.2.2.2⟩
theorem next_M {T : Nat → Nat} {n q : Nat} {ν : mm} (h : TM T n ν) (hq : q ≤ n) (e : ν 0 11 = nI q) : ∃ ν', f_12_next 0 ν = some ν' ∧ MP T n (sk T n q) ν' ∧ (∀ k, k ≠ 10 → k ≠ 11 → k ≠ 12 → ν' 0 k = ν 0 k) ∧ (∀ b, b ≠ 0 → ν' b = ν b) := by
  have hn := h.1
  obtain ⟨ν1, a1, a2, a3, a4⟩ := next_8 (T := T) (n - q) q FU (up ν 0 10 (nI q)) (by omega) (show n - q < 2000 by omega) (TM_cg h (up_ns (by decide)) (up_ne (by decide))) up_at
  have hs := sk_ok (T := T) hq
  obtain ⟨p, hp⟩ : ∃ p, p = sk T n q := ⟨_, rfl⟩
  rw [← hp] at a2 hs ⊢
  have f1 : ∀ k, k ≠ 10 → ν1 0 k = ν 0 k := fun k hk => by rw [a3 k hk, up_ns hk]
  have f2 : ∀ b, b ≠ 0 → ν1 b = ν b := fun b hb => by rw [a4 b hb, up_ne hb]
  have h5 : TM T n (up ν1 0 11 (nI p)) := TM_cg h (by rw [up_ns (by decide), f1 5 (by decide)]) (by rw [up_ne (by decide), f2 4 (by decide)])
  have e5 : up ν1 0 11 (nI p) 0 5 = nI n := h5.2.1
  have e10 : up ν1 0 11 (nI p) 0 10 = nI p := by rw [up_ns (by decide)]; exact a2
  have hd : f_12_next 0 ν = if nI p = nI n then some (up (up ν1 0 11 (nI p)) 0 12 0) else (f_12_isIn 0 (nI p) 97 122 (up ν1 0 11 (nI p))).bind fun x8 => (if x8 = 0 then (f_12_isIn 0 (nI p) 48 57 (up ν1 0 11 (nI p))).bind fun x10 => if x10 = 0 then some 3 else some 2 else some 1).bind fun (z11 : Int32) => (f_12_next_l124 0 FU (up (up (up ν1 0 11 (nI p)) 0 12 z11) 0 11 (nI (p + 1)))).bind fun z16 => some z16 := by
    conv => lhs; unfold f_12_next
    rw [pf_eq, e, Option.bind_some, a1, Option.bind_some, a2, pf_eq, Option.bind_some, e10, e5, pf_eq, Option.bind_some]
    congr 1
    refine congrArg (Option.bind _) (funext fun x8 => ?_)
    refine congrArg (Option.bind _) (funext fun z11 => ?_)
    rw [pf_eq, Option.bind_some, pf_eq, Option.bind_some, up_ns (by decide), up_at, nI_1]
  by_cases c : p < n
  · rw [hd, if_neg (fun z => absurd ((nI_eq (by omega) (by omega)).mp z) (by omega)), show f_12_isIn 0 (nI p) 97 122 (up ν1 0 11 (nI p)) = _ from mIn (lo := 97) (hi := 122) h5 (by omega) (by decide) (by decide), Option.bind_some]
    have go : ∀ (z : Int32) (x : Nat), (z = 1 ∨ z = 2) → (∃ ν2, f_12_next_l124 0 FU (up (up (up ν1 0 11 (nI p)) 0 12 z) 0 11 (nI (p + 1))) = some ν2 ∧ ν2 0 11 = nI x ∧ (∀ k, k ≠ 11 → ν2 0 k = up (up (up ν1 0 11 (nI p)) 0 12 z) 0 11 (nI (p + 1)) 0 k) ∧ (∀ b, b ≠ 0 → ν2 b = up (up (up ν1 0 11 (nI p)) 0 12 z) 0 11 (nI (p + 1)) b)) → te T n p = x → sS T n p = z → ∃ ν', ((f_12_next_l124 0 FU (up (up (up ν1 0 11 (nI p)) 0 12 z) 0 11 (nI (p + 1)))).bind fun z16 => some z16) = some ν' ∧ MP T n p ν' ∧ (∀ k, k ≠ 10 → k ≠ 11 → k ≠ 12 → ν' 0 k = ν 0 k) ∧ (∀ b, b ≠ 0 → ν' b = ν b) := by
      intro z x _ ⟨ν2, b1, b2, b3, b4⟩ ht hz
      have g : ∀ k, k ≠ 11 → k ≠ 12 → ν2 0 k = ν1 0 k := fun k k1 k2 => by rw [b3 k k1, up_ns k1, up_ns k2, up_ns k1]
      have g2 : ∀ b, b ≠ 0 → ν2 b = ν b := fun b hb => by rw [b4 b hb, up_ne hb, up_ne hb, up_ne hb, f2 b hb]
      refine ⟨ν2, by rw [b1, Option.bind_some], ⟨TM_cg h (by rw [g 5 (by decide) (by decide), f1 5 (by decide)]) (g2 4 (by decide)), hs.2.1, by rw [g 10 (by decide) (by decide)]; exact a2, by rw [b2, ht], by rw [b3 12 (by decide), up_ns (by decide), up_at, hz]⟩, fun k k1 k2 k3 => by rw [g k k2 k3, f1 k k1], g2⟩
    by_cases l : 97 ≤ T p ∧ T p ≤ 122
    · rw [if_pos (show p < n ∧ 97 ≤ T p ∧ T p ≤ 122 from ⟨c, l⟩), if_neg (by decide), Option.bind_some]
      refine go 1 (er T n 97 122 (p + 1)) (Or.inl rfl) ?_ (by rw [te_L c l, er_s c l]) (by unfold sS; rw [if_pos c, if_pos l])
      exact next_124 (Or.inl ⟨rfl, rfl, rfl⟩) (n - (p + 1)) (p + 1) FU _ (by omega) (show n - (p + 1) < 2000 by omega) (TM_cg h5 (by rw [up_ns (by decide), up_ns (by decide)]) (by rw [up_ne (by decide), up_ne (by decide)])) up_at (by rw [up_ns (by decide), up_at])
    · rw [if_neg (show ¬ (p < n ∧ 97 ≤ T p ∧ T p ≤ 122) from fun z => l z.2), if_pos rfl, show f_12_isIn 0 (nI p) 48 57 (up ν1 0 11 (nI p)) = _ from mIn (lo := 48) (hi := 57) h5 (by omega) (by decide) (by decide), Option.bind_some]
      by_cases d : 48 ≤ T p ∧ T p ≤ 57
      · rw [if_pos (show p < n ∧ 48 ≤ T p ∧ T p ≤ 57 from ⟨c, d⟩), if_neg (by decide), Option.bind_some]
        refine go 2 (er T n 48 57 (p + 1)) (Or.inr rfl) ?_ (by rw [te_D c d, er_s c d]) (by unfold sS; rw [if_pos c, if_neg l, if_pos d])
        exact next_124 (Or.inr ⟨rfl, rfl, rfl⟩) (n - (p + 1)) (p + 1) FU _ (by omega) (show n - (p + 1) < 2000 by omega) (TM_cg h5 (by rw [up_ns (by decide), up_ns (by decide)]) (by rw [up_ne (by decide), up_ne (by decide)])) up_at (by rw [up_ns (by decide), up_at])
      · rw [if_neg (show ¬ (p < n ∧ 48 ≤ T p ∧ T p ≤ 57) from fun z => d z.2), if_pos rfl, Option.bind_some]
        have e12 : up (up (up ν1 0 11 (nI p)) 0 12 3) 0 11 (nI (p + 1)) 0 12 = 3 := by rw [up_ns (by decide), up_at]
        have g : ∀ k, k ≠ 11 → k ≠ 12 → up (up (up ν1 0 11 (nI p)) 0 12 3) 0 11 (nI (p + 1)) 0 k = ν1 0 k := fun k k1 k2 => by rw [up_ns k1, up_ns k2, up_ns k1]
        have g2 : ∀ b, b ≠ 0 → up (up (up ν1 0 11 (nI p)) 0 12 3) 0 11 (nI (p + 1)) b = ν b := fun b hb => by rw [up_ne hb, up_ne hb, up_ne hb, f2 b hb]
        refine ⟨up (up (up ν1 0 11 (nI p)) 0 12 3) 0 11 (nI (p + 1)), ?_, ⟨TM_cg h (by rw [g 5 (by decide) (by decide), f1 5 (by decide)]) (g2 4 (by decide)), hs.2.1, by rw [g 10 (by decide) (by decide)]; exact a2, by rw [up_at, te_S c l d], by rw [e12]; unfold sS; rw [if_pos c, if_neg l, if_neg d]⟩, fun k k1 k2 k3 => by rw [g k k2 k3, f1 k k1], g2⟩
        show (f_12_next_l124 0 (1999 + 1) _).bind _ = _
        unfold f_12_next_l124
        rw [e12, if_neg (by decide), if_neg (by decide), Option.bind_some]
  · have e : p = n := by omega
    refine ⟨up (up ν1 0 11 (nI p)) 0 12 0, by rw [hd, if_pos (by rw [e])], ⟨TM_cg h5 (up_ns (by decide)) (up_ne (by decide)), hs.2.1, by rw [up_ns (by decide)]; exact e10, by rw [up_ns (by decide), up_at, te_n (by omega), e], by rw [up_at]; unfold sS; rw [if_neg c]⟩, fun k k1 k2 k3 => by rw [up_ns k3, up_ns k2, f1 k k1], fun b hb => by rw [up_ne hb, up_ne hb, f2 b hb]⟩
theorem cd_w {T : Nat → Nat} {n p k : Nat} (hk : k < 18) : cd T n p = nI k ↔ p < n ∧ (97 ≤ T p ∧ T p ≤ 122) ∧ isw T p (te T n p) k := by
  unfold cd
  by_cases c : p < n
  · rw [if_pos c]
    by_cases l : 97 ≤ T p ∧ T p ≤ 122
    · rw [if_pos l, wd_iff hk]
      exact ⟨fun z => ⟨c, l, z⟩, fun z => z.2.2⟩
    · rw [if_neg l]
      refine ⟨fun z => ?_, fun z => absurd z.2.1 l⟩
      exfalso
      split at z
      · exact absurd (show (0 : Int32) ≤ -2 from z ▸ nI_pos' (by omega)) (by decide)
      · split at z
        · rename_i g
          have := (nI_eq (by omega) (by omega)).mp z
          omega
        · exact ne_m3 (by omega) z.symm
  · rw [if_neg c]
    exact ⟨fun z => absurd z.symm (ne_m1 (by omega)), fun z => absurd z.1 c⟩
theorem cd_g {T : Nat → Nat} {n p v : Nat} (hv : v = 59 ∨ v = 40 ∨ v = 41 ∨ (60 ≤ v ∧ v ≤ 62)) : cd T n p = nI v ↔ p < n ∧ T p = v := by
  unfold cd
  by_cases c : p < n
  · rw [if_pos c]
    by_cases l : 97 ≤ T p ∧ T p ≤ 122
    · rw [if_pos l]
      refine ⟨fun z => ?_, fun z => absurd l (by omega)⟩
      rcases wd_rg (T := T) (p := p) (e := te T n p) with ⟨k, k1, k2⟩ | k2
      · have := (nI_eq (by omega) (by omega)).mp (k2.symm.trans z)
        omega
      · exact absurd (k2.symm.trans z).symm (ne_m3 (by omega))
    · rw [if_neg l]
      by_cases d : 48 ≤ T p ∧ T p ≤ 57
      · rw [if_pos d]
        exact ⟨fun z => absurd (show (0 : Int32) ≤ -2 from z ▸ nI_pos' (by omega)) (by decide), fun z => absurd d (by omega)⟩
      · rw [if_neg d]
        by_cases g : T p = 59 ∨ T p = 40 ∨ T p = 41 ∨ (60 ≤ T p ∧ T p ≤ 62)
        · rw [if_pos g, nI_eq (by omega) (by omega)]
          exact ⟨fun z => ⟨c, z⟩, fun z => z.2⟩
        · rw [if_neg g]
          exact ⟨fun z => absurd z.symm (ne_m3 (by omega)), fun z => absurd (z.2 ▸ hv) g⟩
  · rw [if_neg c]
    exact ⟨fun z => absurd z.symm (ne_m1 (by omega)), fun z => absurd z.1 c⟩
theorem cd_d {T : Nat → Nat} {n p : Nat} : cd T n p = -2 ↔ p < n ∧ 48 ≤ T p ∧ T p ≤ 57 := by
  unfold cd
  by_cases c : p < n
  · rw [if_pos c]
    by_cases l : 97 ≤ T p ∧ T p ≤ 122
    · rw [if_pos l]
      refine ⟨fun z => ?_, fun z => absurd l (by omega)⟩
      rcases wd_rg (T := T) (p := p) (e := te T n p) with ⟨k, k1, k2⟩ | k2
      · exact absurd (show (0 : Int32) ≤ -2 from (k2.symm.trans z) ▸ nI_pos' (by omega)) (by decide)
      · exact absurd (k2.symm.trans z) (by decide)
    · rw [if_neg l]
      by_cases d : 48 ≤ T p ∧ T p ≤ 57
      · rw [if_pos d]
        exact ⟨fun _ => ⟨c, d⟩, fun _ => rfl⟩
      · rw [if_neg d]
        refine ⟨fun z => ?_, fun z => absurd z.2 d⟩
        split at z
        · exact absurd (show (0 : Int32) ≤ -2 from z ▸ nI_pos' (by omega)) (by decide)
        · exact absurd z (by decide)
  · rw [if_neg c]
    exact ⟨fun z => absurd z (by decide), fun z => absurd z.1 c⟩
theorem cd_e {T : Nat → Nat} {n p : Nat} (hT : ∀ k, k < n → T k ≤ 255) : cd T n p = -1 ↔ ¬ p < n := by
  unfold cd
  by_cases c : p < n
  · rw [if_pos c]
    refine ⟨fun z => ?_, fun z => absurd c z⟩
    exfalso
    split at z
    · rcases wd_rg (T := T) (p := p) (e := te T n p) with ⟨k, k1, k2⟩ | k2
      · exact ne_m1 (by omega) (k2.symm.trans z)
      · exact absurd (k2.symm.trans z) (by decide)
    · split at z
      · exact absurd z (by decide)
      · split at z
        · have := hT p c
          exact ne_m1 (by omega) z
        · exact absurd z (by decide)
  · rw [if_neg c]
    exact ⟨fun _ => c, fun _ => rfl⟩
theorem name_F {a : Nat} {ν : mm} (h : ν 0 13 = 1) : f_12_isName 0 a ν = some 0 := by
  have e : f_12_isName_l39 0 a ν FU 0 0 = some 0 := by
    show f_12_isName_l39 0 a ν (1999 + 1) 0 0 = some 0
    unfold f_12_isName_l39
    rw [if_pos rfl]
  unfold f_12_isName
  rw [h, if_neg (by decide), Option.bind_some, e, Option.bind_some, gb_0, Option.bind_some]
theorem name_l {T : Nat → Nat} {n p k : Nat} {ν : mm} (h : TM T n ν) (hk : k < 18) (e10 : ν 0 10 = nI p) (hp : p + wl k ≤ n) : ∀ (m j f : Nat), j + m = wl k → m + 1 < f → ∃ y, f_12_isName_l39 0 (1000 + wI k) ν f 1 (nI j) = some y ∧ ((y = 1 ∧ ∀ i, j ≤ i → i < wl k → T (p + i) = wc k i) ∨ (y = 0 ∧ ∃ i, i < wl k ∧ T (p + i) ≠ wc k i)) := by
  have hn := h.1
  have hb := wl_b k hk
  intro m
  induction m with
  | zero =>
    intro j f h1 h2
    obtain ⟨q, rfl⟩ : ∃ q, f = q + 1 := ⟨f - 1, by omega⟩
    refine ⟨1, ?_, Or.inl ⟨rfl, fun i a b => absurd a (by omega)⟩⟩
    unfold f_12_isName_l39
    rw [if_neg (by decide), hb.2.2.2.1, show j = wl k from by omega, if_pos (Int32.le_refl _)]
  | succ m ih =>
    intro j f h1 h2
    obtain ⟨q, rfl⟩ : ∃ q, f = q + 1 + 1 := ⟨f - 2, by omega⟩
    have hc := wc_b k hk j (by omega) (by omega)
    have ht := (h.2.2 (p + j) (by omega)).1
    have hd : f_12_isName_l39 0 (1000 + wI k) ν (q + 1 + 1) 1 (nI j) = if nI (T (p + j)) = nI (wc k j) then f_12_isName_l39 0 (1000 + wI k) ν (q + 1) 1 (nI (j + 1)) else f_12_isName_l39 0 (1000 + wI k) ν (q + 1) 0 (nI (j + 1)) := by
      conv => lhs; unfold f_12_isName_l39
      rw [if_neg (by decide), hb.2.2.2.1, if_neg (lt_n1 (by omega) (by omega)), rf_0_4, e10, nI_add, ldT h (by omega), Option.bind_some, hc.2.1, Option.bind_some, nI_1]
    rw [hd]
    by_cases c : T (p + j) = wc k j
    · rw [if_pos (by rw [c])]
      obtain ⟨y, y1, y2⟩ := ih (j + 1) (q + 1) (by omega) (by omega)
      refine ⟨y, y1, ?_⟩
      rcases y2 with ⟨y2, y3⟩ | y2
      · refine Or.inl ⟨y2, fun i a b => ?_⟩
        by_cases z : i = j
        · subst z; exact c
        · exact y3 i (by omega) b
      · exact Or.inr y2
    · rw [if_neg (fun z => c ((nI_eq (by omega) (by omega)).mp z))]
      refine ⟨0, ?_, Or.inr ⟨rfl, j, by omega, c⟩⟩
      unfold f_12_isName_l39
      rw [if_pos rfl]
theorem name_M {T : Nat → Nat} {n p k : Nat} {ν : mm} (h : MP T n p ν) (hk : k < 18) (hf : ν 0 13 = 0) : f_12_isName 0 (1000 + wI k) ν = some (if cd T n p = nI k then 1 else 0) := by
  obtain ⟨hT, hp, e10, e11, e12⟩ := h
  have hn := hT.1
  have hb := wl_b k hk
  have z0 : f_12_isName_l39 0 (1000 + wI k) ν FU 0 0 = some 0 := by
    show f_12_isName_l39 0 (1000 + wI k) ν (1999 + 1) 0 0 = some 0
    unfold f_12_isName_l39
    rw [if_pos rfl]
  have no : ¬ cd T n p = nI k → (if cd T n p = nI k then some (1 : Int32) else some 0) = some 0 := fun z => if_neg z
  unfold f_12_isName
  rw [if_pos hf, e12, e11, e10, hb.2.2.2.1]
  unfold sS
  by_cases c : p < n
  · have ht := te_ok (T := T) c
    rw [if_pos c]
    by_cases l : 97 ≤ T p ∧ T p ≤ 122
    · rw [if_pos l, if_pos rfl, pk_sub (by omega)]
      by_cases w : te T n p - p = wl k
      · rw [if_pos (by rw [w]), Option.bind_some]
        obtain ⟨y, y1, y2⟩ := name_l hT hk e10 (show p + wl k ≤ n by omega) (wl k) 0 FU (by omega) (show wl k + 1 < 2000 by omega)
        rw [show f_12_isName_l39 0 (1000 + wI k) ν FU 1 0 = _ from y1, Option.bind_some]
        rcases y2 with ⟨rfl, y3⟩ | ⟨rfl, i, y3, y4⟩
        · rw [gb_1, Option.bind_some, if_pos ((cd_w hk).mpr ⟨c, l, by omega, fun j hj => y3 j (by omega) hj⟩)]
        · rw [gb_0, Option.bind_some, if_neg (fun z => y4 (((cd_w hk).mp z).2.2.2 i y3))]
      · rw [if_neg (fun z => w ((nI_eq (by omega) (by omega)).mp z)), Option.bind_some, z0, Option.bind_some, gb_0, Option.bind_some, if_neg (fun z => w (by have := ((cd_w hk).mp z).2.2.1; omega))]
    · rw [if_neg l]
      have z : ¬ (if 48 ≤ T p ∧ T p ≤ 57 then (2 : Int32) else 3) = 1 := by split <;> decide
      rw [if_neg z, Option.bind_some, z0, Option.bind_some, gb_0, Option.bind_some, if_neg (fun z => l ((cd_w hk).mp z).2.1)]
  · rw [if_neg c, if_neg (by decide), Option.bind_some, z0, Option.bind_some, gb_0, Option.bind_some, if_neg (fun z => c ((cd_w hk).mp z).1)]
theorem sign_F {v : Int32} {ν : mm} (h : ν 0 13 = 1) : f_12_isSign 0 v ν = some 0 := by
  unfold f_12_isSign
  rw [h, if_neg (by decide)]
theorem sign_M {T : Nat → Nat} {n p v : Nat} {ν : mm} (h : MP T n p ν) (hv : v = 59 ∨ v = 40 ∨ v = 41 ∨ (60 ≤ v ∧ v ≤ 62)) (hf : ν 0 13 = 0) : f_12_isSign 0 (nI v) ν = some (if cd T n p = nI v then 1 else 0) := by
  obtain ⟨hT, hp, e10, e11, e12⟩ := h
  unfold f_12_isSign
  rw [if_pos hf, e12, e10]
  unfold sS
  by_cases c : p < n
  · rw [if_pos c]
    by_cases l : 97 ≤ T p ∧ T p ≤ 122
    · rw [if_pos l, if_neg (by decide), if_neg (fun z => absurd ((cd_g hv).mp z).2 (by omega))]
    · rw [if_neg l]
      by_cases d : 48 ≤ T p ∧ T p ≤ 57
      · rw [if_pos d, if_neg (by decide), if_neg (fun z => absurd ((cd_g hv).mp z).2 (by omega))]
      · rw [if_neg d, if_pos rfl, rf_0_4, ldT hT c, Option.bind_some]
        have ht := (hT.2.2 p c).1
        by_cases e : T p = v
        · rw [if_pos (by rw [e]), if_pos ((cd_g hv).mpr ⟨c, e⟩)]
        · rw [if_neg (fun z => e ((nI_eq (by omega) (by omega)).mp z)), if_neg (fun z => e ((cd_g hv).mp z).2)]
  · rw [if_neg c, if_neg (by decide), if_neg (fun z => c ((cd_g hv).mp z).1)]
theorem need_X {a : Int32} {ν : mm} (h : ν 0 13 = 1) : f_12_need 0 a ν = some ν := by
  unfold f_12_need
  rw [h, if_neg (by decide), Option.bind_some, gb_1, Option.bind_some, pf_eq, Option.bind_some, up_self h, h, if_neg (by decide)]
theorem need_N {ν : mm} (h : ν 0 13 = 0) : f_12_need 0 0 ν = some (up ν 0 13 1) := by
  unfold f_12_need
  rw [if_pos h, if_pos rfl, Option.bind_some, gb_1, Option.bind_some, pf_eq, Option.bind_some, up_at, if_neg (by decide)]
theorem need_Y {ν : mm} (h : ν 0 13 = 0) : f_12_need 0 1 ν = f_12_next 0 ν := by
  unfold f_12_need
  rw [if_pos h, if_neg (by decide), Option.bind_some, gb_0, Option.bind_some, pf_eq, Option.bind_some, up_self h, if_pos h]
  cases f_12_next 0 ν <;> rfl
theorem codes_X {a : Int32} {ν : mm} (h : ν 0 13 = 1) : f_12_codes 0 a ν = some ν := by
  unfold f_12_codes
  rw [h, if_neg (by decide)]
theorem codes_Y {a : Int32} {y : Nat} {ν : mm} (h : ν 0 13 = 0) (e : ν 0 15 = nI y) (hy : y < 120) : f_12_codes 0 a ν = some (up (up ν 8 y a) 0 15 (nI (y + 1))) := by
  unfold f_12_codes
  rw [if_pos h, rf_0_18, e, stoL (show len 8 = 120 from by decide) hy (by decide), Option.bind_some, pf_eq, Option.bind_some, up_ne (by decide), e, nI_1]
theorem number_l {T : Nat → Nat} {n e : Nat} {A : Int32} {ν : mm} (h : TM T n ν) (he : e ≤ n) (e11 : ν 0 11 = nI e) : ∀ (m p f a : Nat), p + m = e → m < f → (∀ j, p ≤ j → j < e → 48 ≤ T j ∧ T j ≤ 57) → f_12_number_l42 0 A 1 ν f (nI a) (nI p) = some (nI (nvN T m p a)) := by
  have hn := h.1
  intro m
  induction m with
  | zero =>
    intro p f a h1 h2 hd
    obtain ⟨q, rfl⟩ : ∃ q, f = q + 1 := ⟨f - 1, by omega⟩
    obtain rfl : p = e := by omega
    unfold f_12_number_l42
    rw [if_neg (by decide), e11, if_pos (Int32.le_refl _)]
    rfl
  | succ m ih =>
    intro p f a h1 h2 hd
    obtain ⟨q, rfl⟩ : ∃ q, f = q + 1 := ⟨f - 1, by omega⟩
    have d := hd p (by omega) (by omega)
    unfold f_12_number_l42
    rw [if_neg (by decide), e11, if_neg (lt_n1 (by omega) (by omega)), rf_0_4, ldT h (by omega), Option.bind_some, show (10 : Int32) = nI 10 from rfl, pk_mul, nI_add, show (48 : Int32) = nI 48 from rfl, pk_sub (by omega), nI_1, show 10 * a + T p - 48 = 10 * a + (T p - 48) from by omega]
    exact ih (p + 1) q _ (by omega) (by omega) (fun j a b => hd j (by omega) b)
theorem number_X {A : Int32} {ν : mm} (h : ν 0 13 = 1) : f_12_number 0 A ν = some (0, ν) := by
  have e : f_12_number_l42 0 A 0 ν FU 0 (ν 0 10) = some 0 := by
    show f_12_number_l42 0 A 0 ν (1999 + 1) 0 (ν 0 10) = some 0
    unfold f_12_number_l42
    rw [if_pos rfl]
  unfold f_12_number
  rw [h, if_neg (by decide), Option.bind_some, e, Option.bind_some, if_pos rfl, Option.bind_some, need_X h, Option.bind_some]
theorem number_M {T : Nat → Nat} {n p M : Nat} {ν : mm} (h : MP T n p ν) (hM : M ≤ 999) (hf : ν 0 13 = 0) : ((p < n ∧ (48 ≤ T p ∧ T p ≤ 57) ∧ vl T n p ≤ M) ∧ f_12_number 0 (nI M) ν = (f_12_next 0 ν).bind fun ν' => some (nI (vl T n p), ν')) ∨ (¬ (p < n ∧ (48 ≤ T p ∧ T p ≤ 57) ∧ vl T n p ≤ M) ∧ ∃ x, f_12_number 0 (nI M) ν = some (x, up ν 0 13 1)) := by
  obtain ⟨hT, hp, e10, e11, e12⟩ := h
  have hn := hT.1
  have z0 : f_12_number_l42 0 (nI M) 0 ν FU 0 (nI p) = some 0 := by
    show f_12_number_l42 0 (nI M) 0 ν (1999 + 1) 0 (nI p) = some 0
    unfold f_12_number_l42
    rw [if_pos rfl]
  by_cases c : p < n ∧ 48 ≤ T p ∧ T p ≤ 57
  · obtain ⟨c, d⟩ := c
    have ht := te_ok (T := T) c
    have s2 : sS T n p = 2 := by unfold sS; rw [if_pos c, if_neg (by omega), if_pos d]
    by_cases q : te T n p - p ≤ 3
    · have ev : vl T n p = nvN T (te T n p - p) p 0 := if_pos q
      have lv := vl_lt (T := T) c d
      have zl := number_l (A := nI M) hT ht.2 e11 (te T n p - p) p FU 0 (by omega) (show te T n p - p < 2000 by omega) (te_dig c d)
      rw [← ev] at zl
      have hd : f_12_number 0 (nI M) ν = (if nI M < nI (vl T n p) then some (0 : Int32) else some 1).bind fun (z4 : Int32) => (f_12_need 0 z4 ν).bind fun μ6 => some (nI (vl T n p), μ6) := by
        unfold f_12_number
        rw [if_pos hf, e12, s2, if_pos rfl, e11, e10, pk_sub (by omega), if_neg (show ¬ (3 : Int32) < nI (te T n p - p) from Int32.not_lt.mpr (nI_le (b := 3) q (by decide))), Option.bind_some]
        rw [show f_12_number_l42 0 (nI M) 1 ν FU 0 (nI p) = _ from zl, Option.bind_some]
        rw [show (if (1 : Int32) = 0 then some (0 : Int32) else if nI M < nI (vl T n p) then some 0 else some 1) = (if nI M < nI (vl T n p) then some (0 : Int32) else some 1) from if_neg (by decide)]
      by_cases r : vl T n p ≤ M
      · refine Or.inl ⟨⟨c, d, r⟩, ?_⟩
        rw [hd, if_neg (nI_nlt r (by omega)), Option.bind_some, need_Y hf]
      · refine Or.inr ⟨fun z => r z.2.2, nI (vl T n p), ?_⟩
        rw [hd, if_pos (nI_lt (by omega) (by omega)), Option.bind_some, need_N hf, Option.bind_some]
    · have ev : vl T n p = 1000 := if_neg q
      refine Or.inr ⟨fun z => absurd z.2.2 (by omega), 0, ?_⟩
      unfold f_12_number
      rw [if_pos hf, e12, s2, if_pos rfl, e11, e10, pk_sub (by omega), if_pos (show (3 : Int32) < nI (te T n p - p) from nI_lt (a := 3) (by omega) (by omega)), Option.bind_some, z0, Option.bind_some, if_pos rfl, Option.bind_some, need_N hf, Option.bind_some]
  · refine Or.inr ⟨fun z => c ⟨z.1, z.2.1⟩, 0, ?_⟩
    have s2 : ¬ sS T n p = 2 := by
      unfold sS
      by_cases c1 : p < n
      · rw [if_pos c1]
        by_cases l : 97 ≤ T p ∧ T p ≤ 122
        · rw [if_pos l]; decide
        · rw [if_neg l, if_neg (fun z => c ⟨c1, z⟩)]; decide
      · rw [if_neg c1]; decide
    unfold f_12_number
    rw [if_pos hf, e12, if_neg s2, Option.bind_some, e10, z0, Option.bind_some, if_pos rfl, Option.bind_some, need_N hf, Option.bind_some]
