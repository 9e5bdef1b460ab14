/-! the reference: each act keeps what holds -/
theorem rJ.ref {T : Int} {ρ : Nat → Int → Int} (h : rJ T ρ) (x : Int) : rJ T (zst ρ 7 (zset (ρ 7) 1 x)) := h.num (by omega) (by omega)
theorem rJ.addM {T : Int} {ρ : Nat → Int → Int} (h : rJ T ρ) (w we : Int) : rJ T (aaddM ρ w we).2 := by
  have hb := h.1.1.2.1
  unfold aaddM
  by_cases c1 : ¬ (0 ≤ w ∧ w ≤ 100) ∨ ¬ (0 ≤ we ∧ we ≤ 20)
  · rw [if_pos c1]
    exact h
  · rw [if_neg c1]
    by_cases c2 : ρ 0 1 = 4
    · rw [if_pos c2]
      exact h
    · rw [if_neg c2]
      refine h.act (h.1.1.addm (by omega) (by omega) (by omega)) ?_
      have : raddm (ρ 0) w we 0 = ρ 0 0 := by
        simp only [raddm, zset]
        rw [if_neg (by omega), if_neg (by omega), if_neg (by omega), if_neg (by omega), if_neg (by omega), if_neg (by omega), if_neg (by omega)]
      rw [this]
      exact h.1.2
theorem rJ.chp {T : Int} {ρ : Nat → Int → Int} (h : rJ T ρ) (s f t w : Int) : rJ T (rchp ρ s f t w).2 := by
  unfold rchp
  by_cases c : ¬ (0 ≤ f ∧ f ≤ 9999) ∨ ¬ (f ≤ t ∧ t ≤ 9999) ∨ ¬ (0 ≤ w ∧ w ≤ if s = 0 then 500 else 30)
  · rw [if_pos c]
    exact h
  · rw [if_neg c]
    by_cases c2 : ρ 0 (8 + s) = 10
    · rw [if_pos c2]
      exact h.ref 5
    · rw [if_neg c2]
      exact h
theorem rJ.tell {T : Int} {ρ : Nat → Int → Int} (h : rJ T ρ) {s : Int} (hs : s = 0 ∨ s = 1) (f t w : Int) : rJ T (atell ρ s f t w).2 := by
  unfold atell
  by_cases c : (rchp ρ s f t w).1 < 0
  · rw [if_pos c]
    exact h.chp s f t w
  · rw [if_neg c]
    obtain ⟨b1, b2, b3, b4, b5⟩ := rchp_c c
    have hp := h.1.1.per hs
    refine h.act (h.1.1.tel hs b1 b2 b3 (by omega)) ?_
    have : rtel (ρ 0) s f t w 0 = ρ 0 0 := by
      simp only [rtel, zset]
      rw [if_neg (by omega), if_neg (by omega), if_neg (by omega), if_neg (by omega)]
    rw [this]
    exact h.1.2
theorem rJ.clrP {T : Int} {ρ : Nat → Int → Int} (h : rJ T ρ) : rJ T (aclrP ρ).2 := by
  unfold aclrP
  by_cases c : ρ 0 8 + ρ 0 9 = 0
  · rw [if_pos c]
    exact h
  · rw [if_neg c]
    refine h.act ((h.1.1.per0 (Or.inl rfl)).per0 (Or.inr rfl)) ?_
    rw [zset_ap, if_neg (by omega), zset_ap, if_neg (by omega)]
    exact h.1.2
theorem rJ.addP {T : Int} {ρ : Nat → Int → Int} (h : rJ T ρ) : rJ T (aaddP ρ).2 := by
  have hb := h.1.1.2.1
  unfold aaddP
  by_cases c : ρ 0 2 = 5
  · rw [if_pos c]
    exact h
  · rw [if_neg c]
    refine h.act (h.1.1.addp (by omega)) ?_
    have : raddp (ρ 0) 0 = ρ 0 0 := by
      unfold raddp
      rw [if_neg (by omega), if_neg (by omega), if_neg (by omega)]
    rw [this]
    exact h.1.2
theorem rJ.hrs {T : Int} {ρ : Nat → Int → Int} (h : rJ T ρ) (p w x : Int) : rJ T (ahrs ρ p w x).2 := by
  have hb := h.1.1.2.1
  unfold ahrs
  by_cases c1 : 0 ≤ p ∧ p ≤ ρ 0 2 - 1
  · rw [if_neg (not_not_intro c1)]
    by_cases c2 : ¬ (0 ≤ w ∧ w ≤ 6) ∨ ¬ (0 ≤ x ∧ x ≤ 12)
    · rw [if_pos c2]
      exact h
    · rw [if_neg c2]
      refine h.act (h.1.1.hrs (by omega) (by omega) (by omega)) ?_
      rw [zset_ap, if_neg (by omega)]
      exact h.1.2
  · rw [if_pos c1]
    exact h
theorem rJ.off {T : Int} {ρ : Nat → Int → Int} (h : rJ T ρ) (p f t : Int) : rJ T (aoff ρ p f t).2 := by
  have hb := h.1.1.2.1
  unfold aoff
  by_cases c1 : 0 ≤ p ∧ p ≤ ρ 0 2 - 1
  · rw [if_neg (not_not_intro c1)]
    by_cases c2 : ¬ (0 ≤ f ∧ f ≤ 9999) ∨ ¬ (f ≤ t ∧ t ≤ 9999)
    · rw [if_pos c2]
      exact h
    · rw [if_neg c2]
      refine h.act ((h.1.1.off (by omega) (Or.inl rfl) (by omega)).off (by omega) (Or.inr rfl) (by omega)) ?_
      rw [zset_ap, if_neg (by omega), zset_ap, if_neg (by omega)]
      exact h.1.2
  · rw [if_pos c1]
    exact h
theorem rJ.chk {T : Int} {ρ : Nat → Int → Int} (h : rJ T ρ) (m k x : Int) : rJ T (rchk ρ m k x).2 := by
  unfold rchk
  by_cases c : 0 ≤ m ∧ m ≤ ρ 0 1 - 1
  · rw [if_neg (not_not_intro c)]
    by_cases c2 : ¬ (0 ≤ k ∧ k ≤ 2) ∨ ¬ (0 ≤ x ∧ x ≤ 59)
    · rw [if_pos c2]
      exact h
    · rw [if_neg c2]
      by_cases c3 : 0 < ragst (ρ 0) m k (ρ 0 0 + x)
      · rw [if_pos c3]
        exact h.ref _
      · rw [if_neg c3]
        exact h
  · rw [if_pos c]
    exact h
theorem rJ.addC {T : Int} {ρ : Nat → Int → Int} (h : rJ T ρ) (hT : T ≤ 100000000) (m k x : Int) : rJ T (aaddC ρ m k x).2 := by
  have hb := h.1.1.2.1
  have h0 := h.1.2
  unfold aaddC
  by_cases c : (rchk ρ m k x).1 < 0
  · rw [if_pos c]
    exact h.chk m k x
  · rw [if_neg c]
    obtain ⟨b1, b2, b3, b4, b5⟩ := rchk_c c
    have := ragst_0 b4
    refine h.act (h.1.1.add (by omega) b2 (by omega) (by omega)) ?_
    rw [radd_o _ _ _ _ (by omega) _ (by omega) (by omega)]
    exact h0
theorem rJ.drpC {T : Int} {ρ : Nat → Int → Int} (h : rJ T ρ) (p : Int) : rJ T (adrpC ρ p).2 := by
  unfold adrpC
  by_cases c : 0 ≤ p ∧ p ≤ ρ 0 3 - 1
  · rw [if_neg (not_not_intro c)]
    refine h.act (h.1.1.drop c) ?_
    rw [rdrop_ap c, if_neg (by omega), if_neg (by omega)]
    exact h.1.2
  · rw [if_pos c]
    exact h
theorem rJ.pass {T : Int} {ρ : Nat → Int → Int} (h : rJ T ρ) (n : Int) : rJ (T + 60) (apass ρ n).2 := by
  have h0 := h.1.2
  unfold apass
  by_cases c : 1 ≤ n ∧ n ≤ 60
  · rw [if_neg (not_not_intro c)]
    refine (h.mono (by omega)).act (rpasN_I _ h.1.1) ?_
    rw [rpasN_0]
    omega
  · rw [if_pos c]
    exact h.mono (by omega)
theorem rJ.losA {T : Int} {ρ : Nat → Int → Int} (h : rJ T ρ) (n w : Int) : rJ T (alosA ρ n w).2 := by
  unfold alosA
  split
  · exact h
  · exact h.sav _
theorem rJ.bday {T : Int} {ρ : Nat → Int → Int} (h : rJ T ρ) (m k n : Int) : rJ T (abday ρ m k n).2 := by
  unfold abday
  split
  · exact h
  · split
    · exact h
    · exact h.sav _
theorem rJ.bpair {T : Int} {ρ : Nat → Int → Int} (h : rJ T ρ) (m k n : Int) : rJ T (abpair ρ m k n).2 := by
  unfold abpair
  split
  · exact h
  · split
    · exact h
    · exact h.sav _
theorem rJ.typ {T : Int} {ρ : Nat → Int → Int} (h : rJ T ρ) {c : Int} (hc : 0 ≤ c ∧ c < 65536) : rJ T (atype ρ c).2 := by
  obtain ⟨k1, k2, k3, k4, k5, k6⟩ := h
  unfold atype
  by_cases c1 : ρ 7 2 = 90
  · rw [if_pos c1]
    exact ⟨k1, k2, k3, k4, k5, k6⟩
  · rw [if_neg c1]
    have e0 : zset (ρ 7) 2 (ρ 7 2 + 1) 0 = ρ 7 0 := by rw [zset_ap, if_neg (by omega)]
    refine ⟨k1, ?_, ?_, k4, fun i => ?_, ?_⟩
    · show 0 ≤ zset (ρ 7) 2 (ρ 7 2 + 1) 0 ∧ zset (ρ 7) 2 (ρ 7 2 + 1) 0 ≤ 6
      rw [e0]
      exact k2
    · intro k a b
      have b' : k < zset (ρ 7) 2 (ρ 7 2 + 1) 0 := b
      rw [e0] at b'
      exact k3 k a b'
    · show 0 ≤ zset (ρ 5) (ρ 7 2) c i ∧ zset (ρ 5) (ρ 7 2) c i < 65536
      rw [zset_ap]
      by_cases q : i = ρ 7 2
      · rw [if_pos q]
        exact hc
      · rw [if_neg q]
        exact k5 i
    · show 0 ≤ zset (ρ 7) 2 (ρ 7 2 + 1) 2 ∧ zset (ρ 7) 2 (ρ 7 2 + 1) 2 ≤ 90
      rw [zset_ap, if_pos rfl]
      omega
theorem rJ.clrT {T : Int} {ρ : Nat → Int → Int} (h : rJ T ρ) : rJ T (aclrT ρ).2 := by
  obtain ⟨k1, k2, k3, k4, k5, k6⟩ := h
  have e0 : zset (ρ 7) 2 0 0 = ρ 7 0 := by rw [zset_ap, if_neg (by omega)]
  refine ⟨k1, ?_, ?_, k4, k5, ?_⟩
  · show 0 ≤ zset (ρ 7) 2 0 0 ∧ zset (ρ 7) 2 0 0 ≤ 6
    rw [e0]
    exact k2
  · intro k a b
    have b' : k < zset (ρ 7) 2 0 0 := b
    rw [e0] at b'
    exact k3 k a b'
  · show 0 ≤ zset (ρ 7) 2 0 2 ∧ zset (ρ 7) 2 0 2 ≤ 90
    rw [zset_ap, if_pos rfl]
    omega
theorem rJ.same {T : Int} {ρ τ : Nat → Int → Int} (h : rJ T ρ) (e : rSame ρ τ) : rJ T τ := by
  obtain ⟨k1, k2, k3, k4, k5, k6⟩ := h
  obtain ⟨e0, e2, e3, e4, e5, e7⟩ := e
  have a0 := e7 0 (by omega)
  have a2 := e7 2 (by omega)
  refine ⟨by rw [e0]; exact k1, ?_, by rw [a0, e2]; exact k3, by rw [e3, e4]; exact k4, by rw [e5]; exact k5, by rw [a2]; exact k6⟩
  unfold rK at k2 ⊢
  rw [a0]
  exact k2
