/-! the row outside its 240 cells; what holds of every row, behind each act -/
theorem zset_self (σ : Int → Int) (i : Int) : zset σ i (σ i) = σ := by
  funext j
  simp only [zset]
  by_cases h : j = i
  · rw [if_pos h, h]
  · rw [if_neg h]
theorem rput {σ ζ τ : Int → Int} (h : ∀ j, (j < 0 ∨ 240 ≤ j) → τ j = σ j) : rcpy (rcpy σ ζ 0 0 240) τ 0 0 240 = σ := by
  funext j
  simp only [rcpy]
  by_cases c : 0 ≤ j ∧ j < 0 + 240
  · rw [if_pos c, if_pos (by omega)]
    congr 1
    omega
  · rw [if_neg c]
    exact h j (by omega)
theorem rstp_x {σ : Int → Int} (h : rI σ) (d ppl left : Int) (h3 : 0 < σ 3) (j : Int) (hj : j < 0 ∨ 240 ≤ j) : (rstp σ d ppl left).1 j = σ j := by
  have hp := h.2.2.2.1 0 (by omega) h3
  have h2 := h.2.1
  simp only [Int.mul_zero, Int.add_zero] at hp
  have e3 : rdrop σ 0 j = σ j := by rw [rdrop_ap (by omega), if_neg (by omega), if_neg (by omega)]
  have e4 : ∀ m k d dn, rent (rdrop σ 0) m k d dn j = σ j := fun m k d dn => by
    simp only [rent, zset, rshf]
    rw [if_neg (by omega), if_neg (by omega), if_neg (by omega), if_neg (by omega), if_neg (by omega), if_neg (by omega), e3]
  unfold rstp
  split
  · simp only [rdo, zset]
    rw [if_neg (by omega), if_neg (by omega), if_neg (by omega), if_neg (by omega), if_neg (by omega), e4]
  · simp only [zset]
    rw [if_neg (by omega), e4]
theorem rclN_x (d ppl : Int) (j : Int) (hj : j < 0 ∨ 240 ≤ j) : ∀ (n : Nat) (σ : Int → Int) (left : Int), rI σ → rclN d ppl n σ left j = σ j
  | 0, σ, left, h => rfl
  | n + 1, σ, left, h => by
    unfold rclN
    split
    · rename_i hc
      rw [rclN_x d ppl j hj n _ _ (rstp_I h d ppl left hc.1), rstp_x h d ppl left hc.1 j hj]
    · rfl
theorem rnight_x {σ : Int → Int} (h : rI σ) (j : Int) (hj : j < 0 ∨ 240 ≤ j) : rnight σ j = σ j := by
  have h2 := h.2.1
  unfold rnight
  rw [zset_ap, if_neg (by omega), rmirN_o _ _ _ _ _ (by omega)]
  exact rclN_x _ _ j hj _ _ _ h
theorem rpasN_x (j : Int) (hj : j < 0 ∨ 240 ≤ j) : ∀ (n : Nat) {σ : Int → Int}, rI σ → rpasN n σ j = σ j
  | 0, _, h => rfl
  | n + 1, _, h => (rpasN_x j hj n h.night).trans (rnight_x h j hj)
theorem rplcN_sp (σ : Int → Int) (d : Int) : ∀ k : Nat, (∀ j : Nat, rplcN σ d k ≤ j → j < k → d < σ (150 + 3 * (j : Int) + 2)) ∧ (∀ j : Nat, j + 1 = rplcN σ d k → σ (150 + 3 * (j : Int) + 2) ≤ d)
  | 0 => ⟨fun j _ h => absurd h (Nat.not_lt_zero _), fun j h => absurd h (Nat.succ_ne_zero j)⟩
  | k + 1 => by
    obtain ⟨i1, i2⟩ := rplcN_sp σ d k
    by_cases c : d < σ (150 + 3 * (k : Int) + 2)
    · have e : rplcN σ d (k + 1) = rplcN σ d k := if_pos c
      rw [e]
      refine ⟨fun j a b => ?_, i2⟩
      by_cases q : j = k
      · subst q
        exact c
      · exact i1 j a (by omega)
    · have e : rplcN σ d (k + 1) = k + 1 := if_neg c
      rw [e]
      refine ⟨fun j a b => absurd a (by omega), fun j a => ?_⟩
      rw [show j = k by omega]
      omega
theorem radd_ap (σ : Int → Int) (m k d : Int) (h3 : 0 ≤ σ 3) (j : Int) : radd σ m k d j = if j = 3 then σ 3 + 1 else if j = 150 + 3 * (rplc σ d : Int) + 2 then d else if j = 150 + 3 * (rplc σ d : Int) + 1 then k else if j = 150 + 3 * (rplc σ d : Int) then m else
    if 150 + 3 * (rplc σ d : Int) + 3 ≤ j ∧ j < 150 + 3 * σ 3 + 3 then σ (j - 3) else σ j := by
  simp only [radd, zset, rmov]
theorem rplc_le (σ : Int → Int) (d : Int) (h3 : 0 ≤ σ 3) : (rplc σ d : Int) ≤ σ 3 := by
  have := rplcN_le σ d (σ 3).toNat
  unfold rplc
  omega
theorem radd_o (σ : Int → Int) (m k d : Int) (h3 : 0 ≤ σ 3) (j : Int) (hj : j ≠ 3) (hj2 : j < 150 ∨ 150 + 3 * σ 3 + 3 ≤ j) : radd σ m k d j = σ j := by
  have hp := rplc_le σ d h3
  rw [radd_ap σ m k d h3, if_neg hj, if_neg (by omega), if_neg (by omega), if_neg (by omega), if_neg (by omega)]
/-- entry e of the plan with one more -/
theorem radd_e (σ : Int → Int) (m k d : Int) (h3 : 0 ≤ σ 3) (e c : Int) (hc : 0 ≤ c ∧ c ≤ 2) (he : 0 ≤ e ∧ e ≤ σ 3) :
    radd σ m k d (150 + 3 * e + c) = if e < rplc σ d then σ (150 + 3 * e + c) else if e = rplc σ d then (if c = 0 then m else if c = 1 then k else d) else σ (150 + 3 * (e - 1) + c) := by
  have hp := rplc_le σ d h3
  rw [radd_ap σ m k d h3, if_neg (by omega)]
  by_cases c1 : e < rplc σ d
  · rw [if_pos c1, if_neg (by omega), if_neg (by omega), if_neg (by omega), if_neg (by omega)]
  · rw [if_neg c1]
    by_cases c2 : e = rplc σ d
    · rw [if_pos c2]
      rcases (by omega : c = 0 ∨ c = 1 ∨ c = 2) with rfl | rfl | rfl
      · rw [if_neg (by omega), if_neg (by omega), if_pos (by omega)]
        rfl
      · rw [if_neg (by omega), if_pos (by omega)]
        rfl
      · rw [if_pos (by omega)]
        rfl
    · rw [if_neg c2, if_neg (by omega), if_neg (by omega), if_neg (by omega), if_pos (by omega)]
      congr 1
      omega
theorem rI.add {σ : Int → Int} (h : rI σ) {m k d : Int} (hm : 0 ≤ m ∧ m < σ 1) (hk : 0 ≤ k ∧ k ≤ 2) (hd : σ 0 ≤ d ∧ d ≤ 1000000000) (h12 : σ 3 < 12) : rI (radd σ m k d) := by
  obtain ⟨h1, h2, h3, h4, h5, h6, h7⟩ := h
  have hp := rplc_le σ d (by omega)
  obtain ⟨s1, s2⟩ := rplcN_sp σ d (σ 3).toNat
  have eo := radd_o σ m k d (by omega)
  have ee := radd_e σ m k d (by omega)
  have e3 : radd σ m k d 3 = σ 3 + 1 := by rw [radd_ap σ m k d (by omega), if_pos rfl]
  have e0 := eo 0 (by omega) (by omega)
  have e1 := eo 1 (by omega) (by omega)
  have e2 := eo 2 (by omega) (by omega)
  have e4 := eo 4 (by omega) (by omega)
  have e8 := eo 8 (by omega) (by omega)
  have e9 := eo 9 (by omega) (by omega)
  refine ⟨fun i a b => ?_, by rw [e0, e1, e2, e3, e4, e8, e9]; omega, fun q a b => ?_, fun e a b => ?_, fun e a b => ?_, fun q a b => ?_, fun q w a b c d => ?_⟩
  · rw [radd_ap σ m k d (by omega), if_neg (by omega)]
    by_cases c1 : i = 150 + 3 * (rplc σ d : Int) + 2
    · rw [if_pos c1]
      omega
    · rw [if_neg c1]
      by_cases c2 : i = 150 + 3 * (rplc σ d : Int) + 1
      · rw [if_pos c2]
        omega
      · rw [if_neg c2]
        by_cases c3 : i = 150 + 3 * (rplc σ d : Int)
        · rw [if_pos c3]
          omega
        · rw [if_neg c3]
          by_cases c4 : 150 + 3 * (rplc σ d : Int) + 3 ≤ i ∧ i < 150 + 3 * σ 3 + 3
          · rw [if_pos c4]
            exact h1 _ (by omega) (by omega)
          · rw [if_neg c4]
            exact h1 i a b
  · rw [eo _ (by omega) (by omega), eo (10 + 6 * q + 1) (by omega) (by omega), eo (10 + 6 * q + 2) (by omega) (by omega), eo (10 + 6 * q + 3) (by omega) (by omega), e0]
    exact h3 q a b
  · rw [e3] at b
    have f0 := ee e 0 (by omega) (by omega)
    rw [Int.add_zero] at f0
    rw [f0, ee e 1 (by omega) (by omega), ee e 2 (by omega) (by omega), e0, e1]
    by_cases c1 : e < rplc σ d
    · rw [if_pos c1, if_pos c1, if_pos c1]
      have := h4 e a (by omega)
      exact this
    · rw [if_neg c1, if_neg c1, if_neg c1]
      by_cases c2 : e = rplc σ d
      · rw [if_pos c2, if_pos c2, if_pos c2, if_pos rfl, if_neg (by omega), if_pos rfl, if_neg (by omega), if_neg (by omega)]
        omega
      · rw [if_neg c2, if_neg c2, if_neg c2]
        have := h4 (e - 1) (by omega) (by omega)
        rw [Int.add_zero]
        exact this
  · rw [e3] at b
    rw [ee e 2 (by omega) (by omega), show 150 + 3 * e + 5 = 150 + 3 * (e + 1) + 2 by omega, ee (e + 1) 2 (by omega) (by omega)]
    by_cases c1 : e + 1 < rplc σ d
    · rw [if_pos (by omega), if_pos c1]
      have := h5 e a (by omega)
      rw [show 150 + 3 * (e + 1) + 2 = 150 + 3 * e + 5 by omega]
      exact this
    · by_cases c2 : e + 1 = rplc σ d
      · rw [if_pos (by omega), if_neg c1, if_pos c2, if_neg (by omega), if_neg (by omega)]
        have := s2 e.toNat (by unfold rplc at c2; omega)
        rw [show ((e.toNat : Nat) : Int) = e by omega] at this
        exact this
      · by_cases c3 : e = rplc σ d
        · rw [if_neg (by omega), if_pos c3, if_neg (by omega), if_neg (by omega), if_neg (by omega), if_neg (by omega)]
          have := s1 e.toNat (by unfold rplc at c3; omega) (by omega)
          rw [show ((e.toNat : Nat) : Int) = e by omega] at this
          rw [show e + 1 - 1 = e by omega]
          omega
        · rw [if_neg (by omega), if_neg (by omega), if_neg (by omega), if_neg (by omega)]
          have := h5 (e - 1) (by omega) (by omega)
          rw [show 150 + 3 * (e + 1 - 1) + 2 = 150 + 3 * (e - 1) + 5 by omega]
          exact this
  · rw [eo (90 + 3 * q + 2) (by omega) (by omega), eo (120 + 3 * q + 2) (by omega) (by omega)]
    exact h6 q a b
  · rw [eo (40 + 9 * q + w) (by omega) (by omega)]
    exact h7 q w a b c d
theorem radd_x {σ : Int → Int} (h : rI σ) (m k d : Int) (h12 : σ 3 < 12) (j : Int) (hj : j < 0 ∨ 240 ≤ j) : radd σ m k d j = σ j := by
  have h2 := h.2.1
  exact radd_o σ m k d (by omega) j (by omega) (by omega)
theorem rI.clr {σ : Int → Int} (h : rI σ) : rI (zset σ 3 0) := by
  obtain ⟨h1, h2, h3, h4, h5, h6, h7⟩ := h
  have eo : ∀ j, j ≠ 3 → zset σ 3 0 j = σ j := fun j a => by rw [zset_ap, if_neg a]
  have e3 : zset σ 3 0 3 = 0 := by rw [zset_ap, if_pos rfl]
  refine ⟨fun i a b => by rw [eo i (by omega)]; exact h1 i a b, by rw [eo 0 (by omega), eo 1 (by omega), eo 2 (by omega), e3, eo 4 (by omega), eo 8 (by omega), eo 9 (by omega)]; omega, fun q a b => ?_, fun e a b => ?_, fun e a b => ?_, fun q a b => ?_, fun q w a b c d => ?_⟩
  · rw [eo _ (by omega), eo (10 + 6 * q + 1) (by omega), eo (10 + 6 * q + 2) (by omega), eo (10 + 6 * q + 3) (by omega), eo 0 (by omega)]
    exact h3 q a b
  · rw [e3] at b
    omega
  · rw [e3] at b
    omega
  · rw [eo (90 + 3 * q + 2) (by omega), eo (120 + 3 * q + 2) (by omega)]
    exact h6 q a b
  · rw [eo (40 + 9 * q + w) (by omega)]
    exact h7 q w a b c d
/-- what a night and nights lose, bounded -/
theorem rsumN_b {σ : Int → Int} (hI : rI σ) {rate f : Int} (hr : 0 ≤ rate) (hf : 0 ≤ f ∧ f ≤ 1000) : ∀ k : Nat, k ≤ 4 → 0 ≤ rsumN σ rate f k ∧ rsumN σ rate f k ≤ 1000000 * (k : Int)
  | 0, _ => ⟨Int.le_refl _, by show (0 : Int) ≤ _; omega⟩
  | k + 1, hk => by
    have ih := rsumN_b hI hr hf k (by omega)
    have hm := hI.2.2.1 k (by omega) (by omega)
    have hp := nprd_b (du := σ (10 + 6 * (k : Int) + 2)) (rate := rate) (ag := σ (10 + 6 * (k : Int) + 3)) (we := σ (10 + 6 * (k : Int) + 1)) (w := σ (10 + 6 * (k : Int))) (f := f) (by omega) (by omega) hr (by omega) (by omega) hf
    show 0 ≤ rsumN σ rate f k + rits σ rate f k ∧ rsumN σ rate f k + rits σ rate f k ≤ _
    unfold rits nits
    omega
theorem rpasS_b : ∀ (n : Nat) {σ : Int → Int}, rI σ → 0 ≤ rpasS n σ ∧ rpasS n σ ≤ 4000000 * (n : Int)
  | 0, _, _ => ⟨Int.le_refl _, by show (0 : Int) ≤ _; omega⟩
  | n + 1, σ, h => by
    have ih := rpasS_b n h.night
    have hb := rrate_b h
    have hf := rfact_b h
    have h2 := h.2.1
    have := rsumN_b (rclean_I h (σ 0)) hb.1 (f := rfact σ) (by omega) (σ 1).toNat (by omega)
    show 0 ≤ rnsum σ + rpasS n (rnight σ) ∧ rnsum σ + rpasS n (rnight σ) ≤ _
    unfold rnsum
    omega
