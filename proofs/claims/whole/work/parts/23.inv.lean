/-! what holds of every row -/
def rI (σ : Int → Int) : Prop :=
  (∀ i, 40 ≤ i → i < 190 → -1 ≤ σ i ∧ σ i ≤ 1000000000) ∧
  (0 ≤ σ 0 ∧ 0 ≤ σ 1 ∧ σ 1 ≤ 4 ∧ 0 ≤ σ 2 ∧ σ 2 ≤ 5 ∧ 0 ≤ σ 3 ∧ σ 3 ≤ 12 ∧ 0 ≤ σ 4 ∧ σ 4 ≤ 12 ∧ 0 ≤ σ 8 ∧ σ 8 ≤ 10 ∧ 0 ≤ σ 9 ∧ σ 9 ≤ 10) ∧
  (∀ m, 0 ≤ m → m < 4 → 0 ≤ σ (10 + 6 * m) ∧ σ (10 + 6 * m) ≤ 100 ∧ 0 ≤ σ (10 + 6 * m + 1) ∧ σ (10 + 6 * m + 1) ≤ 20 ∧ 0 ≤ σ (10 + 6 * m + 2) ∧ σ (10 + 6 * m + 2) ≤ 100000 ∧ 0 ≤ σ (10 + 6 * m + 3) ∧ σ (10 + 6 * m + 3) ≤ σ 0) ∧
  (∀ k, 0 ≤ k → k < σ 3 → 0 ≤ σ (150 + 3 * k) ∧ σ (150 + 3 * k) < σ 1 ∧ 0 ≤ σ (150 + 3 * k + 1) ∧ σ (150 + 3 * k + 1) ≤ 2 ∧ σ 0 ≤ σ (150 + 3 * k + 2)) ∧
  (∀ k, 0 ≤ k → k + 1 < σ 3 → σ (150 + 3 * k + 2) ≤ σ (150 + 3 * k + 5)) ∧
  (∀ k, 0 ≤ k → k < 10 → 0 ≤ σ (90 + 3 * k + 2) ∧ σ (90 + 3 * k + 2) ≤ 500 ∧ 0 ≤ σ (120 + 3 * k + 2) ∧ σ (120 + 3 * k + 2) ≤ 30) ∧
  (∀ p w, 0 ≤ p → p < 5 → 0 ≤ w → w < 7 → 0 ≤ σ (40 + 9 * p + w) ∧ σ (40 + 9 * p + w) ≤ 12)
theorem rI.bd {σ : Int → Int} (h : rI σ) : zbd σ := fun i h1 h2 => by have := h.1 i h1 h2; omega
/-- a row that differs only where nothing is said -/
theorem rI.same {σ τ : Int → Int} (h : rI σ) (e : ∀ j, (j = 0 ∨ j = 1 ∨ j = 2 ∨ j = 3 ∨ j = 4 ∨ j = 8 ∨ j = 9 ∨ (40 ≤ j ∧ j < 190)) → τ j = σ j) (em : ∀ m, 0 ≤ m → m < 4 → τ (10 + 6 * m) = σ (10 + 6 * m) ∧ τ (10 + 6 * m + 1) = σ (10 + 6 * m + 1) ∧ τ (10 + 6 * m + 2) = σ (10 + 6 * m + 2) ∧ τ (10 + 6 * m + 3) = σ (10 + 6 * m + 3)) : rI τ := by
  obtain ⟨h1, h2, h3, h4, h5, h6, h7⟩ := h
  have e0 := e 0 (by omega)
  have e1 := e 1 (by omega)
  have e2 := e 2 (by omega)
  have e3 := e 3 (by omega)
  have e4 := e 4 (by omega)
  have e8 := e 8 (by omega)
  have e9 := e 9 (by omega)
  refine ⟨fun i a b => by rw [e i (by omega)]; exact h1 i a b, by rw [e0, e1, e2, e3, e4, e8, e9]; exact h2, fun m a b => ?_, fun k a b => ?_, fun k a b => ?_, fun k a b => ?_, fun p w a b c d => ?_⟩
  · obtain ⟨q1, q2, q3, q4⟩ := em m a b
    rw [q1, q2, q3, q4, e0]
    exact h3 m a b
  · rw [e3] at b
    rw [e _ (by omega), e (150 + 3 * k + 1) (by omega), e (150 + 3 * k + 2) (by omega), e0, e1]
    exact h4 k a b
  · rw [e3] at b
    rw [e (150 + 3 * k + 2) (by omega), e (150 + 3 * k + 5) (by omega)]
    exact h5 k a b
  · rw [e (90 + 3 * k + 2) (by omega), e (120 + 3 * k + 2) (by omega)]
    exact h6 k a b
  · rw [e (40 + 9 * p + w) (by omega)]
    exact h7 p w a b c d
theorem rdrop_ap {σ : Int → Int} {p : Int} (hp : 0 ≤ p ∧ p ≤ σ 3 - 1) (j : Int) : rdrop σ p j = if 150 + 3 * p ≤ j ∧ j < 150 + 3 * (σ 3 - 1) then σ (j + 3) else if j = 3 then σ 3 - 1 else σ j := by
  simp only [rdrop, rcpy, zset]
  by_cases h : 150 + 3 * p ≤ j ∧ j < 150 + 3 * (σ 3 - 1)
  · rw [if_pos (by omega), if_neg (by omega), if_pos h]
    congr 1
    omega
  · rw [if_neg (by omega), if_neg h]
theorem rI.drop {σ : Int → Int} (h : rI σ) {p : Int} (hp : 0 ≤ p ∧ p ≤ σ 3 - 1) : rI (rdrop σ p) := by
  obtain ⟨h1, h2, h3, h4, h5, h6, h7⟩ := h
  have e := rdrop_ap hp
  have e3 : rdrop σ p 3 = σ 3 - 1 := by rw [e, if_neg (by omega), if_pos rfl]
  have eo : ∀ j, j ≠ 3 → (j < 150 ∨ 190 ≤ j) → rdrop σ p j = σ j := fun j a b => by rw [e, if_neg (by omega), if_neg a]
  have e0 := eo 0 (by omega) (by omega)
  have e1 := eo 1 (by omega) (by omega)
  have e2 := eo 2 (by omega) (by omega)
  have e4 := eo 4 (by omega) (by omega)
  have e8 := eo 8 (by omega) (by omega)
  have e9 := eo 9 (by omega) (by omega)
  refine ⟨fun i a b => ?_, by rw [e0, e1, e2, e3, e4, e8, e9]; omega, fun m a b => ?_, fun k a b => ?_, fun k a b => ?_, fun k a b => ?_, fun q w a b c d => ?_⟩
  · rw [e]
    split
    · exact h1 _ (by omega) (by omega)
    · rw [if_neg (by omega)]
      exact h1 i a b
  · rw [eo _ (by omega) (by omega), eo (10 + 6 * m + 1) (by omega) (by omega), eo (10 + 6 * m + 2) (by omega) (by omega), eo (10 + 6 * m + 3) (by omega) (by omega), e0]
    exact h3 m a b
  · rw [e3] at b
    rw [e0, e1, e, e (150 + 3 * k + 1), e (150 + 3 * k + 2)]
    by_cases c : p ≤ k
    · rw [if_pos (by omega), if_pos (by omega), if_pos (by omega)]
      have := h4 (k + 1) (by omega) (by omega)
      rw [show 150 + 3 * k + 3 = 150 + 3 * (k + 1) by omega, show 150 + 3 * k + 1 + 3 = 150 + 3 * (k + 1) + 1 by omega, show 150 + 3 * k + 2 + 3 = 150 + 3 * (k + 1) + 2 by omega]
      exact this
    · rw [if_neg (by omega), if_neg (by omega), if_neg (by omega), if_neg (by omega), if_neg (by omega), if_neg (by omega)]
      exact h4 k a (by omega)
  · rw [e3] at b
    rw [e (150 + 3 * k + 2), e (150 + 3 * k + 5)]
    by_cases c : p ≤ k
    · rw [if_pos (by omega), if_pos (by omega)]
      have := h5 (k + 1) (by omega) (by omega)
      rw [show 150 + 3 * k + 2 + 3 = 150 + 3 * (k + 1) + 2 by omega, show 150 + 3 * k + 5 + 3 = 150 + 3 * (k + 1) + 5 by omega]
      exact this
    · rw [if_neg (by omega), if_neg (by omega)]
      by_cases c2 : p = k + 1
      · rw [if_pos (by omega)]
        have a1 := h5 k a (by omega)
        have a2 := h5 (k + 1) (by omega) (by omega)
        rw [show 150 + 3 * (k + 1) + 2 = 150 + 3 * k + 5 by omega, show 150 + 3 * (k + 1) + 5 = 150 + 3 * k + 5 + 3 by omega] at a2
        omega
      · rw [if_neg (by omega), if_neg (by omega)]
        exact h5 k a (by omega)
  · rw [eo (90 + 3 * k + 2) (by omega) (by omega), eo (120 + 3 * k + 2) (by omega) (by omega)]
    exact h6 k a b
  · rw [eo (40 + 9 * q + w) (by omega) (by omega)]
    exact h7 q w a b c d
theorem rent_o {σ : Int → Int} {m k d dn j : Int} (hj : j < 190) (h4 : j ≠ 4) : rent σ m k d dn j = σ j := by
  simp only [rent, zset, rshf]
  rw [if_neg h4, if_neg (by omega), if_neg (by omega), if_neg (by omega), if_neg (by omega), if_neg (by omega)]
theorem rent_4 (σ : Int → Int) (m k d dn : Int) : rent σ m k d dn 4 = if σ 4 < 12 then σ 4 + 1 else σ 4 := by
  simp only [rent, zset, if_true]
theorem rI.ent {σ : Int → Int} (h : rI σ) (m k d dn : Int) : rI (rent σ m k d dn) := by
  obtain ⟨h1, h2, h3, h4, h5, h6, h7⟩ := h
  have eo : ∀ j, j ≠ 4 → j < 190 → rent σ m k d dn j = σ j := fun j a b => rent_o b a
  have e0 := eo 0 (by omega) (by omega)
  have e1 := eo 1 (by omega) (by omega)
  have e2 := eo 2 (by omega) (by omega)
  have e3 := eo 3 (by omega) (by omega)
  have e8 := eo 8 (by omega) (by omega)
  have e9 := eo 9 (by omega) (by omega)
  have e4 := rent_4 σ m k d dn
  refine ⟨fun i a b => by rw [eo i (by omega) b]; exact h1 i a b, ?_, fun q a b => ?_, fun q a b => ?_, fun q a b => ?_, fun q a b => ?_, fun q w a b c d => ?_⟩
  · rw [e0, e1, e2, e3, e4, e8, e9]
    split <;> omega
  · rw [eo _ (by omega) (by omega), eo (10 + 6 * q + 1) (by omega) (by omega), eo (10 + 6 * q + 2) (by omega) (by omega), eo (10 + 6 * q + 3) (by omega) (by omega), e0]
    exact h3 q a b
  · rw [e3] at b
    rw [eo _ (by omega) (by omega), eo (150 + 3 * q + 1) (by omega) (by omega), eo (150 + 3 * q + 2) (by omega) (by omega), e0, e1]
    exact h4 q a b
  · rw [e3] at b
    rw [eo (150 + 3 * q + 2) (by omega) (by omega), eo (150 + 3 * q + 5) (by omega) (by omega)]
    exact h5 q a b
  · rw [eo (90 + 3 * q + 2) (by omega) (by omega), eo (120 + 3 * q + 2) (by omega) (by omega)]
    exact h6 q a b
  · rw [eo (40 + 9 * q + w) (by omega) (by omega)]
    exact h7 q w a b c d
/-- a cleaning that is done -/
def rdust (kind x : Int) : Int := if kind = 0 then x / 2 else if kind = 1 then x / 20 else 0
def rdo (σ : Int → Int) (m kind : Int) : Int → Int :=
  zset (zset (zset (zset (zset σ (10 + 6 * m + 2) (rdust kind (σ (10 + 6 * m + 2)))) (10 + 6 * m + 3) (if kind = 2 then 0 else σ (10 + 6 * m + 3))) (10 + 6 * m + 4) (σ (10 + 6 * m + 4) + 1)) 5 (σ 5 + 1)) 7 (σ 7 + rtake kind)
theorem rdust_b {kind x : Int} (h : 0 ≤ x ∧ x ≤ 100000) : 0 ≤ rdust kind x ∧ rdust kind x ≤ 100000 := by
  unfold rdust
  split
  · omega
  · split <;> omega
theorem rI.do {σ : Int → Int} (h : rI σ) {m kind : Int} (hm : 0 ≤ m ∧ m < 4) : rI (rdo σ m kind) := by
  obtain ⟨h1, h2, h3, h4, h5, h6, h7⟩ := h
  have eo : ∀ j, (j < 10 ∨ 34 ≤ j) → j ≠ 5 → j ≠ 7 → rdo σ m kind j = σ j := fun j a b c => by
    simp only [rdo, zset]
    rw [if_neg c, if_neg b, if_neg (by omega), if_neg (by omega), if_neg (by omega)]
  have e0 := eo 0 (by omega) (by omega) (by omega)
  have e1 := eo 1 (by omega) (by omega) (by omega)
  have e2 := eo 2 (by omega) (by omega) (by omega)
  have e3 := eo 3 (by omega) (by omega) (by omega)
  have e4 := eo 4 (by omega) (by omega) (by omega)
  have e8 := eo 8 (by omega) (by omega) (by omega)
  have e9 := eo 9 (by omega) (by omega) (by omega)
  refine ⟨fun i a b => by rw [eo i (by omega) (by omega) (by omega)]; exact h1 i a b, by rw [e0, e1, e2, e3, e4, e8, e9]; exact h2, fun q a b => ?_, fun q a b => ?_, fun q a b => ?_, fun q a b => ?_, fun q w a b c d => ?_⟩
  · have hq := h3 q a b
    have f0 : rdo σ m kind (10 + 6 * q) = σ (10 + 6 * q) := by
      simp only [rdo, zset]
      rw [if_neg (by omega), if_neg (by omega), if_neg (by omega), if_neg (by omega), if_neg (by omega)]
    have f1 : rdo σ m kind (10 + 6 * q + 1) = σ (10 + 6 * q + 1) := by
      simp only [rdo, zset]
      rw [if_neg (by omega), if_neg (by omega), if_neg (by omega), if_neg (by omega), if_neg (by omega)]
    have f2 : rdo σ m kind (10 + 6 * q + 2) = if q = m then rdust kind (σ (10 + 6 * m + 2)) else σ (10 + 6 * q + 2) := by
      simp only [rdo, zset]
      rw [if_neg (by omega), if_neg (by omega), if_neg (by omega), if_neg (by omega)]
      by_cases c : q = m
      · rw [if_pos (by omega), if_pos c]
      · rw [if_neg (by omega), if_neg c]
    have f3 : rdo σ m kind (10 + 6 * q + 3) = if q = m then (if kind = 2 then 0 else σ (10 + 6 * m + 3)) else σ (10 + 6 * q + 3) := by
      simp only [rdo, zset]
      rw [if_neg (by omega), if_neg (by omega), if_neg (by omega)]
      by_cases c : q = m
      · rw [if_pos (by omega), if_pos c]
      · rw [if_neg (by omega), if_neg (by omega), if_neg c]
    have hd := rdust_b (kind := kind) (x := σ (10 + 6 * m + 2)) (by have := h3 m hm.1 hm.2; omega)
    have hm3 := h3 m hm.1 hm.2
    rw [f0, f1, f2, f3, e0]
    by_cases c : q = m
    · rw [if_pos c, if_pos c]
      split <;> omega
    · rw [if_neg c, if_neg c]
      exact hq
  · rw [e3] at b
    rw [eo _ (by omega) (by omega) (by omega), eo (150 + 3 * q + 1) (by omega) (by omega) (by omega), eo (150 + 3 * q + 2) (by omega) (by omega) (by omega), e0, e1]
    exact h4 q a b
  · rw [e3] at b
    rw [eo (150 + 3 * q + 2) (by omega) (by omega) (by omega), eo (150 + 3 * q + 5) (by omega) (by omega) (by omega)]
    exact h5 q a b
  · rw [eo (90 + 3 * q + 2) (by omega) (by omega) (by omega), eo (120 + 3 * q + 2) (by omega) (by omega) (by omega)]
    exact h6 q a b
  · rw [eo (40 + 9 * q + w) (by omega) (by omega) (by omega)]
    exact h7 q w a b c d
theorem rI.set {σ : Int → Int} (h : rI σ) {i x : Int} (hi : i = 5 ∨ i = 6 ∨ i = 7 ∨ 190 ≤ i) : rI (zset σ i x) :=
  h.same (fun j hj => by rw [zset_ap, if_neg (by omega)]) (fun m a b => ⟨by rw [zset_ap, if_neg (by omega)], by rw [zset_ap, if_neg (by omega)], by rw [zset_ap, if_neg (by omega)], by rw [zset_ap, if_neg (by omega)]⟩)
/-- the cleanings of a day -/
def rstp (σ : Int → Int) (d ppl left : Int) : (Int → Int) × Int :=
  if rneed (σ 151) ≤ ppl ∧ rtake (σ 151) ≤ left then (rdo (rent (rdrop σ 0) (σ 150) (σ 151) d 1) (σ 150) (σ 151), left - rtake (σ 151))
  else (zset (rent (rdrop σ 0) (σ 150) (σ 151) d 0) 6 (rent (rdrop σ 0) (σ 150) (σ 151) d 0 6 + 1), left)
def rclN (d ppl : Int) : Nat → (Int → Int) → Int → (Int → Int)
  | 0, σ, _ => σ
  | n + 1, σ, left => if 0 < σ 3 ∧ σ 152 = d then rclN d ppl n (rstp σ d ppl left).1 (rstp σ d ppl left).2 else σ
def rclean (σ : Int → Int) (d : Int) : Int → Int := rclN d (rpeop σ d) (σ 3).toNat σ (rhour σ d)
theorem rstp_I {σ : Int → Int} (h : rI σ) (d ppl left : Int) (h3 : 0 < σ 3) : rI (rstp σ d ppl left).1 := by
  have hp := h.2.2.2.1 0 (by omega) h3
  have h2 := h.2.1
  simp only [Int.mul_zero, Int.add_zero] at hp
  have hd := h.drop (p := 0) (by omega)
  unfold rstp
  split
  · exact (hd.ent _ _ _ _).do (by omega)
  · exact (hd.ent _ _ _ _).set (by omega)
theorem rstp_3 {σ : Int → Int} (h : rI σ) (d ppl left : Int) (h3 : 0 < σ 3) : (rstp σ d ppl left).1 3 = σ 3 - 1 := by
  have hp := h.2.2.2.1 0 (by omega) h3
  have h2 := h.2.1
  simp only [Int.mul_zero, Int.add_zero] at hp
  have e3 : rdrop σ 0 3 = σ 3 - 1 := by rw [rdrop_ap (by omega), if_neg (by omega), if_pos rfl]
  unfold rstp
  split
  · simp only [rdo, zset]
    rw [if_neg (by omega), if_neg (by omega), if_neg (by omega), if_neg (by omega), if_neg (by omega), rent_o (by omega) (by omega), e3]
  · simp only [zset]
    rw [if_neg (by omega), rent_o (by omega) (by omega), e3]
/-- what a cleaning that is looked at leaves as it was -/
theorem rstp_o {σ : Int → Int} (h : rI σ) (d ppl left : Int) (h3 : 0 < σ 3) (j : Int) (hj : j = 0 ∨ j = 1 ∨ j = 2 ∨ j = 8 ∨ j = 9 ∨ (40 ≤ j ∧ j < 150)) : (rstp σ d ppl left).1 j = σ j := by
  have hp := h.2.2.2.1 0 (by omega) h3
  have h2 := h.2.1
  simp only [Int.mul_zero, Int.add_zero] at hp
  have e3 : rdrop σ 0 j = σ j := by rw [rdrop_ap (by omega), if_neg (by omega), if_neg (by omega)]
  unfold rstp
  split
  · simp only [rdo, zset]
    rw [if_neg (by omega), if_neg (by omega), if_neg (by omega), if_neg (by omega), if_neg (by omega), rent_o (by omega) (by omega), e3]
  · simp only [zset]
    rw [if_neg (by omega), rent_o (by omega) (by omega), e3]
theorem rclN_I (d ppl : Int) : ∀ (n : Nat) (σ : Int → Int) (left : Int), rI σ → rI (rclN d ppl n σ left)
  | 0, σ, left, h => h
  | n + 1, σ, left, h => by
    unfold rclN
    split
    · rename_i hc
      exact rclN_I d ppl n _ _ (rstp_I h d ppl left hc.1)
    · exact h
theorem rclN_o (d ppl : Int) (j : Int) (hj : j = 0 ∨ j = 1 ∨ j = 2 ∨ j = 8 ∨ j = 9 ∨ (40 ≤ j ∧ j < 150)) : ∀ (n : Nat) (σ : Int → Int) (left : Int), rI σ → rclN d ppl n σ left j = σ j
  | 0, σ, left, h => rfl
  | n + 1, σ, left, h => by
    unfold rclN
    split
    · rename_i hc
      rw [rclN_o d ppl j hj n _ _ (rstp_I h d ppl left hc.1), rstp_o h d ppl left hc.1 j hj]
    · rfl
/-- behind the cleanings none of this day is left -/
theorem rclN_e (d ppl : Int) : ∀ (n : Nat) (σ : Int → Int) (left : Int), rI σ → σ 3 ≤ n → ¬ (0 < rclN d ppl n σ left 3 ∧ rclN d ppl n σ left 152 = d)
  | 0, σ, left, h, hn => by
    unfold rclN
    omega
  | n + 1, σ, left, h, hn => by
    unfold rclN
    split
    · rename_i hc
      exact rclN_e d ppl n _ _ (rstp_I h d ppl left hc.1) (by rw [rstp_3 h d ppl left hc.1]; omega)
    · rename_i hc
      exact hc
theorem rclean_I {σ : Int → Int} (h : rI σ) (d : Int) : rI (rclean σ d) := rclN_I _ _ _ _ _ h
theorem rclean_o {σ : Int → Int} (h : rI σ) (d j : Int) (hj : j = 0 ∨ j = 1 ∨ j = 2 ∨ j = 8 ∨ j = 9 ∨ (40 ≤ j ∧ j < 150)) : rclean σ d j = σ j := rclN_o _ _ j hj _ _ _ h
theorem rclean_e {σ : Int → Int} (h : rI σ) (d : Int) : ¬ (0 < rclean σ d 3 ∧ rclean σ d 152 = d) := rclN_e _ _ _ _ _ h (by have := h.2.1; omega)
