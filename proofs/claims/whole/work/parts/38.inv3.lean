/-! what holds of every row, behind the other acts -/
theorem rI.tel {σ : Int → Int} (h : rI σ) {s f t w : Int} (hs : s = 0 ∨ s = 1) (hf : 0 ≤ f ∧ f ≤ 9999) (ht : f ≤ t ∧ t ≤ 9999) (hw : 0 ≤ w ∧ w ≤ if s = 0 then 500 else 30) (hc : σ (8 + s) ≤ 9) : rI (rtel σ s f t w) := by
  have hp := h.per hs
  obtain ⟨h1, h2, h3, h4, h5, h6, h7⟩ := h
  have ap : ∀ j, rtel σ s f t w j = if j = 8 + s then σ (8 + s) + 1 else if j = 90 + 30 * s + 3 * σ (8 + s) + 2 then w else if j = 90 + 30 * s + 3 * σ (8 + s) + 1 then t else if j = 90 + 30 * s + 3 * σ (8 + s) then f else σ j := fun j => by simp only [rtel, zset]
  have hw2 : (s = 0 → w ≤ 500) ∧ (s = 1 → w ≤ 30) ∧ w ≤ 500 := by
    rcases hs with rfl | rfl
    · rw [if_pos rfl] at hw
      omega
    · rw [if_neg (by omega)] at hw
      omega
  have eo : ∀ j, j ≠ 8 + s → (j < 90 + 30 * s + 3 * σ (8 + s) ∨ 90 + 30 * s + 3 * σ (8 + s) + 2 < j) → rtel σ s f t w j = σ j := fun j a b => by rw [ap, if_neg a, if_neg (by omega), if_neg (by omega), if_neg (by omega)]
  have e0 := eo 0 (by omega) (by omega)
  have e1 := eo 1 (by omega) (by omega)
  have e2 := eo 2 (by omega) (by omega)
  have e3 := eo 3 (by omega) (by omega)
  have e4 := eo 4 (by omega) (by omega)
  have e8 : 0 ≤ rtel σ s f t w 8 ∧ rtel σ s f t w 8 ≤ 10 := by
    rw [ap]
    by_cases c : (8 : Int) = 8 + s
    · rw [if_pos c]
      omega
    · rw [if_neg c, if_neg (by omega), if_neg (by omega), if_neg (by omega)]
      omega
  have e9 : 0 ≤ rtel σ s f t w 9 ∧ rtel σ s f t w 9 ≤ 10 := by
    rw [ap]
    by_cases c : (9 : Int) = 8 + s
    · rw [if_pos c]
      omega
    · rw [if_neg c, if_neg (by omega), if_neg (by omega), if_neg (by omega)]
      omega
  refine ⟨fun i a b => ?_, by rw [e0, e1, e2, e3, e4]; omega, fun m a b => ?_, fun k a b => ?_, fun k a b => ?_, fun k a b => ?_, fun p w a b c d => ?_⟩
  · have := h1 i a b
    rw [ap, if_neg (by omega)]
    by_cases c1 : i = 90 + 30 * s + 3 * σ (8 + s) + 2
    · rw [if_pos c1]
      omega
    · rw [if_neg c1]
      by_cases c2 : i = 90 + 30 * s + 3 * σ (8 + s) + 1
      · rw [if_pos c2]
        omega
      · rw [if_neg c2]
        by_cases c3 : i = 90 + 30 * s + 3 * σ (8 + s)
        · rw [if_pos c3]
          omega
        · rw [if_neg c3]
          exact this
  · rw [eo _ (by omega) (by omega), eo (10 + 6 * m + 1) (by omega) (by omega), eo (10 + 6 * m + 2) (by omega) (by omega), eo (10 + 6 * m + 3) (by omega) (by omega), e0]
    exact h3 m a b
  · rw [e3] at b
    rw [eo _ (by omega) (by omega), eo (150 + 3 * k + 1) (by omega) (by omega), eo (150 + 3 * k + 2) (by omega) (by omega), e0, e1]
    exact h4 k a b
  · rw [e3] at b
    rw [eo (150 + 3 * k + 2) (by omega) (by omega), eo (150 + 3 * k + 5) (by omega) (by omega)]
    exact h5 k a b
  · have hk := h6 k a b
    rw [ap, ap (120 + 3 * k + 2), if_neg (by omega), if_neg (show ¬ 120 + 3 * k + 2 = 8 + s by omega), if_neg (show ¬ 90 + 3 * k + 2 = 90 + 30 * s + 3 * σ (8 + s) + 1 by omega), if_neg (show ¬ 90 + 3 * k + 2 = 90 + 30 * s + 3 * σ (8 + s) by omega), if_neg (show ¬ 120 + 3 * k + 2 = 90 + 30 * s + 3 * σ (8 + s) + 1 by omega), if_neg (show ¬ 120 + 3 * k + 2 = 90 + 30 * s + 3 * σ (8 + s) by omega)]
    by_cases c1 : 90 + 3 * k + 2 = 90 + 30 * s + 3 * σ (8 + s) + 2
    · rw [if_pos c1, if_neg (by omega)]
      omega
    · rw [if_neg c1]
      by_cases c2 : 120 + 3 * k + 2 = 90 + 30 * s + 3 * σ (8 + s) + 2
      · rw [if_pos c2]
        omega
      · rw [if_neg c2]
        exact hk
  · rw [eo (40 + 9 * p + w) (by omega) (by omega)]
    exact h7 p w a b c d
theorem rI.addm {σ : Int → Int} (h : rI σ) {w we : Int} (hw : 0 ≤ w ∧ w ≤ 100) (hwe : 0 ≤ we ∧ we ≤ 20) (hc : σ 1 ≤ 3) : rI (raddm σ w we) := by
  obtain ⟨h1, h2, h3, h4, h5, h6, h7⟩ := h
  have ap : ∀ j, raddm σ w we j = if j = 1 then σ 1 + 1 else if j = 10 + 6 * σ 1 + 1 then we else if j = 10 + 6 * σ 1 then w else if j = 10 + 6 * σ 1 + 5 then 0 else if j = 10 + 6 * σ 1 + 4 then 0 else if j = 10 + 6 * σ 1 + 3 then 0 else if j = 10 + 6 * σ 1 + 2 then 0 else σ j := fun j => by simp only [raddm, zset]
  have eo : ∀ j, j ≠ 1 → (j < 10 + 6 * σ 1 ∨ 10 + 6 * σ 1 + 5 < j) → raddm σ w we j = σ j := fun j a b => by rw [ap, if_neg a, if_neg (by omega), if_neg (by omega), if_neg (by omega), if_neg (by omega), if_neg (by omega), if_neg (by omega)]
  have e0 := eo 0 (by omega) (by omega)
  have e1 : raddm σ w we 1 = σ 1 + 1 := by rw [ap, if_pos rfl]
  have e2 := eo 2 (by omega) (by omega)
  have e3 := eo 3 (by omega) (by omega)
  have e4 := eo 4 (by omega) (by omega)
  have e8 := eo 8 (by omega) (by omega)
  have e9 := eo 9 (by omega) (by omega)
  refine ⟨fun i a b => by rw [eo i (by omega) (by omega)]; exact h1 i a b, by rw [e0, e1, e2, e3, e4, e8, e9]; omega, fun m a b => ?_, fun k a b => ?_, fun k a b => ?_, fun k a b => ?_, fun p w a b c d => ?_⟩
  · rw [e0]
    by_cases c : m = σ 1
    · subst c
      have a0 : raddm σ w we (10 + 6 * σ 1) = w := by rw [ap, if_neg (by omega), if_neg (by omega), if_pos rfl]
      have a1 : raddm σ w we (10 + 6 * σ 1 + 1) = we := by rw [ap, if_neg (by omega), if_pos rfl]
      have a2 : raddm σ w we (10 + 6 * σ 1 + 2) = 0 := by rw [ap, if_neg (by omega), if_neg (by omega), if_neg (by omega), if_neg (by omega), if_neg (by omega), if_neg (by omega), if_pos rfl]
      have a3 : raddm σ w we (10 + 6 * σ 1 + 3) = 0 := by rw [ap, if_neg (by omega), if_neg (by omega), if_neg (by omega), if_neg (by omega), if_neg (by omega), if_pos rfl]
      rw [a0, a1, a2, a3]
      omega
    · rw [eo _ (by omega) (by omega), eo (10 + 6 * m + 1) (by omega) (by omega), eo (10 + 6 * m + 2) (by omega) (by omega), eo (10 + 6 * m + 3) (by omega) (by omega)]
      exact h3 m a b
  · rw [e3] at b
    have := h4 k a b
    rw [eo _ (by omega) (by omega), eo (150 + 3 * k + 1) (by omega) (by omega), eo (150 + 3 * k + 2) (by omega) (by omega), e0, e1]
    omega
  · rw [e3] at b
    rw [eo (150 + 3 * k + 2) (by omega) (by omega), eo (150 + 3 * k + 5) (by omega) (by omega)]
    exact h5 k a b
  · rw [eo (90 + 3 * k + 2) (by omega) (by omega), eo (120 + 3 * k + 2) (by omega) (by omega)]
    exact h6 k a b
  · rw [eo (40 + 9 * p + w) (by omega) (by omega)]
    exact h7 p w a b c d
theorem rI.addp {σ : Int → Int} (h : rI σ) (hc : σ 2 ≤ 4) : rI (raddp σ) := by
  obtain ⟨h1, h2, h3, h4, h5, h6, h7⟩ := h
  have ap : ∀ j, raddp σ j = if j = 2 then σ 2 + 1 else if 40 + 9 * σ 2 ≤ j ∧ j < 40 + 9 * σ 2 + 7 then 0 else if 40 + 9 * σ 2 + 7 ≤ j ∧ j < 40 + 9 * σ 2 + 9 then -1 else σ j := fun j => rfl
  have eo : ∀ j, j ≠ 2 → (j < 40 + 9 * σ 2 ∨ 40 + 9 * σ 2 + 9 ≤ j) → raddp σ j = σ j := fun j a b => by rw [ap, if_neg a, if_neg (by omega), if_neg (by omega)]
  have e0 := eo 0 (by omega) (by omega)
  have e1 := eo 1 (by omega) (by omega)
  have e2 : raddp σ 2 = σ 2 + 1 := by rw [ap, if_pos rfl]
  have e3 := eo 3 (by omega) (by omega)
  have e4 := eo 4 (by omega) (by omega)
  have e8 := eo 8 (by omega) (by omega)
  have e9 := eo 9 (by omega) (by omega)
  refine ⟨fun i a b => ?_, by rw [e0, e1, e2, e3, e4, e8, e9]; omega, fun m a b => ?_, fun k a b => ?_, fun k a b => ?_, fun k a b => ?_, fun p w a b c d => ?_⟩
  · have := h1 i a b
    rw [ap, if_neg (by omega)]
    split
    · omega
    · split
      · omega
      · exact this
  · rw [eo _ (by omega) (by omega), eo (10 + 6 * m + 1) (by omega) (by omega), eo (10 + 6 * m + 2) (by omega) (by omega), eo (10 + 6 * m + 3) (by omega) (by omega), e0]
    exact h3 m a b
  · rw [e3] at b
    rw [eo _ (by omega) (by omega), eo (150 + 3 * k + 1) (by omega) (by omega), eo (150 + 3 * k + 2) (by omega) (by omega), e0, e1]
    exact h4 k a b
  · rw [e3] at b
    rw [eo (150 + 3 * k + 2) (by omega) (by omega), eo (150 + 3 * k + 5) (by omega) (by omega)]
    exact h5 k a b
  · rw [eo (90 + 3 * k + 2) (by omega) (by omega), eo (120 + 3 * k + 2) (by omega) (by omega)]
    exact h6 k a b
  · rw [ap, if_neg (by omega)]
    by_cases q : p = σ 2
    · rw [if_pos (by omega)]
      omega
    · rw [if_neg (by omega), if_neg (by omega)]
      exact h7 p w a b c d
theorem rI.hrs {σ : Int → Int} (h : rI σ) {p w x : Int} (hp : 0 ≤ p ∧ p < 5) (hw : 0 ≤ w ∧ w ≤ 6) (hx : 0 ≤ x ∧ x ≤ 12) : rI (zset σ (40 + 9 * p + w) x) := by
  obtain ⟨h1, h2, h3, h4, h5, h6, h7⟩ := h
  have eo : ∀ j, j ≠ 40 + 9 * p + w → zset σ (40 + 9 * p + w) x j = σ j := fun j a => by rw [zset_ap, if_neg a]
  refine ⟨fun i a b => ?_, by rw [eo 0 (by omega), eo 1 (by omega), eo 2 (by omega), eo 3 (by omega), eo 4 (by omega), eo 8 (by omega), eo 9 (by omega)]; omega, fun m a b => ?_, fun k a b => ?_, fun k a b => ?_, fun k a b => ?_, fun q u a b c d => ?_⟩
  · have := h1 i a b
    rw [zset_ap]
    split <;> omega
  · rw [eo _ (by omega), eo (10 + 6 * m + 1) (by omega), eo (10 + 6 * m + 2) (by omega), eo (10 + 6 * m + 3) (by omega), eo 0 (by omega)]
    exact h3 m a b
  · rw [eo 3 (by omega)] at b
    rw [eo _ (by omega), eo (150 + 3 * k + 1) (by omega), eo (150 + 3 * k + 2) (by omega), eo 0 (by omega), eo 1 (by omega)]
    exact h4 k a b
  · rw [eo 3 (by omega)] at b
    rw [eo (150 + 3 * k + 2) (by omega), eo (150 + 3 * k + 5) (by omega)]
    exact h5 k a b
  · rw [eo (90 + 3 * k + 2) (by omega), eo (120 + 3 * k + 2) (by omega)]
    exact h6 k a b
  · have := h7 q u a b c d
    rw [zset_ap]
    split <;> omega
theorem rI.off {σ : Int → Int} (h : rI σ) {p c x : Int} (hp : 0 ≤ p ∧ p < 5) (hw : c = 7 ∨ c = 8) (hx : 0 ≤ x ∧ x ≤ 9999) : rI (zset σ (40 + 9 * p + c) x) := by
  obtain ⟨h1, h2, h3, h4, h5, h6, h7⟩ := h
  have eo : ∀ j, j ≠ 40 + 9 * p + c → zset σ (40 + 9 * p + c) x j = σ j := fun j a => by rw [zset_ap, if_neg a]
  refine ⟨fun i a b => ?_, by rw [eo 0 (by omega), eo 1 (by omega), eo 2 (by omega), eo 3 (by omega), eo 4 (by omega), eo 8 (by omega), eo 9 (by omega)]; omega, fun m a b => ?_, fun k a b => ?_, fun k a b => ?_, fun k a b => ?_, fun q u a b c d => ?_⟩
  · have := h1 i a b
    rw [zset_ap]
    split <;> omega
  · rw [eo _ (by omega), eo (10 + 6 * m + 1) (by omega), eo (10 + 6 * m + 2) (by omega), eo (10 + 6 * m + 3) (by omega), eo 0 (by omega)]
    exact h3 m a b
  · rw [eo 3 (by omega)] at b
    rw [eo _ (by omega), eo (150 + 3 * k + 1) (by omega), eo (150 + 3 * k + 2) (by omega), eo 0 (by omega), eo 1 (by omega)]
    exact h4 k a b
  · rw [eo 3 (by omega)] at b
    rw [eo (150 + 3 * k + 2) (by omega), eo (150 + 3 * k + 5) (by omega)]
    exact h5 k a b
  · rw [eo (90 + 3 * k + 2) (by omega), eo (120 + 3 * k + 2) (by omega)]
    exact h6 k a b
  · rw [eo (40 + 9 * q + u) (by omega)]
    exact h7 q u a b c d
theorem rI.per0 {σ : Int → Int} (h : rI σ) {i : Int} (hi : i = 8 ∨ i = 9) : rI (zset σ i 0) := by
  obtain ⟨h1, h2, h3, h4, h5, h6, h7⟩ := h
  have eo : ∀ j, j ≠ i → zset σ i 0 j = σ j := fun j a => by rw [zset_ap, if_neg a]
  have e8 : 0 ≤ zset σ i 0 8 ∧ zset σ i 0 8 ≤ 10 := by
    rw [zset_ap]
    split <;> omega
  have e9 : 0 ≤ zset σ i 0 9 ∧ zset σ i 0 9 ≤ 10 := by
    rw [zset_ap]
    split <;> omega
  refine ⟨fun j a b => by rw [eo j (by omega)]; exact h1 j a b, by rw [eo 0 (by omega), eo 1 (by omega), eo 2 (by omega), eo 3 (by omega), eo 4 (by omega)]; omega, fun m a b => ?_, fun k a b => ?_, fun k a b => ?_, fun k a b => ?_, fun q u a b c d => ?_⟩
  · rw [eo _ (by omega), eo (10 + 6 * m + 1) (by omega), eo (10 + 6 * m + 2) (by omega), eo (10 + 6 * m + 3) (by omega), eo 0 (by omega)]
    exact h3 m a b
  · rw [eo 3 (by omega)] at b
    rw [eo _ (by omega), eo (150 + 3 * k + 1) (by omega), eo (150 + 3 * k + 2) (by omega), eo 0 (by omega), eo 1 (by omega)]
    exact h4 k a b
  · rw [eo 3 (by omega)] at b
    rw [eo (150 + 3 * k + 2) (by omega), eo (150 + 3 * k + 5) (by omega)]
    exact h5 k a b
  · rw [eo (90 + 3 * k + 2) (by omega), eo (120 + 3 * k + 2) (by omega)]
    exact h6 k a b
  · rw [eo (40 + 9 * q + u) (by omega)]
    exact h7 q u a b c d
