/-! p31: what holds of every row beside rI and rVr: the accounts of cleanings, the light that was lost -/
def dsN (σ : Int → Int) : Nat → Int
  | 0 => 0
  | k + 1 => dsN σ k + σ (10 + 6 * (k : Int) + 4)
theorem dsN_c {σ τ : Int → Int} : ∀ k : Nat, (∀ m : Int, 0 ≤ m → m < k → τ (10 + 6 * m + 4) = σ (10 + 6 * m + 4)) → dsN τ k = dsN σ k
  | 0, _ => rfl
  | k + 1, h => by
    unfold dsN
    rw [dsN_c k (fun m a b => h m a (by omega)), h k (by omega) (by omega)]
theorem dsN_1 {σ τ : Int → Int} {m : Int} (hm : 0 ≤ m) : ∀ k : Nat, (∀ q : Int, 0 ≤ q → q < k → τ (10 + 6 * q + 4) = σ (10 + 6 * q + 4) + (if q = m then 1 else 0)) → dsN τ k = dsN σ k + (if m < k then 1 else 0)
  | 0, _ => by
    rw [if_neg (by omega)]
    rfl
  | k + 1, h => by
    unfold dsN
    rw [dsN_1 hm k (fun q a b => h q a (by omega)), h k (by omega) (by omega)]
    by_cases c : (k : Int) = m
    · rw [if_pos c, if_neg (by omega), if_pos (by omega)]
      omega
    · rw [if_neg c]
      by_cases c2 : m < k
      · rw [if_pos c2, if_pos (by omega)]
        omega
      · rw [if_neg c2, if_neg (by omega)]
        omega
def sR (T : Int) (σ : Int → Int) : Prop :=
  dsN σ (σ 1).toNat = σ 5 ∧ (∀ m, 0 ≤ m → m < 4 → 0 ≤ σ (10 + 6 * m + 5) ∧ σ (10 + 6 * m + 5) ≤ 1000000 * σ 0) ∧ (0 ≤ σ 5 ∧ 0 ≤ σ 6 ∧ σ 5 ≤ σ 7 ∧ σ 7 ≤ 12 * σ 5) ∧ (σ 4 = if 12 < σ 5 + σ 6 then 12 else σ 5 + σ 6) ∧ σ 5 + σ 6 + σ 3 ≤ T
theorem sR.mono {T U : Int} {σ : Int → Int} (h : sR T σ) (hu : T ≤ U) : sR U σ := ⟨h.1, h.2.1, h.2.2.1, h.2.2.2.1, by have := h.2.2.2.2; omega⟩
theorem sR.same3 {T U : Int} {σ τ : Int → Int} (h : sR T σ) (hI : rI σ) (e : ∀ j, 0 ≤ j → j < 34 → j ≠ 2 → j ≠ 3 → j ≠ 8 → j ≠ 9 → τ j = σ j) (h3 : σ 5 + σ 6 + τ 3 ≤ U) : sR U τ := by
  have hb := hI.2.1
  obtain ⟨h1, h2, h4, h5, h6⟩ := h
  have e0 := e 0 (by omega) (by omega) (by omega) (by omega) (by omega) (by omega)
  have e1 := e 1 (by omega) (by omega) (by omega) (by omega) (by omega) (by omega)
  have e4 := e 4 (by omega) (by omega) (by omega) (by omega) (by omega) (by omega)
  have e5 := e 5 (by omega) (by omega) (by omega) (by omega) (by omega) (by omega)
  have e6 := e 6 (by omega) (by omega) (by omega) (by omega) (by omega) (by omega)
  have e7 := e 7 (by omega) (by omega) (by omega) (by omega) (by omega) (by omega)
  refine ⟨?_, fun m a b => ?_, by rw [e5, e6, e7]; exact h4, by rw [e4, e5, e6]; exact h5, by rw [e5, e6]; exact h3⟩
  · rw [e1, e5, ← h1]
    exact dsN_c _ fun m a b => e _ (by omega) (by omega) (by omega) (by omega) (by omega) (by omega)
  · rw [e0, e (10 + 6 * m + 5) (by omega) (by omega) (by omega) (by omega) (by omega) (by omega)]
    exact h2 m a b
theorem sR.same {T : Int} {σ τ : Int → Int} (h : sR T σ) (hI : rI σ) (e : ∀ j, 0 ≤ j → j < 34 → j ≠ 2 → j ≠ 8 → j ≠ 9 → τ j = σ j) : sR T τ :=
  h.same3 hI (fun j a b c _ d f => e j a b c d f) (by rw [e 3 (by omega) (by omega) (by omega) (by omega) (by omega)]; exact h.2.2.2.2)
theorem sR.add {T : Int} {σ : Int → Int} (h : sR T σ) (hI : rI σ) (m k d : Int) : sR (T + 1) (radd σ m k d) := by
  have hb := hI.2.1
  have h6 := h.2.2.2.2
  refine h.same3 hI (fun j a b _ c _ _ => radd_o σ m k d (by omega) j c (by omega)) ?_
  rw [radd_ap σ m k d (by omega) 3, if_pos rfl]
  omega
theorem sR.drop {T : Int} {σ : Int → Int} (h : sR T σ) (hI : rI σ) {p : Int} (hp : 0 ≤ p ∧ p ≤ σ 3 - 1) : sR T (rdrop σ p) := by
  have h6 := h.2.2.2.2
  refine h.same3 hI (fun j a b _ c _ _ => ?_) ?_
  · rw [rdrop_ap hp, if_neg (by omega), if_neg c]
  · rw [rdrop_ap hp, if_neg (by omega), if_pos rfl]
    omega
theorem sR.addm {T : Int} {σ : Int → Int} (h : sR T σ) (hI : rI σ) (w we : Int) (hc : σ 1 ≤ 3) : sR T (raddm σ w we) := by
  have hb := hI.2.1
  have h6 := h.2.2.2.2
  obtain ⟨h1, h2, h4, h5, h6⟩ := h
  have e : ∀ j, j ≠ 1 → (j < 10 + 6 * σ 1 ∨ 16 + 6 * σ 1 ≤ j) → raddm σ w we j = σ j := fun j a b => by
    simp only [raddm]
    rw [zset_ne (by omega), zset_ne (by omega), zset_ne (by omega), zset_ne (by omega), zset_ne (by omega), zset_ne (by omega), zset_ne (by omega)]
  have e1 : raddm σ w we 1 = σ 1 + 1 := by
    simp only [raddm]
    rw [zset_same]
  have e4 : raddm σ w we (10 + 6 * σ 1 + 4) = 0 := by
    simp only [raddm]
    rw [zset_ne (by omega), zset_ne (by omega), zset_ne (by omega), zset_ne (by omega), zset_same]
  have e5 : raddm σ w we (10 + 6 * σ 1 + 5) = 0 := by
    simp only [raddm]
    rw [zset_ne (by omega), zset_ne (by omega), zset_ne (by omega), zset_same]
  refine ⟨?_, fun m a b => ?_, ?_, ?_, ?_⟩
  · rw [e1, e 5 (by omega) (by omega), show (σ 1 + 1).toNat = (σ 1).toNat + 1 by omega]
    unfold dsN
    rw [dsN_c (σ := σ) _ (fun m a b => e _ (by omega) (by omega)), h1, show (((σ 1).toNat : Nat) : Int) = σ 1 by omega, e4]
    omega
  · rw [e 0 (by omega) (by omega)]
    by_cases c : m = σ 1
    · rw [c, e5]
      omega
    · rw [e _ (by omega) (by omega)]
      exact h2 m a b
  · rw [e 5 (by omega) (by omega), e 6 (by omega) (by omega), e 7 (by omega) (by omega)]
    exact h4
  · rw [e 5 (by omega) (by omega), e 6 (by omega) (by omega), e 4 (by omega) (by omega)]
    exact h5
  · rw [e 5 (by omega) (by omega), e 6 (by omega) (by omega), e 3 (by omega) (by omega)]
    exact h6
/-! a cleaning of the plan, a day, a night -/
theorem rdrop_0o {σ : Int → Int} (h3 : 0 < σ 3) (h12 : σ 3 ≤ 12) (j : Int) (hj : j ≠ 3) (h : j < 150 ∨ 183 ≤ j) : rdrop σ 0 j = σ j := by
  rw [rdrop_ap ⟨by omega, by omega⟩, if_neg (by omega), if_neg hj]
theorem rstp_sR {T : Int} {σ : Int → Int} (h : sR T σ) (hI : rI σ) (d ppl left : Int) (h3 : 0 < σ 3) : sR T (rstp σ d ppl left).1 := by
  have hb := hI.2.1
  have hm := hI.2.2.2.1 0 (by omega) h3
  rw [show (150 : Int) + 3 * 0 = 150 from rfl, show (150 : Int) + 1 = 151 from rfl] at hm
  obtain ⟨h1, h2, h4, h5, h6⟩ := h
  have hd3 : rdrop σ 0 3 = σ 3 - 1 := by
    rw [rdrop_ap ⟨by omega, by omega⟩, if_neg (by omega), if_pos rfl]
  have hd : ∀ j, j ≠ 3 → j < 150 → rdrop σ 0 j = σ j := fun j a b => rdrop_0o h3 (by omega) j a (Or.inl b)
  have ht := rtake_b (σ 151)
  have g : ∀ dn, (∀ j, j ≠ 3 → j ≠ 4 → j < 150 → rent (rdrop σ 0) (σ 150) (σ 151) d dn j = σ j) ∧ rent (rdrop σ 0) (σ 150) (σ 151) d dn 3 = σ 3 - 1 ∧ rent (rdrop σ 0) (σ 150) (σ 151) d dn 4 = if σ 4 < 12 then σ 4 + 1 else σ 4 := fun dn =>
    ⟨fun j a b c => by rw [rent_o (by omega) b, hd j a c], by rw [rent_o (by omega) (by omega), hd3], by rw [rent_4, hd 4 (by omega) (by omega)]⟩
  unfold rstp
  split
  · obtain ⟨g0, g3, g4⟩ := g 1
    generalize rent (rdrop σ 0) (σ 150) (σ 151) d 1 = μ at g0 g3 g4
    show sR T (rdo μ (σ 150) (σ 151))
    have u5 := g0 5 (by omega) (by omega) (by omega)
    have u6 := g0 6 (by omega) (by omega) (by omega)
    have u7 := g0 7 (by omega) (by omega) (by omega)
    have v5 : rdo μ (σ 150) (σ 151) 5 = σ 5 + 1 := by
      simp only [rdo]
      rw [zset_ne (by omega), zset_same, u5]
    have v7 : rdo μ (σ 150) (σ 151) 7 = σ 7 + rtake (σ 151) := by
      simp only [rdo]
      rw [zset_same, u7]
    have v : ∀ j, j ≠ 5 → j ≠ 7 → (j < 10 ∨ j ≠ 10 + 6 * σ 150 + 2 ∧ j ≠ 10 + 6 * σ 150 + 3 ∧ j ≠ 10 + 6 * σ 150 + 4) → rdo μ (σ 150) (σ 151) j = μ j := fun j a b c => by
      simp only [rdo]
      rw [zset_ne (by omega), zset_ne (by omega), zset_ne (by omega), zset_ne (by omega), zset_ne (by omega)]
    have v4 : rdo μ (σ 150) (σ 151) (10 + 6 * σ 150 + 4) = σ (10 + 6 * σ 150 + 4) + 1 := by
      simp only [rdo]
      rw [zset_ne (by omega), zset_ne (by omega), zset_same, g0 _ (by omega) (by omega) (by omega)]
    refine ⟨?_, fun m a b => ?_, ?_, ?_, ?_⟩
    · rw [v 1 (by omega) (by omega) (by omega), g0 1 (by omega) (by omega) (by omega), v5]
      rw [dsN_1 (σ := σ) (m := σ 150) hm.1 _ (fun q a b => ?_), h1, if_pos (by omega)]
      by_cases c : q = σ 150
      · rw [if_pos c, c, v4]
      · rw [if_neg c, v _ (by omega) (by omega) (by omega), g0 _ (by omega) (by omega) (by omega)]
        omega
    · rw [v 0 (by omega) (by omega) (by omega), g0 0 (by omega) (by omega) (by omega), v _ (by omega) (by omega) (by omega), g0 _ (by omega) (by omega) (by omega)]
      exact h2 m a b
    · rw [v5, v7, v 6 (by omega) (by omega) (by omega), u6]
      omega
    · rw [v5, v 6 (by omega) (by omega) (by omega), u6, v 4 (by omega) (by omega) (by omega), g4]
      by_cases c : 12 < σ 5 + σ 6
      · rw [if_pos c] at h5
        rw [if_neg (by omega), if_pos (by omega)]
        exact h5
      · rw [if_neg c] at h5
        by_cases c2 : σ 4 < 12
        · rw [if_pos c2, if_neg (by omega)]
          omega
        · rw [if_neg c2, if_pos (by omega)]
          omega
    · rw [v5, v 6 (by omega) (by omega) (by omega), u6, v 3 (by omega) (by omega) (by omega), g3]
      omega
  · obtain ⟨g0, g3, g4⟩ := g 0
    generalize rent (rdrop σ 0) (σ 150) (σ 151) d 0 = μ at g0 g3 g4
    show sR T (zset μ 6 (μ 6 + 1))
    have u5 := g0 5 (by omega) (by omega) (by omega)
    have u6 := g0 6 (by omega) (by omega) (by omega)
    have u7 := g0 7 (by omega) (by omega) (by omega)
    have v : ∀ j, j ≠ 6 → zset μ 6 (μ 6 + 1) j = μ j := fun j a => zset_ne a
    have v6 : zset μ 6 (μ 6 + 1) 6 = σ 6 + 1 := by rw [zset_same, u6]
    refine ⟨?_, fun m a b => ?_, ?_, ?_, ?_⟩
    · rw [v 1 (by omega), g0 1 (by omega) (by omega) (by omega), v 5 (by omega), u5]
      rw [dsN_c (σ := σ) _ (fun q a b => ?_), h1]
      rw [v _ (by omega), g0 _ (by omega) (by omega) (by omega)]
    · rw [v 0 (by omega), g0 0 (by omega) (by omega) (by omega), v _ (by omega), g0 _ (by omega) (by omega) (by omega)]
      exact h2 m a b
    · rw [v 5 (by omega), v 7 (by omega), v6, u5, u7]
      omega
    · rw [v 5 (by omega), v6, u5, v 4 (by omega), g4]
      by_cases c : 12 < σ 5 + σ 6
      · rw [if_pos c] at h5
        rw [if_neg (by omega), if_pos (by omega)]
        exact h5
      · rw [if_neg c] at h5
        by_cases c2 : σ 4 < 12
        · rw [if_pos c2, if_neg (by omega)]
          omega
        · rw [if_neg c2, if_pos (by omega)]
          omega
    · rw [v 5 (by omega), v6, u5, v 3 (by omega), g3]
      omega
theorem rclN_sR {T : Int} (d ppl : Int) : ∀ (n : Nat) (σ : Int → Int) (left : Int), rI σ → sR T σ → sR T (rclN d ppl n σ left)
  | 0, σ, left, _, h => h
  | n + 1, σ, left, hI, h => by
    unfold rclN
    split
    · rename_i c
      exact rclN_sR d ppl n _ _ (rstp_I hI d ppl left c.1) (rstp_sR h hI d ppl left c.1)
    · exact h
theorem rmirN_5 (σ : Int → Int) (rate f : Int) (m : Int) (hm : 0 ≤ m) : ∀ k : Nat, rmirN σ rate f k (10 + 6 * m + 5) = if m < k then σ (10 + 6 * m + 5) + rits σ rate f m else σ (10 + 6 * m + 5)
  | 0 => by
    rw [if_neg (by omega)]
    rfl
  | k + 1 => by
    unfold rmirN rmir1
    by_cases c : m = k
    · rw [c, zset_same, rmirN_o _ _ _ _ _ (Or.inr (by omega)), if_pos (by omega), rmirN_o _ _ _ _ _ (Or.inr (by omega)), rmirN_o _ _ _ _ _ (Or.inr (by omega)), rmirN_o _ _ _ _ _ (Or.inr (by omega)), rmirN_o _ _ _ _ _ (Or.inr (by omega))]
      rfl
    · rw [zset_ne (by omega), zset_ne (by omega), zset_ne (by omega), rmirN_5 σ rate f m hm k]
      by_cases c2 : m < k
      · rw [if_pos c2, if_pos (by omega)]
      · rw [if_neg c2, if_neg (by omega)]
theorem rmirN_4 (σ : Int → Int) (rate f : Int) (m : Int) (hm : 0 ≤ m) : ∀ k : Nat, rmirN σ rate f k (10 + 6 * m + 4) = σ (10 + 6 * m + 4)
  | 0 => rfl
  | k + 1 => by
    unfold rmirN rmir1
    rw [zset_ne (by omega), zset_ne (by omega), zset_ne (by omega), rmirN_4 σ rate f m hm k]
theorem rits_b {σ : Int → Int} (hI : rI σ) {rate f m : Int} (hr : 0 ≤ rate) (hf : 0 ≤ f ∧ f ≤ 1000) (hm : 0 ≤ m ∧ m < 4) : 0 ≤ rits σ rate f m ∧ rits σ rate f m ≤ 1000000 := by
  have h := hI.2.2.1 m hm.1 hm.2
  exact nits_b ⟨h.1, h.2.1⟩ h.2.2.2.2.1 hr h.2.2.2.2.2.2.1 h.2.2.1 hf
theorem rnight_sR {T : Int} {σ : Int → Int} (h : sR T σ) (hI : rI σ) : sR T (rnight σ) := by
  have hb := hI.2.1
  have hC := rclean_I hI (σ 0)
  have hcS : sR T (rclean σ (σ 0)) := rclN_sR _ _ _ _ _ hI h
  have hf := rfact_b hI
  have hr := rrate_b hI
  have c0 := rclean_o hI (σ 0) 0 (by omega)
  have c1 := rclean_o hI (σ 0) 1 (by omega)
  obtain ⟨h1, h2, h4, h5, h6⟩ := hcS
  have e : ∀ j, j ≠ 0 → j < 10 → rnight σ j = rclean σ (σ 0) j := fun j a b => by
    unfold rnight
    rw [zset_ne a, rmirN_o _ _ _ _ _ (Or.inl b)]
  have e4 : ∀ m, 0 ≤ m → rnight σ (10 + 6 * m + 4) = rclean σ (σ 0) (10 + 6 * m + 4) := fun m a => by
    unfold rnight
    rw [zset_ne (by omega), rmirN_4 _ _ _ _ a]
  refine ⟨?_, fun m a b => ?_, ?_, ?_, ?_⟩
  · rw [e 1 (by omega) (by omega), e 5 (by omega) (by omega), ← h1]
    exact dsN_c _ fun m a b => e4 m a
  · rw [rnight_0]
    have q := h2 m a b
    rw [c0] at q
    have hi := rits_b hC hr.1 ⟨by omega, hf.2⟩ ⟨a, b⟩
    unfold rnight
    rw [zset_ne (by omega), rmirN_5 _ _ _ _ a]
    split <;> omega
  · rw [e 5 (by omega) (by omega), e 6 (by omega) (by omega), e 7 (by omega) (by omega)]
    exact h4
  · rw [e 5 (by omega) (by omega), e 6 (by omega) (by omega), e 4 (by omega) (by omega)]
    exact h5
  · rw [e 5 (by omega) (by omega), e 6 (by omega) (by omega), e 3 (by omega) (by omega)]
    exact h6
theorem rpasN_sR {T : Int} : ∀ (n : Nat) {σ : Int → Int}, rI σ → sR T σ → sR T (rpasN n σ)
  | 0, _, _, h => h
  | n + 1, _, hI, h => rpasN_sR n hI.night (rnight_sR h hI)
/-! the cells that no row has -/
def oR (σ : Int → Int) : Prop := ∀ j, (j < 0 ∨ 240 ≤ j) → σ j = 0
theorem oR.same {σ τ : Int → Int} (h : oR σ) (e : ∀ j, (j < 0 ∨ 240 ≤ j) → τ j = σ j) : oR τ := fun j hj => by rw [e j hj, h j hj]
theorem oR.set {σ : Int → Int} (h : oR σ) {i x : Int} (hi : 0 ≤ i ∧ i < 240) : oR (zset σ i x) := h.same fun j hj => zset_ne (by omega)
theorem oR.ext {σ τ : Int → Int} (h : oR σ) (h2 : oR τ) (e : ∀ j, 0 ≤ j → j < 240 → τ j = σ j) : τ = σ := by
  funext j
  by_cases c : 0 ≤ j ∧ j < 240
  · exact e j c.1 c.2
  · rw [h j (by omega), h2 j (by omega)]
theorem oR.add {σ : Int → Int} (h : oR σ) (hI : rI σ) (m k d : Int) : oR (radd σ m k d) := by
  have hb := hI.2.1
  exact h.same fun j hj => radd_o σ m k d (by omega) j (by omega) (by omega)
theorem oR.drop {σ : Int → Int} (h : oR σ) (hI : rI σ) {p : Int} (hp : 0 ≤ p ∧ p ≤ σ 3 - 1) : oR (rdrop σ p) := by
  have hb := hI.2.1
  exact h.same fun j hj => by rw [rdrop_ap hp, if_neg (by omega), if_neg (by omega)]
theorem oR.addm {σ : Int → Int} (h : oR σ) (hI : rI σ) (w we : Int) (hc : σ 1 ≤ 3) : oR (raddm σ w we) := by
  have hb := hI.2.1
  exact h.same fun j hj => by
    simp only [raddm]
    rw [zset_ne (by omega), zset_ne (by omega), zset_ne (by omega), zset_ne (by omega), zset_ne (by omega), zset_ne (by omega), zset_ne (by omega)]
theorem oR.addp {σ : Int → Int} (h : oR σ) (hI : rI σ) (hc : σ 2 ≤ 4) : oR (raddp σ) := by
  have hb := hI.2.1
  exact h.same fun j hj => by
    simp only [raddp]
    rw [if_neg (by omega), if_neg (by omega), if_neg (by omega)]
theorem oR.tel {σ : Int → Int} (h : oR σ) (hI : rI σ) {s : Int} (hs : s = 0 ∨ s = 1) (f t w : Int) (hc : σ (8 + s) ≤ 9) : oR (rtel σ s f t w) := by
  have hp := hI.per hs
  exact h.same fun j hj => by
    simp only [rtel]
    rw [zset_ne (by omega), zset_ne (by omega), zset_ne (by omega), zset_ne (by omega)]
theorem rent_out {σ : Int → Int} {m k d dn j : Int} (hj : j < 0 ∨ 240 ≤ j) : rent σ m k d dn j = σ j := by
  simp only [rent]
  rw [zset_ne (by omega), zset_ne (by omega), zset_ne (by omega), zset_ne (by omega), zset_ne (by omega)]
  exact if_neg (by omega)
theorem rstp_out {σ : Int → Int} (hI : rI σ) (d ppl left : Int) (h3 : 0 < σ 3) (j : Int) (hj : j < 0 ∨ 240 ≤ j) : (rstp σ d ppl left).1 j = σ j := by
  have hb := hI.2.1
  have hm := hI.2.2.2.1 0 (by omega) h3
  rw [show (150 : Int) + 3 * 0 = 150 from rfl] at hm
  unfold rstp
  split
  · show rdo _ _ _ j = _
    simp only [rdo]
    rw [zset_ne (by omega), zset_ne (by omega), zset_ne (by omega), zset_ne (by omega), zset_ne (by omega), rent_out hj, rdrop_0o h3 (by omega) j (by omega) (by omega)]
  · show zset _ 6 _ j = _
    rw [zset_ne (by omega), rent_out hj, rdrop_0o h3 (by omega) j (by omega) (by omega)]
theorem rclN_out (d ppl : Int) (j : Int) (hj : j < 0 ∨ 240 ≤ j) : ∀ (n : Nat) (σ : Int → Int) (left : Int), rI σ → rclN d ppl n σ left j = σ j
  | 0, σ, left, _ => rfl
  | n + 1, σ, left, hI => by
    unfold rclN
    split
    · rename_i c
      rw [rclN_out d ppl j hj n _ _ (rstp_I hI d ppl left c.1), rstp_out hI d ppl left c.1 j hj]
    · rfl
theorem oR.night {σ : Int → Int} (h : oR σ) (hI : rI σ) : oR (rnight σ) := by
  have hb := hI.2.1
  exact h.same fun j hj => by
    unfold rnight
    rw [zset_ne (by omega), rmirN_o _ _ _ _ _ (by omega)]
    exact rclN_out _ _ j hj _ _ _ hI
theorem oR.pas : ∀ (n : Nat) {σ : Int → Int}, rI σ → oR σ → oR (rpasN n σ)
  | 0, _, _, h => h
  | n + 1, _, hI, h => oR.pas n hI.night (h.night hI)
