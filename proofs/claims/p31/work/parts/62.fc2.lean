/-! the nights ahead with a cleaning more -/
theorem rhasB_f {σ : Int → Int} {m d : Int} : ∀ k : Nat, rhasB σ m d k = false → ∀ j : Int, 0 ≤ j → j < k → ¬ (σ (150 + 3 * j) = m ∧ σ (150 + 3 * j + 2) = d)
  | 0, _, j, h0, h1 => absurd h1 (by omega)
  | k + 1, h, j, h0, h1 => by
    unfold rhasB at h
    rw [Bool.or_eq_false_iff] at h
    by_cases c : j = k
    · subst c
      intro q
      have h2 := h.2
      rw [q.1, q.2] at h2
      simp at h2
    · exact rhasB_f k h.1 j h0 (by omega)
theorem ragst_z {σ : Int → Int} {m k d : Int} (h : ragst σ m k d = 0) : rneed k ≤ rpeop σ d ∧ rplan σ d + rtake k ≤ rhour σ d ∧ rhasB σ m d (σ 3).toNat = false ∧ σ 3 ≠ 12 := by
  unfold ragst at h
  by_cases c1 : rpeop σ d < rneed k
  · rw [if_pos c1] at h; omega
  · rw [if_neg c1] at h
    by_cases c2 : rhour σ d < rplan σ d + rtake k
    · rw [if_pos c2] at h; omega
    · rw [if_neg c2] at h
      by_cases c3 : rhasB σ m d (σ 3).toNat = true
      · rw [if_pos c3] at h; omega
      · rw [if_neg c3] at h
        by_cases c4 : σ 3 = 12
        · rw [if_pos c4] at h; omega
        · exact ⟨by omega, by omega, Bool.not_eq_true _ ▸ c3, c4⟩
theorem ragst_y {σ : Int → Int} {m k d : Int} (h1 : rneed k ≤ rpeop σ d) (h2 : rplan σ d + rtake k ≤ rhour σ d) (h3 : rhasB σ m d (σ 3).toNat = false) (h4 : σ 3 ≠ 12) : ragst σ m k d = 0 := by
  unfold ragst
  rw [if_neg (by omega), if_neg (by omega), if_neg (by rw [h3]; decide), if_neg h4]
section FA
variable {σ : Int → Int} {m k d : Int}
theorem radd_3 (hI : rI σ) : radd σ m k d 3 = σ 3 + 1 := by
  have h2 := hI.2.1
  rw [radd_ap σ m k d (by omega), if_pos rfl]
theorem radd_lo (hI : rI σ) (j : Int) (hj : j ≠ 3) (h2 : j < 150) : radd σ m k d j = σ j := radd_o σ m k d (by have := hI.2.1; omega) j hj (Or.inl h2)
theorem rplc_hi (hI : rI σ) (j : Int) (h1 : (rplc σ d : Int) ≤ j) (h2 : j < σ 3) : d < σ (150 + 3 * j + 2) := by
  have hb := hI.2.1
  have := (rplcN_sp σ d (σ 3).toNat).1 j.toNat (by unfold rplc at h1; omega) (by omega)
  rw [show ((j.toNat : Nat) : Int) = j by omega] at this
  exact this
theorem ckd_hi (hI : rI σ) (q y p2 left : Int) (i n : Nat) (hi : (rplc σ d : Int) ≤ i) (hn : (i : Int) + n ≤ σ 3) : ckd (radd σ m k d) q y p2 n (i + 1) left = ckd σ q y p2 n i left := by
  have hb := hI.2.1
  refine ckd_sh n (i + 1) i left fun j c a b e f => ?_
  have := radd_e σ m k d (by omega) (i + 1 + j) c ⟨e, f⟩ (by omega)
  rw [if_neg (by omega), if_neg (by omega)] at this
  rw [show ((i + 1 : Nat) : Int) + j = (i : Int) + 1 + j by omega, this, show (i : Int) + 1 + j - 1 = i + j by omega]
theorem radd_at (hI : rI σ) (i : Int) (h0 : 0 ≤ i) (hi : i < rplc σ d) (c : Int) (hc : 0 ≤ c ∧ c ≤ 2) : radd σ m k d (150 + 3 * i + c) = σ (150 + 3 * i + c) := by
  have hb := hI.2.1
  have hp := rplc_le σ d (by omega)
  rw [radd_e σ m k d (by omega) i c hc (by omega), if_pos hi]
theorem radd_new (hI : rI σ) : radd σ m k d (150 + 3 * (rplc σ d : Int)) = m ∧ radd σ m k d (150 + 3 * (rplc σ d : Int) + 1) = k ∧ radd σ m k d (150 + 3 * (rplc σ d : Int) + 2) = d := by
  have hb := hI.2.1
  rw [radd_ap σ m k d (by omega), radd_ap σ m k d (by omega), radd_ap σ m k d (by omega)]
  refine ⟨?_, ?_, ?_⟩
  · rw [if_neg (by omega), if_neg (by omega), if_neg (by omega), if_pos rfl]
  · rw [if_neg (by omega), if_neg (by omega), if_pos rfl]
  · rw [if_neg (by omega), if_pos rfl]
theorem ckd_add (hI : rI σ) {q y p2 : Int} (hy : y ≠ d ∨ q ≠ m) : ∀ (n i : Nat) (left : Int), i ≤ rplc σ d → (i : Int) + n = σ 3 → ckd (radd σ m k d) q y p2 (n + 1) i left = ckd σ q y p2 n i left := by
  have hb := hI.2.1
  have hp := rplc_le σ d (by omega)
  have last : ∀ (n : Nat) (left : Int), (rplc σ d : Int) + n = σ 3 → ckd (radd σ m k d) q y p2 (n + 1) (rplc σ d) left = ckd σ q y p2 n (rplc σ d) left := by
    intro n left hn
    obtain ⟨e0, e1, e2⟩ := radd_new (σ := σ) (m := m) (k := k) (d := d) hI
    have hh := fun l => ckd_hi (m := m) (k := k) (d := d) hI q y p2 l (rplc σ d) n (by omega) (by omega)
    have eC : ckd (radd σ m k d) q y p2 (n + 1) (rplc σ d) left = if radd σ m k d (150 + 3 * (rplc σ d : Int) + 2) = y ∧ rneed (radd σ m k d (150 + 3 * (rplc σ d : Int) + 1)) ≤ p2 ∧ rtake (radd σ m k d (150 + 3 * (rplc σ d : Int) + 1)) ≤ left then (if radd σ m k d (150 + 3 * (rplc σ d : Int)) = q then radd σ m k d (150 + 3 * (rplc σ d : Int) + 1) else ckd (radd σ m k d) q y p2 n (rplc σ d + 1) (left - rtake (radd σ m k d (150 + 3 * (rplc σ d : Int) + 1)))) else ckd (radd σ m k d) q y p2 n (rplc σ d + 1) left := rfl
    rw [eC, e0, e1, e2, hh, hh]
    by_cases c : d = y ∧ rneed k ≤ p2 ∧ rtake k ≤ left
    · have hq : ¬ m = q := fun e => by
        rcases hy with h | h
        · exact h c.1.symm
        · exact h e.symm
      have hn : ∀ l, ckd σ q y p2 n (rplc σ d) l = -1 := fun l => ckd_none n _ l fun j a b h => by
        have := rplc_hi (σ := σ) (d := d) hI j (by omega) (by omega)
        omega
      rw [if_pos c, if_neg hq, hn, hn]
    · rw [if_neg c]
  intro n
  induction n with
  | zero =>
    intro i left hi hn
    have : i = rplc σ d := by omega
    subst this
    exact last 0 left (by omega)
  | succ n ih =>
    intro i left hi hn
    by_cases c : i = rplc σ d
    · subst c
      exact last (n + 1) left hn
    · have a0 := radd_at (m := m) (k := k) (d := d) hI i (by omega) (by omega) 0 (by omega)
      have a1 := radd_at (m := m) (k := k) (d := d) hI i (by omega) (by omega) 1 (by omega)
      have a2 := radd_at (m := m) (k := k) (d := d) hI i (by omega) (by omega) 2 (by omega)
      rw [Int.add_zero] at a0
      have hr := fun l => ih (i + 1) l (by omega) (by omega)
      have eC : ckd (radd σ m k d) q y p2 (n + 1 + 1) i left = if radd σ m k d (150 + 3 * (i : Int) + 2) = y ∧ rneed (radd σ m k d (150 + 3 * (i : Int) + 1)) ≤ p2 ∧ rtake (radd σ m k d (150 + 3 * (i : Int) + 1)) ≤ left then (if radd σ m k d (150 + 3 * (i : Int)) = q then radd σ m k d (150 + 3 * (i : Int) + 1) else ckd (radd σ m k d) q y p2 (n + 1) (i + 1) (left - rtake (radd σ m k d (150 + 3 * (i : Int) + 1)))) else ckd (radd σ m k d) q y p2 (n + 1) (i + 1) left := rfl
      rw [eC, a0, a1, a2, hr, hr]
      rfl
theorem rplanN_m (σ : Int → Int) (d : Int) (i : Nat) : ∀ n : Nat, rplanN σ d i ≤ rplanN σ d (i + n)
  | 0 => Int.le_refl _
  | n + 1 => by
    have ih := rplanN_m σ d i n
    have b := rtake_b (σ (150 + 3 * ((i + n : Nat) : Int) + 1))
    have e : rplanN σ d (i + (n + 1)) = rplanN σ d (i + n) + (if σ (150 + 3 * ((i + n : Nat) : Int) + 2) = d then rtake (σ (150 + 3 * ((i + n : Nat) : Int) + 1)) else 0) := rfl
    rw [e]
    split <;> omega
theorem ckd_add2 (hI : rI σ) {p2 : Int} (hf : ∀ j : Int, 0 ≤ j → j < σ 3 → ¬ (σ (150 + 3 * j) = m ∧ σ (150 + 3 * j + 2) = d)) (hn : rneed k ≤ p2) : ∀ (n i : Nat) (left : Int), i ≤ rplc σ d → (i : Int) + n = σ 3 → rplanN σ d (i + n) - rplanN σ d i + rtake k ≤ left → ckd (radd σ m k d) m d p2 (n + 1) i left = k := by
  have hb := hI.2.1
  have hp := rplc_le σ d (by omega)
  have last : ∀ (n : Nat) (left : Int), rtake k ≤ left → ckd (radd σ m k d) m d p2 (n + 1) (rplc σ d) left = k := by
    intro n left hl
    obtain ⟨e0, e1, e2⟩ := radd_new (σ := σ) (m := m) (k := k) (d := d) hI
    have eC : ckd (radd σ m k d) m d p2 (n + 1) (rplc σ d) left = if radd σ m k d (150 + 3 * (rplc σ d : Int) + 2) = d ∧ rneed (radd σ m k d (150 + 3 * (rplc σ d : Int) + 1)) ≤ p2 ∧ rtake (radd σ m k d (150 + 3 * (rplc σ d : Int) + 1)) ≤ left then (if radd σ m k d (150 + 3 * (rplc σ d : Int)) = m then radd σ m k d (150 + 3 * (rplc σ d : Int) + 1) else ckd (radd σ m k d) m d p2 n (rplc σ d + 1) (left - rtake (radd σ m k d (150 + 3 * (rplc σ d : Int) + 1)))) else ckd (radd σ m k d) m d p2 n (rplc σ d + 1) left := rfl
    rw [eC, e0, e1, e2, if_pos ⟨rfl, hn, hl⟩, if_pos rfl]
  intro n
  induction n with
  | zero =>
    intro i left hi hn hl
    have : i = rplc σ d := by omega
    subst this
    refine last 0 left ?_
    rw [Nat.add_zero] at hl
    omega
  | succ n ih =>
    intro i left hi hn hl
    have hm := rplanN_m σ d i (n + 1)
    by_cases c : i = rplc σ d
    · subst c
      exact last (n + 1) left (by omega)
    · have a0 := radd_at (m := m) (k := k) (d := d) hI i (by omega) (by omega) 0 (by omega)
      have a1 := radd_at (m := m) (k := k) (d := d) hI i (by omega) (by omega) 1 (by omega)
      have a2 := radd_at (m := m) (k := k) (d := d) hI i (by omega) (by omega) 2 (by omega)
      rw [Int.add_zero] at a0
      have bt := rtake_b (σ (150 + 3 * (i : Int) + 1))
      have hs : rplanN σ d (i + 1) = rplanN σ d i + (if σ (150 + 3 * (i : Int) + 2) = d then rtake (σ (150 + 3 * (i : Int) + 1)) else 0) := rfl
      have en : i + 1 + n = i + (n + 1) := by omega
      have eC : ckd (radd σ m k d) m d p2 (n + 1 + 1) i left = if radd σ m k d (150 + 3 * (i : Int) + 2) = d ∧ rneed (radd σ m k d (150 + 3 * (i : Int) + 1)) ≤ p2 ∧ rtake (radd σ m k d (150 + 3 * (i : Int) + 1)) ≤ left then (if radd σ m k d (150 + 3 * (i : Int)) = m then radd σ m k d (150 + 3 * (i : Int) + 1) else ckd (radd σ m k d) m d p2 (n + 1) (i + 1) (left - rtake (radd σ m k d (150 + 3 * (i : Int) + 1)))) else ckd (radd σ m k d) m d p2 (n + 1) (i + 1) left := rfl
      rw [eC, a0, a1, a2]
      by_cases c2 : σ (150 + 3 * (i : Int) + 2) = d ∧ rneed (σ (150 + 3 * (i : Int) + 1)) ≤ p2 ∧ rtake (σ (150 + 3 * (i : Int) + 1)) ≤ left
      · rw [if_pos c2, if_neg (fun e => hf i (by omega) (by omega) ⟨e, c2.1⟩)]
        rw [if_pos c2.1] at hs
        refine ih (i + 1) _ (by omega) (by omega) ?_
        rw [en]
        omega
      · rw [if_neg c2]
        refine ih (i + 1) _ (by omega) (by omega) ?_
        rw [en]
        have : 0 ≤ (if σ (150 + 3 * (i : Int) + 2) = d then rtake (σ (150 + 3 * (i : Int) + 1)) else 0) := by split <;> omega
        omega
theorem radd_N (hI : rI σ) (hN : rN σ) (h : ragst σ m k d = 0) : rN (radd σ m k d) := by
  have hb := hI.2.1
  have hp := rplc_le σ d (by omega)
  have hf := rhasB_f _ (ragst_z h).2.2.1
  intro i j h0 h1 h2
  rw [radd_3 hI] at h2
  have a0 := radd_e σ m k d (by omega) i 0 (by omega) (by omega)
  have a2 := radd_e σ m k d (by omega) i 2 (by omega) (by omega)
  have b0 := radd_e σ m k d (by omega) j 0 (by omega) (by omega)
  have b2 := radd_e σ m k d (by omega) j 2 (by omega) (by omega)
  rw [Int.add_zero] at a0 b0
  rw [a0, a2, b0, b2]
  simp only [Int.add_zero, if_true, reduceIte, Int.reduceEq]
  by_cases c1 : i < rplc σ d
  · rw [if_pos c1, if_pos c1]
    by_cases c2 : j < rplc σ d
    · rw [if_pos c2, if_pos c2]
      exact hN i j h0 h1 (by omega)
    · rw [if_neg c2, if_neg c2]
      by_cases c3 : j = rplc σ d
      · rw [if_pos c3, if_pos c3]
        exact hf i h0 (by omega)
      · rw [if_neg c3, if_neg c3]
        exact hN i (j - 1) h0 (by omega) (by omega)
  · rw [if_neg c1, if_neg c1, if_neg (show ¬ j < (rplc σ d : Int) by omega), if_neg (show ¬ j < (rplc σ d : Int) by omega), if_neg (show ¬ j = (rplc σ d : Int) by omega), if_neg (show ¬ j = (rplc σ d : Int) by omega)]
    by_cases c3 : i = rplc σ d
    · rw [if_pos c3, if_pos c3]
      intro q
      exact hf (j - 1) (by omega) (by omega) ⟨q.1.symm, q.2.symm⟩
    · rw [if_neg c3, if_neg c3]
      exact hN (i - 1) (j - 1) (by omega) (by omega) (by omega)
theorem rkd_add (hI : rI σ) (h : ragst σ m k d = 0) (hd : 0 ≤ d) (q y : Int) : rkd (radd σ m k d) q y = if y = d ∧ q = m then k else rkd σ q y := by
  have hb := hI.2.1
  obtain ⟨g1, g2, g3, g4⟩ := ragst_z h
  have hf := rhasB_f _ g3
  have h3 := radd_3 (m := m) (k := k) (d := d) hI
  unfold rkd
  rw [rpeop_h hI (radd_lo hI 2 (by omega) (by omega)) (fun j a b => radd_lo hI j (by omega) (by omega)), rhour_h hI (radd_lo hI 2 (by omega) (by omega)) (fun j a b => radd_lo hI j (by omega) (by omega)), h3, show (σ 3 + 1).toNat = (σ 3).toNat + 1 by omega]
  by_cases c : y = d ∧ q = m
  · rw [if_pos c, c.1, c.2]
    refine ckd_add2 hI (fun j a b => hf j a (by omega)) g1 (σ 3).toNat 0 _ (by omega) (by omega) ?_
    have e0 : rplanN σ d 0 = 0 := rfl
    rw [e0, Nat.zero_add]
    unfold rplan at g2
    omega
  · rw [if_neg c]
    exact ckd_add hI (by omega) (σ 3).toNat 0 _ (by omega) (by omega)
end FA
