/-! the reference: what holds of all its cells, and that every act keeps it; T: the most the present day is -/
theorem rI.eq {σ τ : Int → Int} (h : rI σ) (e : ∀ j, 0 ≤ j → j < 240 → τ j = σ j) : rI τ :=
  h.same (fun j hj => e j (by omega) (by omega)) (fun m a b => ⟨e _ (by omega) (by omega), e _ (by omega) (by omega), e _ (by omega) (by omega), e _ (by omega) (by omega)⟩)
def rJ (T : Int) (ρ : Nat → Int → Int) : Prop :=
  (rI (ρ 0) ∧ ρ 0 0 ≤ T) ∧ rK ρ ∧ (∀ k, 0 ≤ k → k < ρ 7 0 → rI (fun j => ρ 2 (240 * k + j)) ∧ ρ 2 (240 * k) ≤ T) ∧
  (∀ s, (0 ≤ ρ 4 s ∧ ρ 4 s ≤ 1) ∧ (0 ≤ s → s ≤ 1 → ρ 4 s ≠ 0 → rI (fun j => ρ 3 (240 * s + j)) ∧ ρ 3 (240 * s) ≤ T)) ∧ tC (ρ 5) ∧ 0 ≤ ρ 7 2 ∧ ρ 7 2 ≤ 90
theorem rJ.mono {T U : Int} {ρ : Nat → Int → Int} (h : rJ T ρ) (hu : T ≤ U) : rJ U ρ := by
  obtain ⟨h1, h2, h3, h4, h5⟩ := h
  refine ⟨⟨h1.1, by omega⟩, h2, fun k a b => ⟨(h3 k a b).1, ?_⟩, fun s => ⟨(h4 s).1, fun a b c => ⟨((h4 s).2 a b c).1, ?_⟩⟩, h5⟩
  · have := (h3 k a b).2
    omega
  · have := ((h4 s).2 a b c).2
    omega
theorem rJ.put {T : Int} {ρ : Nat → Int → Int} (h : rJ T ρ) {σ : Int → Int} (h1 : rI σ) (h2 : σ 0 ≤ T) : rJ T (zst ρ 0 σ) := ⟨⟨h1, h2⟩, h.2.1, h.2.2.1, h.2.2.2.1, h.2.2.2.2⟩
theorem rJ.sav {T : Int} {ρ : Nat → Int → Int} (h : rJ T ρ) (σ : Int → Int) : rJ T (zst ρ 1 σ) := h
theorem rJ.num {T : Int} {ρ : Nat → Int → Int} (h : rJ T ρ) {i x : Int} (h0 : i ≠ 0) (h2 : i ≠ 2) : rJ T (zst ρ 7 (zset (ρ 7) i x)) := by
  have e0 : zst ρ 7 (zset (ρ 7) i x) 7 0 = ρ 7 0 := by
    show zset (ρ 7) i x 0 = _
    rw [zset_ap, if_neg (by omega)]
  have e2 : zst ρ 7 (zset (ρ 7) i x) 7 2 = ρ 7 2 := by
    show zset (ρ 7) i x 2 = _
    rw [zset_ap, if_neg (by omega)]
  obtain ⟨k1, k2, k3, k4, k5, k6⟩ := h
  refine ⟨k1, ?_, ?_, k4, k5, ?_⟩
  · unfold rK at k2 ⊢
    rw [e0]
    exact k2
  · rw [e0]
    exact k3
  · rw [e2]
    exact k6
theorem rJ.rec' {T : Int} {ρ : Nat → Int → Int} (h : rJ T ρ) : rJ T (rrec ρ) := by
  obtain ⟨k1, k2, k3, k4, k5, k6⟩ := h
  unfold rK at k2
  have e7 := rrec_7 ρ
  refine ⟨by rw [rrec_0]; exact k1, ?_, ?_, ?_, ?_, ?_⟩
  · unfold rK
    rw [e7, zset_ap, if_pos rfl]
    split <;> omega
  · rw [e7, zset_ap, if_pos rfl]
    intro k a b
    by_cases c : ρ 7 0 = 6
    · rw [if_pos c] at b
      have e2 : rrec ρ 2 = rcpy (ρ 0) (rcpy (ρ 2) (ρ 2) 240 0 1200) 0 1200 240 := by
        unfold rrec
        rw [if_pos c]
        rfl
      rw [e2]
      by_cases c5 : k = 5
      · subst c5
        refine ⟨k1.1.eq fun j h1 h2 => ?_, ?_⟩
        · simp only [rcpy]
          rw [if_pos (by omega)]
          congr 1
          omega
        · simp only [rcpy]
          rw [if_pos (by omega)]
          exact k1.2
      · have q := k3 (k + 1) (by omega) (by omega)
        refine ⟨q.1.eq fun j h1 h2 => ?_, ?_⟩
        · simp only [rcpy]
          rw [if_neg (by omega), if_pos (by omega)]
          congr 1
          omega
        · simp only [rcpy]
          rw [if_neg (by omega), if_pos (by omega), show 240 + (240 * k - 0) = 240 * (k + 1) by omega]
          exact q.2
    · rw [if_neg c] at b
      have e2 : rrec ρ 2 = rcpy (ρ 0) (ρ 2) 0 (240 * ρ 7 0) 240 := by
        unfold rrec
        rw [if_neg c]
        rfl
      rw [e2]
      by_cases c5 : k = ρ 7 0
      · rw [c5]
        refine ⟨k1.1.eq fun j h1 h2 => ?_, ?_⟩
        · simp only [rcpy]
          rw [if_pos (by omega)]
          congr 1
          omega
        · simp only [rcpy]
          rw [if_pos (by omega), show 0 + (240 * ρ 7 0 - 240 * ρ 7 0) = 0 by omega]
          exact k1.2
      · have q := k3 k a (by omega)
        refine ⟨q.1.eq fun j h1 h2 => ?_, ?_⟩
        · simp only [rcpy]
          rw [if_neg (by omega)]
        · simp only [rcpy]
          rw [if_neg (by omega)]
          exact q.2
  · rw [rrec_3, rrec_4]
    exact k4
  · rw [rrec_c _ (by decide) (by decide)]
    exact k5
  · rw [e7, zset_ap, if_neg (by omega)]
    exact k6
/-- record, then another row -/
theorem rJ.act {T : Int} {ρ : Nat → Int → Int} (h : rJ T ρ) {σ : Int → Int} (h1 : rI σ) (h2 : σ 0 ≤ T) : rJ T (zst (rrec ρ) 0 σ) := h.rec'.put h1 h2
theorem rJ.rest {T : Int} {ρ : Nat → Int → Int} (h : rJ T ρ) (s : Int) : rJ T (arest ρ s).2 := by
  unfold arest
  by_cases c1 : 0 ≤ s ∧ s ≤ 1
  · rw [if_neg (not_not_intro c1)]
    by_cases c2 : ρ 4 s = 0
    · rw [if_pos c2]
      exact h
    · rw [if_neg c2]
      have q := (h.2.2.2.1 s).2 c1.1 c1.2 c2
      refine h.act (q.1.eq fun j a b => ?_) ?_
      · simp only [rcpy]
        rw [if_pos (by omega), Int.sub_zero]
      · simp only [rcpy]
        rw [if_pos (by omega), show 240 * s + (0 - 0) = 240 * s by omega]
        exact q.2
  · rw [if_pos c1]
    exact h
theorem rJ.und {T : Int} {ρ : Nat → Int → Int} (h : rJ T ρ) (hk : ρ 7 0 ≠ 0) : rJ T (rund ρ) := by
  have hk2 := h.2.1
  unfold rK at hk2
  have q := h.2.2.1 (ρ 7 0 - 1) (by omega) (by omega)
  have e0 : rund ρ 0 = rcpy (ρ 2) (ρ 0) (240 * (ρ 7 0 - 1)) 0 240 := rfl
  have e7 : rund ρ 7 = zset (ρ 7) 0 (ρ 7 0 - 1) := rfl
  refine ⟨⟨?_, ?_⟩, ?_, fun k a b => ?_, h.2.2.2.1, h.2.2.2.2.1, ?_⟩
  · rw [e0]
    refine q.1.eq fun j a b => ?_
    simp only [rcpy]
    rw [if_pos (by omega), Int.sub_zero]
  · rw [e0]
    simp only [rcpy]
    rw [if_pos (by omega), show 240 * (ρ 7 0 - 1) + (0 - 0) = 240 * (ρ 7 0 - 1) by omega]
    exact q.2
  · unfold rK
    rw [e7, zset_ap, if_pos rfl]
    omega
  · rw [e7, zset_ap, if_pos rfl] at b
    exact h.2.2.1 k a (by omega)
  · rw [e7, zset_ap, if_neg (by omega)]
    exact h.2.2.2.2.2
theorem rJ.kee {T : Int} {ρ : Nat → Int → Int} (h : rJ T ρ) {s : Int} (hs : 0 ≤ s ∧ s ≤ 1) : rJ T (rkeep ρ s) := by
  have e3 : rkeep ρ s 3 = rcpy (ρ 0) (ρ 3) 0 (240 * s) 240 := rfl
  have e4 : rkeep ρ s 4 = zset (ρ 4) s 1 := rfl
  refine ⟨h.1, h.2.1, h.2.2.1, fun u => ?_, h.2.2.2.2⟩
  have q := h.2.2.2.1 u
  rw [e3, e4, zset_ap]
  by_cases c : u = s
  · rw [if_pos c]
    refine ⟨by omega, fun a b _ => ⟨h.1.1.eq fun j x y => ?_, ?_⟩⟩
    · simp only [rcpy]
      rw [if_pos (by omega)]
      congr 1
      omega
    · simp only [rcpy]
      rw [if_pos (by omega), show 0 + (240 * u - 240 * s) = 0 by omega]
      exact h.1.2
  · rw [if_neg c]
    refine ⟨q.1, fun a b d => ⟨(q.2 a b d).1.eq fun j x y => ?_, ?_⟩⟩
    · simp only [rcpy]
      rw [if_neg (by omega)]
    · simp only [rcpy]
      rw [if_neg (by omega)]
      exact (q.2 a b d).2
