/-! of ref20 -/
theorem rpasN_0 : ∀ (n : Nat) (σ : Int → Int), rpasN n σ 0 = σ 0 + n
  | 0, σ => by
    show σ 0 = σ 0 + ((0 : Nat) : Int)
    omega
  | n + 1, σ => by
    show rpasN n (rnight σ) 0 = _
    rw [rpasN_0 n, rnight_0]
    omega
/-- carrying out keeps what holds of rows -/
theorem rdoesO_I {ρ : Nat → Int → Int} {q : Int × Int × Int × Int} (hq : rQ q) (hI : rI (ρ 0)) (hT : ρ 0 0 ≤ 100000000) (hc : ¬ (rchkO ρ q).1 < 0) : rI (rdoesO (ρ 0) q) ∧ rdoesO (ρ 0) q 0 ≤ ρ 0 0 + 60 ∧ ρ 0 0 ≤ rdoesO (ρ 0) q 0 := by
  have hb := hI.2.1
  obtain ⟨k0, k1, k2, k3⟩ := rchkO_c hq hc
  unfold rQ at hq
  unfold rdoesO
  by_cases c1 : q.1 < 3
  · rw [if_pos c1, radd_o _ _ _ _ (by omega) _ (by omega) (by omega)]
    exact ⟨hI.add (by omega) (by omega) (by omega) (by omega), by omega, by omega⟩
  · rw [if_neg c1]
    by_cases c2 : q.1 = 3
    · rw [if_pos c2, rdrop_ap (by omega), if_neg (by omega), if_neg (by omega)]
      exact ⟨hI.drop (by omega), by omega, by omega⟩
    · rw [if_neg c2]
      by_cases c3 : q.1 = 4
      · rw [if_pos c3, rpasN_0]
        exact ⟨rpasN_I _ hI, by omega, by omega⟩
      · rw [if_neg c3]
        obtain ⟨a1, a2, a3⟩ := k3 (by omega)
        refine ⟨hI.tel (Or.inl rfl) a1 a2 (by rw [if_pos rfl]; omega) (by rw [Int.add_zero]; omega), ?_, ?_⟩
        · simp only [rtel, zset, Int.add_zero]
          rw [if_neg (by omega), if_neg (by omega), if_neg (by omega), if_neg (by omega)]
          omega
        · simp only [rtel, zset, Int.add_zero]
          rw [if_neg (by omega), if_neg (by omega), if_neg (by omega), if_neg (by omega)]
          omega
def rrun : List (Int × Int × Int × Int) → (Nat → Int → Int) → Int → Int × (Nat → Int → Int)
  | [], ρ, n => (n, ρ)
  | q :: qs, ρ, n => if (rchkO ρ q).1 < 0 then (n, zst (rchkO ρ q).2 7 (zset (zset ((rchkO ρ q).2 7) 7 n) 8 (if (rchkO ρ q).1 = -1000003 then (rchkO ρ q).2 7 1 else if (rchkO ρ q).1 = -1000001 then 11 else 12)))
    else rrun qs (zst ρ 0 (rdoesO (ρ 0) q)) (n + 1)

/-! of ref21 -/
/-! the reference: runOrders as a whole; what of its cells says something -/
def rSame (ρ τ : Nat → Int → Int) : Prop := τ 0 = ρ 0 ∧ τ 2 = ρ 2 ∧ τ 3 = ρ 3 ∧ τ 4 = ρ 4 ∧ τ 5 = ρ 5 ∧ ∀ j, (j = 0 ∨ j = 1 ∨ j = 2 ∨ j = 7 ∨ j = 8) → τ 7 j = ρ 7 j

/-! of ref22 -/
/-! the reference: what holds of all its cells, and that every act keeps it; T: the most the present day is -/
theorem rI.eq {σ τ : Int → Int} (h : rI σ) (e : ∀ j, 0 ≤ j → j < 240 → τ j = σ j) : rI τ :=
  h.same (fun j hj => e j (by omega) (by omega)) (fun m a b => ⟨e _ (by omega) (by omega), e _ (by omega) (by omega), e _ (by omega) (by omega), e _ (by omega) (by omega)⟩)
def rJ (T : Int) (ρ : Nat → Int → Int) : Prop :=
  (rI (ρ 0) ∧ ρ 0 0 ≤ T) ∧ rK ρ ∧ (∀ k, 0 ≤ k → k < ρ 7 0 → rI (fun j => ρ 2 (240 * k + j)) ∧ ρ 2 (240 * k) ≤ T) ∧
  (∀ s, (0 ≤ ρ 4 s ∧ ρ 4 s ≤ 1) ∧ (0 ≤ s → s ≤ 1 → ρ 4 s ≠ 0 → rI (fun j => ρ 3 (240 * s + j)) ∧ ρ 3 (240 * s) ≤ T)) ∧ tC (ρ 5) ∧ 0 ≤ ρ 7 2 ∧ ρ 7 2 ≤ 90
theorem rJ.mono {T U : Int} {ρ : Nat → Int → Int} (h : rJ T ρ) (hu : T ≤ U) : rJ U ρ := by
  obtain ⟨h1, h2, h3, h4, h5⟩ := h
  refine ⟨⟨h1.1, by omega⟩, h2, fun k a b => ⟨(h3 k a b).1, ?_⟩, fun s => ⟨(h4 s).1, fun a b c => ⟨((h4 s).2 a b c).1, ?_⟩⟩, h5⟩
  · have := (h3 k a b).2
    omega
  · have := ((h4 s).2 a b c).2
    omega
theorem rJ.put {T : Int} {ρ : Nat → Int → Int} (h : rJ T ρ) {σ : Int → Int} (h1 : rI σ) (h2 : σ 0 ≤ T) : rJ T (zst ρ 0 σ) := ⟨⟨h1, h2⟩, h.2.1, h.2.2.1, h.2.2.2.1, h.2.2.2.2⟩
theorem rJ.sav {T : Int} {ρ : Nat → Int → Int} (h : rJ T ρ) (σ : Int → Int) : rJ T (zst ρ 1 σ) := h
theorem rJ.num {T : Int} {ρ : Nat → Int → Int} (h : rJ T ρ) {i x : Int} (h0 : i ≠ 0) (h2 : i ≠ 2) : rJ T (zst ρ 7 (zset (ρ 7) i x)) := by
  have e0 : zst ρ 7 (zset (ρ 7) i x) 7 0 = ρ 7 0 := by
    show zset (ρ 7) i x 0 = _
    rw [zset_ap, if_neg (by omega)]
  have e2 : zst ρ 7 (zset (ρ 7) i x) 7 2 = ρ 7 2 := by
    show zset (ρ 7) i x 2 = _
    rw [zset_ap, if_neg (by omega)]
  obtain ⟨k1, k2, k3, k4, k5, k6⟩ := h
  refine ⟨k1, ?_, ?_, k4, k5, ?_⟩
  · unfold rK at k2 ⊢
    rw [e0]
    exact k2
  · rw [e0]
    exact k3
  · rw [e2]
    exact k6
theorem rJ.rec' {T : Int} {ρ : Nat → Int → Int} (h : rJ T ρ) : rJ T (rrec ρ) := by
  obtain ⟨k1, k2, k3, k4, k5, k6⟩ := h
  unfold rK at k2
  have e7 := rrec_7 ρ
  refine ⟨by rw [rrec_0]; exact k1, ?_, ?_, ?_, ?_, ?_⟩
  · unfold rK
    rw [e7, zset_ap, if_pos rfl]
    split <;> omega
  · rw [e7, zset_ap, if_pos rfl]
    intro k a b
    by_cases c : ρ 7 0 = 6
    · rw [if_pos c] at b
      have e2 : rrec ρ 2 = rcpy (ρ 0) (rcpy (ρ 2) (ρ 2) 240 0 1200) 0 1200 240 := by
        unfold rrec
        rw [if_pos c]
        rfl
      rw [e2]
      by_cases c5 : k = 5
      · subst c5
        refine ⟨k1.1.eq fun j h1 h2 => ?_, ?_⟩
        · simp only [rcpy]
          rw [if_pos (by omega)]
          congr 1
          omega
        · simp only [rcpy]
          rw [if_pos (by omega)]
          exact k1.2
      · have q := k3 (k + 1) (by omega) (by omega)
        refine ⟨q.1.eq fun j h1 h2 => ?_, ?_⟩
        · simp only [rcpy]
          rw [if_neg (by omega), if_pos (by omega)]
          congr 1
          omega
        · simp only [rcpy]
          rw [if_neg (by omega), if_pos (by omega), show 240 + (240 * k - 0) = 240 * (k + 1) by omega]
          exact q.2
    · rw [if_neg c] at b
      have e2 : rrec ρ 2 = rcpy (ρ 0) (ρ 2) 0 (240 * ρ 7 0) 240 := by
        unfold rrec
        rw [if_neg c]
        rfl
      rw [e2]
      by_cases c5 : k = ρ 7 0
      · rw [c5]
        refine ⟨k1.1.eq fun j h1 h2 => ?_, ?_⟩
        · simp only [rcpy]
          rw [if_pos (by omega)]
          congr 1
          omega
        · simp only [rcpy]
          rw [if_pos (by omega), show 0 + (240 * ρ 7 0 - 240 * ρ 7 0) = 0 by omega]
          exact k1.2
      · have q := k3 k a (by omega)
        refine ⟨q.1.eq fun j h1 h2 => ?_, ?_⟩
        · simp only [rcpy]
          rw [if_neg (by omega)]
        · simp only [rcpy]
          rw [if_neg (by omega)]
          exact q.2
  · rw [rrec_3, rrec_4]
    exact k4
  · rw [rrec_c _ (by decide) (by decide)]
    exact k5
  · rw [e7, zset_ap, if_neg (by omega)]
    exact k6
/-- record, then another row -/
theorem rJ.act {T : Int} {ρ : Nat → Int → Int} (h : rJ T ρ) {σ : Int → Int} (h1 : rI σ) (h2 : σ 0 ≤ T) : rJ T (zst (rrec ρ) 0 σ) := h.rec'.put h1 h2
theorem rJ.rest {T : Int} {ρ : Nat → Int → Int} (h : rJ T ρ) (s : Int) : rJ T (arest ρ s).2 := by
  unfold arest
  by_cases c1 : 0 ≤ s ∧ s ≤ 1
  · rw [if_neg (not_not_intro c1)]
    by_cases c2 : ρ 4 s = 0
    · rw [if_pos c2]
      exact h
    · rw [if_neg c2]
      have q := (h.2.2.2.1 s).2 c1.1 c1.2 c2
      refine h.act (q.1.eq fun j a b => ?_) ?_
      · simp only [rcpy]
        rw [if_pos (by omega), Int.sub_zero]
      · simp only [rcpy]
        rw [if_pos (by omega), show 240 * s + (0 - 0) = 240 * s by omega]
        exact q.2
  · rw [if_pos c1]
    exact h
theorem rJ.und {T : Int} {ρ : Nat → Int → Int} (h : rJ T ρ) (hk : ρ 7 0 ≠ 0) : rJ T (rund ρ) := by
  have hk2 := h.2.1
  unfold rK at hk2
  have q := h.2.2.1 (ρ 7 0 - 1) (by omega) (by omega)
  have e0 : rund ρ 0 = rcpy (ρ 2) (ρ 0) (240 * (ρ 7 0 - 1)) 0 240 := rfl
  have e7 : rund ρ 7 = zset (ρ 7) 0 (ρ 7 0 - 1) := rfl
  refine ⟨⟨?_, ?_⟩, ?_, fun k a b => ?_, h.2.2.2.1, h.2.2.2.2.1, ?_⟩
  · rw [e0]
    refine q.1.eq fun j a b => ?_
    simp only [rcpy]
    rw [if_pos (by omega), Int.sub_zero]
  · rw [e0]
    simp only [rcpy]
    rw [if_pos (by omega), show 240 * (ρ 7 0 - 1) + (0 - 0) = 240 * (ρ 7 0 - 1) by omega]
    exact q.2
  · unfold rK
    rw [e7, zset_ap, if_pos rfl]
    omega
  · rw [e7, zset_ap, if_pos rfl] at b
    exact h.2.2.1 k a (by omega)
  · rw [e7, zset_ap, if_neg (by omega)]
    exact h.2.2.2.2.2
theorem rJ.kee {T : Int} {ρ : Nat → Int → Int} (h : rJ T ρ) {s : Int} (hs : 0 ≤ s ∧ s ≤ 1) : rJ T (rkeep ρ s) := by
  have e3 : rkeep ρ s 3 = rcpy (ρ 0) (ρ 3) 0 (240 * s) 240 := rfl
  have e4 : rkeep ρ s 4 = zset (ρ 4) s 1 := rfl
  refine ⟨h.1, h.2.1, h.2.2.1, fun u => ?_, h.2.2.2.2⟩
  have q := h.2.2.2.1 u
  rw [e3, e4, zset_ap]
  by_cases c : u = s
  · rw [if_pos c]
    refine ⟨by omega, fun a b _ => ⟨h.1.1.eq fun j x y => ?_, ?_⟩⟩
    · simp only [rcpy]
      rw [if_pos (by omega)]
      congr 1
      omega
    · simp only [rcpy]
      rw [if_pos (by omega), show 0 + (240 * u - 240 * s) = 0 by omega]
      exact h.1.2
  · rw [if_neg c]
    refine ⟨q.1, fun a b d => ⟨(q.2 a b d).1.eq fun j x y => ?_, ?_⟩⟩
    · simp only [rcpy]
      rw [if_neg (by omega)]
    · simp only [rcpy]
      rw [if_neg (by omega)]
      exact (q.2 a b d).2

/-! of ref23 -/
/-! the reference: each act keeps what holds -/
theorem rJ.ref {T : Int} {ρ : Nat → Int → Int} (h : rJ T ρ) (x : Int) : rJ T (zst ρ 7 (zset (ρ 7) 1 x)) := h.num (by omega) (by omega)
theorem rJ.addM {T : Int} {ρ : Nat → Int → Int} (h : rJ T ρ) (w we : Int) : rJ T (aaddM ρ w we).2 := by
  have hb := h.1.1.2.1
  unfold aaddM
  by_cases c1 : ¬ (0 ≤ w ∧ w ≤ 100) ∨ ¬ (0 ≤ we ∧ we ≤ 20)
  · rw [if_pos c1]
    exact h
  · rw [if_neg c1]
    by_cases c2 : ρ 0 1 = 4
    · rw [if_pos c2]
      exact h
    · rw [if_neg c2]
      refine h.act (h.1.1.addm (by omega) (by omega) (by omega)) ?_
      have : raddm (ρ 0) w we 0 = ρ 0 0 := by
        simp only [raddm, zset]
        rw [if_neg (by omega), if_neg (by omega), if_neg (by omega), if_neg (by omega), if_neg (by omega), if_neg (by omega), if_neg (by omega)]
      rw [this]
      exact h.1.2
theorem rJ.chp {T : Int} {ρ : Nat → Int → Int} (h : rJ T ρ) (s f t w : Int) : rJ T (rchp ρ s f t w).2 := by
  unfold rchp
  by_cases c : ¬ (0 ≤ f ∧ f ≤ 9999) ∨ ¬ (f ≤ t ∧ t ≤ 9999) ∨ ¬ (0 ≤ w ∧ w ≤ if s = 0 then 500 else 30)
  · rw [if_pos c]
    exact h
  · rw [if_neg c]
    by_cases c2 : ρ 0 (8 + s) = 10
    · rw [if_pos c2]
      exact h.ref 5
    · rw [if_neg c2]
      exact h
theorem rJ.tell {T : Int} {ρ : Nat → Int → Int} (h : rJ T ρ) {s : Int} (hs : s = 0 ∨ s = 1) (f t w : Int) : rJ T (atell ρ s f t w).2 := by
  unfold atell
  by_cases c : (rchp ρ s f t w).1 < 0
  · rw [if_pos c]
    exact h.chp s f t w
  · rw [if_neg c]
    obtain ⟨b1, b2, b3, b4, b5⟩ := rchp_c c
    have hp := h.1.1.per hs
    refine h.act (h.1.1.tel hs b1 b2 b3 (by omega)) ?_
    have : rtel (ρ 0) s f t w 0 = ρ 0 0 := by
      simp only [rtel, zset]
      rw [if_neg (by omega), if_neg (by omega), if_neg (by omega), if_neg (by omega)]
    rw [this]
    exact h.1.2
theorem rJ.clrP {T : Int} {ρ : Nat → Int → Int} (h : rJ T ρ) : rJ T (aclrP ρ).2 := by
  unfold aclrP
  by_cases c : ρ 0 8 + ρ 0 9 = 0
  · rw [if_pos c]
    exact h
  · rw [if_neg c]
    refine h.act ((h.1.1.per0 (Or.inl rfl)).per0 (Or.inr rfl)) ?_
    rw [zset_ap, if_neg (by omega), zset_ap, if_neg (by omega)]
    exact h.1.2
theorem rJ.addP {T : Int} {ρ : Nat → Int → Int} (h : rJ T ρ) : rJ T (aaddP ρ).2 := by
  have hb := h.1.1.2.1
  unfold aaddP
  by_cases c : ρ 0 2 = 5
  · rw [if_pos c]
    exact h
  · rw [if_neg c]
    refine h.act (h.1.1.addp (by omega)) ?_
    have : raddp (ρ 0) 0 = ρ 0 0 := by
      unfold raddp
      rw [if_neg (by omega), if_neg (by omega), if_neg (by omega)]
    rw [this]
    exact h.1.2
theorem rJ.hrs {T : Int} {ρ : Nat → Int → Int} (h : rJ T ρ) (p w x : Int) : rJ T (ahrs ρ p w x).2 := by
  have hb := h.1.1.2.1
  unfold ahrs
  by_cases c1 : 0 ≤ p ∧ p ≤ ρ 0 2 - 1
  · rw [if_neg (not_not_intro c1)]
    by_cases c2 : ¬ (0 ≤ w ∧ w ≤ 6) ∨ ¬ (0 ≤ x ∧ x ≤ 12)
    · rw [if_pos c2]
      exact h
    · rw [if_neg c2]
      refine h.act (h.1.1.hrs (by omega) (by omega) (by omega)) ?_
      rw [zset_ap, if_neg (by omega)]
      exact h.1.2
  · rw [if_pos c1]
    exact h
theorem rJ.off {T : Int} {ρ : Nat → Int → Int} (h : rJ T ρ) (p f t : Int) : rJ T (aoff ρ p f t).2 := by
  have hb := h.1.1.2.1
  unfold aoff
  by_cases c1 : 0 ≤ p ∧ p ≤ ρ 0 2 - 1
  · rw [if_neg (not_not_intro c1)]
    by_cases c2 : ¬ (0 ≤ f ∧ f ≤ 9999) ∨ ¬ (f ≤ t ∧ t ≤ 9999)
    · rw [if_pos c2]
      exact h
    · rw [if_neg c2]
      refine h.act ((h.1.1.off (by omega) (Or.inl rfl) (by omega)).off (by omega) (Or.inr rfl) (by omega)) ?_
      rw [zset_ap, if_neg (by omega), zset_ap, if_neg (by omega)]
      exact h.1.2
  · rw [if_pos c1]
    exact h
theorem rJ.chk {T : Int} {ρ : Nat → Int → Int} (h : rJ T ρ) (m k x : Int) : rJ T (rchk ρ m k x).2 := by
  unfold rchk
  by_cases c : 0 ≤ m ∧ m ≤ ρ 0 1 - 1
  · rw [if_neg (not_not_intro c)]
    by_cases c2 : ¬ (0 ≤ k ∧ k ≤ 2) ∨ ¬ (0 ≤ x ∧ x ≤ 59)
    · rw [if_pos c2]
      exact h
    · rw [if_neg c2]
      by_cases c3 : 0 < ragst (ρ 0) m k (ρ 0 0 + x)
      · rw [if_pos c3]
        exact h.ref _
      · rw [if_neg c3]
        exact h
  · rw [if_pos c]
    exact h
theorem rJ.addC {T : Int} {ρ : Nat → Int → Int} (h : rJ T ρ) (hT : T ≤ 100000000) (m k x : Int) : rJ T (aaddC ρ m k x).2 := by
  have hb := h.1.1.2.1
  have h0 := h.1.2
  unfold aaddC
  by_cases c : (rchk ρ m k x).1 < 0
  · rw [if_pos c]
    exact h.chk m k x
  · rw [if_neg c]
    obtain ⟨b1, b2, b3, b4, b5⟩ := rchk_c c
    have := ragst_0 b4
    refine h.act (h.1.1.add (by omega) b2 (by omega) (by omega)) ?_
    rw [radd_o _ _ _ _ (by omega) _ (by omega) (by omega)]
    exact h0
theorem rJ.drpC {T : Int} {ρ : Nat → Int → Int} (h : rJ T ρ) (p : Int) : rJ T (adrpC ρ p).2 := by
  unfold adrpC
  by_cases c : 0 ≤ p ∧ p ≤ ρ 0 3 - 1
  · rw [if_neg (not_not_intro c)]
    refine h.act (h.1.1.drop c) ?_
    rw [rdrop_ap c, if_neg (by omega), if_neg (by omega)]
    exact h.1.2
  · rw [if_pos c]
    exact h
theorem rJ.pass {T : Int} {ρ : Nat → Int → Int} (h : rJ T ρ) (n : Int) : rJ (T + 60) (apass ρ n).2 := by
  have h0 := h.1.2
  unfold apass
  by_cases c : 1 ≤ n ∧ n ≤ 60
  · rw [if_neg (not_not_intro c)]
    refine (h.mono (by omega)).act (rpasN_I _ h.1.1) ?_
    rw [rpasN_0]
    omega
  · rw [if_pos c]
    exact h.mono (by omega)
theorem rJ.losA {T : Int} {ρ : Nat → Int → Int} (h : rJ T ρ) (n w : Int) : rJ T (alosA ρ n w).2 := by
  unfold alosA
  split
  · exact h
  · exact h.sav _
theorem rJ.bday {T : Int} {ρ : Nat → Int → Int} (h : rJ T ρ) (m k n : Int) : rJ T (abday ρ m k n).2 := by
  unfold abday
  split
  · exact h
  · split
    · exact h
    · exact h.sav _
theorem rJ.bpair {T : Int} {ρ : Nat → Int → Int} (h : rJ T ρ) (m k n : Int) : rJ T (abpair ρ m k n).2 := by
  unfold abpair
  split
  · exact h
  · split
    · exact h
    · exact h.sav _
theorem rJ.typ {T : Int} {ρ : Nat → Int → Int} (h : rJ T ρ) {c : Int} (hc : 0 ≤ c ∧ c < 65536) : rJ T (atype ρ c).2 := by
  obtain ⟨k1, k2, k3, k4, k5, k6⟩ := h
  unfold atype
  by_cases c1 : ρ 7 2 = 90
  · rw [if_pos c1]
    exact ⟨k1, k2, k3, k4, k5, k6⟩
  · rw [if_neg c1]
    have e0 : zset (ρ 7) 2 (ρ 7 2 + 1) 0 = ρ 7 0 := by rw [zset_ap, if_neg (by omega)]
    refine ⟨k1, ?_, ?_, k4, fun i => ?_, ?_⟩
    · show 0 ≤ zset (ρ 7) 2 (ρ 7 2 + 1) 0 ∧ zset (ρ 7) 2 (ρ 7 2 + 1) 0 ≤ 6
      rw [e0]
      exact k2
    · intro k a b
      have b' : k < zset (ρ 7) 2 (ρ 7 2 + 1) 0 := b
      rw [e0] at b'
      exact k3 k a b'
    · show 0 ≤ zset (ρ 5) (ρ 7 2) c i ∧ zset (ρ 5) (ρ 7 2) c i < 65536
      rw [zset_ap]
      by_cases q : i = ρ 7 2
      · rw [if_pos q]
        exact hc
      · rw [if_neg q]
        exact k5 i
    · show 0 ≤ zset (ρ 7) 2 (ρ 7 2 + 1) 2 ∧ zset (ρ 7) 2 (ρ 7 2 + 1) 2 ≤ 90
      rw [zset_ap, if_pos rfl]
      omega
theorem rJ.clrT {T : Int} {ρ : Nat → Int → Int} (h : rJ T ρ) : rJ T (aclrT ρ).2 := by
  obtain ⟨k1, k2, k3, k4, k5, k6⟩ := h
  have e0 : zset (ρ 7) 2 0 0 = ρ 7 0 := by rw [zset_ap, if_neg (by omega)]
  refine ⟨k1, ?_, ?_, k4, k5, ?_⟩
  · show 0 ≤ zset (ρ 7) 2 0 0 ∧ zset (ρ 7) 2 0 0 ≤ 6
    rw [e0]
    exact k2
  · intro k a b
    have b' : k < zset (ρ 7) 2 0 0 := b
    rw [e0] at b'
    exact k3 k a b'
  · show 0 ≤ zset (ρ 7) 2 0 2 ∧ zset (ρ 7) 2 0 2 ≤ 90
    rw [zset_ap, if_pos rfl]
    omega
theorem rJ.same {T : Int} {ρ τ : Nat → Int → Int} (h : rJ T ρ) (e : rSame ρ τ) : rJ T τ := by
  obtain ⟨k1, k2, k3, k4, k5, k6⟩ := h
  obtain ⟨e0, e2, e3, e4, e5, e7⟩ := e
  have a0 := e7 0 (by omega)
  have a2 := e7 2 (by omega)
  refine ⟨by rw [e0]; exact k1, ?_, by rw [a0, e2]; exact k3, by rw [e3, e4]; exact k4, by rw [e5]; exact k5, by rw [a2]; exact k6⟩
  unfold rK at k2 ⊢
  rw [a0]
  exact k2

/-! of ref24 -/
/-! the reference: orders keep what holds -/
theorem rJ.run : ∀ (qs : List (Int × Int × Int × Int)) (ρ : Nat → Int → Int) (n U : Int), rJ U ρ → (∀ (i : Nat) (q : Int × Int × Int × Int), qs[i]? = some q → rQ q) → U + 60 * (qs.length : Int) ≤ 100000000 → rJ (U + 60 * (qs.length : Int)) (rrun qs ρ n).2
  | [], ρ, n, U, h, hq, hl => h.mono (by simp only [List.length_nil]; omega)
  | q :: qs, ρ, n, U, h, hq, hl => by
    simp only [List.length_cons] at hl ⊢
    have h0 := h.1.2
    by_cases c : (rchkO ρ q).1 < 0
    · have eR : rrun (q :: qs) ρ n = (n, zst (rchkO ρ q).2 7 (zset (zset ((rchkO ρ q).2 7) 7 n) 8 (if (rchkO ρ q).1 = -1000003 then (rchkO ρ q).2 7 1 else if (rchkO ρ q).1 = -1000001 then 11 else 12))) := if_pos c
      rw [eR]
      have hC : rJ U (rchkO ρ q).2 := by
        unfold rchkO
        split
        · exact h.chk _ _ _
        · split
          · exact h
          · split
            · exact h
            · exact h.chp _ _ _ _
      have := (hC.num (i := 7) (x := n) (by omega) (by omega)).num (i := 8) (x := if (rchkO ρ q).1 = -1000003 then (rchkO ρ q).2 7 1 else if (rchkO ρ q).1 = -1000001 then 11 else 12) (by omega) (by omega)
      rw [zst_zst] at this
      exact this.mono (by omega)
    · have eR : rrun (q :: qs) ρ n = rrun qs (zst ρ 0 (rdoesO (ρ 0) q)) (n + 1) := if_neg c
      rw [eR]
      obtain ⟨i1, i2, i3⟩ := rdoesO_I (hq 0 q rfl) h.1.1 (by omega) c
      have := rJ.run qs (zst ρ 0 (rdoesO (ρ 0) q)) (n + 1) (U + 60) ((h.mono (by omega)).put i1 (by omega)) (fun i x hx => hq (i + 1) x hx) (by omega)
      exact this.mono (by omega)
def aundo (ρ : Nat → Int → Int) : Int × (Nat → Int → Int) := if ρ 7 0 = 0 then (-1000005, ρ) else (ρ 7 0 - 1, rund ρ)
def akeep (ρ : Nat → Int → Int) (s : Int) : Int × (Nat → Int → Int) := if 0 ≤ s ∧ s ≤ 1 then (ρ 0 0, rkeep ρ s) else (-1000001, ρ)
theorem rJ.undA {T : Int} {ρ : Nat → Int → Int} (h : rJ T ρ) : rJ T (aundo ρ).2 := by
  unfold aundo
  by_cases c : ρ 7 0 = 0
  · rw [if_pos c]
    exact h
  · rw [if_neg c]
    exact h.und c
theorem rJ.keeA {T : Int} {ρ : Nat → Int → Int} (h : rJ T ρ) (s : Int) : rJ T (akeep ρ s).2 := by
  unfold akeep
  by_cases c : 0 ≤ s ∧ s ≤ 1
  · rw [if_pos c]
    exact h.kee c
  · rw [if_neg c]
    exact h

/-! of ref25 -/
/-! the reference: made anew -/
def r0 : Nat → Int → Int := fun c => if c = 7 then (fun j => if j = 7 ∨ j = 8 then -1000005 else 0) else fun _ => 0
theorem zup_two (h : zH) (a : Nat) (v u : va_E) : zup (zup h a v) a u = zup h a u := by
  funext x
  simp only [zup]
  by_cases c : x = a
  · rw [if_pos c, if_pos c]
  · rw [if_neg c, if_neg c, if_neg c]

