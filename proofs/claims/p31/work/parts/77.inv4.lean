/-! what holds beside: days off, no two cleanings of a mirror on one day; every act keeps it -/
theorem rO_tel {σ : Int → Int} (hO : rO σ) {s f t w : Int} (hs : s = 0 ∨ s = 1) (hc : 0 ≤ σ (8 + s)) : rO (rtel σ s f t w) := fun q h0 h5 he => by
  unfold rtel at he ⊢
  rw [zset_ne (by omega), zset_ne (by omega), zset_ne (by omega), zset_ne (by omega)] at he ⊢
  exact hO q h0 h5 he
theorem rO_add {σ : Int → Int} (hI : rI σ) (hO : rO σ) (m k d : Int) : rO (radd σ m k d) := fun q h0 h5 he => by
  rw [radd_lo hI _ (by omega) (by omega)] at he ⊢
  exact hO q h0 h5 he
theorem rO_drop {σ : Int → Int} (hO : rO σ) {p : Int} (hp : 0 ≤ p ∧ p ≤ σ 3 - 1) : rO (rdrop σ p) := fun q h0 h5 he => by
  rw [rdrop_ap hp, if_neg (by omega), if_neg (by omega)] at he ⊢
  exact hO q h0 h5 he
theorem rO_pas : ∀ (n : Nat) {σ : Int → Int}, rI σ → rO σ → rO (rpasN n σ)
  | 0, _, _, hO => hO
  | n + 1, _, hI, hO => rO_pas n hI.night (rI_night hI hO)
def rVr (σ : Int → Int) : Prop := rO σ ∧ rN σ ∧ σ 3 ≤ 12
theorem rVr.same {σ τ : Int → Int} (h : rVr σ) (e : ∀ j, j = 3 ∨ (40 ≤ j ∧ j < 190) → τ j = σ j) : rVr τ := by
  obtain ⟨h1, h2, h3⟩ := h
  have e3 := e 3 (by omega)
  refine ⟨fun p a b he => ?_, fun i j a b c => ?_, by omega⟩
  · rw [e _ (by omega)] at he ⊢
    exact h1 p a b he
  · rw [e3] at c
    rw [e _ (by omega), e _ (by omega), e _ (by omega), e _ (by omega)]
    exact h2 i j a b c
theorem rVr.eq {σ τ : Int → Int} (h : rVr σ) (e : ∀ j, 0 ≤ j → j < 240 → τ j = σ j) : rVr τ := h.same fun j hj => e j (by omega) (by omega)
def rV (ρ : Nat → Int → Int) : Prop :=
  rVr (ρ 0) ∧ (∀ k, 0 ≤ k → k < ρ 7 0 → rVr (fun j => ρ 2 (240 * k + j))) ∧ (∀ s, 0 ≤ s → s ≤ 1 → ρ 4 s ≠ 0 → rVr (fun j => ρ 3 (240 * s + j)))
theorem rV.put {ρ : Nat → Int → Int} (h : rV ρ) {σ : Int → Int} (h1 : rVr σ) : rV (zst ρ 0 σ) := ⟨h1, h.2⟩
theorem rV.num {ρ : Nat → Int → Int} (h : rV ρ) {i x : Int} (h0 : i ≠ 0) : rV (zst ρ 7 (zset (ρ 7) i x)) := by
  have e0 : zst ρ 7 (zset (ρ 7) i x) 7 0 = ρ 7 0 := by
    show zset (ρ 7) i x 0 = _
    rw [zset_ap, if_neg (by omega)]
  exact ⟨h.1, fun k a b => h.2.1 k a (by rw [e0] at b; exact b), h.2.2⟩
theorem rV.rec' {ρ : Nat → Int → Int} (h : rV ρ) (k2 : rK ρ) : rV (rrec ρ) := by
  obtain ⟨k1, k3, k4⟩ := h
  unfold rK at k2
  have e7 := rrec_7 ρ
  refine ⟨by rw [rrec_0]; exact k1, ?_, ?_⟩
  · rw [e7, zset_ap, if_pos rfl]
    intro k a b
    by_cases c : ρ 7 0 = 6
    · rw [if_pos c] at b
      have e2 : rrec ρ 2 = rcpy (ρ 0) (rcpy (ρ 2) (ρ 2) 240 0 1200) 0 1200 240 := by
        unfold rrec
        rw [if_pos c]
        rfl
      rw [e2]
      by_cases c5 : k = 5
      · subst c5
        refine k1.eq fun j h1 h2 => ?_
        simp only [rcpy]
        rw [if_pos (by omega)]
        congr 1
        omega
      · refine (k3 (k + 1) (by omega) (by omega)).eq fun j h1 h2 => ?_
        simp only [rcpy]
        rw [if_neg (by omega), if_pos (by omega)]
        congr 1
        omega
    · rw [if_neg c] at b
      have e2 : rrec ρ 2 = rcpy (ρ 0) (ρ 2) 0 (240 * ρ 7 0) 240 := by
        unfold rrec
        rw [if_neg c]
        rfl
      rw [e2]
      by_cases c5 : k = ρ 7 0
      · rw [c5]
        refine k1.eq fun j h1 h2 => ?_
        simp only [rcpy]
        rw [if_pos (by omega)]
        congr 1
        omega
      · refine (k3 k a (by omega)).eq fun j h1 h2 => ?_
        simp only [rcpy]
        rw [if_neg (by omega)]
  · rw [rrec_3, rrec_4]
    exact k4
theorem rV.act {ρ : Nat → Int → Int} (h : rV ρ) (k2 : rK ρ) {σ : Int → Int} (h1 : rVr σ) : rV (zst (rrec ρ) 0 σ) := (h.rec' k2).put h1
section IV4
variable {ρ : Nat → Int → Int} {T : Int}
theorem rV.rest (h : rV ρ) (hJ : rJ T ρ) (s : Int) : rV (arest ρ s).2 := by
  unfold arest
  by_cases c1 : 0 ≤ s ∧ s ≤ 1
  · rw [if_neg (not_not_intro c1)]
    by_cases c2 : ρ 4 s = 0
    · rw [if_pos c2]
      exact h
    · rw [if_neg c2]
      refine h.act hJ.2.1 ((h.2.2 s c1.1 c1.2 c2).eq fun j a b => ?_)
      simp only [rcpy]
      rw [if_pos (by omega), Int.sub_zero]
  · rw [if_pos c1]
    exact h
theorem rV.undA (h : rV ρ) (hJ : rJ T ρ) : rV (aundo ρ).2 := by
  have hk := hJ.2.1
  unfold rK at hk
  unfold aundo
  by_cases c : ρ 7 0 = 0
  · rw [if_pos c]
    exact h
  · rw [if_neg c]
    have e0 : rund ρ 0 = rcpy (ρ 2) (ρ 0) (240 * (ρ 7 0 - 1)) 0 240 := rfl
    have e7 : rund ρ 7 0 = ρ 7 0 - 1 := rfl
    show rV (rund ρ)
    refine ⟨?_, fun k a b => h.2.1 k a (by rw [e7] at b; omega), h.2.2⟩
    rw [e0]
    refine (h.2.1 (ρ 7 0 - 1) (by omega) (by omega)).eq fun j a b => ?_
    simp only [rcpy]
    rw [if_pos (by omega), Int.sub_zero]
theorem rV.keeA (h : rV ρ) (s : Int) : rV (akeep ρ s).2 := by
  unfold akeep
  by_cases hs : 0 ≤ s ∧ s ≤ 1
  · rw [if_pos hs]
    have e3 : rkeep ρ s 3 = rcpy (ρ 0) (ρ 3) 0 (240 * s) 240 := rfl
    have e4 : rkeep ρ s 4 = zset (ρ 4) s 1 := rfl
    show rV (rkeep ρ s)
    refine ⟨h.1, h.2.1, fun u a b => ?_⟩
    rw [e3, e4, zset_ap]
    by_cases c : u = s
    · rw [if_pos c]
      intro _
      refine h.1.eq fun j x y => ?_
      simp only [rcpy]
      rw [if_pos (by omega)]
      congr 1
      omega
    · rw [if_neg c]
      intro d
      refine (h.2.2 u a b d).eq fun j x y => ?_
      simp only [rcpy]
      rw [if_neg (by omega)]
  · rw [if_neg hs]
    exact h
theorem rV.addM (h : rV ρ) (hJ : rJ T ρ) (w we : Int) : rV (aaddM ρ w we).2 := by
  have hb := hJ.1.1.2.1
  unfold aaddM
  split
  · exact h
  · split
    · exact h
    · refine h.act hJ.2.1 (h.1.same fun j hj => ?_)
      simp only [raddm]
      rw [zset_ne (by omega), zset_ne (by omega), zset_ne (by omega), zset_ne (by omega), zset_ne (by omega), zset_ne (by omega), zset_ne (by omega)]
theorem rV.chp (h : rV ρ) (s f t w : Int) : rV (rchp ρ s f t w).2 := by
  unfold rchp
  by_cases c : ¬ (0 ≤ f ∧ f ≤ 9999) ∨ ¬ (f ≤ t ∧ t ≤ 9999) ∨ ¬ (0 ≤ w ∧ w ≤ if s = 0 then 500 else 30)
  · rw [if_pos c]
    exact h
  · rw [if_neg c]
    by_cases c2 : ρ 0 (8 + s) = 10
    · rw [if_pos c2]
      exact h.num (by omega)
    · rw [if_neg c2]
      exact h
theorem rVr_tel {σ : Int → Int} (h : rVr σ) (hI : rI σ) {s : Int} (hs : s = 0 ∨ s = 1) (f t w : Int) (h10 : σ (8 + s) ≠ 10) : rVr (rtel σ s f t w) := by
  have hb := hI.2.1
  have hc : 0 ≤ σ (8 + s) ∧ σ (8 + s) ≤ 10 := hI.per hs
  obtain ⟨h1, h2, h3⟩ := h
  have e : ∀ j, j = 3 ∨ (150 ≤ j ∧ j < 190) → rtel σ s f t w j = σ j := fun j hj => by
    simp only [rtel]
    rw [zset_ne (by omega), zset_ne (by omega), zset_ne (by omega), zset_ne (by omega)]
  refine ⟨rO_tel h1 hs hc.1, fun i j a b c => ?_, by rw [e 3 (by omega)]; exact h3⟩
  rw [e 3 (by omega)] at c
  rw [e _ (by omega), e _ (by omega), e _ (by omega), e _ (by omega)]
  exact h2 i j a b c
theorem rV.tell (h : rV ρ) (hJ : rJ T ρ) {s : Int} (hs : s = 0 ∨ s = 1) (f t w : Int) : rV (atell ρ s f t w).2 := by
  unfold atell
  by_cases c : (rchp ρ s f t w).1 < 0
  · rw [if_pos c]
    exact h.chp s f t w
  · rw [if_neg c]
    obtain ⟨b1, b2, b3, b4, b5⟩ := rchp_c c
    exact h.act hJ.2.1 (rVr_tel h.1 hJ.1.1 hs f t w b4)
theorem rV.clrP (h : rV ρ) (hJ : rJ T ρ) : rV (aclrP ρ).2 := by
  unfold aclrP
  split
  · exact h
  · refine h.act hJ.2.1 (h.1.same fun j hj => ?_)
    rw [zset_ne (by omega), zset_ne (by omega)]
theorem rV.addP (h : rV ρ) (hJ : rJ T ρ) : rV (aaddP ρ).2 := by
  have hb := hJ.1.1.2.1
  unfold aaddP
  by_cases c : ρ 0 2 = 5
  · rw [if_pos c]
    exact h
  · rw [if_neg c]
    refine h.act hJ.2.1 ?_
    obtain ⟨h1, h2, h3⟩ := h.1
    have e : ∀ j, j ≠ 2 → ¬ (40 + 9 * ρ 0 2 ≤ j ∧ j < 40 + 9 * ρ 0 2 + 9) → raddp (ρ 0) j = ρ 0 j := fun j a b => by
      unfold raddp
      rw [if_neg a, if_neg (by omega), if_neg (by omega)]
    refine ⟨fun q a b he => ?_, fun i j a b c => ?_, by rw [e 3 (by omega) (by omega)]; exact h3⟩
    · by_cases cq : q = ρ 0 2
      · rw [cq]
        unfold raddp
        rw [if_neg (by omega), if_neg (by omega), if_pos (by omega)]
      · rw [e _ (by omega) (by omega)] at he ⊢
        exact h1 q a b he
    · rw [e 3 (by omega) (by omega)] at c
      rw [e _ (by omega) (by omega), e _ (by omega) (by omega), e _ (by omega) (by omega), e _ (by omega) (by omega)]
      exact h2 i j a b c
theorem rV.hrs (h : rV ρ) (hJ : rJ T ρ) (p w x : Int) : rV (ahrs ρ p w x).2 := by
  have hb := hJ.1.1.2.1
  unfold ahrs
  by_cases c1 : 0 ≤ p ∧ p ≤ ρ 0 2 - 1
  · rw [if_neg (not_not_intro c1)]
    by_cases c2 : ¬ (0 ≤ w ∧ w ≤ 6) ∨ ¬ (0 ≤ x ∧ x ≤ 12)
    · rw [if_pos c2]
      exact h
    · rw [if_neg c2]
      refine h.act hJ.2.1 ?_
      obtain ⟨h1, h2, h3⟩ := h.1
      refine ⟨fun q a b he => ?_, fun i j a b c => ?_, by rw [zset_ne (by omega)]; exact h3⟩
      · rw [zset_ne (by omega)] at he ⊢
        exact h1 q a b he
      · rw [zset_ne (by omega)] at c
        rw [zset_ne (by omega), zset_ne (by omega), zset_ne (by omega), zset_ne (by omega)]
        exact h2 i j a b c
  · rw [if_pos c1]
    exact h
theorem rV.off (h : rV ρ) (hJ : rJ T ρ) (p f t : Int) : rV (aoff ρ p f t).2 := by
  have hb := hJ.1.1.2.1
  unfold aoff
  by_cases c1 : 0 ≤ p ∧ p ≤ ρ 0 2 - 1
  · rw [if_neg (not_not_intro c1)]
    by_cases c2 : ¬ (0 ≤ f ∧ f ≤ 9999) ∨ ¬ (f ≤ t ∧ t ≤ 9999)
    · rw [if_pos c2]
      exact h
    · rw [if_neg c2]
      refine h.act hJ.2.1 ?_
      obtain ⟨h1, h2, h3⟩ := h.1
      refine ⟨fun q a b he => ?_, fun i j a b c => ?_, by rw [zset_ne (by omega), zset_ne (by omega)]; exact h3⟩
      · by_cases cq : q = p
        · subst cq
          rw [zset_ne (by omega), zset_same] at he
          omega
        · rw [zset_ne (by omega), zset_ne (by omega)] at he ⊢
          exact h1 q a b he
      · rw [zset_ne (by omega), zset_ne (by omega)] at c
        rw [zset_ne (by omega), zset_ne (by omega), zset_ne (by omega), zset_ne (by omega), zset_ne (by omega), zset_ne (by omega), zset_ne (by omega), zset_ne (by omega)]
        exact h2 i j a b c
  · rw [if_pos c1]
    exact h
theorem rV.chk (h : rV ρ) (m k x : Int) : rV (rchk ρ m k x).2 := by
  unfold rchk
  split
  · exact h
  · split
    · exact h
    · split
      · exact h.num (by omega)
      · exact h
theorem rVr_add {σ : Int → Int} (h : rVr σ) (hI : rI σ) {m k d : Int} (ha : ragst σ m k d = 0) : rVr (radd σ m k d) := by
  have h4 := (ragst_z ha).2.2.2
  have hb := hI.2.1
  exact ⟨rO_add hI h.1 m k d, radd_N hI h.2.1 ha, by rw [radd_3 hI]; omega⟩
theorem rVr_drop {σ : Int → Int} (h : rVr σ) (hI : rI σ) {p : Int} (hp : 0 ≤ p ∧ p ≤ σ 3 - 1) : rVr (rdrop σ p) := by
  have hb := hI.2.1
  have e := rdrop_ap hp
  have e3 : rdrop σ p 3 = σ 3 - 1 := by rw [e, if_neg (by omega), if_pos rfl]
  refine ⟨rO_drop h.1 hp, fun i j a b c => ?_, by omega⟩
  rw [e3] at c
  have ev : ∀ i : Int, 0 ≤ i → i < σ 3 - 1 → rdrop σ p (150 + 3 * i) = σ (150 + 3 * (if p ≤ i then i + 1 else i)) ∧ rdrop σ p (150 + 3 * i + 2) = σ (150 + 3 * (if p ≤ i then i + 1 else i) + 2) := fun i a b => by
    rw [e, e (150 + 3 * i + 2)]
    by_cases q : p ≤ i
    · rw [if_pos q, if_pos (by omega), if_pos (by omega)]
      exact ⟨by congr 1; omega, by congr 1; omega⟩
    · rw [if_neg q, if_neg (by omega), if_neg (by omega), if_neg (by omega), if_neg (by omega)]
      exact ⟨rfl, rfl⟩
  obtain ⟨a1, a2⟩ := ev i a (by omega)
  obtain ⟨b1, b2⟩ := ev j (by omega) c
  rw [a1, a2, b1, b2]
  by_cases q : p ≤ i
  · rw [if_pos q, if_pos (by omega)]
    exact h.2.1 (i + 1) (j + 1) (by omega) (by omega) (by omega)
  · rw [if_neg q]
    by_cases q2 : p ≤ j
    · rw [if_pos q2]
      exact h.2.1 i (j + 1) (by omega) (by omega) (by omega)
    · rw [if_neg q2]
      exact h.2.1 i j a b (by omega)
theorem rVr_pas : ∀ (n : Nat) {σ : Int → Int}, rI σ → rVr σ → rVr (rpasN n σ)
  | 0, _, _, h => h
  | n + 1, σ, hI, h => rVr_pas n hI.night ⟨rI_night hI h.1, rnight_N hI h.2.1, by have := hI.night.2.1; omega⟩
theorem rV.addC (h : rV ρ) (hJ : rJ T ρ) (m k x : Int) : rV (aaddC ρ m k x).2 := by
  unfold aaddC
  by_cases c : (rchk ρ m k x).1 < 0
  · rw [if_pos c]
    exact h.chk m k x
  · rw [if_neg c]
    obtain ⟨b1, b2, b3, b4, b5⟩ := rchk_c c
    exact h.act hJ.2.1 (rVr_add h.1 hJ.1.1 b4)
theorem rV.drpC (h : rV ρ) (hJ : rJ T ρ) (p : Int) : rV (adrpC ρ p).2 := by
  unfold adrpC
  by_cases c : 0 ≤ p ∧ p ≤ ρ 0 3 - 1
  · rw [if_neg (not_not_intro c)]
    exact h.act hJ.2.1 (rVr_drop h.1 hJ.1.1 c)
  · rw [if_pos c]
    exact h
theorem rV.pass (h : rV ρ) (hJ : rJ T ρ) (n : Int) : rV (apass ρ n).2 := by
  unfold apass
  split
  · exact h
  · exact h.act hJ.2.1 (rVr_pas _ hJ.1.1 h.1)
theorem rV.losA (h : rV ρ) (n w : Int) : rV (alosA ρ n w).2 := by
  unfold alosA
  split <;> exact h
theorem rV.bday (h : rV ρ) (m k n : Int) : rV (abday ρ m k n).2 := by
  unfold abday
  split
  · exact h
  · split <;> exact h
theorem rV.bpair (h : rV ρ) (m k n : Int) : rV (abpair ρ m k n).2 := by
  unfold abpair
  split
  · exact h
  · split <;> exact h
theorem rV.typ (h : rV ρ) (c : Int) : rV (atype ρ c).2 := by
  unfold atype
  split
  · exact h
  · exact h
theorem rV.clrT (h : rV ρ) : rV (aclrT ρ).2 := h
theorem rV.sameS {τ : Nat → Int → Int} (h : rV ρ) (e : rSame ρ τ) : rV τ := by
  obtain ⟨s0, s2, s3, s4, s5, s7⟩ := e
  have e7 := s7 0 (by omega)
  unfold rV
  rw [s0, s2, s3, s4, e7]
  exact h
theorem rVr_does {q : Int × Int × Int × Int} (h : rVr (ρ 0)) (hI : rI (ρ 0)) (hq : rQ q) (hc : ¬ (rchkO ρ q).1 < 0) : rVr (rdoesO (ρ 0) q) := by
  have hb := hI.2.1
  unfold rchkO at hc
  unfold rdoesO
  by_cases c1 : q.1 < 3
  · rw [if_pos c1] at hc ⊢
    obtain ⟨b1, b2, b3, b4, b5⟩ := rchk_c hc
    exact rVr_add h hI b4
  · rw [if_neg c1] at hc ⊢
    by_cases c2 : q.1 = 3
    · rw [if_pos c2] at hc ⊢
      by_cases c3 : 0 ≤ q.2.1 ∧ q.2.1 ≤ ρ 0 3 - 1
      · exact rVr_drop h hI c3
      · rw [if_neg c3] at hc
        exact absurd hc (by show ¬ ¬ ((-1000001 : Int) < 0); omega)
    · rw [if_neg c2] at hc ⊢
      by_cases c3 : q.1 = 4
      · rw [if_pos c3]
        exact rVr_pas _ hI h
      · rw [if_neg c3] at hc ⊢
        obtain ⟨b1, b2, b3, b4, b5⟩ := rchp_c hc
        exact rVr_tel h hI (Or.inl rfl) _ _ _ b4
theorem rV.run : ∀ (qs : List (Int × Int × Int × Int)) (ρ : Nat → Int → Int) (n U : Int), rV ρ → rJ U ρ → (∀ (i : Nat) (q : Int × Int × Int × Int), qs[i]? = some q → rQ q) → U + 60 * (qs.length : Int) ≤ 100000000 → rV (rrun qs ρ n).2
  | [], ρ, n, U, h, _, _, _ => h
  | q :: qs, ρ, n, U, h, hJ, hq, hl => by
    simp only [List.length_cons] at hl
    by_cases c : (rchkO ρ q).1 < 0
    · have eR : rrun (q :: qs) ρ n = (n, zst (rchkO ρ q).2 7 (zset (zset ((rchkO ρ q).2 7) 7 n) 8 (if (rchkO ρ q).1 = -1000003 then (rchkO ρ q).2 7 1 else if (rchkO ρ q).1 = -1000001 then 11 else 12))) := if_pos c
      rw [eR]
      have hC : rV (rchkO ρ q).2 := by
        unfold rchkO
        split
        · exact h.chk _ _ _
        · split
          · exact h
          · split
            · exact h
            · exact h.chp _ _ _ _
      have := (hC.num (i := 7) (x := n) (by omega)).num (i := 8) (x := if (rchkO ρ q).1 = -1000003 then (rchkO ρ q).2 7 1 else if (rchkO ρ q).1 = -1000001 then 11 else 12) (by omega)
      rw [zst_zst] at this
      exact this
    · have eR : rrun (q :: qs) ρ n = rrun qs (zst ρ 0 (rdoesO (ρ 0) q)) (n + 1) := if_neg c
      rw [eR]
      have h0 := hJ.1.2
      obtain ⟨i1, i2, i3⟩ := rdoesO_I (hq 0 q rfl) hJ.1.1 (by omega) c
      exact rV.run qs (zst ρ 0 (rdoesO (ρ 0) q)) (n + 1) (U + 60) (h.put (rVr_does h.1 hJ.1.1 (hq 0 q rfl) c)) ((hJ.mono (by omega)).put i1 (by omega)) (fun i x hx => hq (i + 1) x hx) (by omega)
end IV4
/-! made anew -/
theorem rI_0 : rI (fun _ => 0) := by
  refine ⟨fun i a b => by dsimp only; omega, by dsimp only; omega, fun m a b => by dsimp only; omega, fun k a b => by dsimp only at b; omega, fun k a b => by dsimp only at b; omega, fun k a b => by dsimp only; omega, fun p w a b c d => by dsimp only; omega⟩
theorem rJ_0 : rJ 0 r0 := by
  have e7 : ∀ j : Int, j ≠ 7 → j ≠ 8 → r0 7 j = 0 := fun j a b => by
    show (if j = 7 ∨ j = 8 then -1000005 else 0 : Int) = 0
    rw [if_neg (by omega)]
  refine ⟨⟨rI_0, Int.le_refl _⟩, ?_, fun k a b => ?_, fun s => ⟨⟨Int.le_refl _, by show (0 : Int) ≤ 1; omega⟩, fun a b c => absurd rfl c⟩, fun i => ⟨Int.le_refl _, by show (0 : Int) < 65536; omega⟩, ?_⟩
  · unfold rK
    rw [e7 0 (by omega) (by omega)]
    omega
  · rw [e7 0 (by omega) (by omega)] at b
    omega
  · rw [e7 2 (by omega) (by omega)]
    omega
theorem rV_0 : rV r0 := by
  have e7 : r0 7 0 = 0 := rfl
  refine ⟨⟨fun p a b he => absurd he (by show ¬ ((0 : Int) = -1); omega), fun i j a b c => ?_, by show (0 : Int) ≤ 12; omega⟩, fun k a b => ?_, fun s a b c => absurd rfl c⟩
  · have : r0 0 3 = 0 := rfl
    omega
  · rw [e7] at b
    omega
