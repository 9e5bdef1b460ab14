/-! the nights ahead, mirror by mirror -/
/-- no two cleanings of a mirror on one day -/
def rN (σ : Int → Int) : Prop := ∀ i j : Int, 0 ≤ i → i < j → j < σ 3 → ¬ (σ (150 + 3 * i) = σ (150 + 3 * j) ∧ σ (150 + 3 * i + 2) = σ (150 + 3 * j + 2))
def mE (f g : Int → Int) : Prop := f 0 = g 0 ∧ f 1 = g 1 ∧ f 2 = g 2 ∧ f 3 = g 3
def gm (σ : Int → Int) (q : Int) : Int → Int := vw σ (10 + 6 * q) 1
def nl (rate fac : Int) (g : Int → Int) : Int := nits (g 0) (g 2) rate (g 3) (g 1) fac
def mT (R F D : Int → Int) : Nat → Int → (Int → Int) → Int
  | 0, _, _ => 0
  | n + 1, i, f => nl (R i) (F i) (fcl (D i) f) + mT R F D n (i + 1) (fsp (R i) (F i) (fcl (D i) f))
theorem mE.rfl' (f : Int → Int) : mE f f := ⟨rfl, rfl, rfl, rfl⟩
theorem mE.trans {f g k : Int → Int} (h1 : mE f g) (h2 : mE g k) : mE f k := ⟨h1.1.trans h2.1, h1.2.1.trans h2.2.1, h1.2.2.1.trans h2.2.2.1, h1.2.2.2.trans h2.2.2.2⟩
theorem mE.symm {f g : Int → Int} (h1 : mE f g) : mE g f := ⟨h1.1.symm, h1.2.1.symm, h1.2.2.1.symm, h1.2.2.2.symm⟩
theorem mE.cl {f g : Int → Int} (h : mE f g) (k : Int) : mE (fcl k f) (fcl k g) := by
  unfold fcl
  obtain ⟨h0, h1, h2, h3⟩ := h
  split
  · exact ⟨h0, h1, h2, h3⟩
  · refine ⟨?_, ?_, ?_, ?_⟩
    · simp only [zst_zst, zst_ap, zset_ap, reduceIte, Nat.reduceEqDiff, Nat.zero_ne_one, Nat.one_ne_zero, Int.reduceEq]; exact h0
    · simp only [zst_zst, zst_ap, zset_ap, reduceIte, Nat.reduceEqDiff, Nat.zero_ne_one, Nat.one_ne_zero, Int.reduceEq]; exact h1
    · simp only [zst_zst, zst_ap, zset_ap, reduceIte, Nat.reduceEqDiff, Nat.zero_ne_one, Nat.one_ne_zero, Int.reduceEq]; rw [h2]
    · simp only [zst_zst, zst_ap, zset_ap, reduceIte, Nat.reduceEqDiff, Nat.zero_ne_one, Nat.one_ne_zero, Int.reduceEq]; rw [h3]
theorem mE.sp {f g : Int → Int} (h : mE f g) (r c : Int) : mE (fsp r c f) (fsp r c g) := by
  unfold fsp
  obtain ⟨h0, h1, h2, h3⟩ := h
  refine ⟨?_, ?_, ?_, ?_⟩
  · simp only [zst_zst, zst_ap, zset_ap, reduceIte, Nat.reduceEqDiff, Nat.zero_ne_one, Nat.one_ne_zero, Int.reduceEq]; exact h0
  · simp only [zst_zst, zst_ap, zset_ap, reduceIte, Nat.reduceEqDiff, Nat.zero_ne_one, Nat.one_ne_zero, Int.reduceEq]; exact h1
  · simp only [zst_zst, zst_ap, zset_ap, reduceIte, Nat.reduceEqDiff, Nat.zero_ne_one, Nat.one_ne_zero, Int.reduceEq]; rw [h2]
  · simp only [zst_zst, zst_ap, zset_ap, reduceIte, Nat.reduceEqDiff, Nat.zero_ne_one, Nat.one_ne_zero, Int.reduceEq]; rw [h3]
theorem nl_E {f g : Int → Int} (h : mE f g) (r c : Int) : nl r c f = nl r c g := by
  unfold nl
  rw [h.1, h.2.1, h.2.2.1, h.2.2.2]
theorem mT_E {R F D R2 F2 D2 : Int → Int} : ∀ (n : Nat) (i i2 : Int) (f g : Int → Int), mE f g → (∀ j : Int, 0 ≤ j → j < n → R2 (i2 + j) = R (i + j) ∧ F2 (i2 + j) = F (i + j) ∧ D2 (i2 + j) = D (i + j)) → mT R2 F2 D2 n i2 g = mT R F D n i f
  | 0, i, i2, f, g, _, _ => rfl
  | n + 1, i, i2, f, g, hE, hj => by
    have h0 := hj 0 (by omega) (by omega)
    simp only [Int.add_zero] at h0
    unfold mT
    rw [h0.1, h0.2.1, h0.2.2, nl_E (hE.cl (D i)).symm, mT_E n (i + 1) (i2 + 1) _ _ ((hE.cl (D i)).sp (R i) (F i)) (fun j a b => by
      have := hj (j + 1) (by omega) (by omega)
      rw [show i2 + 1 + j = i2 + (j + 1) by omega, show i + 1 + j = i + (j + 1) by omega]
      exact this)]
/-- sums over the mirrors -/
def smN (g : Int → Int) : Nat → Int
  | 0 => 0
  | k + 1 => smN g k + g k
theorem smN_add (g k : Int → Int) : ∀ n : Nat, smN (fun q => g q + k q) n = smN g n + smN k n
  | 0 => rfl
  | n + 1 => by
    unfold smN
    rw [smN_add g k n]
    omega
theorem smN_c {g k : Int → Int} : ∀ n : Nat, (∀ q : Int, 0 ≤ q → q < n → g q = k q) → smN g n = smN k n
  | 0, _ => rfl
  | n + 1, h => by
    unfold smN
    rw [smN_c n (fun q a b => h q a (by omega)), h n (by omega) (by omega)]
/-! the kind done on a day -/
theorem ckd_none {σ : Int → Int} {m d ppl : Int} : ∀ (n i : Nat) (left : Int), (∀ j : Int, i ≤ j → j < i + n → ¬ (σ (150 + 3 * j) = m ∧ σ (150 + 3 * j + 2) = d)) → ckd σ m d ppl n i left = -1
  | 0, _, _, _ => rfl
  | n + 1, i, left, h => by
    have h0 := h i (by omega) (by omega)
    unfold ckd
    split
    · rename_i hc
      rw [if_neg (fun q => h0 ⟨q, hc.1⟩)]
      exact ckd_none n (i + 1) _ fun j a b => h j (by omega) (by omega)
    · exact ckd_none n (i + 1) _ fun j a b => h j (by omega) (by omega)
theorem ckd_sh {σ μ : Int → Int} {m d ppl : Int} : ∀ (n i i2 : Nat) (left : Int), (∀ j c : Int, 0 ≤ j → j < n → 0 ≤ c → c ≤ 2 → μ (150 + 3 * (i + j) + c) = σ (150 + 3 * (i2 + j) + c)) → ckd μ m d ppl n i left = ckd σ m d ppl n i2 left
  | 0, _, _, _, _ => rfl
  | n + 1, i, i2, left, h => by
    have h0 := h 0 0 (by omega) (by omega) (by omega) (by omega)
    have h1 := h 0 1 (by omega) (by omega) (by omega) (by omega)
    have h2 := h 0 2 (by omega) (by omega) (by omega) (by omega)
    simp only [Int.add_zero] at h0 h1 h2
    have hr : ∀ left, ckd μ m d ppl n (i + 1) left = ckd σ m d ppl n (i2 + 1) left := fun left => ckd_sh n (i + 1) (i2 + 1) left fun j c a b e f => by
      have := h (j + 1) c (by omega) (by omega) e f
      rw [show ((i + 1 : Nat) : Int) + j = (i : Int) + (j + 1) by omega, show ((i2 + 1 : Nat) : Int) + j = (i2 : Int) + (j + 1) by omega]
      exact this
    unfold ckd
    rw [h0, h1, h2, hr, hr]
theorem rsort {σ : Int → Int} (hI : rI σ) (i : Int) (h0 : 0 ≤ i) : ∀ n : Nat, i + n < σ 3 → σ (150 + 3 * i + 2) ≤ σ (150 + 3 * (i + n) + 2)
  | 0, _ => by rw [show i + ((0 : Nat) : Int) = i by omega]; exact Int.le_refl _
  | n + 1, h => by
    have ih := rsort hI i h0 n (by omega)
    have := hI.2.2.2.2.1 (i + n) (by omega) (by omega)
    rw [show 150 + 3 * (i + ((n + 1 : Nat) : Int)) + 2 = 150 + 3 * (i + n) + 5 by omega]
    omega
/-- one cleaning looked at: the plan moves one place -/
theorem rstp_pl {σ : Int → Int} (hI : rI σ) (d ppl left : Int) (h3 : 0 < σ 3) (j : Int) (h1 : 150 ≤ j) (h2 : j < 150 + 3 * (σ 3 - 1)) : (rstp σ d ppl left).1 j = σ (j + 3) := by
  have hp := hI.2.2.2.1 0 (by omega) h3
  have hb := hI.2.1
  simp only [Int.mul_zero, Int.add_zero] at hp
  have e3 : rdrop σ 0 j = σ (j + 3) := by rw [rdrop_ap (by omega), if_pos (by omega)]
  unfold rstp
  split
  · simp only [rdo, zset]
    rw [if_neg (by omega), if_neg (by omega), if_neg (by omega), if_neg (by omega), if_neg (by omega), rent_o (by omega) (by omega), e3]
  · simp only [zset]
    rw [if_neg (by omega), rent_o (by omega) (by omega), e3]
theorem rstp_N {σ : Int → Int} (hI : rI σ) (hN : rN σ) (d ppl left : Int) (h3 : 0 < σ 3) : rN (rstp σ d ppl left).1 := by
  intro i j h0 h1 h2
  rw [rstp_3 hI d ppl left h3] at h2
  have e := rstp_pl hI d ppl left h3
  rw [e _ (by omega) (by omega), e _ (by omega) (by omega), e _ (by omega) (by omega), e _ (by omega) (by omega)]
  have := hN (i + 1) (j + 1) (by omega) (by omega) (by omega)
  rw [show 150 + 3 * i + 3 = 150 + 3 * (i + 1) by omega, show 150 + 3 * j + 3 = 150 + 3 * (j + 1) by omega, show 150 + 3 * i + 2 + 3 = 150 + 3 * (i + 1) + 2 by omega, show 150 + 3 * j + 2 + 3 = 150 + 3 * (j + 1) + 2 by omega]
  exact this
/-- one cleaning looked at: a mirror -/
theorem rstp_m {σ : Int → Int} (hI : rI σ) (d ppl left : Int) (h3 : 0 < σ 3) (q : Int) (hq : 0 ≤ q ∧ q < 4) :
    mE (gm (rstp σ d ppl left).1 q) (if (rneed (σ 151) ≤ ppl ∧ rtake (σ 151) ≤ left) ∧ σ 150 = q then fcl (σ 151) (gm σ q) else gm σ q) := by
  have hp := hI.2.2.2.1 0 (by omega) h3
  have hb := hI.2.1
  simp only [Int.mul_zero, Int.add_zero, Int.reduceAdd] at hp
  have e3 : ∀ j, j < 150 → j ≠ 3 → rdrop σ 0 j = σ j := fun j a b => by rw [rdrop_ap (by omega), if_neg (by omega), if_neg b]
  have er : ∀ dn j, 10 ≤ j → j < 34 → rent (rdrop σ 0) (σ 150) (σ 151) d dn j = σ j := fun dn j a b => by rw [rent_o (by omega) (by omega), e3 j (by omega) (by omega)]
  unfold rstp
  by_cases c : rneed (σ 151) ≤ ppl ∧ rtake (σ 151) ≤ left
  · rw [if_pos c]
    by_cases e : σ 150 = q
    · rw [if_pos ⟨c, e⟩]
      unfold mE gm fcl
      rw [if_neg (by omega)]
      simp only [vw_m, zst_zst, zst_ap, zset_ap, reduceIte, Nat.reduceEqDiff, Nat.zero_ne_one, Nat.one_ne_zero, Int.reduceEq]
      simp only [rdo, zset]
      rw [e]
      refine ⟨?_, ?_, ?_, ?_⟩
      · rw [if_neg (by omega), if_neg (by omega), if_neg (by omega), if_neg (by omega), if_neg (by omega)]
        rw [← e]
        exact er _ _ (by omega) (by omega)
      · rw [if_neg (by omega), if_neg (by omega), if_neg (by omega), if_neg (by omega), if_neg (by omega)]
        rw [← e]
        exact er _ _ (by omega) (by omega)
      · rw [if_neg (by omega), if_neg (by omega), if_neg (by omega), if_neg (by omega), if_pos (by omega)]
        rw [← e, er _ _ (by omega) (by omega)]
      · rw [if_neg (by omega), if_neg (by omega), if_neg (by omega), if_pos (by omega)]
        rw [← e, er _ _ (by omega) (by omega)]
    · rw [if_neg (fun x => e x.2)]
      unfold mE gm
      simp only [vw_m, rdo, zset]
      refine ⟨?_, ?_, ?_, ?_⟩ <;> (rw [if_neg (by omega), if_neg (by omega), if_neg (by omega), if_neg (by omega), if_neg (by omega)]; exact er _ _ (by omega) (by omega))
  · rw [if_neg c, if_neg (fun x => c x.1)]
    unfold mE gm
    simp only [vw_m]
    refine ⟨?_, ?_, ?_, ?_⟩ <;> (rw [zset_ne (by omega)]; exact er _ _ (by omega) (by omega))
theorem ckd_1 {σ : Int → Int} (hI : rI σ) (d ppl left left2 : Int) (h3 : 0 < σ 3) (q x p2 : Int) (N : Nat) (hN : (N : Int) + 1 = σ 3) : ckd (rstp σ d ppl left).1 q x p2 N 0 left2 = ckd σ q x p2 N 1 left2 := by
  refine ckd_sh N 0 1 left2 fun j c a b e f => ?_
  rw [rstp_pl hI d ppl left h3 _ (by omega) (by omega)]
  congr 1
  omega
theorem rclN_mir {d ppl q : Int} : ∀ (n : Nat) (σ : Int → Int) (left : Int), rI σ → rN σ → σ 3 ≤ n → (0 ≤ q ∧ q < 4) → (∀ k : Int, 0 ≤ k → k < σ 3 → d ≤ σ (150 + 3 * k + 2)) →
    mE (gm (rclN d ppl n σ left) q) (fcl (ckd σ q d ppl (σ 3).toNat 0 left) (gm σ q))
  | 0, σ, left, hI, hN, hn, hq, hd => by
    have h2 := hI.2.1
    rw [show (σ 3).toNat = 0 by omega]
    exact mE.rfl' _
  | n + 1, σ, left, hI, hN, hn, hq, hd => by
    have h2 := hI.2.1
    unfold rclN
    by_cases hc : 0 < σ 3 ∧ σ 152 = d
    · rw [if_pos hc]
      obtain ⟨N, eN⟩ : ∃ N : Nat, (N : Int) + 1 = σ 3 := ⟨(σ 3 - 1).toNat, by omega⟩
      have s3 := rstp_3 hI d ppl left hc.1
      have ih := rclN_mir (d := d) (ppl := ppl) (q := q) n (rstp σ d ppl left).1 (rstp σ d ppl left).2 (rstp_I hI d ppl left hc.1) (rstp_N hI hN d ppl left hc.1) (by omega) hq (fun k a b => by
        rw [rstp_pl hI d ppl left hc.1 _ (by omega) (by omega)]
        have := hd (k + 1) (by omega) (by omega)
        rw [show 150 + 3 * k + 2 + 3 = 150 + 3 * (k + 1) + 2 by omega]
        exact this)
      have hm := rstp_m hI d ppl left hc.1 q hq
      rw [s3, show (σ 3 - 1).toNat = N by omega, ckd_1 hI d ppl left _ hc.1 q d ppl N eN] at ih
      refine ih.trans ?_
      have e0 : σ (150 + 3 * ((0 : Nat) : Int)) = σ 150 := rfl
      have e1 : σ (150 + 3 * ((0 : Nat) : Int) + 1) = σ 151 := rfl
      have e2 : σ (150 + 3 * ((0 : Nat) : Int) + 2) = σ 152 := rfl
      rw [show (σ 3).toNat = N + 1 by omega]
      have eC : ckd σ q d ppl (N + 1) 0 left = if σ (150 + 3 * ((0 : Nat) : Int) + 2) = d ∧ rneed (σ (150 + 3 * ((0 : Nat) : Int) + 1)) ≤ ppl ∧ rtake (σ (150 + 3 * ((0 : Nat) : Int) + 1)) ≤ left then (if σ (150 + 3 * ((0 : Nat) : Int)) = q then σ (150 + 3 * ((0 : Nat) : Int) + 1) else ckd σ q d ppl N 1 (left - rtake (σ (150 + 3 * ((0 : Nat) : Int) + 1)))) else ckd σ q d ppl N 1 left := rfl
      rw [eC, e0, e1, e2]
      by_cases c2 : rneed (σ 151) ≤ ppl ∧ rtake (σ 151) ≤ left
      · have eL : (rstp σ d ppl left).2 = left - rtake (σ 151) := by unfold rstp; rw [if_pos c2]
        rw [if_pos ⟨hc.2, c2⟩, eL]
        by_cases c3 : σ 150 = q
        · rw [if_pos ⟨c2, c3⟩] at hm
          rw [if_pos c3]
          have en : ckd σ q d ppl N 1 (left - rtake (σ 151)) = -1 := ckd_none N 1 _ fun j a b h => by
            have hx := hN 0 j (by omega) (by omega) (by omega)
            apply hx
            exact ⟨c3.trans h.1.symm, hc.2.trans h.2.symm⟩
          rw [en]
          exact hm.cl (-1)
        · rw [if_neg (fun x => c3 x.2)] at hm
          rw [if_neg c3]
          exact hm.cl _
      · have eL : (rstp σ d ppl left).2 = left := by unfold rstp; rw [if_neg c2]
        rw [if_neg (fun x => c2 x.2), eL]
        rw [if_neg (fun x => c2 x.1)] at hm
        exact hm.cl _
    · rw [if_neg hc]
      have en : ckd σ q d ppl (σ 3).toNat 0 left = -1 := ckd_none _ 0 _ fun j a b h => by
        apply hc
        have h0 := hd 0 (by omega) (by omega)
        have hs := rsort hI 0 (by omega) j.toNat (by omega)
        rw [show (0 : Int) + (j.toNat : Int) = j by omega] at hs
        have e2 : σ (150 + 3 * 0 + 2) = σ 152 := rfl
        rw [e2] at hs h0
        have h3 := h.2
        refine ⟨by omega, by omega⟩
      rw [en]
      exact mE.rfl' _
theorem rclN_kd {d ppl q x p2 l2 : Int} (hx : x ≠ d) : ∀ (n : Nat) (σ : Int → Int) (left : Int), rI σ → ckd (rclN d ppl n σ left) q x p2 (rclN d ppl n σ left 3).toNat 0 l2 = ckd σ q x p2 (σ 3).toNat 0 l2
  | 0, σ, left, hI => rfl
  | n + 1, σ, left, hI => by
    unfold rclN
    by_cases hc : 0 < σ 3 ∧ σ 152 = d
    · rw [if_pos hc, rclN_kd hx n _ _ (rstp_I hI d ppl left hc.1), rstp_3 hI d ppl left hc.1]
      obtain ⟨N, eN⟩ : ∃ N : Nat, (N : Int) + 1 = σ 3 := ⟨(σ 3 - 1).toNat, by omega⟩
      rw [show (σ 3 - 1).toNat = N by omega, ckd_1 hI d ppl left _ hc.1 q x p2 N eN, show (σ 3).toNat = N + 1 by omega]
      have e2 : σ (150 + 3 * ((0 : Nat) : Int) + 2) = σ 152 := rfl
      have eC : ckd σ q x p2 (N + 1) 0 l2 = if σ (150 + 3 * ((0 : Nat) : Int) + 2) = x ∧ rneed (σ (150 + 3 * ((0 : Nat) : Int) + 1)) ≤ p2 ∧ rtake (σ (150 + 3 * ((0 : Nat) : Int) + 1)) ≤ l2 then (if σ (150 + 3 * ((0 : Nat) : Int)) = q then σ (150 + 3 * ((0 : Nat) : Int) + 1) else ckd σ q x p2 N 1 (l2 - rtake (σ (150 + 3 * ((0 : Nat) : Int) + 1)))) else ckd σ q x p2 N 1 l2 := rfl
      rw [eC, e2, if_neg (fun y => hx (y.1.symm.trans hc.2))]
    · rw [if_neg hc]
theorem rclN_N {d ppl : Int} : ∀ (n : Nat) (σ : Int → Int) (left : Int), rI σ → rN σ → rN (rclN d ppl n σ left)
  | 0, σ, left, hI, hN => hN
  | n + 1, σ, left, hI, hN => by
    unfold rclN
    split
    · rename_i hc
      exact rclN_N n _ _ (rstp_I hI d ppl left hc.1) (rstp_N hI hN d ppl left hc.1)
    · exact hN
