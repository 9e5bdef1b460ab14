/-! the nights ahead: all mirrors' losses, by mirrors -/
theorem rtoldN_c {σ μ : Int → Int} {s n : Int} : ∀ k : Nat, (∀ j, 90 + 30 * s ≤ j → j < 90 + 30 * s + 3 * k → μ j = σ j) → rtoldN μ s n k = rtoldN σ s n k
  | 0, _ => rfl
  | k + 1, h => by
    unfold rtoldN
    rw [h _ (by omega) (by omega), h (90 + 30 * s + 3 * k + 1) (by omega) (by omega), h (90 + 30 * s + 3 * k + 2) (by omega) (by omega), rtoldN_c k fun j a b => h j a (by omega)]
theorem rtold_c {σ μ : Int → Int} (hI : rI σ) {s n : Int} (hs : s = 0 ∨ s = 1) (h : ∀ j, j = 8 ∨ j = 9 ∨ (90 ≤ j ∧ j < 150) → μ j = σ j) : rtold μ s n = rtold σ s n := by
  have h2 := hI.2.1
  unfold rtold
  rcases hs with rfl | rfl
  · rw [h (8 + 0) (by omega)]
    refine rtoldN_c _ fun j a b => h j ?_
    have : ((σ (8 + 0)).toNat : Int) ≤ 10 := by
      have : σ (8 + 0) = σ 8 := rfl
      omega
    omega
  · rw [h (8 + 1) (by omega)]
    refine rtoldN_c _ fun j a b => h j ?_
    have : ((σ (8 + 1)).toNat : Int) ≤ 10 := by
      have : σ (8 + 1) = σ 9 := rfl
      omega
    omega
theorem rshift_h {σ μ : Int → Int} {p d : Int} (hp : 0 ≤ p ∧ p < 5) (h : ∀ j, 40 ≤ j → j < 90 → μ j = σ j) : rshift μ p d = rshift σ p d := by
  unfold rshift
  rw [h _ (by omega) (by omega), h (40 + 9 * p + 8) (by omega) (by omega), h (40 + 9 * p + d % 7) (by omega) (by omega)]
theorem rpeop_h {σ μ : Int → Int} (hI : rI σ) {d : Int} (h2 : μ 2 = σ 2) (h : ∀ j, 40 ≤ j → j < 90 → μ j = σ j) : rpeop μ d = rpeop σ d := by
  have hb := hI.2.1
  unfold rpeop
  rw [h2]
  have : ∀ k : Nat, k ≤ 5 → rpeopN μ d k = rpeopN σ d k := by
    intro k
    induction k with
    | zero => intro _; rfl
    | succ k ih =>
      intro hk
      unfold rpeopN
      rw [ih (by omega), rshift_h (by omega) h]
  exact this _ (by omega)
theorem rhour_h {σ μ : Int → Int} (hI : rI σ) {d : Int} (h2 : μ 2 = σ 2) (h : ∀ j, 40 ≤ j → j < 90 → μ j = σ j) : rhour μ d = rhour σ d := by
  have hb := hI.2.1
  unfold rhour
  rw [h2]
  have : ∀ k : Nat, k ≤ 5 → rhourN μ d k = rhourN σ d k := by
    intro k
    induction k with
    | zero => intro _; rfl
    | succ k ih =>
      intro hk
      unfold rhourN
      rw [ih (by omega), rshift_h (by omega) h]
  exact this _ (by omega)
/-- a night: the other places -/
theorem rnight_o {σ : Int → Int} (hI : rI σ) (j : Int) (hj : j = 1 ∨ j = 2 ∨ j = 8 ∨ j = 9 ∨ (40 ≤ j ∧ j < 150)) : rnight σ j = σ j := by
  have hb := hI.2.1
  unfold rnight
  rw [zset_ne (by omega), rmirN_o _ _ _ _ _ (by omega), rclean_o hI _ _ (by omega)]
theorem rnight_p {σ : Int → Int} (hI : rI σ) (j : Int) (hj : j = 3 ∨ 34 ≤ j) : rnight σ j = rclean σ (σ 0) j := by
  have hb := hI.2.1
  unfold rnight
  rw [zset_ne (by omega), rmirN_o _ _ _ _ _ (by omega)]
theorem rnight_N {σ : Int → Int} (hI : rI σ) (hN : rN σ) : rN (rnight σ) := by
  have h : rN (rclean σ (σ 0)) := rclN_N _ _ _ hI hN
  intro i j a b c
  rw [rnight_p hI 3 (Or.inl rfl)] at c
  rw [rnight_p hI _ (by omega), rnight_p hI _ (by omega), rnight_p hI _ (by omega), rnight_p hI _ (by omega)]
  exact h i j a b c
theorem rnight_kd {σ : Int → Int} (hI : rI σ) {q x : Int} (hx : x ≠ σ 0) : rkd (rnight σ) q x = rkd σ q x := by
  unfold rkd
  rw [rpeop_h hI (rnight_o hI 2 (by omega)) (fun j a b => rnight_o hI j (by omega)), rhour_h hI (rnight_o hI 2 (by omega)) (fun j a b => rnight_o hI j (by omega)), rnight_p hI 3 (Or.inl rfl)]
  have e : ckd (rnight σ) q x (rpeop σ x) (rclean σ (σ 0) 3).toNat 0 (rhour σ x) = ckd (rclean σ (σ 0)) q x (rpeop σ x) (rclean σ (σ 0) 3).toNat 0 (rhour σ x) :=
    ckd_sh _ 0 0 _ fun j c a b e f => rnight_p hI _ (by omega)
  rw [e]
  exact rclN_kd hx _ _ _ hI
/-- a night: the mirrors -/
theorem rmirN_g {σ : Int → Int} {rate f q : Int} {k : Nat} (hq : 0 ≤ q) (hk : q < k) : mE (gm (rmirN σ rate f k) q) (fsp rate f (gm σ q)) := by
  have h2 := rmirN_2 (σ := σ) rate f q hq k
  have h0 := rmirN_m (σ := σ) rate f q 0 (Or.inl rfl) hq k
  have h1 := rmirN_m (σ := σ) rate f q 1 (Or.inr rfl) hq k
  rw [if_pos hk, if_pos hk] at h2
  unfold mE gm fsp
  simp only [vw_m, zst_zst, zst_ap, zset_ap, reduceIte, Nat.reduceEqDiff, Nat.zero_ne_one, Nat.one_ne_zero, Int.reduceEq]
  exact ⟨h0, h1, h2.1, h2.2⟩
theorem rsumN_sm {σ : Int → Int} {rate f : Int} : ∀ k : Nat, rsumN σ rate f k = smN (fun q => nl rate f (gm σ q)) k
  | 0 => rfl
  | k + 1 => by
    unfold rsumN smN
    rw [rsumN_sm k]
    unfold rits nl gm
    simp only [vw_m, Int.add_zero]
def fR (σ : Int → Int) : Int → Int := fun i => rtold σ 0 (σ 0 + i)
def fF (σ : Int → Int) : Int → Int := fun i => 100 + rtold σ 1 (σ 0 + i) * rtold σ 1 (σ 0 + i)
def fD (σ : Int → Int) (q : Int) : Int → Int := fun i => rkd σ q (σ 0 + i)
theorem rpas_sm : ∀ (n : Nat) (σ : Int → Int), rI σ → rN σ → rpasS n σ = smN (fun q => mT (fR σ) (fF σ) (fD σ q) n 0 (gm σ q)) (σ 1).toNat
  | 0, σ, hI, hN => by
    have : ∀ k : Nat, smN (fun q => mT (fR σ) (fF σ) (fD σ q) 0 0 (gm σ q)) k = 0 := by
      intro k
      induction k with
      | zero => rfl
      | succ k ih =>
        unfold smN
        rw [ih]
        rfl
    exact (this _).symm
  | n + 1, σ, hI, hN => by
    have hb := hI.2.1
    have n0 : rnight σ 0 = σ 0 + 1 := rnight_0 σ
    have n1 : rnight σ 1 = σ 1 := rnight_o hI 1 (by omega)
    have eR0 : rrate σ = fR σ 0 := by
      unfold rrate fR
      rw [rtold_c hI (Or.inl rfl) (fun j hj => rclean_o hI _ _ (by omega)), Int.add_zero]
    have eF0 : rfact σ = fF σ 0 := by
      unfold rfact fF
      rw [rtold_c hI (Or.inr rfl) (fun j hj => rclean_o hI _ _ (by omega)), Int.add_zero]
    have hM : ∀ q : Int, 0 ≤ q → q < (σ 1).toNat → mE (gm (rclean σ (σ 0)) q) (fcl (fD σ q 0) (gm σ q)) := fun q a b => by
      have := rclN_mir (d := σ 0) (ppl := rpeop σ (σ 0)) (q := q) (σ 3).toNat σ (rhour σ (σ 0)) hI hN (by omega) (by omega) (fun k a b => (hI.2.2.2.1 k a b).2.2.2.2)
      unfold fD rkd
      rw [Int.add_zero]
      exact this
    have hG : ∀ q : Int, 0 ≤ q → q < (σ 1).toNat → mE (gm (rnight σ) q) (fsp (fR σ 0) (fF σ 0) (fcl (fD σ q 0) (gm σ q))) := fun q a b => by
      have h1 := rmirN_g (σ := rclean σ (σ 0)) (rate := rrate σ) (f := rfact σ) (q := q) (k := (σ 1).toNat) a b
      rw [eR0, eF0] at h1
      have h2 : mE (gm (rnight σ) q) (gm (rmirN (rclean σ (σ 0)) (fR σ 0) (fF σ 0) (σ 1).toNat) q) := by
        unfold mE gm
        simp only [vw_m]
        unfold rnight
        rw [eR0, eF0]
        refine ⟨?_, ?_, ?_, ?_⟩ <;> exact zset_ne (by omega)
      exact (h2.trans h1).trans ((hM q a b).sp _ _)
    unfold rpasS
    rw [rpas_sm n (rnight σ) hI.night (rnight_N hI hN), n1]
    have e1 : rnsum σ = smN (fun q => nl (fR σ 0) (fF σ 0) (fcl (fD σ q 0) (gm σ q))) (σ 1).toNat := by
      unfold rnsum
      rw [rsumN_sm, eR0, eF0]
      exact smN_c _ fun q a b => nl_E (hM q a b) _ _
    have e2 : smN (fun q => mT (fR (rnight σ)) (fF (rnight σ)) (fD (rnight σ) q) n 0 (gm (rnight σ) q)) (σ 1).toNat = smN (fun q => mT (fR σ) (fF σ) (fD σ q) n 1 (fsp (fR σ 0) (fF σ 0) (fcl (fD σ q 0) (gm σ q)))) (σ 1).toNat :=
      smN_c _ fun q a b => mT_E n 1 0 _ _ (hG q a b).symm fun j c d => by
        have ej : rnight σ 0 + (0 + j) = σ 0 + (1 + j) := by rw [n0]; omega
        refine ⟨?_, ?_, ?_⟩
        · unfold fR
          rw [ej]
          exact rtold_c hI (Or.inl rfl) (fun j hj => rnight_o hI _ (by omega))
        · unfold fF
          rw [ej, rtold_c hI (Or.inr rfl) (fun j hj => rnight_o hI _ (by omega))]
        · unfold fD
          rw [ej]
          exact rnight_kd hI (by omega)
    rw [e1, e2, ← smN_add]
    rfl
