/-! of ref6 -/
section RF6
variable {z : zZ} {h : zH} {K : Option Value → zZ → zH → Prop} {a : Nat} {ρ : Nat → Int → Int}
/-- the loss of a mirror in a night by its dust and age -/
def rloss (σ : Int → Int) (m : Int) : Int := if 10000 < σ (10 + 6 * m + 2) / 10 + σ (10 + 6 * m + 3) * σ (10 + 6 * m + 1) then 10000 else σ (10 + 6 * m + 2) / 10 + σ (10 + 6 * m + 3) * σ (10 + 6 * m + 1)
end RF6

/-! of ref7 -/
/-! the reference: nights -/
theorem rtoldN_b {σ : Int → Int} (hI : rI σ) (n : Int) : ∀ k : Nat, k ≤ 10 → (0 ≤ rtoldN σ 0 n k ∧ rtoldN σ 0 n k ≤ 500) ∧ (0 ≤ rtoldN σ 1 n k ∧ rtoldN σ 1 n k ≤ 30)
  | 0, _ => by simp [rtoldN]
  | k + 1, hk => by
    obtain ⟨i1, i2⟩ := rtoldN_b hI n k (by omega)
    have h := hI.2.2.2.2.2.1 k (by omega) (by omega)
    have e1 : (90 : Int) + 30 * 0 + 3 * k + 2 = 90 + 3 * k + 2 := by omega
    have e2 : (90 : Int) + 30 * 1 + 3 * k + 2 = 120 + 3 * k + 2 := by omega
    refine ⟨?_, ?_⟩
    · unfold rtoldN
      split
      · rw [e1]; omega
      · exact i1
    · unfold rtoldN
      split
      · rw [e2]; omega
      · exact i2
theorem rtold_b {σ : Int → Int} (hI : rI σ) (n : Int) : (0 ≤ rtold σ 0 n ∧ rtold σ 0 n ≤ 500) ∧ (0 ≤ rtold σ 1 n ∧ rtold σ 1 n ≤ 30) := by
  have h2 := hI.2.1
  exact ⟨(rtoldN_b hI n (σ (8 + 0)).toNat (by simp only [Int.add_zero]; omega)).1, (rtoldN_b hI n (σ (8 + 1)).toNat (by simp only [Int.reduceAdd]; omega)).2⟩
theorem zmul_b {x y X Y : Int} (hx : 0 ≤ x ∧ x ≤ X) (hy : 0 ≤ y ∧ y ≤ Y) : 0 ≤ x * y ∧ x * y ≤ X * Y := ⟨Int.mul_nonneg hx.1 hy.1, Int.mul_le_mul hx.2 hy.2 hy.1 (by omega)⟩
/-- dust after the night's rate; the loss by it and the age a night older; what is lost -/
def ndst (du rate : Int) : Int := if 100000 < du + rate then 100000 else du + rate
def nlos (du rate ag we : Int) : Int := if 10000 < ndst du rate / 10 + (ag + 1) * we then 10000 else ndst du rate / 10 + (ag + 1) * we
def nits (w du rate ag we f : Int) : Int := w * nlos du rate ag we * f / 1000
theorem ndst_b {du rate : Int} (h1 : 0 ≤ du) (h2 : 0 ≤ rate) : 0 ≤ ndst du rate ∧ ndst du rate ≤ 100000 := by
  unfold ndst
  split <;> omega
theorem nlos_b {du rate ag we : Int} (h1 : 0 ≤ du) (h2 : 0 ≤ rate) (h3 : 0 ≤ ag) (h4 : 0 ≤ we) : 0 ≤ nlos du rate ag we ∧ nlos du rate ag we ≤ 10000 := by
  have hd := ndst_b h1 h2
  have hm := Int.mul_nonneg (show 0 ≤ ag + 1 by omega) h4
  unfold nlos
  split <;> omega
theorem nprd_b {w du rate ag we f : Int} (hw : 0 ≤ w ∧ w ≤ 100) (h1 : 0 ≤ du) (h2 : 0 ≤ rate) (h3 : 0 ≤ ag) (h4 : 0 ≤ we) (hf : 0 ≤ f ∧ f ≤ 1000) : 0 ≤ w * nlos du rate ag we * f ∧ w * nlos du rate ag we * f ≤ 1000000000 := by
  have a1 := zmul_b hw (nlos_b h1 h2 h3 h4)
  have a2 := zmul_b (x := w * nlos du rate ag we) (X := 1000000) (by omega) hf
  omega
theorem nits_b {w du rate ag we f : Int} (hw : 0 ≤ w ∧ w ≤ 100) (h1 : 0 ≤ du) (h2 : 0 ≤ rate) (h3 : 0 ≤ ag) (h4 : 0 ≤ we) (hf : 0 ≤ f ∧ f ≤ 1000) : 0 ≤ nits w du rate ag we f ∧ nits w du rate ag we f ≤ 1000000 := by
  have := nprd_b hw h1 h2 h3 h4 hf
  unfold nits
  omega
/-- a night of mirror m, on a row -/
def rmir1 (σ : Int → Int) (rate f m : Int) : Int → Int :=
  zset (zset (zset σ (10 + 6 * m + 2) (ndst (σ (10 + 6 * m + 2)) rate)) (10 + 6 * m + 3) (σ (10 + 6 * m + 3) + 1)) (10 + 6 * m + 5) (σ (10 + 6 * m + 5) + nits (σ (10 + 6 * m)) (σ (10 + 6 * m + 2)) rate (σ (10 + 6 * m + 3)) (σ (10 + 6 * m + 1)) f)
def rmirN (σ : Int → Int) (rate f : Int) : Nat → (Int → Int)
  | 0 => σ
  | k + 1 => rmir1 (rmirN σ rate f k) rate f k
def rits (σ : Int → Int) (rate f m : Int) : Int := nits (σ (10 + 6 * m)) (σ (10 + 6 * m + 2)) rate (σ (10 + 6 * m + 3)) (σ (10 + 6 * m + 1)) f
def rsumN (σ : Int → Int) (rate f : Int) : Nat → Int
  | 0 => 0
  | k + 1 => rsumN σ rate f k + rits σ rate f k
theorem rmirN_o (σ : Int → Int) (rate f : Int) : ∀ (k : Nat) (j : Int), (j < 10 ∨ 10 + 6 * (k : Int) ≤ j) → rmirN σ rate f k j = σ j
  | 0, j, _ => rfl
  | k + 1, j, hj => by
    show rmir1 (rmirN σ rate f k) rate f k j = _
    simp only [rmir1, zset]
    rw [if_neg (by omega), if_neg (by omega), if_neg (by omega), rmirN_o σ rate f k j (by omega)]
section RF7
variable {z : zZ} {h : zH} {K : Option Value → zZ → zH → Prop} {a : Nat} {ρ : Nat → Int → Int}
/-- a night; nights -/
def rrate (σ : Int → Int) : Int := rtold (rclean σ (σ 0)) 0 (σ 0)
def rfact (σ : Int → Int) : Int := 100 + rtold (rclean σ (σ 0)) 1 (σ 0) * rtold (rclean σ (σ 0)) 1 (σ 0)
def rnight (σ : Int → Int) : Int → Int := zset (rmirN (rclean σ (σ 0)) (rrate σ) (rfact σ) (σ 1).toNat) 0 (σ 0 + 1)
def rnsum (σ : Int → Int) : Int := rsumN (rclean σ (σ 0)) (rrate σ) (rfact σ) (σ 1).toNat
def rpasN : Nat → (Int → Int) → (Int → Int)
  | 0, σ => σ
  | n + 1, σ => rpasN n (rnight σ)
def rpasS : Nat → (Int → Int) → Int
  | 0, _ => 0
  | n + 1, σ => rnsum σ + rpasS n (rnight σ)
theorem rfact_b {σ : Int → Int} (hI : rI σ) : 100 ≤ rfact σ ∧ rfact σ ≤ 1000 := by
  have hb := (rtold_b (rclean_I hI (σ 0)) (σ 0)).2
  have := zmul_b hb hb
  unfold rfact
  omega
theorem rrate_b {σ : Int → Int} (hI : rI σ) : 0 ≤ rrate σ ∧ rrate σ ≤ 500 := (rtold_b (rclean_I hI (σ 0)) (σ 0)).1
theorem rmirN_m {σ : Int → Int} (rate f : Int) (m : Int) (c : Int) (hc : c = 0 ∨ c = 1) (hm : 0 ≤ m) : ∀ k : Nat, rmirN σ rate f k (10 + 6 * m + c) = σ (10 + 6 * m + c)
  | 0 => rfl
  | k + 1 => by
    show rmir1 (rmirN σ rate f k) rate f k _ = _
    simp only [rmir1, zset]
    rw [if_neg (by omega), if_neg (by omega), if_neg (by omega), rmirN_m rate f m c hc hm k]
theorem rmirN_2 {σ : Int → Int} (rate f : Int) (m : Int) (hm : 0 ≤ m) : ∀ k : Nat, (rmirN σ rate f k (10 + 6 * m + 2) = if m < k then ndst (σ (10 + 6 * m + 2)) rate else σ (10 + 6 * m + 2)) ∧ (rmirN σ rate f k (10 + 6 * m + 3) = if m < k then σ (10 + 6 * m + 3) + 1 else σ (10 + 6 * m + 3))
  | 0 => ⟨by rw [if_neg (by omega)]; rfl, by rw [if_neg (by omega)]; rfl⟩
  | k + 1 => by
    obtain ⟨i2, i3⟩ := rmirN_2 (σ := σ) rate f m hm k
    refine ⟨?_, ?_⟩
    · show rmir1 (rmirN σ rate f k) rate f k _ = _
      simp only [rmir1, zset]
      rw [if_neg (by omega), if_neg (by omega)]
      by_cases c : m = k
      · subst c
        rw [if_pos rfl, i2, if_neg (by omega), if_pos (by omega)]
      · rw [if_neg (by omega), i2]
        by_cases c2 : m < k
        · rw [if_pos c2, if_pos (by omega)]
        · rw [if_neg c2, if_neg (by omega)]
    · show rmir1 (rmirN σ rate f k) rate f k _ = _
      simp only [rmir1, zset]
      rw [if_neg (by omega)]
      by_cases c : m = k
      · subst c
        rw [if_pos rfl, i3, if_neg (by omega), if_pos (by omega)]
      · rw [if_neg (by omega), if_neg (by omega), i3]
        by_cases c2 : m < k
        · rw [if_pos c2, if_pos (by omega)]
        · rw [if_neg c2, if_neg (by omega)]
/-- sorted days: the first is the least -/
theorem rI.le {σ : Int → Int} (h : rI σ) (k : Nat) (hk : (k : Int) < σ 3) : σ 152 ≤ σ (150 + 3 * (k : Int) + 2) := by
  induction k with
  | zero => simp
  | succ k ih =>
    have a1 := ih (by omega)
    have a2 := h.2.2.2.2.1 k (by omega) (by omega)
    rw [show 150 + 3 * ((k + 1 : Nat) : Int) + 2 = 150 + 3 * (k : Int) + 5 by omega]
    omega
theorem rI.night {σ : Int → Int} (h : rI σ) : rI (rnight σ) := by
  have hc := rclean_I h (σ 0)
  have he := rclean_e h (σ 0)
  have hb := rrate_b h
  have o0 := rclean_o h (σ 0) 0 (by omega)
  have o1 := rclean_o h (σ 0) 1 (by omega)
  have hs := hc.le
  obtain ⟨h1, h2, h3, h4, h5, h6, h7⟩ := hc
  have eo : ∀ j, j ≠ 0 → (j < 10 ∨ 34 ≤ j) → rnight σ j = rclean σ (σ 0) j := fun j a b => by
    unfold rnight
    rw [zset_ap, if_neg a, rmirN_o _ _ _ _ _ (by omega)]
  have e0 : rnight σ 0 = σ 0 + 1 := by unfold rnight; rw [zset_ap, if_pos rfl]
  have e1 := eo 1 (by omega) (by omega)
  have e2 := eo 2 (by omega) (by omega)
  have e3 := eo 3 (by omega) (by omega)
  have e4 := eo 4 (by omega) (by omega)
  have e8 := eo 8 (by omega) (by omega)
  have e9 := eo 9 (by omega) (by omega)
  refine ⟨fun i a b => by rw [eo i (by omega) (by omega)]; exact h1 i a b, by rw [e0, e1, e2, e3, e4, e8, e9]; omega, fun m a b => ?_, fun k a b => ?_, fun k a b => ?_, fun k a b => ?_, fun p w a b c d => ?_⟩
  · have q0 : rnight σ (10 + 6 * m) = rclean σ (σ 0) (10 + 6 * m) := by
      have := rmirN_m (σ := rclean σ (σ 0)) (rrate σ) (rfact σ) m 0 (by omega) a (σ 1).toNat
      unfold rnight
      rw [zset_ap, if_neg (by omega)]
      simpa only [Int.add_zero] using this
    have q1 : rnight σ (10 + 6 * m + 1) = rclean σ (σ 0) (10 + 6 * m + 1) := by
      unfold rnight
      rw [zset_ap, if_neg (by omega), rmirN_m _ _ _ _ (by omega) a]
    have q2 : rnight σ (10 + 6 * m + 2) = if m < ((σ 1).toNat : Int) then ndst (rclean σ (σ 0) (10 + 6 * m + 2)) (rrate σ) else rclean σ (σ 0) (10 + 6 * m + 2) := by
      unfold rnight
      rw [zset_ap, if_neg (by omega), (rmirN_2 _ _ _ a _).1]
    have q3 : rnight σ (10 + 6 * m + 3) = if m < ((σ 1).toNat : Int) then rclean σ (σ 0) (10 + 6 * m + 3) + 1 else rclean σ (σ 0) (10 + 6 * m + 3) := by
      unfold rnight
      rw [zset_ap, if_neg (by omega), (rmirN_2 _ _ _ a _).2]
    have hm := h3 m a b
    have hd := ndst_b (du := rclean σ (σ 0) (10 + 6 * m + 2)) (rate := rrate σ) (by omega) hb.1
    rw [q0, q1, q2, q3, e0]
    rw [o0] at hm
    by_cases c : m < ((σ 1).toNat : Int)
    · rw [if_pos c, if_pos c]
      omega
    · rw [if_neg c, if_neg c]
      omega
  · rw [e3] at b
    have a1 := h4 k a b
    have a2 := hs k.toNat (by omega)
    have a3 := h4 0 (by omega) (by omega)
    simp only [Int.mul_zero, Int.add_zero, Int.reduceAdd] at a3
    rw [show ((k.toNat : Nat) : Int) = k by omega] at a2
    rw [eo _ (by omega) (by omega), eo (150 + 3 * k + 1) (by omega) (by omega), eo (150 + 3 * k + 2) (by omega) (by omega), e0, e1]
    omega
  · rw [e3] at b
    rw [eo (150 + 3 * k + 2) (by omega) (by omega), eo (150 + 3 * k + 5) (by omega) (by omega)]
    exact h5 k a b
  · rw [eo (90 + 3 * k + 2) (by omega) (by omega), eo (120 + 3 * k + 2) (by omega) (by omega)]
    exact h6 k a b
  · rw [eo (40 + 9 * p + w) (by omega) (by omega)]
    exact h7 p w a b c d
theorem rnight_0 (σ : Int → Int) : rnight σ 0 = σ 0 + 1 := by unfold rnight; rw [zset_ap, if_pos rfl]
theorem rpasN_I : ∀ (n : Nat) {σ : Int → Int}, rI σ → rI (rpasN n σ)
  | 0, _, h => h
  | n + 1, _, h => rpasN_I n h.night
end RF7

/-! of ref8 -/
/-! the reference: the acts that change -/
theorem rrec_c (ρ : Nat → Int → Int) {c : Nat} (h2 : c ≠ 2) (h7 : c ≠ 7) : rrec ρ c = ρ c := by
  unfold rrec
  split
  · rw [zst_ap, if_neg h7, zst_ap, if_neg h2]
  · rw [zst_ap, if_neg h7, zst_ap, if_neg h2]
theorem rrec_0 (ρ : Nat → Int → Int) : rrec ρ 0 = ρ 0 := rrec_c ρ (by decide) (by decide)
theorem rrec_3 (ρ : Nat → Int → Int) : rrec ρ 3 = ρ 3 := rrec_c ρ (by decide) (by decide)
theorem rrec_4 (ρ : Nat → Int → Int) : rrec ρ 4 = ρ 4 := rrec_c ρ (by decide) (by decide)
theorem rrec_7 (ρ : Nat → Int → Int) : rrec ρ 7 = zset (ρ 7) 0 (if ρ 7 0 = 6 then 6 else ρ 7 0 + 1) := by
  unfold rrec
  split
  · rfl
  · rfl
def arest (ρ : Nat → Int → Int) (s : Int) : Int × (Nat → Int → Int) :=
  if ¬ (0 ≤ s ∧ s ≤ 1) then (-1000001, ρ) else if ρ 4 s = 0 then (-1000005, ρ) else
  (rcpy (ρ 3) (ρ 0) (240 * s) 0 240 0, zst (rrec ρ) 0 (rcpy (ρ 3) (ρ 0) (240 * s) 0 240))
def raddm (σ : Int → Int) (w we : Int) : Int → Int :=
  zset (zset (zset (zset (zset (zset (zset σ (10 + 6 * σ 1 + 2) 0) (10 + 6 * σ 1 + 3) 0) (10 + 6 * σ 1 + 4) 0) (10 + 6 * σ 1 + 5) 0) (10 + 6 * σ 1) w) (10 + 6 * σ 1 + 1) we) 1 (σ 1 + 1)
def aaddM (ρ : Nat → Int → Int) (w we : Int) : Int × (Nat → Int → Int) :=
  if ¬ (0 ≤ w ∧ w ≤ 100) ∨ ¬ (0 ≤ we ∧ we ≤ 20) then (-1000002, ρ) else if ρ 0 1 = 4 then (-1000004, ρ) else (ρ 0 1, zst (rrec ρ) 0 (raddm (ρ 0) w we))
def rchp (ρ : Nat → Int → Int) (s f t w : Int) : Int × (Nat → Int → Int) :=
  if ¬ (0 ≤ f ∧ f ≤ 9999) ∨ ¬ (f ≤ t ∧ t ≤ 9999) ∨ ¬ (0 ≤ w ∧ w ≤ if s = 0 then 500 else 30) then (-1000002, ρ) else
  if ρ 0 (8 + s) = 10 then (-1000003, zst ρ 7 (zset (ρ 7) 1 5)) else (0, ρ)
def rtel (σ : Int → Int) (s f t w : Int) : Int → Int :=
  zset (zset (zset (zset σ (90 + 30 * s + 3 * σ (8 + s)) f) (90 + 30 * s + 3 * σ (8 + s) + 1) t) (90 + 30 * s + 3 * σ (8 + s) + 2) w) (8 + s) (σ (8 + s) + 1)
def atell (ρ : Nat → Int → Int) (s f t w : Int) : Int × (Nat → Int → Int) :=
  if (rchp ρ s f t w).1 < 0 then rchp ρ s f t w else (ρ 0 (8 + s) + 1, zst (rrec ρ) 0 (rtel (ρ 0) s f t w))
def aclrP (ρ : Nat → Int → Int) : Int × (Nat → Int → Int) :=
  if ρ 0 8 + ρ 0 9 = 0 then (-1000005, ρ) else (ρ 0 8 + ρ 0 9, zst (rrec ρ) 0 (zset (zset (ρ 0) 8 0) 9 0))
def raddp (σ : Int → Int) : Int → Int := fun j =>
  if j = 2 then σ 2 + 1 else if 40 + 9 * σ 2 ≤ j ∧ j < 40 + 9 * σ 2 + 7 then 0 else if 40 + 9 * σ 2 + 7 ≤ j ∧ j < 40 + 9 * σ 2 + 9 then -1 else σ j
def aaddP (ρ : Nat → Int → Int) : Int × (Nat → Int → Int) :=
  if ρ 0 2 = 5 then (-1000004, ρ) else (ρ 0 2, zst (rrec ρ) 0 (raddp (ρ 0)))
def ahrs (ρ : Nat → Int → Int) (p w x : Int) : Int × (Nat → Int → Int) :=
  if ¬ (0 ≤ p ∧ p ≤ ρ 0 2 - 1) then (-1000001, ρ) else if ¬ (0 ≤ w ∧ w ≤ 6) ∨ ¬ (0 ≤ x ∧ x ≤ 12) then (-1000002, ρ) else
  (ρ 0 (40 + 9 * p + w), zst (rrec ρ) 0 (zset (ρ 0) (40 + 9 * p + w) x))
def aoff (ρ : Nat → Int → Int) (p f t : Int) : Int × (Nat → Int → Int) :=
  if ¬ (0 ≤ p ∧ p ≤ ρ 0 2 - 1) then (-1000001, ρ) else if ¬ (0 ≤ f ∧ f ≤ 9999) ∨ ¬ (f ≤ t ∧ t ≤ 9999) then (-1000002, ρ) else
  (t - f + 1, zst (rrec ρ) 0 (zset (zset (ρ 0) (40 + 9 * p + 7) f) (40 + 9 * p + 8) t))
def aaddC (ρ : Nat → Int → Int) (m k x : Int) : Int × (Nat → Int → Int) :=
  if (rchk ρ m k x).1 < 0 then rchk ρ m k x else ((rplc (ρ 0) (ρ 0 0 + x) : Int), zst (rrec ρ) 0 (radd (ρ 0) m k (ρ 0 0 + x)))
def adrpC (ρ : Nat → Int → Int) (p : Int) : Int × (Nat → Int → Int) :=
  if ¬ (0 ≤ p ∧ p ≤ ρ 0 3 - 1) then (-1000001, ρ) else (ρ 0 3 - 1, zst (rrec ρ) 0 (rdrop (ρ 0) p))
def apass (ρ : Nat → Int → Int) (n : Int) : Int × (Nat → Int → Int) :=
  if ¬ (1 ≤ n ∧ n ≤ 60) then (-1000002, ρ) else (rpasS n.toNat (ρ 0), zst (rrec ρ) 0 (rpasN n.toNat (ρ 0)))
def rK (ρ : Nat → Int → Int) : Prop := 0 ≤ ρ 7 0 ∧ ρ 7 0 ≤ 6
def zI (x : Int) : Prop := -2147483648 ≤ x ∧ x < 2147483648

/-! of ref9 -/
/-! the reference: the acts that change, second half -/
theorem rchp_c {ρ : Nat → Int → Int} {s f t w : Int} (h : ¬ (rchp ρ s f t w).1 < 0) : (0 ≤ f ∧ f ≤ 9999) ∧ (f ≤ t ∧ t ≤ 9999) ∧ (0 ≤ w ∧ w ≤ if s = 0 then 500 else 30) ∧ ρ 0 (8 + s) ≠ 10 ∧ rchp ρ s f t w = (0, ρ) := by
  unfold rchp at h ⊢
  by_cases c : ¬ (0 ≤ f ∧ f ≤ 9999) ∨ ¬ (f ≤ t ∧ t ≤ 9999) ∨ ¬ (0 ≤ w ∧ w ≤ if s = 0 then 500 else 30)
  · rw [if_pos c] at h
    exact absurd (by show (-1000002 : Int) < 0; decide) h
  · rw [if_neg c] at h ⊢
    by_cases c2 : ρ 0 (8 + s) = 10
    · rw [if_pos c2] at h
      exact absurd (by show (-1000003 : Int) < 0; decide) h
    · rw [if_neg c2]
      exact ⟨Classical.byContradiction fun q => c (Or.inl q), Classical.byContradiction fun q => c (Or.inr (Or.inl q)), Classical.byContradiction fun q => c (Or.inr (Or.inr q)), c2, rfl⟩
theorem rchk_c {ρ : Nat → Int → Int} {m k x : Int} (h : ¬ (rchk ρ m k x).1 < 0) : (0 ≤ m ∧ m ≤ ρ 0 1 - 1) ∧ (0 ≤ k ∧ k ≤ 2) ∧ (0 ≤ x ∧ x ≤ 59) ∧ ragst (ρ 0) m k (ρ 0 0 + x) = 0 ∧ rchk ρ m k x = (0, ρ) := by
  unfold rchk at h ⊢
  by_cases c : 0 ≤ m ∧ m ≤ ρ 0 1 - 1
  · rw [if_neg (not_not_intro c)] at h ⊢
    by_cases c2 : ¬ (0 ≤ k ∧ k ≤ 2) ∨ ¬ (0 ≤ x ∧ x ≤ 59)
    · rw [if_pos c2] at h
      exact absurd (by show (-1000002 : Int) < 0; decide) h
    · rw [if_neg c2] at h ⊢
      have hb := ragst_b (ρ 0) m k (ρ 0 0 + x)
      by_cases c3 : 0 < ragst (ρ 0) m k (ρ 0 0 + x)
      · rw [if_pos c3] at h
        exact absurd (by show (-1000003 : Int) < 0; decide) h
      · rw [if_neg c3]
        exact ⟨c, by omega, by omega, by omega, rfl⟩
  · rw [if_pos c] at h
    exact absurd (by show (-1000001 : Int) < 0; decide) h
theorem rI.per {σ : Int → Int} (hI : rI σ) {s : Int} (hs : s = 0 ∨ s = 1) : 0 ≤ σ (8 + s) ∧ σ (8 + s) ≤ 10 := by
  have hb := hI.2.1
  rcases hs with rfl | rfl
  · exact ⟨hb.2.2.2.2.2.2.2.2.2.1, hb.2.2.2.2.2.2.2.2.2.2.1⟩
  · exact ⟨hb.2.2.2.2.2.2.2.2.2.2.2.1, hb.2.2.2.2.2.2.2.2.2.2.2.2⟩

/-! of inv2 -/
theorem rplcN_sp (σ : Int → Int) (d : Int) : ∀ k : Nat, (∀ j : Nat, rplcN σ d k ≤ j → j < k → d < σ (150 + 3 * (j : Int) + 2)) ∧ (∀ j : Nat, j + 1 = rplcN σ d k → σ (150 + 3 * (j : Int) + 2) ≤ d)
  | 0 => ⟨fun j _ h => absurd h (Nat.not_lt_zero _), fun j h => absurd h (Nat.succ_ne_zero j)⟩
  | k + 1 => by
    obtain ⟨i1, i2⟩ := rplcN_sp σ d k
    by_cases c : d < σ (150 + 3 * (k : Int) + 2)
    · have e : rplcN σ d (k + 1) = rplcN σ d k := if_pos c
      rw [e]
      refine ⟨fun j a b => ?_, i2⟩
      by_cases q : j = k
      · subst q
        exact c
      · exact i1 j a (by omega)
    · have e : rplcN σ d (k + 1) = k + 1 := if_neg c
      rw [e]
      refine ⟨fun j a b => absurd a (by omega), fun j a => ?_⟩
      rw [show j = k by omega]
      omega
theorem radd_ap (σ : Int → Int) (m k d : Int) (h3 : 0 ≤ σ 3) (j : Int) : radd σ m k d j = if j = 3 then σ 3 + 1 else if j = 150 + 3 * (rplc σ d : Int) + 2 then d else if j = 150 + 3 * (rplc σ d : Int) + 1 then k else if j = 150 + 3 * (rplc σ d : Int) then m else
    if 150 + 3 * (rplc σ d : Int) + 3 ≤ j ∧ j < 150 + 3 * σ 3 + 3 then σ (j - 3) else σ j := by
  simp only [radd, zset, rmov]
theorem rplc_le (σ : Int → Int) (d : Int) (h3 : 0 ≤ σ 3) : (rplc σ d : Int) ≤ σ 3 := by
  have := rplcN_le σ d (σ 3).toNat
  unfold rplc
  omega
theorem radd_o (σ : Int → Int) (m k d : Int) (h3 : 0 ≤ σ 3) (j : Int) (hj : j ≠ 3) (hj2 : j < 150 ∨ 150 + 3 * σ 3 + 3 ≤ j) : radd σ m k d j = σ j := by
  have hp := rplc_le σ d h3
  rw [radd_ap σ m k d h3, if_neg hj, if_neg (by omega), if_neg (by omega), if_neg (by omega), if_neg (by omega)]
/-- entry e of the plan with one more -/
theorem radd_e (σ : Int → Int) (m k d : Int) (h3 : 0 ≤ σ 3) (e c : Int) (hc : 0 ≤ c ∧ c ≤ 2) (he : 0 ≤ e ∧ e ≤ σ 3) :
    radd σ m k d (150 + 3 * e + c) = if e < rplc σ d then σ (150 + 3 * e + c) else if e = rplc σ d then (if c = 0 then m else if c = 1 then k else d) else σ (150 + 3 * (e - 1) + c) := by
  have hp := rplc_le σ d h3
  rw [radd_ap σ m k d h3, if_neg (by omega)]
  by_cases c1 : e < rplc σ d
  · rw [if_pos c1, if_neg (by omega), if_neg (by omega), if_neg (by omega), if_neg (by omega)]
  · rw [if_neg c1]
    by_cases c2 : e = rplc σ d
    · rw [if_pos c2]
      rcases (by omega : c = 0 ∨ c = 1 ∨ c = 2) with rfl | rfl | rfl
      · rw [if_neg (by omega), if_neg (by omega), if_pos (by omega)]
        rfl
      · rw [if_neg (by omega), if_pos (by omega)]
        rfl
      · rw [if_pos (by omega)]
        rfl
    · rw [if_neg c2, if_neg (by omega), if_neg (by omega), if_neg (by omega), if_pos (by omega)]
      congr 1
      omega
theorem rI.add {σ : Int → Int} (h : rI σ) {m k d : Int} (hm : 0 ≤ m ∧ m < σ 1) (hk : 0 ≤ k ∧ k ≤ 2) (hd : σ 0 ≤ d ∧ d ≤ 1000000000) (h12 : σ 3 < 12) : rI (radd σ m k d) := by
  obtain ⟨h1, h2, h3, h4, h5, h6, h7⟩ := h
  have hp := rplc_le σ d (by omega)
  obtain ⟨s1, s2⟩ := rplcN_sp σ d (σ 3).toNat
  have eo := radd_o σ m k d (by omega)
  have ee := radd_e σ m k d (by omega)
  have e3 : radd σ m k d 3 = σ 3 + 1 := by rw [radd_ap σ m k d (by omega), if_pos rfl]
  have e0 := eo 0 (by omega) (by omega)
  have e1 := eo 1 (by omega) (by omega)
  have e2 := eo 2 (by omega) (by omega)
  have e4 := eo 4 (by omega) (by omega)
  have e8 := eo 8 (by omega) (by omega)
  have e9 := eo 9 (by omega) (by omega)
  refine ⟨fun i a b => ?_, by rw [e0, e1, e2, e3, e4, e8, e9]; omega, fun q a b => ?_, fun e a b => ?_, fun e a b => ?_, fun q a b => ?_, fun q w a b c d => ?_⟩
  · rw [radd_ap σ m k d (by omega), if_neg (by omega)]
    by_cases c1 : i = 150 + 3 * (rplc σ d : Int) + 2
    · rw [if_pos c1]
      omega
    · rw [if_neg c1]
      by_cases c2 : i = 150 + 3 * (rplc σ d : Int) + 1
      · rw [if_pos c2]
        omega
      · rw [if_neg c2]
        by_cases c3 : i = 150 + 3 * (rplc σ d : Int)
        · rw [if_pos c3]
          omega
        · rw [if_neg c3]
          by_cases c4 : 150 + 3 * (rplc σ d : Int) + 3 ≤ i ∧ i < 150 + 3 * σ 3 + 3
          · rw [if_pos c4]
            exact h1 _ (by omega) (by omega)
          · rw [if_neg c4]
            exact h1 i a b
  · rw [eo _ (by omega) (by omega), eo (10 + 6 * q + 1) (by omega) (by omega), eo (10 + 6 * q + 2) (by omega) (by omega), eo (10 + 6 * q + 3) (by omega) (by omega), e0]
    exact h3 q a b
  · rw [e3] at b
    have f0 := ee e 0 (by omega) (by omega)
    rw [Int.add_zero] at f0
    rw [f0, ee e 1 (by omega) (by omega), ee e 2 (by omega) (by omega), e0, e1]
    by_cases c1 : e < rplc σ d
    · rw [if_pos c1, if_pos c1, if_pos c1]
      have := h4 e a (by omega)
      exact this
    · rw [if_neg c1, if_neg c1, if_neg c1]
      by_cases c2 : e = rplc σ d
      · rw [if_pos c2, if_pos c2, if_pos c2, if_pos rfl, if_neg (by omega), if_pos rfl, if_neg (by omega), if_neg (by omega)]
        omega
      · rw [if_neg c2, if_neg c2, if_neg c2]
        have := h4 (e - 1) (by omega) (by omega)
        rw [Int.add_zero]
        exact this
  · rw [e3] at b
    rw [ee e 2 (by omega) (by omega), show 150 + 3 * e + 5 = 150 + 3 * (e + 1) + 2 by omega, ee (e + 1) 2 (by omega) (by omega)]
    by_cases c1 : e + 1 < rplc σ d
    · rw [if_pos (by omega), if_pos c1]
      have := h5 e a (by omega)
      rw [show 150 + 3 * (e + 1) + 2 = 150 + 3 * e + 5 by omega]
      exact this
    · by_cases c2 : e + 1 = rplc σ d
      · rw [if_pos (by omega), if_neg c1, if_pos c2, if_neg (by omega), if_neg (by omega)]
        have := s2 e.toNat (by unfold rplc at c2; omega)
        rw [show ((e.toNat : Nat) : Int) = e by omega] at this
        exact this
      · by_cases c3 : e = rplc σ d
        · rw [if_neg (by omega), if_pos c3, if_neg (by omega), if_neg (by omega), if_neg (by omega), if_neg (by omega)]
          have := s1 e.toNat (by unfold rplc at c3; omega) (by omega)
          rw [show ((e.toNat : Nat) : Int) = e by omega] at this
          rw [show e + 1 - 1 = e by omega]
          omega
        · rw [if_neg (by omega), if_neg (by omega), if_neg (by omega), if_neg (by omega)]
          have := h5 (e - 1) (by omega) (by omega)
          rw [show 150 + 3 * (e + 1 - 1) + 2 = 150 + 3 * (e - 1) + 5 by omega]
          exact this
  · rw [eo (90 + 3 * q + 2) (by omega) (by omega), eo (120 + 3 * q + 2) (by omega) (by omega)]
    exact h6 q a b
  · rw [eo (40 + 9 * q + w) (by omega) (by omega)]
    exact h7 q w a b c d
/-- what a night and nights lose, bounded -/
theorem rsumN_b {σ : Int → Int} (hI : rI σ) {rate f : Int} (hr : 0 ≤ rate) (hf : 0 ≤ f ∧ f ≤ 1000) : ∀ k : Nat, k ≤ 4 → 0 ≤ rsumN σ rate f k ∧ rsumN σ rate f k ≤ 1000000 * (k : Int)
  | 0, _ => ⟨Int.le_refl _, by show (0 : Int) ≤ _; omega⟩
  | k + 1, hk => by
    have ih := rsumN_b hI hr hf k (by omega)
    have hm := hI.2.2.1 k (by omega) (by omega)
    have hp := nprd_b (du := σ (10 + 6 * (k : Int) + 2)) (rate := rate) (ag := σ (10 + 6 * (k : Int) + 3)) (we := σ (10 + 6 * (k : Int) + 1)) (w := σ (10 + 6 * (k : Int))) (f := f) (by omega) (by omega) hr (by omega) (by omega) hf
    show 0 ≤ rsumN σ rate f k + rits σ rate f k ∧ rsumN σ rate f k + rits σ rate f k ≤ _
    unfold rits nits
    omega
theorem rpasS_b : ∀ (n : Nat) {σ : Int → Int}, rI σ → 0 ≤ rpasS n σ ∧ rpasS n σ ≤ 4000000 * (n : Int)
  | 0, _, _ => ⟨Int.le_refl _, by show (0 : Int) ≤ _; omega⟩
  | n + 1, σ, h => by
    have ih := rpasS_b n h.night
    have hb := rrate_b h
    have hf := rfact_b h
    have h2 := h.2.1
    have := rsumN_b (rclean_I h (σ 0)) hb.1 (f := rfact σ) (by omega) (σ 1).toNat (by omega)
    show 0 ≤ rnsum σ + rpasS n (rnight σ) ∧ rnsum σ + rpasS n (rnight σ) ≤ _
    unfold rnsum
    omega

