/-! of ref10 -/
/-! the reference: what is asked -/
def qmir (σ : Int → Int) (m w : Int) : Int :=
  if ¬ (0 ≤ m ∧ m ≤ σ 1 - 1) then -1000001 else if w = 5 then rloss σ m else if 0 ≤ w ∧ w ≤ 4 then σ (10 + 6 * m + w) else -1000002
def qlost (σ : Int → Int) (m : Int) : Int := if 0 ≤ m ∧ m ≤ σ 1 - 1 then σ (10 + 6 * m + 5) else -1000001
def qnight (σ : Int → Int) (n w : Int) : Int := if (0 ≤ n ∧ n ≤ 9999) ∧ (0 ≤ w ∧ w ≤ 1) then rtold σ w n else -1000002
def qday (σ : Int → Int) (d w : Int) : Int :=
  if ¬ (0 ≤ d ∧ d ≤ 9999) ∨ ¬ (0 ≤ w ∧ w ≤ 2) then -1000002 else if w = 0 then rpeop σ d else if w = 1 then rhour σ d else rhour σ d - rplan σ d
def qhours (σ : Int → Int) (p w : Int) : Int :=
  if ¬ (0 ≤ p ∧ p ≤ σ 2 - 1) then -1000001 else if 0 ≤ w ∧ w ≤ 6 then σ (40 + 9 * p + w) else -1000002
def qplan (σ : Int → Int) (k w : Int) : Int :=
  if k < 0 ∨ ¬ (0 ≤ w ∧ w ≤ 2) then -1000002 else if k < σ 3 then σ (150 + 3 * k + w) else -1000005
def qlog (σ : Int → Int) (k w : Int) : Int :=
  if k < 0 ∨ ¬ (0 ≤ w ∧ w ≤ 3) then -1000002 else if k < σ 4 then σ (190 + 4 * k + w) else -1000005
def qcnt (ρ : Nat → Int → Int) (w : Int) : Int :=
  if w = 0 then ρ 0 0 else if w = 1 then ρ 0 1 else if w = 2 then ρ 0 2 else if w = 3 then ρ 0 3 else if w = 4 then ρ 0 4 else if w = 5 then ρ 7 1 else if w = 6 then ρ 7 0 else if w = 7 then ρ 0 5 else if w = 8 then ρ 0 6 else if w = 9 then ρ 0 7 else -1000002
def qfail (ρ : Nat → Int → Int) (w : Int) : Int := if w = 0 then ρ 7 7 else if w = 1 then ρ 7 8 else -1000002
/-! what is ahead -/
def rlA (σ : Int → Int) (w : Int) : Int → Int := if w = 1 then zset σ 3 0 else σ
def rsav (ρ : Nat → Int → Int) : Nat → Int → Int := zst ρ 1 (rcpy (ρ 0) (ρ 1) 0 0 240)
def alosA (ρ : Nat → Int → Int) (n w : Int) : Int × (Nat → Int → Int) :=
  if ¬ (1 ≤ n ∧ n ≤ 60) ∨ ¬ (0 ≤ w ∧ w ≤ 1) then (-1000002, ρ) else (rpasS n.toNat (rlA (ρ 0) w), rsav ρ)
def rbdS (σ : Int → Int) (m k : Int) (n : Nat) (d : Int) (b : Int × Int) : Int × Int :=
  if ragst σ m k (σ 0 + d) = 0 then
    (if b.1 < 0 ∨ rpasS n (radd σ m k (σ 0 + d)) < b.2 then (d, rpasS n (radd σ m k (σ 0 + d))) else b)
  else b
def rbdN (σ : Int → Int) (m k : Int) (n : Nat) : Nat → Int × Int
  | 0 => (-1000005, 0)
  | d + 1 => rbdS σ m k n d (rbdN σ m k n d)
def abday (ρ : Nat → Int → Int) (m k n : Int) : Int × (Nat → Int → Int) :=
  if ¬ (0 ≤ m ∧ m ≤ ρ 0 1 - 1) then (-1000001, ρ) else if ¬ (0 ≤ k ∧ k ≤ 2) ∨ ¬ (1 ≤ n ∧ n ≤ 60) then (-1000002, ρ) else ((rbdN (ρ 0) m k n.toNat n.toNat).1, rsav ρ)

/-! of ref11 -/
/-! the reference: the best day -/
theorem ragst_0 {σ : Int → Int} {m k d : Int} (h : ragst σ m k d = 0) : σ 3 ≠ 12 := by
  unfold ragst at h
  intro c
  by_cases c1 : rpeop σ d < rneed k
  · rw [if_pos c1] at h
    omega
  · rw [if_neg c1] at h
    by_cases c2 : rhour σ d < rplan σ d + rtake k
    · rw [if_pos c2] at h
      omega
    · rw [if_neg c2] at h
      by_cases c3 : rhasB σ m d (σ 3).toNat = true
      · rw [if_pos c3] at h
        omega
      · rw [if_neg c3, if_pos c] at h
        omega

/-! of ref12 -/
/-! the reference: the best pair -/
def rbpS (σ : Int → Int) (m k : Int) (n : Nat) (d e : Int) (b : Int × Int) : Int × Int :=
  if ragst (radd σ m k (σ 0 + d)) m k (σ 0 + e) = 0 then
    (if b.1 < 0 ∨ rpasS n (radd (radd σ m k (σ 0 + d)) m k (σ 0 + e)) < b.2 then (100 * d + e, rpasS n (radd (radd σ m k (σ 0 + d)) m k (σ 0 + e))) else b)
  else b
def rbpI (σ : Int → Int) (m k : Int) (n : Nat) (d : Int) (b : Int × Int) : Nat → Int × Int
  | 0 => b
  | j + 1 => rbpS σ m k n d (d + 1 + j) (rbpI σ m k n d b j)
def rbpN (σ : Int → Int) (m k : Int) (n : Nat) : Nat → Int × Int
  | 0 => (-1000005, 0)
  | d + 1 => if ragst σ m k (σ 0 + d) = 0 then rbpI σ m k n d (rbpN σ m k n d) (n - (d + 1)) else rbpN σ m k n d
def abpair (ρ : Nat → Int → Int) (m k n : Int) : Int × (Nat → Int → Int) :=
  if ¬ (0 ≤ m ∧ m ≤ ρ 0 1 - 1) then (-1000001, ρ) else if ¬ (0 ≤ k ∧ k ≤ 2) ∨ ¬ (1 ≤ n ∧ n ≤ 60) then (-1000002, ρ) else ((rbpN (ρ 0) m k n.toNat n.toNat).1, rsav ρ)

/-! of ref13 -/
theorem znar_c {x : Int} (h1 : 0 ≤ x) (h2 : x < 65536) : vp_nar .char (zi x) = zi x := by
  show ((zi x).toUInt32 % 65536).toInt32 = zi x
  apply Int32.toBitVec_inj.1
  show ((zi x).toUInt32 % 65536).toBitVec = (zi x).toBitVec
  apply BitVec.eq_of_toNat_eq
  show ((zi x).toUInt32 % 65536).toNat = _
  rw [UInt32.toNat_mod]
  show (zi x).toBitVec.toNat % 65536 = (zi x).toBitVec.toNat
  apply Nat.mod_eq_of_lt
  show (BitVec.ofInt 32 x).toNat < 65536
  rw [BitVec.toNat_ofInt]
  omega
def tC (t : Int → Int) : Prop := ∀ i, 0 ≤ t i ∧ t i < 65536
section RF13
variable {z : zZ} {h : zH} {K : Option Value → zZ → zH → Prop} {a : Nat} {ρ : Nat → Int → Int}
def atype (ρ : Nat → Int → Int) (c : Int) : Int × (Nat → Int → Int) :=
  if ρ 7 2 = 90 then (-1000004, ρ) else (ρ 7 2 + 1, zst (zst ρ 5 (zset (ρ 5) (ρ 7 2) c)) 7 (zset (ρ 7) 2 (ρ 7 2 + 1)))
def aclrT (ρ : Nat → Int → Int) : Int × (Nat → Int → Int) := (ρ 7 2, zst ρ 7 (zset (ρ 7) 2 0))
end RF13

/-! of ref16 -/
/-! the reference's text: an order, its other words -/

/-! of inv3 -/
/-! what holds of every row, behind the other acts -/
theorem rI.tel {σ : Int → Int} (h : rI σ) {s f t w : Int} (hs : s = 0 ∨ s = 1) (hf : 0 ≤ f ∧ f ≤ 9999) (ht : f ≤ t ∧ t ≤ 9999) (hw : 0 ≤ w ∧ w ≤ if s = 0 then 500 else 30) (hc : σ (8 + s) ≤ 9) : rI (rtel σ s f t w) := by
  have hp := h.per hs
  obtain ⟨h1, h2, h3, h4, h5, h6, h7⟩ := h
  have ap : ∀ j, rtel σ s f t w j = if j = 8 + s then σ (8 + s) + 1 else if j = 90 + 30 * s + 3 * σ (8 + s) + 2 then w else if j = 90 + 30 * s + 3 * σ (8 + s) + 1 then t else if j = 90 + 30 * s + 3 * σ (8 + s) then f else σ j := fun j => by simp only [rtel, zset]
  have hw2 : (s = 0 → w ≤ 500) ∧ (s = 1 → w ≤ 30) ∧ w ≤ 500 := by
    rcases hs with rfl | rfl
    · rw [if_pos rfl] at hw
      omega
    · rw [if_neg (by omega)] at hw
      omega
  have eo : ∀ j, j ≠ 8 + s → (j < 90 + 30 * s + 3 * σ (8 + s) ∨ 90 + 30 * s + 3 * σ (8 + s) + 2 < j) → rtel σ s f t w j = σ j := fun j a b => by rw [ap, if_neg a, if_neg (by omega), if_neg (by omega), if_neg (by omega)]
  have e0 := eo 0 (by omega) (by omega)
  have e1 := eo 1 (by omega) (by omega)
  have e2 := eo 2 (by omega) (by omega)
  have e3 := eo 3 (by omega) (by omega)
  have e4 := eo 4 (by omega) (by omega)
  have e8 : 0 ≤ rtel σ s f t w 8 ∧ rtel σ s f t w 8 ≤ 10 := by
    rw [ap]
    by_cases c : (8 : Int) = 8 + s
    · rw [if_pos c]
      omega
    · rw [if_neg c, if_neg (by omega), if_neg (by omega), if_neg (by omega)]
      omega
  have e9 : 0 ≤ rtel σ s f t w 9 ∧ rtel σ s f t w 9 ≤ 10 := by
    rw [ap]
    by_cases c : (9 : Int) = 8 + s
    · rw [if_pos c]
      omega
    · rw [if_neg c, if_neg (by omega), if_neg (by omega), if_neg (by omega)]
      omega
  refine ⟨fun i a b => ?_, by rw [e0, e1, e2, e3, e4]; omega, fun m a b => ?_, fun k a b => ?_, fun k a b => ?_, fun k a b => ?_, fun p w a b c d => ?_⟩
  · have := h1 i a b
    rw [ap, if_neg (by omega)]
    by_cases c1 : i = 90 + 30 * s + 3 * σ (8 + s) + 2
    · rw [if_pos c1]
      omega
    · rw [if_neg c1]
      by_cases c2 : i = 90 + 30 * s + 3 * σ (8 + s) + 1
      · rw [if_pos c2]
        omega
      · rw [if_neg c2]
        by_cases c3 : i = 90 + 30 * s + 3 * σ (8 + s)
        · rw [if_pos c3]
          omega
        · rw [if_neg c3]
          exact this
  · rw [eo _ (by omega) (by omega), eo (10 + 6 * m + 1) (by omega) (by omega), eo (10 + 6 * m + 2) (by omega) (by omega), eo (10 + 6 * m + 3) (by omega) (by omega), e0]
    exact h3 m a b
  · rw [e3] at b
    rw [eo _ (by omega) (by omega), eo (150 + 3 * k + 1) (by omega) (by omega), eo (150 + 3 * k + 2) (by omega) (by omega), e0, e1]
    exact h4 k a b
  · rw [e3] at b
    rw [eo (150 + 3 * k + 2) (by omega) (by omega), eo (150 + 3 * k + 5) (by omega) (by omega)]
    exact h5 k a b
  · have hk := h6 k a b
    rw [ap, ap (120 + 3 * k + 2), if_neg (by omega), if_neg (show ¬ 120 + 3 * k + 2 = 8 + s by omega), if_neg (show ¬ 90 + 3 * k + 2 = 90 + 30 * s + 3 * σ (8 + s) + 1 by omega), if_neg (show ¬ 90 + 3 * k + 2 = 90 + 30 * s + 3 * σ (8 + s) by omega), if_neg (show ¬ 120 + 3 * k + 2 = 90 + 30 * s + 3 * σ (8 + s) + 1 by omega), if_neg (show ¬ 120 + 3 * k + 2 = 90 + 30 * s + 3 * σ (8 + s) by omega)]
    by_cases c1 : 90 + 3 * k + 2 = 90 + 30 * s + 3 * σ (8 + s) + 2
    · rw [if_pos c1, if_neg (by omega)]
      omega
    · rw [if_neg c1]
      by_cases c2 : 120 + 3 * k + 2 = 90 + 30 * s + 3 * σ (8 + s) + 2
      · rw [if_pos c2]
        omega
      · rw [if_neg c2]
        exact hk
  · rw [eo (40 + 9 * p + w) (by omega) (by omega)]
    exact h7 p w a b c d
theorem rI.addm {σ : Int → Int} (h : rI σ) {w we : Int} (hw : 0 ≤ w ∧ w ≤ 100) (hwe : 0 ≤ we ∧ we ≤ 20) (hc : σ 1 ≤ 3) : rI (raddm σ w we) := by
  obtain ⟨h1, h2, h3, h4, h5, h6, h7⟩ := h
  have ap : ∀ j, raddm σ w we j = if j = 1 then σ 1 + 1 else if j = 10 + 6 * σ 1 + 1 then we else if j = 10 + 6 * σ 1 then w else if j = 10 + 6 * σ 1 + 5 then 0 else if j = 10 + 6 * σ 1 + 4 then 0 else if j = 10 + 6 * σ 1 + 3 then 0 else if j = 10 + 6 * σ 1 + 2 then 0 else σ j := fun j => by simp only [raddm, zset]
  have eo : ∀ j, j ≠ 1 → (j < 10 + 6 * σ 1 ∨ 10 + 6 * σ 1 + 5 < j) → raddm σ w we j = σ j := fun j a b => by rw [ap, if_neg a, if_neg (by omega), if_neg (by omega), if_neg (by omega), if_neg (by omega), if_neg (by omega), if_neg (by omega)]
  have e0 := eo 0 (by omega) (by omega)
  have e1 : raddm σ w we 1 = σ 1 + 1 := by rw [ap, if_pos rfl]
  have e2 := eo 2 (by omega) (by omega)
  have e3 := eo 3 (by omega) (by omega)
  have e4 := eo 4 (by omega) (by omega)
  have e8 := eo 8 (by omega) (by omega)
  have e9 := eo 9 (by omega) (by omega)
  refine ⟨fun i a b => by rw [eo i (by omega) (by omega)]; exact h1 i a b, by rw [e0, e1, e2, e3, e4, e8, e9]; omega, fun m a b => ?_, fun k a b => ?_, fun k a b => ?_, fun k a b => ?_, fun p w a b c d => ?_⟩
  · rw [e0]
    by_cases c : m = σ 1
    · subst c
      have a0 : raddm σ w we (10 + 6 * σ 1) = w := by rw [ap, if_neg (by omega), if_neg (by omega), if_pos rfl]
      have a1 : raddm σ w we (10 + 6 * σ 1 + 1) = we := by rw [ap, if_neg (by omega), if_pos rfl]
      have a2 : raddm σ w we (10 + 6 * σ 1 + 2) = 0 := by rw [ap, if_neg (by omega), if_neg (by omega), if_neg (by omega), if_neg (by omega), if_neg (by omega), if_neg (by omega), if_pos rfl]
      have a3 : raddm σ w we (10 + 6 * σ 1 + 3) = 0 := by rw [ap, if_neg (by omega), if_neg (by omega), if_neg (by omega), if_neg (by omega), if_neg (by omega), if_pos rfl]
      rw [a0, a1, a2, a3]
      omega
    · rw [eo _ (by omega) (by omega), eo (10 + 6 * m + 1) (by omega) (by omega), eo (10 + 6 * m + 2) (by omega) (by omega), eo (10 + 6 * m + 3) (by omega) (by omega)]
      exact h3 m a b
  · rw [e3] at b
    have := h4 k a b
    rw [eo _ (by omega) (by omega), eo (150 + 3 * k + 1) (by omega) (by omega), eo (150 + 3 * k + 2) (by omega) (by omega), e0, e1]
    omega
  · rw [e3] at b
    rw [eo (150 + 3 * k + 2) (by omega) (by omega), eo (150 + 3 * k + 5) (by omega) (by omega)]
    exact h5 k a b
  · rw [eo (90 + 3 * k + 2) (by omega) (by omega), eo (120 + 3 * k + 2) (by omega) (by omega)]
    exact h6 k a b
  · rw [eo (40 + 9 * p + w) (by omega) (by omega)]
    exact h7 p w a b c d
theorem rI.addp {σ : Int → Int} (h : rI σ) (hc : σ 2 ≤ 4) : rI (raddp σ) := by
  obtain ⟨h1, h2, h3, h4, h5, h6, h7⟩ := h
  have ap : ∀ j, raddp σ j = if j = 2 then σ 2 + 1 else if 40 + 9 * σ 2 ≤ j ∧ j < 40 + 9 * σ 2 + 7 then 0 else if 40 + 9 * σ 2 + 7 ≤ j ∧ j < 40 + 9 * σ 2 + 9 then -1 else σ j := fun j => rfl
  have eo : ∀ j, j ≠ 2 → (j < 40 + 9 * σ 2 ∨ 40 + 9 * σ 2 + 9 ≤ j) → raddp σ j = σ j := fun j a b => by rw [ap, if_neg a, if_neg (by omega), if_neg (by omega)]
  have e0 := eo 0 (by omega) (by omega)
  have e1 := eo 1 (by omega) (by omega)
  have e2 : raddp σ 2 = σ 2 + 1 := by rw [ap, if_pos rfl]
  have e3 := eo 3 (by omega) (by omega)
  have e4 := eo 4 (by omega) (by omega)
  have e8 := eo 8 (by omega) (by omega)
  have e9 := eo 9 (by omega) (by omega)
  refine ⟨fun i a b => ?_, by rw [e0, e1, e2, e3, e4, e8, e9]; omega, fun m a b => ?_, fun k a b => ?_, fun k a b => ?_, fun k a b => ?_, fun p w a b c d => ?_⟩
  · have := h1 i a b
    rw [ap, if_neg (by omega)]
    split
    · omega
    · split
      · omega
      · exact this
  · rw [eo _ (by omega) (by omega), eo (10 + 6 * m + 1) (by omega) (by omega), eo (10 + 6 * m + 2) (by omega) (by omega), eo (10 + 6 * m + 3) (by omega) (by omega), e0]
    exact h3 m a b
  · rw [e3] at b
    rw [eo _ (by omega) (by omega), eo (150 + 3 * k + 1) (by omega) (by omega), eo (150 + 3 * k + 2) (by omega) (by omega), e0, e1]
    exact h4 k a b
  · rw [e3] at b
    rw [eo (150 + 3 * k + 2) (by omega) (by omega), eo (150 + 3 * k + 5) (by omega) (by omega)]
    exact h5 k a b
  · rw [eo (90 + 3 * k + 2) (by omega) (by omega), eo (120 + 3 * k + 2) (by omega) (by omega)]
    exact h6 k a b
  · rw [ap, if_neg (by omega)]
    by_cases q : p = σ 2
    · rw [if_pos (by omega)]
      omega
    · rw [if_neg (by omega), if_neg (by omega)]
      exact h7 p w a b c d
theorem rI.hrs {σ : Int → Int} (h : rI σ) {p w x : Int} (hp : 0 ≤ p ∧ p < 5) (hw : 0 ≤ w ∧ w ≤ 6) (hx : 0 ≤ x ∧ x ≤ 12) : rI (zset σ (40 + 9 * p + w) x) := by
  obtain ⟨h1, h2, h3, h4, h5, h6, h7⟩ := h
  have eo : ∀ j, j ≠ 40 + 9 * p + w → zset σ (40 + 9 * p + w) x j = σ j := fun j a => by rw [zset_ap, if_neg a]
  refine ⟨fun i a b => ?_, by rw [eo 0 (by omega), eo 1 (by omega), eo 2 (by omega), eo 3 (by omega), eo 4 (by omega), eo 8 (by omega), eo 9 (by omega)]; omega, fun m a b => ?_, fun k a b => ?_, fun k a b => ?_, fun k a b => ?_, fun q u a b c d => ?_⟩
  · have := h1 i a b
    rw [zset_ap]
    split <;> omega
  · rw [eo _ (by omega), eo (10 + 6 * m + 1) (by omega), eo (10 + 6 * m + 2) (by omega), eo (10 + 6 * m + 3) (by omega), eo 0 (by omega)]
    exact h3 m a b
  · rw [eo 3 (by omega)] at b
    rw [eo _ (by omega), eo (150 + 3 * k + 1) (by omega), eo (150 + 3 * k + 2) (by omega), eo 0 (by omega), eo 1 (by omega)]
    exact h4 k a b
  · rw [eo 3 (by omega)] at b
    rw [eo (150 + 3 * k + 2) (by omega), eo (150 + 3 * k + 5) (by omega)]
    exact h5 k a b
  · rw [eo (90 + 3 * k + 2) (by omega), eo (120 + 3 * k + 2) (by omega)]
    exact h6 k a b
  · have := h7 q u a b c d
    rw [zset_ap]
    split <;> omega
theorem rI.off {σ : Int → Int} (h : rI σ) {p c x : Int} (hp : 0 ≤ p ∧ p < 5) (hw : c = 7 ∨ c = 8) (hx : 0 ≤ x ∧ x ≤ 9999) : rI (zset σ (40 + 9 * p + c) x) := by
  obtain ⟨h1, h2, h3, h4, h5, h6, h7⟩ := h
  have eo : ∀ j, j ≠ 40 + 9 * p + c → zset σ (40 + 9 * p + c) x j = σ j := fun j a => by rw [zset_ap, if_neg a]
  refine ⟨fun i a b => ?_, by rw [eo 0 (by omega), eo 1 (by omega), eo 2 (by omega), eo 3 (by omega), eo 4 (by omega), eo 8 (by omega), eo 9 (by omega)]; omega, fun m a b => ?_, fun k a b => ?_, fun k a b => ?_, fun k a b => ?_, fun q u a b c d => ?_⟩
  · have := h1 i a b
    rw [zset_ap]
    split <;> omega
  · rw [eo _ (by omega), eo (10 + 6 * m + 1) (by omega), eo (10 + 6 * m + 2) (by omega), eo (10 + 6 * m + 3) (by omega), eo 0 (by omega)]
    exact h3 m a b
  · rw [eo 3 (by omega)] at b
    rw [eo _ (by omega), eo (150 + 3 * k + 1) (by omega), eo (150 + 3 * k + 2) (by omega), eo 0 (by omega), eo 1 (by omega)]
    exact h4 k a b
  · rw [eo 3 (by omega)] at b
    rw [eo (150 + 3 * k + 2) (by omega), eo (150 + 3 * k + 5) (by omega)]
    exact h5 k a b
  · rw [eo (90 + 3 * k + 2) (by omega), eo (120 + 3 * k + 2) (by omega)]
    exact h6 k a b
  · rw [eo (40 + 9 * q + u) (by omega)]
    exact h7 q u a b c d
theorem rI.per0 {σ : Int → Int} (h : rI σ) {i : Int} (hi : i = 8 ∨ i = 9) : rI (zset σ i 0) := by
  obtain ⟨h1, h2, h3, h4, h5, h6, h7⟩ := h
  have eo : ∀ j, j ≠ i → zset σ i 0 j = σ j := fun j a => by rw [zset_ap, if_neg a]
  have e8 : 0 ≤ zset σ i 0 8 ∧ zset σ i 0 8 ≤ 10 := by
    rw [zset_ap]
    split <;> omega
  have e9 : 0 ≤ zset σ i 0 9 ∧ zset σ i 0 9 ≤ 10 := by
    rw [zset_ap]
    split <;> omega
  refine ⟨fun j a b => by rw [eo j (by omega)]; exact h1 j a b, by rw [eo 0 (by omega), eo 1 (by omega), eo 2 (by omega), eo 3 (by omega), eo 4 (by omega)]; omega, fun m a b => ?_, fun k a b => ?_, fun k a b => ?_, fun k a b => ?_, fun q u a b c d => ?_⟩
  · rw [eo _ (by omega), eo (10 + 6 * m + 1) (by omega), eo (10 + 6 * m + 2) (by omega), eo (10 + 6 * m + 3) (by omega), eo 0 (by omega)]
    exact h3 m a b
  · rw [eo 3 (by omega)] at b
    rw [eo _ (by omega), eo (150 + 3 * k + 1) (by omega), eo (150 + 3 * k + 2) (by omega), eo 0 (by omega), eo 1 (by omega)]
    exact h4 k a b
  · rw [eo 3 (by omega)] at b
    rw [eo (150 + 3 * k + 2) (by omega), eo (150 + 3 * k + 5) (by omega)]
    exact h5 k a b
  · rw [eo (90 + 3 * k + 2) (by omega), eo (120 + 3 * k + 2) (by omega)]
    exact h6 k a b
  · rw [eo (40 + 9 * q + u) (by omega)]
    exact h7 q u a b c d

/-! of ref19 -/
/-! the reference: orders carried out -/
def rchkO (ρ : Nat → Int → Int) (q : Int × Int × Int × Int) : Int × (Nat → Int → Int) :=
  if q.1 < 3 then rchk ρ q.2.1 q.1 q.2.2.1 else if q.1 = 3 then (if 0 ≤ q.2.1 ∧ q.2.1 ≤ ρ 0 3 - 1 then 0 else -1000001, ρ) else if q.1 = 4 then (0, ρ) else rchp ρ 0 (ρ 0 0 + q.2.1) (ρ 0 0 + q.2.2.1) q.2.2.2
def rdoesO (σ : Int → Int) (q : Int × Int × Int × Int) : Int → Int :=
  if q.1 < 3 then radd σ q.2.1 q.1 (σ 0 + q.2.2.1) else if q.1 = 3 then rdrop σ q.2.1 else if q.1 = 4 then rpasN q.2.1.toNat σ else rtel σ 0 (σ 0 + q.2.1) (σ 0 + q.2.2.1) q.2.2.2
/-- the numbers of an order are what its word allows -/
def rQ (q : Int × Int × Int × Int) : Prop := (0 ≤ q.1 ∧ q.1 ≤ 5) ∧ (0 ≤ q.2.1 ∧ q.2.1 ≤ 60) ∧ (q.1 = 4 → 1 ≤ q.2.1) ∧ (0 ≤ q.2.2.1 ∧ q.2.2.1 ≤ 59) ∧ (0 ≤ q.2.2.2 ∧ q.2.2.2 ≤ 500)
section RF19
variable {z : zZ} {h : zH} {K : Option Value → zZ → zH → Prop} {a : Nat} {ρ : Nat → Int → Int}
/-- what an order that nothing stands against needs -/
theorem rchkO_c {ρ : Nat → Int → Int} {q : Int × Int × Int × Int} (hq : rQ q) (h : ¬ (rchkO ρ q).1 < 0) : rchkO ρ q = (0, ρ) ∧ (q.1 < 3 → q.2.1 < ρ 0 1 ∧ ρ 0 3 ≠ 12) ∧ (q.1 = 3 → q.2.1 ≤ ρ 0 3 - 1) ∧ (q.1 = 5 → (0 ≤ ρ 0 0 + q.2.1 ∧ ρ 0 0 + q.2.1 ≤ 9999) ∧ (ρ 0 0 + q.2.1 ≤ ρ 0 0 + q.2.2.1 ∧ ρ 0 0 + q.2.2.1 ≤ 9999) ∧ ρ 0 8 ≠ 10) := by
  unfold rchkO at h ⊢
  unfold rQ at hq
  by_cases c1 : q.1 < 3
  · rw [if_pos c1] at h ⊢
    obtain ⟨b1, b2, b3, b4, b5⟩ := rchk_c h
    exact ⟨b5, fun _ => ⟨by omega, ragst_0 b4⟩, fun _ => by omega, fun _ => by omega⟩
  · rw [if_neg c1] at h ⊢
    by_cases c2 : q.1 = 3
    · rw [if_pos c2] at h ⊢
      by_cases c4 : 0 ≤ q.2.1 ∧ q.2.1 ≤ ρ 0 3 - 1
      · rw [if_pos c4]
        exact ⟨rfl, fun _ => by omega, fun _ => by omega, fun _ => by omega⟩
      · rw [if_neg c4] at h
        exact absurd (by show (-1000001 : Int) < 0; decide) h
    · rw [if_neg c2] at h ⊢
      by_cases c3 : q.1 = 4
      · rw [if_pos c3]
        exact ⟨rfl, fun _ => by omega, fun _ => by omega, fun _ => by omega⟩
      · rw [if_neg c3] at h ⊢
        obtain ⟨b1, b2, b3, b4, b5⟩ := rchp_c h
        rw [Int.add_zero] at b4
        exact ⟨b5, fun _ => by omega, fun _ => by omega, fun _ => ⟨b1, b2, b4⟩⟩
end RF19

