/-! of ref0 -/
/-! THE REFERENCE: its cells as one value ρ; component 0 now, 1 saved, 2 history, 3 slots, 4 isFilled, 5 text, 6 orderOf, 7 the numbers (0 kept 1 reason 2 typed 3 from 4 to 5 fault 6 orders 7 failed 8 cause) -/
theorem zbr_t {c A B : Prop} (hc : c) : ((c → A) ∧ (¬ c → B)) = A := propext ⟨fun k => k.1 hc, fun k => ⟨fun _ => k, fun n => absurd hc n⟩⟩
theorem zbr_f {c A B : Prop} (hc : ¬ c) : ((c → A) ∧ (¬ c → B)) = B := propext ⟨fun k => k.2 hc, fun k => ⟨fun n => absurd n hc, fun _ => k⟩⟩
def zst (ρ : Nat → Int → Int) (c : Nat) (f : Int → Int) : Nat → Int → Int := fun d => if d = c then f else ρ d
theorem zst_ap (ρ : Nat → Int → Int) (c : Nat) (f : Int → Int) (d : Nat) : zst ρ c f d = if d = c then f else ρ d := rfl
theorem zst_zst (ρ : Nat → Int → Int) (c : Nat) (f g : Int → Int) : zst (zst ρ c f) c g = zst ρ c g := by
  funext d
  simp only [zst]
  by_cases h : d = c
  · rw [if_pos h, if_pos h]
  · rw [if_neg h, if_neg h, if_neg h]
theorem zst_self (ρ : Nat → Int → Int) (c : Nat) : zst ρ c (ρ c) = ρ := by
  funext d
  simp only [zst]
  by_cases h : d = c
  · rw [if_pos h, h]
  · rw [if_neg h]
/-! of ref1 -/
/-! the reference's small methods -/

/-! of ref2 -/
/-! the reference: copying rows, the history, the slots -/
def rcpy (f g : Int → Int) (sp dp n : Int) : Int → Int := fun j => if dp ≤ j ∧ j < dp + n then f (sp + (j - dp)) else g j
section RF2
variable {z : zZ} {h : zH} {K : Option Value → zZ → zH → Prop} {a : Nat} {ρ : Nat → Int → Int}
/-- what record makes of the cells -/
def rrec (ρ : Nat → Int → Int) : Nat → Int → Int :=
  if ρ 7 0 = 6 then zst (zst ρ 2 (rcpy (ρ 0) (rcpy (ρ 2) (ρ 2) 240 0 1200) 0 1200 240)) 7 (zset (ρ 7) 0 6)
  else zst (zst ρ 2 (rcpy (ρ 0) (ρ 2) 0 (240 * ρ 7 0) 240)) 7 (zset (ρ 7) 0 (ρ 7 0 + 1))
theorem zst_comm (ρ : Nat → Int → Int) {c d : Nat} (hcd : c ≠ d) (f g : Int → Int) : zst (zst ρ c f) d g = zst (zst ρ d g) c f := by
  funext e
  simp only [zst]
  by_cases h1 : e = d
  · rw [if_pos h1, if_neg (by omega), if_pos h1]
  · rw [if_neg h1]
    by_cases h2 : e = c
    · rw [if_pos h2, if_pos h2]
    · rw [if_neg h2, if_neg h2, if_neg h1]
/-- what undo makes of the cells -/
def rund (ρ : Nat → Int → Int) : Nat → Int → Int := zst (zst ρ 7 (zset (ρ 7) 0 (ρ 7 0 - 1))) 0 (rcpy (ρ 2) (ρ 0) (240 * (ρ 7 0 - 1)) 0 240)
def rkeep (ρ : Nat → Int → Int) (s : Int) : Nat → Int → Int := zst (zst ρ 3 (rcpy (ρ 0) (ρ 3) 0 (240 * s) 240)) 4 (zset (ρ 4) s 1)
end RF2

/-! of ref3 -/
def rtoldN (σ : Int → Int) (s n : Int) : Nat → Int
  | 0 => if s = 0 then 20 else 15
  | k + 1 => if σ (90 + 30 * s + 3 * k) ≤ n ∧ n ≤ σ (90 + 30 * s + 3 * k + 1) then σ (90 + 30 * s + 3 * k + 2) else rtoldN σ s n k
def rtold (σ : Int → Int) (s n : Int) : Int := rtoldN σ s n (σ (8 + s)).toNat
def rshift (σ : Int → Int) (p d : Int) : Int := if σ (40 + 9 * p + 7) ≤ d ∧ d ≤ σ (40 + 9 * p + 8) then 0 else σ (40 + 9 * p + d % 7)
def rpeopN (σ : Int → Int) (d : Int) : Nat → Int
  | 0 => 0
  | k + 1 => rpeopN σ d k + (if 0 < rshift σ k d then 1 else 0)
def rpeop (σ : Int → Int) (d : Int) : Int := rpeopN σ d (σ 2).toNat
def rhourN (σ : Int → Int) (d : Int) : Nat → Int
  | 0 => 0
  | k + 1 => rhourN σ d k + rshift σ k d
def rhour (σ : Int → Int) (d : Int) : Int := rhourN σ d (σ 2).toNat
def rtake (k : Int) : Int := if k = 0 then 1 else if k = 1 then 4 else 12
def rneed (k : Int) : Int := if k = 0 then 1 else if k = 1 then 2 else 3
def rplanN (σ : Int → Int) (d : Int) : Nat → Int
  | 0 => 0
  | k + 1 => rplanN σ d k + (if σ (150 + 3 * k + 2) = d then rtake (σ (150 + 3 * k + 1)) else 0)
def rplan (σ : Int → Int) (d : Int) : Int := rplanN σ d (σ 3).toNat
theorem rpeopN_b (σ : Int → Int) (d : Int) : ∀ k : Nat, 0 ≤ rpeopN σ d k ∧ rpeopN σ d k ≤ k
  | 0 => by simp [rpeopN]
  | k + 1 => by
    have ih := rpeopN_b σ d k
    unfold rpeopN
    split <;> omega
theorem rtake_b (k : Int) : 0 < rtake k ∧ rtake k ≤ 12 := by
  unfold rtake
  split
  · omega
  · split <;> omega
theorem rneed_b (k : Int) : 0 < rneed k ∧ rneed k ≤ 3 := by
  unfold rneed
  split
  · omega
  · split <;> omega
theorem rplanN_b (σ : Int → Int) (d : Int) : ∀ k : Nat, 0 ≤ rplanN σ d k ∧ rplanN σ d k ≤ 12 * (k : Int)
  | 0 => by simp [rplanN]
  | k + 1 => by
    have ih := rplanN_b σ d k
    have h2 := rtake_b (σ (150 + 3 * k + 1))
    unfold rplanN
    split <;> omega

/-! of ref4 -/
/-! the reference's row, written: the plan, the log -/
def rhasB (σ : Int → Int) (m d : Int) : Nat → Bool
  | 0 => false
  | k + 1 => rhasB σ m d k || (decide (σ (150 + 3 * k) = m) && decide (σ (150 + 3 * k + 2) = d))
def ragst (σ : Int → Int) (m kind d : Int) : Int :=
  if rpeop σ d < rneed kind then 1 else if rhour σ d < rplan σ d + rtake kind then 2 else if rhasB σ m d (σ 3).toNat = true then 3 else if σ 3 = 12 then 4 else 0
/-- entries k .. n - 1 one place up -/
def rmov (σ : Int → Int) (k n : Int) : Int → Int := fun j => if 150 + 3 * k + 3 ≤ j ∧ j < 150 + 3 * n + 3 then σ (j - 3) else σ j
def rplcN (σ : Int → Int) (d : Int) : Nat → Nat
  | 0 => 0
  | k + 1 => if d < σ (150 + 3 * k + 2) then rplcN σ d k else k + 1
def rplc (σ : Int → Int) (d : Int) : Nat := rplcN σ d (σ 3).toNat
def radd (σ : Int → Int) (m kind d : Int) : Int → Int :=
  zset (zset (zset (zset (rmov σ (rplc σ d) (σ 3)) (150 + 3 * (rplc σ d)) m) (150 + 3 * (rplc σ d) + 1) kind) (150 + 3 * (rplc σ d) + 2) d) 3 (σ 3 + 1)
def rdrop (σ : Int → Int) (p : Int) : Int → Int := rcpy (zset σ 3 (σ 3 - 1)) (zset σ 3 (σ 3 - 1)) (150 + 3 * p + 3) (150 + 3 * p) (3 * (σ 3 - 1 - p))
def rshf (σ : Int → Int) (x : Int) : Int → Int := fun j => if x < j ∧ j ≤ 237 then σ (j - 4) else σ j
def rent (σ : Int → Int) (m kind d done : Int) : Int → Int :=
  zset (zset (zset (zset (zset (rshf σ 193) 190 m) 191 kind) 192 d) 193 done) 4 (if σ 4 < 12 then σ 4 + 1 else σ 4)
theorem rplcN_le (σ : Int → Int) (d : Int) : ∀ k : Nat, rplcN σ d k ≤ k
  | 0 => Nat.le_refl _
  | k + 1 => by
    unfold rplcN
    split
    · exact Nat.le_trans (rplcN_le σ d k) (Nat.le_succ _)
    · exact Nat.le_refl _
section RF4
variable {z : zZ} {h : zH} {K : Option Value → zZ → zH → Prop} {a : Nat} {ρ : Nat → Int → Int}
/-- checkCleaning: what it answers, and the reason -/
def rchk (ρ : Nat → Int → Int) (m kind x : Int) : Int × (Nat → Int → Int) :=
  if ¬ (0 ≤ m ∧ m ≤ ρ 0 1 - 1) then (-1000001, ρ) else if ¬ (0 ≤ kind ∧ kind ≤ 2) ∨ ¬ (0 ≤ x ∧ x ≤ 59) then (-1000002, ρ) else
  if 0 < ragst (ρ 0) m kind (ρ 0 0 + x) then (-1000003, zst ρ 7 (zset (ρ 7) 1 (ragst (ρ 0) m kind (ρ 0 0 + x)))) else (0, ρ)
theorem ragst_b (σ : Int → Int) (m kind d : Int) : 0 ≤ ragst σ m kind d ∧ ragst σ m kind d ≤ 4 := by
  unfold ragst
  split
  · omega
  · split
    · omega
    · split
      · omega
      · split <;> omega
end RF4

/-! of inv -/
/-! what holds of every row -/
def rI (σ : Int → Int) : Prop :=
  (∀ i, 40 ≤ i → i < 190 → -1 ≤ σ i ∧ σ i ≤ 1000000000) ∧
  (0 ≤ σ 0 ∧ 0 ≤ σ 1 ∧ σ 1 ≤ 4 ∧ 0 ≤ σ 2 ∧ σ 2 ≤ 5 ∧ 0 ≤ σ 3 ∧ σ 3 ≤ 12 ∧ 0 ≤ σ 4 ∧ σ 4 ≤ 12 ∧ 0 ≤ σ 8 ∧ σ 8 ≤ 10 ∧ 0 ≤ σ 9 ∧ σ 9 ≤ 10) ∧
  (∀ m, 0 ≤ m → m < 4 → 0 ≤ σ (10 + 6 * m) ∧ σ (10 + 6 * m) ≤ 100 ∧ 0 ≤ σ (10 + 6 * m + 1) ∧ σ (10 + 6 * m + 1) ≤ 20 ∧ 0 ≤ σ (10 + 6 * m + 2) ∧ σ (10 + 6 * m + 2) ≤ 100000 ∧ 0 ≤ σ (10 + 6 * m + 3) ∧ σ (10 + 6 * m + 3) ≤ σ 0) ∧
  (∀ k, 0 ≤ k → k < σ 3 → 0 ≤ σ (150 + 3 * k) ∧ σ (150 + 3 * k) < σ 1 ∧ 0 ≤ σ (150 + 3 * k + 1) ∧ σ (150 + 3 * k + 1) ≤ 2 ∧ σ 0 ≤ σ (150 + 3 * k + 2)) ∧
  (∀ k, 0 ≤ k → k + 1 < σ 3 → σ (150 + 3 * k + 2) ≤ σ (150 + 3 * k + 5)) ∧
  (∀ k, 0 ≤ k → k < 10 → 0 ≤ σ (90 + 3 * k + 2) ∧ σ (90 + 3 * k + 2) ≤ 500 ∧ 0 ≤ σ (120 + 3 * k + 2) ∧ σ (120 + 3 * k + 2) ≤ 30) ∧
  (∀ p w, 0 ≤ p → p < 5 → 0 ≤ w → w < 7 → 0 ≤ σ (40 + 9 * p + w) ∧ σ (40 + 9 * p + w) ≤ 12)
/-- a row that differs only where nothing is said -/
theorem rI.same {σ τ : Int → Int} (h : rI σ) (e : ∀ j, (j = 0 ∨ j = 1 ∨ j = 2 ∨ j = 3 ∨ j = 4 ∨ j = 8 ∨ j = 9 ∨ (40 ≤ j ∧ j < 190)) → τ j = σ j) (em : ∀ m, 0 ≤ m → m < 4 → τ (10 + 6 * m) = σ (10 + 6 * m) ∧ τ (10 + 6 * m + 1) = σ (10 + 6 * m + 1) ∧ τ (10 + 6 * m + 2) = σ (10 + 6 * m + 2) ∧ τ (10 + 6 * m + 3) = σ (10 + 6 * m + 3)) : rI τ := by
  obtain ⟨h1, h2, h3, h4, h5, h6, h7⟩ := h
  have e0 := e 0 (by omega)
  have e1 := e 1 (by omega)
  have e2 := e 2 (by omega)
  have e3 := e 3 (by omega)
  have e4 := e 4 (by omega)
  have e8 := e 8 (by omega)
  have e9 := e 9 (by omega)
  refine ⟨fun i a b => by rw [e i (by omega)]; exact h1 i a b, by rw [e0, e1, e2, e3, e4, e8, e9]; exact h2, fun m a b => ?_, fun k a b => ?_, fun k a b => ?_, fun k a b => ?_, fun p w a b c d => ?_⟩
  · obtain ⟨q1, q2, q3, q4⟩ := em m a b
    rw [q1, q2, q3, q4, e0]
    exact h3 m a b
  · rw [e3] at b
    rw [e _ (by omega), e (150 + 3 * k + 1) (by omega), e (150 + 3 * k + 2) (by omega), e0, e1]
    exact h4 k a b
  · rw [e3] at b
    rw [e (150 + 3 * k + 2) (by omega), e (150 + 3 * k + 5) (by omega)]
    exact h5 k a b
  · rw [e (90 + 3 * k + 2) (by omega), e (120 + 3 * k + 2) (by omega)]
    exact h6 k a b
  · rw [e (40 + 9 * p + w) (by omega)]
    exact h7 p w a b c d
theorem rdrop_ap {σ : Int → Int} {p : Int} (hp : 0 ≤ p ∧ p ≤ σ 3 - 1) (j : Int) : rdrop σ p j = if 150 + 3 * p ≤ j ∧ j < 150 + 3 * (σ 3 - 1) then σ (j + 3) else if j = 3 then σ 3 - 1 else σ j := by
  simp only [rdrop, rcpy, zset]
  by_cases h : 150 + 3 * p ≤ j ∧ j < 150 + 3 * (σ 3 - 1)
  · rw [if_pos (by omega), if_neg (by omega), if_pos h]
    congr 1
    omega
  · rw [if_neg (by omega), if_neg h]
theorem rI.drop {σ : Int → Int} (h : rI σ) {p : Int} (hp : 0 ≤ p ∧ p ≤ σ 3 - 1) : rI (rdrop σ p) := by
  obtain ⟨h1, h2, h3, h4, h5, h6, h7⟩ := h
  have e := rdrop_ap hp
  have e3 : rdrop σ p 3 = σ 3 - 1 := by rw [e, if_neg (by omega), if_pos rfl]
  have eo : ∀ j, j ≠ 3 → (j < 150 ∨ 190 ≤ j) → rdrop σ p j = σ j := fun j a b => by rw [e, if_neg (by omega), if_neg a]
  have e0 := eo 0 (by omega) (by omega)
  have e1 := eo 1 (by omega) (by omega)
  have e2 := eo 2 (by omega) (by omega)
  have e4 := eo 4 (by omega) (by omega)
  have e8 := eo 8 (by omega) (by omega)
  have e9 := eo 9 (by omega) (by omega)
  refine ⟨fun i a b => ?_, by rw [e0, e1, e2, e3, e4, e8, e9]; omega, fun m a b => ?_, fun k a b => ?_, fun k a b => ?_, fun k a b => ?_, fun q w a b c d => ?_⟩
  · rw [e]
    split
    · exact h1 _ (by omega) (by omega)
    · rw [if_neg (by omega)]
      exact h1 i a b
  · rw [eo _ (by omega) (by omega), eo (10 + 6 * m + 1) (by omega) (by omega), eo (10 + 6 * m + 2) (by omega) (by omega), eo (10 + 6 * m + 3) (by omega) (by omega), e0]
    exact h3 m a b
  · rw [e3] at b
    rw [e0, e1, e, e (150 + 3 * k + 1), e (150 + 3 * k + 2)]
    by_cases c : p ≤ k
    · rw [if_pos (by omega), if_pos (by omega), if_pos (by omega)]
      have := h4 (k + 1) (by omega) (by omega)
      rw [show 150 + 3 * k + 3 = 150 + 3 * (k + 1) by omega, show 150 + 3 * k + 1 + 3 = 150 + 3 * (k + 1) + 1 by omega, show 150 + 3 * k + 2 + 3 = 150 + 3 * (k + 1) + 2 by omega]
      exact this
    · rw [if_neg (by omega), if_neg (by omega), if_neg (by omega), if_neg (by omega), if_neg (by omega), if_neg (by omega)]
      exact h4 k a (by omega)
  · rw [e3] at b
    rw [e (150 + 3 * k + 2), e (150 + 3 * k + 5)]
    by_cases c : p ≤ k
    · rw [if_pos (by omega), if_pos (by omega)]
      have := h5 (k + 1) (by omega) (by omega)
      rw [show 150 + 3 * k + 2 + 3 = 150 + 3 * (k + 1) + 2 by omega, show 150 + 3 * k + 5 + 3 = 150 + 3 * (k + 1) + 5 by omega]
      exact this
    · rw [if_neg (by omega), if_neg (by omega)]
      by_cases c2 : p = k + 1
      · rw [if_pos (by omega)]
        have a1 := h5 k a (by omega)
        have a2 := h5 (k + 1) (by omega) (by omega)
        rw [show 150 + 3 * (k + 1) + 2 = 150 + 3 * k + 5 by omega, show 150 + 3 * (k + 1) + 5 = 150 + 3 * k + 5 + 3 by omega] at a2
        omega
      · rw [if_neg (by omega), if_neg (by omega)]
        exact h5 k a (by omega)
  · rw [eo (90 + 3 * k + 2) (by omega) (by omega), eo (120 + 3 * k + 2) (by omega) (by omega)]
    exact h6 k a b
  · rw [eo (40 + 9 * q + w) (by omega) (by omega)]
    exact h7 q w a b c d
theorem rent_o {σ : Int → Int} {m k d dn j : Int} (hj : j < 190) (h4 : j ≠ 4) : rent σ m k d dn j = σ j := by
  simp only [rent, zset, rshf]
  rw [if_neg h4, if_neg (by omega), if_neg (by omega), if_neg (by omega), if_neg (by omega), if_neg (by omega)]
theorem rent_4 (σ : Int → Int) (m k d dn : Int) : rent σ m k d dn 4 = if σ 4 < 12 then σ 4 + 1 else σ 4 := by
  simp only [rent, zset, if_true]
theorem rI.ent {σ : Int → Int} (h : rI σ) (m k d dn : Int) : rI (rent σ m k d dn) := by
  obtain ⟨h1, h2, h3, h4, h5, h6, h7⟩ := h
  have eo : ∀ j, j ≠ 4 → j < 190 → rent σ m k d dn j = σ j := fun j a b => rent_o b a
  have e0 := eo 0 (by omega) (by omega)
  have e1 := eo 1 (by omega) (by omega)
  have e2 := eo 2 (by omega) (by omega)
  have e3 := eo 3 (by omega) (by omega)
  have e8 := eo 8 (by omega) (by omega)
  have e9 := eo 9 (by omega) (by omega)
  have e4 := rent_4 σ m k d dn
  refine ⟨fun i a b => by rw [eo i (by omega) b]; exact h1 i a b, ?_, fun q a b => ?_, fun q a b => ?_, fun q a b => ?_, fun q a b => ?_, fun q w a b c d => ?_⟩
  · rw [e0, e1, e2, e3, e4, e8, e9]
    split <;> omega
  · rw [eo _ (by omega) (by omega), eo (10 + 6 * q + 1) (by omega) (by omega), eo (10 + 6 * q + 2) (by omega) (by omega), eo (10 + 6 * q + 3) (by omega) (by omega), e0]
    exact h3 q a b
  · rw [e3] at b
    rw [eo _ (by omega) (by omega), eo (150 + 3 * q + 1) (by omega) (by omega), eo (150 + 3 * q + 2) (by omega) (by omega), e0, e1]
    exact h4 q a b
  · rw [e3] at b
    rw [eo (150 + 3 * q + 2) (by omega) (by omega), eo (150 + 3 * q + 5) (by omega) (by omega)]
    exact h5 q a b
  · rw [eo (90 + 3 * q + 2) (by omega) (by omega), eo (120 + 3 * q + 2) (by omega) (by omega)]
    exact h6 q a b
  · rw [eo (40 + 9 * q + w) (by omega) (by omega)]
    exact h7 q w a b c d
/-- a cleaning that is done -/
def rdust (kind x : Int) : Int := if kind = 0 then x / 2 else if kind = 1 then x / 20 else 0
def rdo (σ : Int → Int) (m kind : Int) : Int → Int :=
  zset (zset (zset (zset (zset σ (10 + 6 * m + 2) (rdust kind (σ (10 + 6 * m + 2)))) (10 + 6 * m + 3) (if kind = 2 then 0 else σ (10 + 6 * m + 3))) (10 + 6 * m + 4) (σ (10 + 6 * m + 4) + 1)) 5 (σ 5 + 1)) 7 (σ 7 + rtake kind)
theorem rdust_b {kind x : Int} (h : 0 ≤ x ∧ x ≤ 100000) : 0 ≤ rdust kind x ∧ rdust kind x ≤ 100000 := by
  unfold rdust
  split
  · omega
  · split <;> omega
theorem rI.do {σ : Int → Int} (h : rI σ) {m kind : Int} (hm : 0 ≤ m ∧ m < 4) : rI (rdo σ m kind) := by
  obtain ⟨h1, h2, h3, h4, h5, h6, h7⟩ := h
  have eo : ∀ j, (j < 10 ∨ 34 ≤ j) → j ≠ 5 → j ≠ 7 → rdo σ m kind j = σ j := fun j a b c => by
    simp only [rdo, zset]
    rw [if_neg c, if_neg b, if_neg (by omega), if_neg (by omega), if_neg (by omega)]
  have e0 := eo 0 (by omega) (by omega) (by omega)
  have e1 := eo 1 (by omega) (by omega) (by omega)
  have e2 := eo 2 (by omega) (by omega) (by omega)
  have e3 := eo 3 (by omega) (by omega) (by omega)
  have e4 := eo 4 (by omega) (by omega) (by omega)
  have e8 := eo 8 (by omega) (by omega) (by omega)
  have e9 := eo 9 (by omega) (by omega) (by omega)
  refine ⟨fun i a b => by rw [eo i (by omega) (by omega) (by omega)]; exact h1 i a b, by rw [e0, e1, e2, e3, e4, e8, e9]; exact h2, fun q a b => ?_, fun q a b => ?_, fun q a b => ?_, fun q a b => ?_, fun q w a b c d => ?_⟩
  · have hq := h3 q a b
    have f0 : rdo σ m kind (10 + 6 * q) = σ (10 + 6 * q) := by
      simp only [rdo, zset]
      rw [if_neg (by omega), if_neg (by omega), if_neg (by omega), if_neg (by omega), if_neg (by omega)]
    have f1 : rdo σ m kind (10 + 6 * q + 1) = σ (10 + 6 * q + 1) := by
      simp only [rdo, zset]
      rw [if_neg (by omega), if_neg (by omega), if_neg (by omega), if_neg (by omega), if_neg (by omega)]
    have f2 : rdo σ m kind (10 + 6 * q + 2) = if q = m then rdust kind (σ (10 + 6 * m + 2)) else σ (10 + 6 * q + 2) := by
      simp only [rdo, zset]
      rw [if_neg (by omega), if_neg (by omega), if_neg (by omega), if_neg (by omega)]
      by_cases c : q = m
      · rw [if_pos (by omega), if_pos c]
      · rw [if_neg (by omega), if_neg c]
    have f3 : rdo σ m kind (10 + 6 * q + 3) = if q = m then (if kind = 2 then 0 else σ (10 + 6 * m + 3)) else σ (10 + 6 * q + 3) := by
      simp only [rdo, zset]
      rw [if_neg (by omega), if_neg (by omega), if_neg (by omega)]
      by_cases c : q = m
      · rw [if_pos (by omega), if_pos c]
      · rw [if_neg (by omega), if_neg (by omega), if_neg c]
    have hd := rdust_b (kind := kind) (x := σ (10 + 6 * m + 2)) (by have := h3 m hm.1 hm.2; omega)
    have hm3 := h3 m hm.1 hm.2
    rw [f0, f1, f2, f3, e0]
    by_cases c : q = m
    · rw [if_pos c, if_pos c]
      split <;> omega
    · rw [if_neg c, if_neg c]
      exact hq
  · rw [e3] at b
    rw [eo _ (by omega) (by omega) (by omega), eo (150 + 3 * q + 1) (by omega) (by omega) (by omega), eo (150 + 3 * q + 2) (by omega) (by omega) (by omega), e0, e1]
    exact h4 q a b
  · rw [e3] at b
    rw [eo (150 + 3 * q + 2) (by omega) (by omega) (by omega), eo (150 + 3 * q + 5) (by omega) (by omega) (by omega)]
    exact h5 q a b
  · rw [eo (90 + 3 * q + 2) (by omega) (by omega) (by omega), eo (120 + 3 * q + 2) (by omega) (by omega) (by omega)]
    exact h6 q a b
  · rw [eo (40 + 9 * q + w) (by omega) (by omega) (by omega)]
    exact h7 q w a b c d
theorem rI.set {σ : Int → Int} (h : rI σ) {i x : Int} (hi : i = 5 ∨ i = 6 ∨ i = 7 ∨ 190 ≤ i) : rI (zset σ i x) :=
  h.same (fun j hj => by rw [zset_ap, if_neg (by omega)]) (fun m a b => ⟨by rw [zset_ap, if_neg (by omega)], by rw [zset_ap, if_neg (by omega)], by rw [zset_ap, if_neg (by omega)], by rw [zset_ap, if_neg (by omega)]⟩)
/-- the cleanings of a day -/
def rstp (σ : Int → Int) (d ppl left : Int) : (Int → Int) × Int :=
  if rneed (σ 151) ≤ ppl ∧ rtake (σ 151) ≤ left then (rdo (rent (rdrop σ 0) (σ 150) (σ 151) d 1) (σ 150) (σ 151), left - rtake (σ 151))
  else (zset (rent (rdrop σ 0) (σ 150) (σ 151) d 0) 6 (rent (rdrop σ 0) (σ 150) (σ 151) d 0 6 + 1), left)
def rclN (d ppl : Int) : Nat → (Int → Int) → Int → (Int → Int)
  | 0, σ, _ => σ
  | n + 1, σ, left => if 0 < σ 3 ∧ σ 152 = d then rclN d ppl n (rstp σ d ppl left).1 (rstp σ d ppl left).2 else σ
def rclean (σ : Int → Int) (d : Int) : Int → Int := rclN d (rpeop σ d) (σ 3).toNat σ (rhour σ d)
theorem rstp_I {σ : Int → Int} (h : rI σ) (d ppl left : Int) (h3 : 0 < σ 3) : rI (rstp σ d ppl left).1 := by
  have hp := h.2.2.2.1 0 (by omega) h3
  have h2 := h.2.1
  simp only [Int.mul_zero, Int.add_zero] at hp
  have hd := h.drop (p := 0) (by omega)
  unfold rstp
  split
  · exact (hd.ent _ _ _ _).do (by omega)
  · exact (hd.ent _ _ _ _).set (by omega)
theorem rstp_3 {σ : Int → Int} (h : rI σ) (d ppl left : Int) (h3 : 0 < σ 3) : (rstp σ d ppl left).1 3 = σ 3 - 1 := by
  have hp := h.2.2.2.1 0 (by omega) h3
  have h2 := h.2.1
  simp only [Int.mul_zero, Int.add_zero] at hp
  have e3 : rdrop σ 0 3 = σ 3 - 1 := by rw [rdrop_ap (by omega), if_neg (by omega), if_pos rfl]
  unfold rstp
  split
  · simp only [rdo, zset]
    rw [if_neg (by omega), if_neg (by omega), if_neg (by omega), if_neg (by omega), if_neg (by omega), rent_o (by omega) (by omega), e3]
  · simp only [zset]
    rw [if_neg (by omega), rent_o (by omega) (by omega), e3]
/-- what a cleaning that is looked at leaves as it was -/
theorem rstp_o {σ : Int → Int} (h : rI σ) (d ppl left : Int) (h3 : 0 < σ 3) (j : Int) (hj : j = 0 ∨ j = 1 ∨ j = 2 ∨ j = 8 ∨ j = 9 ∨ (40 ≤ j ∧ j < 150)) : (rstp σ d ppl left).1 j = σ j := by
  have hp := h.2.2.2.1 0 (by omega) h3
  have h2 := h.2.1
  simp only [Int.mul_zero, Int.add_zero] at hp
  have e3 : rdrop σ 0 j = σ j := by rw [rdrop_ap (by omega), if_neg (by omega), if_neg (by omega)]
  unfold rstp
  split
  · simp only [rdo, zset]
    rw [if_neg (by omega), if_neg (by omega), if_neg (by omega), if_neg (by omega), if_neg (by omega), rent_o (by omega) (by omega), e3]
  · simp only [zset]
    rw [if_neg (by omega), rent_o (by omega) (by omega), e3]
theorem rclN_I (d ppl : Int) : ∀ (n : Nat) (σ : Int → Int) (left : Int), rI σ → rI (rclN d ppl n σ left)
  | 0, σ, left, h => h
  | n + 1, σ, left, h => by
    unfold rclN
    split
    · rename_i hc
      exact rclN_I d ppl n _ _ (rstp_I h d ppl left hc.1)
    · exact h
theorem rclN_o (d ppl : Int) (j : Int) (hj : j = 0 ∨ j = 1 ∨ j = 2 ∨ j = 8 ∨ j = 9 ∨ (40 ≤ j ∧ j < 150)) : ∀ (n : Nat) (σ : Int → Int) (left : Int), rI σ → rclN d ppl n σ left j = σ j
  | 0, σ, left, h => rfl
  | n + 1, σ, left, h => by
    unfold rclN
    split
    · rename_i hc
      rw [rclN_o d ppl j hj n _ _ (rstp_I h d ppl left hc.1), rstp_o h d ppl left hc.1 j hj]
    · rfl
/-- behind the cleanings none of this day is left -/
theorem rclN_e (d ppl : Int) : ∀ (n : Nat) (σ : Int → Int) (left : Int), rI σ → σ 3 ≤ n → ¬ (0 < rclN d ppl n σ left 3 ∧ rclN d ppl n σ left 152 = d)
  | 0, σ, left, h, hn => by
    unfold rclN
    omega
  | n + 1, σ, left, h, hn => by
    unfold rclN
    split
    · rename_i hc
      exact rclN_e d ppl n _ _ (rstp_I h d ppl left hc.1) (by rw [rstp_3 h d ppl left hc.1]; omega)
    · rename_i hc
      exact hc
theorem rclean_I {σ : Int → Int} (h : rI σ) (d : Int) : rI (rclean σ d) := rclN_I _ _ _ _ _ h
theorem rclean_o {σ : Int → Int} (h : rI σ) (d j : Int) (hj : j = 0 ∨ j = 1 ∨ j = 2 ∨ j = 8 ∨ j = 9 ∨ (40 ≤ j ∧ j < 150)) : rclean σ d j = σ j := rclN_o _ _ j hj _ _ _ h
theorem rclean_e {σ : Int → Int} (h : rI σ) (d : Int) : ¬ (0 < rclean σ d 3 ∧ rclean σ d 152 = d) := rclN_e _ _ _ _ _ h (by have := h.2.1; omega)

