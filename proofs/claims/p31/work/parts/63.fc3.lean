/-! the best days, by the one mirror alone -/
theorem smN_off {g : Int → Int} {m : Int} : ∀ c : Nat, smN (fun q => if q = m then 0 else g q) c + (if 0 ≤ m ∧ m < c then g m else 0) = smN g c
  | 0 => by rw [if_neg (by omega)]; rfl
  | c + 1 => by
    have ih := smN_off (g := g) (m := m) c
    unfold smN
    by_cases e : (c : Int) = m
    · rw [if_pos e, if_pos (by omega)]
      rw [if_neg (by omega)] at ih
      rw [← e]
      rw [← e] at ih
      omega
    · rw [if_neg e]
      by_cases r : 0 ≤ m ∧ m < c
      · rw [if_pos r] at ih
        rw [if_pos (by omega)]
        omega
      · rw [if_neg r] at ih
        rw [if_neg (by omega)]
        omega
/-- what the other mirrors lose -/
def fO (σ : Int → Int) (m : Int) (n : Nat) : Int := smN (fun q => if q = m then 0 else mT (fR σ) (fF σ) (fD σ q) n 0 (gm σ q)) (σ 1).toNat
theorem rpas_O {σ : Int → Int} (hI : rI σ) (hN : rN σ) {m : Int} (hm : 0 ≤ m ∧ m < σ 1) (n : Nat) : rpasS n σ = fO σ m n + mT (fR σ) (fF σ) (fD σ m) n 0 (gm σ m) := by
  rw [rpas_sm n σ hI hN, ← smN_off (m := m), if_pos (by omega)]
  rfl
section FB
variable {σ : Int → Int} {m k : Int}
theorem fR_add (hI : rI σ) (d : Int) : fR (radd σ m k d) = fR σ := by
  funext i
  unfold fR
  rw [radd_lo hI 0 (by omega) (by omega), rtold_c hI (Or.inl rfl) (fun j hj => radd_lo hI j (by omega) (by omega))]
theorem fF_add (hI : rI σ) (d : Int) : fF (radd σ m k d) = fF σ := by
  funext i
  unfold fF
  rw [radd_lo hI 0 (by omega) (by omega), rtold_c hI (Or.inr rfl) (fun j hj => radd_lo hI j (by omega) (by omega))]
theorem fD_add (hI : rI σ) {x : Int} (hx : 0 ≤ x) (h : ragst σ m k (σ 0 + x) = 0) : fD (radd σ m k (σ 0 + x)) m = zset (fD σ m) x k := by
  have hb := hI.2.1
  funext i
  unfold fD
  rw [radd_lo hI 0 (by omega) (by omega), rkd_add hI h (by omega), zset_ap]
  by_cases c : i = x
  · rw [if_pos c, if_pos ⟨by omega, rfl⟩]
  · rw [if_neg c, if_neg (fun q => c (by omega))]
theorem fD_addo (hI : rI σ) {x q : Int} (hx : 0 ≤ x) (h : ragst σ m k (σ 0 + x) = 0) (hq : q ≠ m) : fD (radd σ m k (σ 0 + x)) q = fD σ q := by
  have hb := hI.2.1
  funext i
  unfold fD
  rw [radd_lo hI 0 (by omega) (by omega), rkd_add hI h (by omega), if_neg (fun c => hq c.2)]
theorem gm_add (hI : rI σ) (d q : Int) (hq : 0 ≤ q ∧ q < 4) : mE (gm (radd σ m k d) q) (gm σ q) := by
  unfold mE gm
  simp only [vw_m]
  refine ⟨?_, ?_, ?_, ?_⟩ <;> exact radd_lo hI _ (by omega) (by omega)
theorem fO_add (hI : rI σ) {x : Int} (hx : 0 ≤ x) (h : ragst σ m k (σ 0 + x) = 0) (n : Nat) : fO (radd σ m k (σ 0 + x)) m n = fO σ m n := by
  have hb := hI.2.1
  unfold fO
  rw [fR_add hI, fF_add hI, radd_lo hI 1 (by omega) (by omega)]
  refine smN_c _ fun q a b => ?_
  by_cases c : q = m
  · rw [if_pos c, if_pos c]
  · rw [if_neg c, if_neg c, fD_addo hI hx h c]
    exact mT_E n 0 0 _ _ (gm_add hI _ q (by omega)).symm fun j c d => ⟨rfl, rfl, rfl⟩
theorem rpas_1 (hI : rI σ) (hN : rN σ) (hm : 0 ≤ m ∧ m < σ 1) (hk : 0 ≤ k ∧ k ≤ 2) {x : Int} (hx : 0 ≤ x) (hx2 : σ 0 + x ≤ 1000000000) (h : ragst σ m k (σ 0 + x) = 0) (n : Nat) : rpasS n (radd σ m k (σ 0 + x)) = fO σ m n + mT (fR σ) (fF σ) (zset (fD σ m) x k) n 0 (gm σ m) := by
  have hb := hI.2.1
  have h12 := (ragst_z h).2.2.2
  have hA := hI.add hm hk (d := σ 0 + x) (by omega) (by omega)
  rw [rpas_O hA (radd_N hI hN h) (m := m) (by rw [radd_lo hI 1 (by omega) (by omega)]; exact hm) n, fO_add hI hx h, fR_add hI, fF_add hI, fD_add hI hx h]
  congr 1
  exact mT_E n 0 0 _ _ (gm_add hI _ m (by omega)).symm fun j c d => ⟨rfl, rfl, rfl⟩
theorem rplanN_add (hI : rI σ) {d y : Int} (hy : y ≠ d) : ∀ i : Nat, (i : Int) ≤ σ 3 → (i ≤ rplc σ d → rplanN (radd σ m k d) y i = rplanN σ y i) ∧ (rplc σ d ≤ i → rplanN (radd σ m k d) y (i + 1) = rplanN σ y i) := by
  have hb := hI.2.1
  have hp := rplc_le σ d (by omega)
  obtain ⟨e0, e1, e2⟩ := radd_new (σ := σ) (m := m) (k := k) (d := d) hI
  have hP : rplanN (radd σ m k d) y (rplc σ d + 1) = rplanN (radd σ m k d) y (rplc σ d) := by
    have : rplanN (radd σ m k d) y (rplc σ d + 1) = rplanN (radd σ m k d) y (rplc σ d) + (if radd σ m k d (150 + 3 * (rplc σ d : Int) + 2) = y then rtake (radd σ m k d (150 + 3 * (rplc σ d : Int) + 1)) else 0) := rfl
    rw [this, e2, if_neg (fun q => hy q.symm), Int.add_zero]
  intro i
  induction i with
  | zero =>
    intro _
    refine ⟨fun _ => rfl, fun h => ?_⟩
    have : rplc σ d = 0 := by omega
    rw [this] at hP
    exact hP
  | succ i ih =>
    intro hi
    obtain ⟨i1, i2⟩ := ih (by omega)
    have es : ∀ μ : Int → Int, rplanN μ y (i + 1) = rplanN μ y i + (if μ (150 + 3 * (i : Int) + 2) = y then rtake (μ (150 + 3 * (i : Int) + 1)) else 0) := fun μ => rfl
    have h1 : i + 1 ≤ rplc σ d → rplanN (radd σ m k d) y (i + 1) = rplanN σ y (i + 1) := fun h => by
      rw [es, es, i1 (by omega), radd_at hI i (by omega) (by omega) 2 (by omega), radd_at hI i (by omega) (by omega) 1 (by omega)]
    refine ⟨h1, fun h => ?_⟩
    by_cases c : rplc σ d = i + 1
    · rw [← c, hP, c]
      exact h1 (by omega)
    · have ee : rplanN (radd σ m k d) y (i + 1 + 1) = rplanN (radd σ m k d) y (i + 1) + (if radd σ m k d (150 + 3 * ((i + 1 : Nat) : Int) + 2) = y then rtake (radd σ m k d (150 + 3 * ((i + 1 : Nat) : Int) + 1)) else 0) := rfl
      have a1 := radd_e σ m k d (by omega) ((i + 1 : Nat) : Int) 1 (by omega) (by omega)
      have a2 := radd_e σ m k d (by omega) ((i + 1 : Nat) : Int) 2 (by omega) (by omega)
      rw [if_neg (by omega), if_neg (by omega)] at a1 a2
      rw [ee, i2 (by omega), a1, a2, es, show ((i + 1 : Nat) : Int) - 1 = i by omega]
theorem rhasB_add (hI : rI σ) {d y : Int} (hy : y ≠ d) (h : rhasB σ m y (σ 3).toNat = false) : rhasB (radd σ m k d) m y (σ 3 + 1).toNat = false := by
  have hb := hI.2.1
  have hp := rplc_le σ d (by omega)
  have hf := rhasB_f _ h
  have all : ∀ n : Nat, (n : Int) ≤ σ 3 + 1 → rhasB (radd σ m k d) m y n = false := by
    intro n
    induction n with
    | zero => intro _; rfl
    | succ n ih =>
      intro hn
      unfold rhasB
      rw [ih (by omega), Bool.false_or, Bool.and_eq_false_iff]
      have a0 := radd_e σ m k d (by omega) n 0 (by omega) (by omega)
      have a2 := radd_e σ m k d (by omega) n 2 (by omega) (by omega)
      rw [Int.add_zero] at a0
      rw [a0, a2]
      simp only [Int.add_zero, if_true, reduceIte, Int.reduceEq]
      by_cases c1 : (n : Int) < rplc σ d
      · rw [if_pos c1, if_pos c1]
        have := hf n (by omega) (by omega)
        by_cases q : σ (150 + 3 * (n : Int)) = m
        · right; exact decide_eq_false (fun r => this ⟨q, r⟩)
        · left; exact decide_eq_false q
      · rw [if_neg c1, if_neg c1]
        by_cases c2 : (n : Int) = rplc σ d
        · right
          rw [if_pos c2]
          exact decide_eq_false (fun r => hy r.symm)
        · rw [if_neg c2, if_neg c2]
          have := hf (n - 1) (by omega) (by omega)
          by_cases q : σ (150 + 3 * ((n : Int) - 1)) = m
          · right; exact decide_eq_false (fun r => this ⟨q, r⟩)
          · left; exact decide_eq_false q
  exact all _ (by omega)
theorem rhasB_add2 (hI : rI σ) {d y : Int} (h : rhasB (radd σ m k d) m y (σ 3 + 1).toNat = false) : rhasB σ m y (σ 3).toNat = false := by
  have hb := hI.2.1
  have hp := rplc_le σ d (by omega)
  have hf := rhasB_f _ h
  have all : ∀ n : Nat, (n : Int) ≤ σ 3 → rhasB σ m y n = false := by
    intro n
    induction n with
    | zero => intro _; rfl
    | succ n ih =>
      intro hn
      unfold rhasB
      rw [ih (by omega), Bool.false_or, Bool.and_eq_false_iff]
      by_cases c1 : (n : Int) < rplc σ d
      · have a0 := radd_e σ m k d (by omega) n 0 (by omega) (by omega)
        have a2 := radd_e σ m k d (by omega) n 2 (by omega) (by omega)
        rw [if_pos c1] at a0 a2
        rw [Int.add_zero] at a0
        have := hf n (by omega) (by omega)
        rw [a0, a2] at this
        by_cases q : σ (150 + 3 * (n : Int)) = m
        · right; exact decide_eq_false (fun r => this ⟨q, r⟩)
        · left; exact decide_eq_false q
      · have a0 := radd_e σ m k d (by omega) (n + 1) 0 (by omega) (by omega)
        have a2 := radd_e σ m k d (by omega) (n + 1) 2 (by omega) (by omega)
        rw [if_neg (by omega), if_neg (by omega)] at a0 a2
        rw [Int.add_zero, Int.add_zero, show (n : Int) + 1 - 1 = n by omega] at a0
        rw [show (n : Int) + 1 - 1 = n by omega] at a2
        have := hf (n + 1) (by omega) (by omega)
        rw [a0, a2] at this
        by_cases q : σ (150 + 3 * (n : Int)) = m
        · right; exact decide_eq_false (fun r => this ⟨q, r⟩)
        · left; exact decide_eq_false q
  exact all _ (by omega)
/-- whether a second one can be added doesn't hang on the first -/
theorem ragst_add (hI : rI σ) (h10 : σ 3 ≤ 10) {d y : Int} (hy : y ≠ d) : ragst (radd σ m k d) m k y = 0 ↔ ragst σ m k y = 0 := by
  have hb := hI.2.1
  have hp := rplc_le σ d (by omega)
  have e2 := rpeop_h (μ := radd σ m k d) (d := y) hI (radd_lo hI 2 (by omega) (by omega)) (fun j a b => radd_lo hI j (by omega) (by omega))
  have e3 := rhour_h (μ := radd σ m k d) (d := y) hI (radd_lo hI 2 (by omega) (by omega)) (fun j a b => radd_lo hI j (by omega) (by omega))
  have h3 := radd_3 (m := m) (k := k) (d := d) hI
  have e4 : rplan (radd σ m k d) y = rplan σ y := by
    unfold rplan
    rw [h3, show (σ 3 + 1).toNat = (σ 3).toNat + 1 by omega]
    exact (rplanN_add hI hy (σ 3).toNat (by omega)).2 (by omega)
  constructor
  · intro h
    obtain ⟨g1, g2, g3, g4⟩ := ragst_z h
    rw [e2] at g1
    rw [e3, e4] at g2
    rw [h3] at g3
    exact ragst_y g1 g2 (rhasB_add2 hI g3) (by omega)
  · intro h
    obtain ⟨g1, g2, g3, g4⟩ := ragst_z h
    refine ragst_y (by rw [e2]; exact g1) (by rw [e3, e4]; exact g2) ?_ (by omega)
    rw [h3]
    exact rhasB_add hI hy g3
theorem rpas_2 (hI : rI σ) (hN : rN σ) (hm : 0 ≤ m ∧ m < σ 1) (hk : 0 ≤ k ∧ k ≤ 2) {x y : Int} (hx : 0 ≤ x) (hx2 : σ 0 + x ≤ 1000000000) (hy : 0 ≤ y) (hy2 : σ 0 + y ≤ 1000000000) (h10 : σ 3 ≤ 10) (h : ragst σ m k (σ 0 + x) = 0) (h2 : ragst (radd σ m k (σ 0 + x)) m k (σ 0 + y) = 0) (n : Nat) :
    rpasS n (radd (radd σ m k (σ 0 + x)) m k (σ 0 + y)) = fO σ m n + mT (fR σ) (fF σ) (zset (zset (fD σ m) x k) y k) n 0 (gm σ m) := by
  have hb := hI.2.1
  have hA := hI.add hm hk (d := σ 0 + x) (by omega) (by omega)
  have e0 : radd σ m k (σ 0 + x) 0 = σ 0 := radd_lo hI 0 (by omega) (by omega)
  have e1 : radd σ m k (σ 0 + x) 1 = σ 1 := radd_lo hI 1 (by omega) (by omega)
  have := rpas_1 hA (radd_N hI hN h) (m := m) (k := k) (by rw [e1]; exact hm) hk (x := y) hy (by rw [e0]; exact hy2) (by rw [e0]; exact h2) n
  rw [e0] at this
  rw [this, fO_add hI hx h, fR_add hI, fF_add hI, fD_add hI hx h]
  congr 1
  exact mT_E n 0 0 _ _ (gm_add hI _ m (by omega)).symm fun j c d => ⟨rfl, rfl, rfl⟩
end FB
