/-! the best days: the class's search and the reference's -/
def mA (R F D f : Int → Int) : Nat → (Int → Int)
  | 0 => f
  | i + 1 => fsp (R i) (F i) (fcl (D i) (mA R F D f i))
def mP (R F D f : Int → Int) : Nat → Int
  | 0 => 0
  | i + 1 => mP R F D f i + nl (R i) (F i) (fcl (D i) (mA R F D f i))
theorem mT_split {R F D f : Int → Int} {n : Nat} : ∀ i : Nat, i ≤ n → mT R F D n 0 f = mP R F D f i + mT R F D (n - i) i (mA R F D f i)
  | 0, _ => by
    show _ = 0 + mT R F D (n - 0) ((0 : Nat) : Int) f
    rw [Int.zero_add]
    rfl
  | i + 1, h => by
    rw [mT_split i (by omega)]
    obtain ⟨r, hr⟩ : ∃ r : Nat, n - i = r + 1 := ⟨n - i - 1, by omega⟩
    rw [hr, show n - (i + 1) = r by omega]
    have e1 : mP R F D f (i + 1) = mP R F D f i + nl (R i) (F i) (fcl (D i) (mA R F D f i)) := rfl
    have e2 : mA R F D f (i + 1) = fsp (R i) (F i) (fcl (D i) (mA R F D f i)) := rfl
    have e3 : mT R F D (r + 1) i (mA R F D f i) = nl (R i) (F i) (fcl (D i) (mA R F D f i)) + mT R F D r (i + 1) (fsp (R i) (F i) (fcl (D i) (mA R F D f i))) := rfl
    rw [e1, e2, e3, show ((i + 1 : Nat) : Int) = (i : Int) + 1 by omega]
    omega
theorem mA_c {R F D D2 f : Int → Int} : ∀ i : Nat, (∀ j : Int, 0 ≤ j → j < i → D2 j = D j) → mA R F D2 f i = mA R F D f i ∧ mP R F D2 f i = mP R F D f i
  | 0, _ => ⟨rfl, rfl⟩
  | i + 1, h => by
    obtain ⟨h1, h2⟩ := mA_c (R := R) (F := F) (f := f) i (fun j a b => h j a (by omega))
    unfold mA mP
    rw [h1, h2, h i (by omega) (by omega)]
    exact ⟨rfl, rfl⟩
theorem mT_at {R F D f : Int → Int} {n : Nat} {k : Int} (d : Nat) (hd : d < n) : mT R F (zset D d k) n 0 f = mP R F D f d + nl (R d) (F d) (fcl k (mA R F D f d)) + mT R F D (n - 1 - d) (d + 1) (fsp (R d) (F d) (fcl k (mA R F D f d))) := by
  rw [mT_split (R := R) (F := F) (D := zset D d k) (f := f) d (by omega)]
  obtain ⟨h1, h2⟩ := mA_c (R := R) (F := F) (f := f) (D := D) (D2 := zset D d k) d (fun j a b => by rw [zset_ap, if_neg (by omega)])
  rw [h1, h2]
  obtain ⟨r, hr⟩ : ∃ r : Nat, n - d = r + 1 := ⟨n - d - 1, by omega⟩
  rw [hr, show n - 1 - d = r by omega]
  have e : mT R F (zset D d k) (r + 1) d (mA R F D f d) = nl (R d) (F d) (fcl (zset D d k d) (mA R F D f d)) + mT R F (zset D d k) r (d + 1) (fsp (R d) (F d) (fcl (zset D d k d) (mA R F D f d))) := rfl
  rw [e, zset_same, mT_E (R := R) (F := F) (D := D) (R2 := R) (F2 := F) (D2 := zset D d k) r (d + 1) (d + 1) _ _ (mE.rfl' _) (fun j a b => ⟨rfl, rfl, by rw [zset_ap, if_neg (by omega)]⟩)]
  omega
/-- the first least of those that are open -/
def cbN (g a : Int → Int) : Nat → Int × Int
  | 0 => (-1000005, 0)
  | d + 1 => if a d = 0 then (if (cbN g a d).1 = -1000005 ∨ g d < (cbN g a d).2 then ((d : Int), g d) else cbN g a d) else cbN g a d
def cpI (g a : Int → Int) (d : Int) (b : Int × Int) : Nat → Int × Int
  | 0 => b
  | j + 1 => if a (d + 1 + j) = 0 then (if (cpI g a d b j).1 = -1000005 ∨ g (d + 1 + j) < (cpI g a d b j).2 then (100 * d + (d + 1 + j), g (d + 1 + j)) else cpI g a d b j) else cpI g a d b j
def cpN (g : Int → Int → Int) (a : Int → Int) (n : Nat) : Nat → Int × Int
  | 0 => (-1000005, 0)
  | d + 1 => if a d = 0 then cpI (g d) a d (cpN g a n d) (n - (d + 1)) else cpN g a n d
/-- the reference's best and the class's: the same day, losses apart by what the others lose -/
def cB (O : Int) (b c : Int × Int) : Prop := b.1 = c.1 ∧ (c.1 = -1000005 ∨ (0 ≤ c.1 ∧ b.2 = O + c.2))
theorem rbdN_cb {σ : Int → Int} {m k : Int} (hI : rI σ) (hN : rN σ) (hm : 0 ≤ m ∧ m < σ 1) (hk : 0 ≤ k ∧ k ≤ 2) (hT : σ 0 ≤ 100000000) (n : Nat) : ∀ d : Nat, d ≤ 60 → cB (fO σ m n) (rbdN σ m k n d) (cbN (fun x => mT (fR σ) (fF σ) (zset (fD σ m) x k) n 0 (gm σ m)) (fun x => ragst σ m k (σ 0 + x)) d)
  | 0, _ => ⟨rfl, Or.inl rfl⟩
  | d + 1, h => by
    have ih := rbdN_cb hI hN hm hk hT n d (by omega)
    have hb := hI.2.1
    obtain ⟨i1, i2⟩ := ih
    unfold rbdN cbN
    unfold rbdS
    by_cases c : ragst σ m k (σ 0 + d) = 0
    · have e := rpas_1 hI hN hm hk (x := d) (by omega) (by omega) c n
      rw [if_pos c, if_pos c]
      by_cases c2 : (rbdN σ m k n d).1 < 0 ∨ rpasS n (radd σ m k (σ 0 + d)) < (rbdN σ m k n d).2
      · rw [if_pos c2, if_pos]
        · exact ⟨rfl, Or.inr ⟨by show (0 : Int) ≤ d; omega, e⟩⟩
        · rcases i2 with j | j
          · exact Or.inl j
          · right
            rcases c2 with q | q
            · omega
            · rw [e, j.2] at q
              omega
      · rw [if_neg c2, if_neg]
        · exact ⟨i1, i2⟩
        · intro q
          apply c2
          rcases q with q | q
          · left; omega
          · rcases i2 with j | j
            · left; omega
            · right
              rw [e, j.2]
              omega
    · rw [if_neg c, if_neg c]
      exact ⟨i1, i2⟩
theorem rbpI_cp {σ : Int → Int} {m k : Int} (hI : rI σ) (hN : rN σ) (hm : 0 ≤ m ∧ m < σ 1) (hk : 0 ≤ k ∧ k ≤ 2) (hT : σ 0 ≤ 100000000) (h10 : σ 3 ≤ 10) (n : Nat) {d : Int} (hd : 0 ≤ d ∧ d ≤ 60) (ho : ragst σ m k (σ 0 + d) = 0) (b c : Int × Int) (hbc : cB (fO σ m n) b c) : ∀ j : Nat, j ≤ 60 → cB (fO σ m n) (rbpI σ m k n d b j) (cpI (fun x => mT (fR σ) (fF σ) (zset (zset (fD σ m) d k) x k) n 0 (gm σ m)) (fun x => ragst σ m k (σ 0 + x)) d c j)
  | 0, _ => hbc
  | j + 1, h => by
    have ih := rbpI_cp hI hN hm hk hT h10 n hd ho b c hbc j (by omega)
    have hb := hI.2.1
    obtain ⟨i1, i2⟩ := ih
    unfold rbpI cpI
    unfold rbpS
    have ea := ragst_add (m := m) (k := k) hI h10 (d := σ 0 + d) (y := σ 0 + (d + 1 + j)) (by omega)
    by_cases c1 : ragst σ m k (σ 0 + (d + 1 + j)) = 0
    · have c0 := ea.mpr c1
      have e := rpas_2 hI hN hm hk (x := d) (y := d + 1 + j) (by omega) (by omega) (by omega) (by omega) h10 ho c0 n
      rw [if_pos c0, if_pos c1]
      by_cases c2 : (rbpI σ m k n d b j).1 < 0 ∨ rpasS n (radd (radd σ m k (σ 0 + d)) m k (σ 0 + (d + 1 + j))) < (rbpI σ m k n d b j).2
      · rw [if_pos c2, if_pos]
        · exact ⟨rfl, Or.inr ⟨by show (0 : Int) ≤ 100 * d + (d + 1 + j); omega, e⟩⟩
        · rcases i2 with q | q
          · exact Or.inl q
          · right
            rcases c2 with r | r
            · omega
            · rw [e, q.2] at r
              omega
      · rw [if_neg c2, if_neg]
        · exact ⟨i1, i2⟩
        · intro q
          apply c2
          rcases q with q | q
          · left; omega
          · rcases i2 with r | r
            · left; omega
            · right
              rw [e, r.2]
              omega
    · rw [if_neg (fun q => c1 (ea.mp q)), if_neg c1]
      exact ⟨i1, i2⟩
theorem rbpN_cp {σ : Int → Int} {m k : Int} (hI : rI σ) (hN : rN σ) (hm : 0 ≤ m ∧ m < σ 1) (hk : 0 ≤ k ∧ k ≤ 2) (hT : σ 0 ≤ 100000000) (h10 : σ 3 ≤ 10) (n : Nat) (hn : n ≤ 60) : ∀ d : Nat, d ≤ 60 → cB (fO σ m n) (rbpN σ m k n d) (cpN (fun d x => mT (fR σ) (fF σ) (zset (zset (fD σ m) d k) x k) n 0 (gm σ m)) (fun x => ragst σ m k (σ 0 + x)) n d)
  | 0, _ => ⟨rfl, Or.inl rfl⟩
  | d + 1, h => by
    have ih := rbpN_cp hI hN hm hk hT h10 n hn d (by omega)
    unfold rbpN cpN
    by_cases c : ragst σ m k (σ 0 + d) = 0
    · rw [if_pos c, if_pos c]
      exact rbpI_cp hI hN hm hk hT h10 n (by omega) c _ _ ih _ (by omega)
    · rw [if_neg c, if_neg c]
      exact ih
/-- the plan is too full for two -/
theorem rbpN_no {σ : Int → Int} {m k : Int} (hI : rI σ) (h11 : 11 ≤ σ 3) (n : Nat) : ∀ d : Nat, rbpN σ m k n d = (-1000005, 0)
  | 0 => rfl
  | d + 1 => by
    have ih := rbpN_no (m := m) (k := k) hI h11 n d
    unfold rbpN
    by_cases c : ragst σ m k (σ 0 + d) = 0
    · rw [if_pos c, ih]
      have h4 := (ragst_z c).2.2.2
      have hb := hI.2.1
      have h3 := radd_3 (m := m) (k := k) (d := σ 0 + d) hI
      have : ∀ j : Nat, rbpI σ m k n d (-1000005, 0) j = (-1000005, 0) := by
        intro j
        induction j with
        | zero => rfl
        | succ j ij =>
          unfold rbpI
          rw [ij]
          unfold rbpS
          rw [if_neg]
          intro q
          exact (ragst_z q).2.2.2 (by omega)
      exact this _
    · rw [if_neg c]
      exact ih
