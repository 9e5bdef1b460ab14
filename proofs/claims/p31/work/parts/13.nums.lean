/-! numbers and cells, as rewriting rules -/
theorem zl_toInt {n : Int} (h1 : -9223372036854775808 ≤ n) (h2 : n < 9223372036854775808) : (zl n).toInt = n := Int64.toInt_ofInt_of_le (by omega) (by omega)
theorem zi_add (a b : Int) : zi a + zi b = zi (a + b) := (Int32.ofInt_add a b).symm
theorem zi_sub (a b : Int) : zi a - zi b = zi (a - b) := (Int32.ofInt_sub a b).symm
theorem zi_mul (a b : Int) : zi a * zi b = zi (a * b) := (Int32.ofInt_mul a b).symm
theorem zl_add (a b : Int) : zl a + zl b = zl (a + b) := (Int64.ofInt_add a b).symm
theorem zl_sub (a b : Int) : zl a - zl b = zl (a - b) := (Int64.ofInt_sub a b).symm
theorem zl_mul (a b : Int) : zl a * zl b = zl (a * b) := (Int64.ofInt_mul a b).symm
theorem zi_l {a : Int} (h1 : -2147483648 ≤ a) (h2 : a < 2147483648) : (zi a).toInt64 = zl a := by
  apply Int64.toInt_inj.mp
  rw [Int32.toInt_toInt64, zi_toInt h1 h2, zl_toInt (by omega) (by omega)]
theorem zl_i (a : Int) : (zl a).toInt32 = zi a := by
  unfold zl zi
  first
    | exact Int64.toInt32_ofInt a
    | simp
theorem zi_lt {a b : Int} (h1 : -2147483648 ≤ a) (h2 : a < 2147483648) (h3 : -2147483648 ≤ b) (h4 : b < 2147483648) : (zi a < zi b) = (a < b) := by
  rw [Int32.lt_iff_toInt_lt, zi_toInt h1 h2, zi_toInt h3 h4]
theorem zi_le {a b : Int} (h1 : -2147483648 ≤ a) (h2 : a < 2147483648) (h3 : -2147483648 ≤ b) (h4 : b < 2147483648) : (zi a ≤ zi b) = (a ≤ b) := by
  rw [Int32.le_iff_toInt_le, zi_toInt h1 h2, zi_toInt h3 h4]
theorem zi_eq {a b : Int} (h1 : -2147483648 ≤ a) (h2 : a < 2147483648) (h3 : -2147483648 ≤ b) (h4 : b < 2147483648) : (zi a = zi b) = (a = b) := by
  rw [← Int32.toInt_inj, zi_toInt h1 h2, zi_toInt h3 h4]
theorem zl_lt {a b : Int} (h1 : -9223372036854775808 ≤ a) (h2 : a < 9223372036854775808) (h3 : -9223372036854775808 ≤ b) (h4 : b < 9223372036854775808) : (zl a < zl b) = (a < b) := by
  rw [Int64.lt_iff_toInt_lt, zl_toInt h1 h2, zl_toInt h3 h4]
theorem zl_le {a b : Int} (h1 : -9223372036854775808 ≤ a) (h2 : a < 9223372036854775808) (h3 : -9223372036854775808 ≤ b) (h4 : b < 9223372036854775808) : (zl a ≤ zl b) = (a ≤ b) := by
  rw [Int64.le_iff_toInt_le, zl_toInt h1 h2, zl_toInt h3 h4]
theorem zl_eq {a b : Int} (h1 : -9223372036854775808 ≤ a) (h2 : a < 9223372036854775808) (h3 : -9223372036854775808 ≤ b) (h4 : b < 9223372036854775808) : (zl a = zl b) = (a = b) := by
  rw [← Int64.toInt_inj, zl_toInt h1 h2, zl_toInt h3 h4]
theorem zlc_lt (x y : Int64) : (lg_cmp x y < zi 0) = (x < y) := by
  unfold lg_cmp
  rw [zi_0]
  simp only [gt_iff_lt, Int64.lt_iff_toInt_lt, ← Int64.toInt_inj, eq_iff_iff]
  split
  · rename_i h; exact ⟨fun k => absurd k (by decide), fun k => by omega⟩
  · split
    · rename_i h; exact ⟨fun k => absurd k (by decide), fun k => by omega⟩
    · exact ⟨fun _ => by omega, fun _ => by decide⟩
theorem zlc_gt (x y : Int64) : (zi 0 < lg_cmp x y) = (y < x) := by
  unfold lg_cmp
  rw [zi_0]
  simp only [gt_iff_lt, Int64.lt_iff_toInt_lt, ← Int64.toInt_inj, eq_iff_iff]
  split
  · rename_i h; exact ⟨fun _ => h, fun _ => by decide⟩
  · split
    · exact ⟨fun k => absurd k (by decide), fun k => by omega⟩
    · exact ⟨fun k => absurd k (by decide), fun k => by omega⟩
theorem zlc_ge (x y : Int64) : (zi 0 ≤ lg_cmp x y) = (y ≤ x) := by
  have h := zlc_lt x y
  have e1 : (zi 0 ≤ lg_cmp x y) = ¬ (lg_cmp x y < zi 0) := by rw [eq_iff_iff, Int32.not_lt]
  rw [e1, h, eq_iff_iff, Int64.not_lt]
theorem zlc_le (x y : Int64) : (lg_cmp x y ≤ zi 0) = (x ≤ y) := by
  have h := zlc_gt x y
  have e1 : (lg_cmp x y ≤ zi 0) = ¬ (zi 0 < lg_cmp x y) := by rw [eq_iff_iff, Int32.not_lt]
  rw [e1, h, eq_iff_iff, Int64.not_lt]
theorem zlc_eq (x y : Int64) : (lg_cmp x y = zi 0) = (x = y) := by
  unfold lg_cmp
  rw [zi_0]
  simp only [gt_iff_lt, Int64.lt_iff_toInt_lt, ← Int64.toInt_inj, eq_iff_iff]
  split
  · rename_i h; exact ⟨fun k => absurd k (by decide), fun k => by omega⟩
  · split
    · rename_i h; exact ⟨fun _ => h, fun _ => rfl⟩
    · rename_i h; exact ⟨fun k => absurd k (by decide), fun k => absurd k h⟩
theorem ztd {a b : Int} (ha : 0 ≤ a) (hb : 0 < b) : a.tdiv b = a / b := Int.tdiv_eq_ediv_of_nonneg ha
theorem zdr {a b : Int} (ha : 0 ≤ a) (hb : 0 < b) : 0 ≤ a / b ∧ a / b ≤ a := ⟨Int.ediv_nonneg ha (by omega), Int.ediv_le_self b ha⟩
theorem zi_div {a b : Int} (h1 : 0 ≤ a) (h2 : a < 2147483648) (h3 : 0 < b) (h4 : b < 2147483648) : zi a / zi b = zi (a / b) := by
  have hd := zdr h1 h3
  apply Int32.toInt_inj.mp
  rw [Int32.toInt_div, zi_toInt (by omega) h2, zi_toInt (by omega) h4, zi_toInt (by omega) (by omega), ztd h1 h3]
  apply Int.bmod_eq_of_le <;> omega
theorem zl_div {a b : Int} (h1 : 0 ≤ a) (h2 : a < 9223372036854775808) (h3 : 0 < b) (h4 : b < 9223372036854775808) : zl a / zl b = zl (a / b) := by
  have hd := zdr h1 h3
  apply Int64.toInt_inj.mp
  rw [Int64.toInt_div, zl_toInt (by omega) h2, zl_toInt (by omega) h4, zl_toInt (by omega) (by omega), ztd h1 h3]
  apply Int.bmod_eq_of_le <;> omega
theorem zi_rem {a b : Int} (h1 : 0 ≤ a) (h2 : a < 2147483648) (h3 : 0 < b) (h4 : b < 2147483648) : zi a - zi a / zi b * zi b = zi (a % b) := by
  rw [zi_div h1 h2 h3 h4, zi_mul, zi_sub, Int.emod_def, Int.mul_comm b]
theorem zl_rem {a b : Int} (h1 : 0 ≤ a) (h2 : a < 9223372036854775808) (h3 : 0 < b) (h4 : b < 9223372036854775808) : zl a - zl a / zl b * zl b = zl (a % b) := by
  rw [zl_div h1 h2 h3 h4, zl_mul, zl_sub, Int.emod_def, Int.mul_comm b]
theorem zi_ne0 {b : Int} (h3 : 0 < b) (h4 : b < 2147483648) : (¬ zi b = 0) = True := by
  rw [← zi_0, zi_eq (by omega) h4 (by omega) (by omega), eq_iff_iff]
  exact ⟨fun _ => trivial, fun _ => by omega⟩
theorem zl_0 : zl 0 = 0 := by decide +kernel
theorem zl_ne0 {b : Int} (h3 : 0 < b) (h4 : b < 9223372036854775808) : (¬ zl b = 0) = True := by
  rw [← zl_0, zl_eq (by omega) h4 (by omega) (by omega), eq_iff_iff]
  exact ⟨fun _ => trivial, fun _ => by omega⟩
theorem zi_min {x y : Int} (h1 : -2147483648 ≤ x) (h2 : x < 2147483648) (h3 : -2147483648 ≤ y) (h4 : y < 2147483648) : (if zi y < zi x then zi y else zi x) = zi (min x y) := by
  have e := zi_lt h3 h4 h1 h2
  by_cases hc : y < x
  · rw [if_pos (by rw [e]; exact hc), Int.min_eq_right (by omega)]
  · rw [if_neg (by rw [e]; exact hc), Int.min_eq_left (by omega)]
theorem zi_max {x y : Int} (h1 : -2147483648 ≤ x) (h2 : x < 2147483648) (h3 : -2147483648 ≤ y) (h4 : y < 2147483648) : (if zi x < zi y then zi y else zi x) = zi (max x y) := by
  have e := zi_lt h1 h2 h3 h4
  by_cases hc : x < y
  · rw [if_pos (by rw [e]; exact hc), Int.max_eq_right (by omega)]
  · rw [if_neg (by rw [e]; exact hc), Int.max_eq_left (by omega)]
/-! an int and a number -/
theorem zi_of (x : Int32) : ∃ n : Int, x = zi n ∧ -2147483648 ≤ n ∧ n < 2147483648 := ⟨x.toInt, (Int32.ofInt_toInt x).symm, Int32.le_toInt x, Int32.toInt_lt x⟩
/-! the stack and the locals -/
theorem zcat_nil : zcat [] = 0 := rfl
theorem zcat_int (x : Int32) (S : List Value) : zcat (.int x :: S) = 1 + zcat S := by simp [zcat, Value.category]
theorem zcat_ref (x : Nat) (S : List Value) : zcat (.ref x :: S) = 1 + zcat S := by simp [zcat, Value.category]
theorem zcat_long (x : Int64) (S : List Value) : zcat (.long x :: S) = 2 + zcat S := by simp [zcat, Value.category]
theorem zkill_int (x : Int32) : zkill (.int x) = .int x := rfl
theorem zkill_ref (x : Nat) : zkill (.ref x) = .ref x := rfl
theorem zkill_long (x : Int64) : zkill (.long x) = zJ := rfl
theorem zkill_J : zkill zJ = zJ := rfl
theorem zkill2 (x : Value) : zkill (zkill x) = zkill x := by
  unfold zkill
  by_cases h : x.category = 2
  · rw [if_pos h]; rfl
  · rw [if_neg h, if_neg h]
theorem zto_some (v : Value) (S : List Value) : (some v).toList ++ S = v :: S := rfl
theorem zto_none (S : List Value) : (none : Option Value).toList ++ S = S := rfl
theorem znb0 : narrow .boolean (.int (zi 0)) = .int (zi 0) := by decide +kernel
theorem znb1 : narrow .boolean (.int (zi 1)) = .int (zi 1) := by decide +kernel
/-! cells -/
theorem zup_ap (h : zH) (a x : Nat) (c : va_E) : zup h a c x = if x = a then c else h x := rfl
theorem zup_self (h : zH) (a : Nat) (c : va_E) : zup h a c a = c := if_pos rfl
theorem zup_ne {h : zH} {a x : Nat} {c : va_E} (hx : x ≠ a) : zup h a c x = h x := if_neg hx
theorem zisC_inr (c : Nat) (fs : List Value) : zisC (.inr (c, fs)) c = true := Nat.beq_refl c
def zsetf (ci j : Nat) (v : Value) (c : va_E) : Option va_E := match c with
  | .inr o => if o.1 = ci ∧ j < o.2.length then some (.inr (o.1, o.2.set j v)) else none
  | .inl _ => none
theorem zput_setf {ci j : Nat} {v : Value} {c : va_E} (hf : zfit (zfty ci j) v = true) : zput ci j v c = zsetf ci j v c := by
  cases c with
  | inl _ => rfl
  | inr o => simp only [zput, zsetf, hf, and_true]
theorem zget_inr (c j : Nat) (fs : List Value) : zget c j (.inr (c, fs)) = fs[j]? := if_pos rfl
theorem zsetf_inr (c j : Nat) (v : Value) (fs : List Value) (hj : j < fs.length) : zsetf c j v (.inr (c, fs)) = some (.inr (c, fs.set j v)) := if_pos ⟨rfl, hj⟩
theorem zput_inr (c j : Nat) (v : Value) (fs : List Value) (hj : j < fs.length) (hf : zfit (zfty c j) v = true) : zput c j v (.inr (c, fs)) = some (.inr (c, fs.set j v)) := if_pos ⟨rfl, hj, hf⟩
def zisR : FieldType → Bool
  | .object _ => true
  | .array _ => true
  | _ => false
theorem zfit_ref {ty : FieldType} {x : Nat} (h : zisR ty = true) : zfit ty (.ref x) = true := by
  cases ty <;> first | (exact absurd h (by decide)) | simp [zfit, narrow, fits]
theorem zfit_int {ty : FieldType} {x : Int32} (h : ty = .int) : zfit ty (.int x) = true := by
  subst h
  simp [zfit, narrow, fits]
theorem zfit_long {ty : FieldType} {x : Int64} (h : ty = .long) : zfit ty (.long x) = true := by
  subst h
  simp [zfit, narrow, fits]
theorem zfit_b0 : zfit .boolean (.int (zi 0)) = true := by decide +kernel
theorem zfit_b1 : zfit .boolean (.int (zi 1)) = true := by decide +kernel
/-! rows: an array's contents as a function of an int -/
def zrow (σ : Int → Int) : Nat → Int64 := fun j => zl (σ (j : Int))
def zrwi (σ : Int → Int) : Nat → Int32 := fun j => zi (σ (j : Int))
def zset (σ : Int → Int) (i x : Int) : Int → Int := fun j => if j = i then x else σ j
theorem zset_ap (σ : Int → Int) (i x j : Int) : zset σ i x j = if j = i then x else σ j := rfl
theorem zclampI {i : Int} (h1 : 0 ≤ i) (h2 : i < 2147483648) : ((zi i).toNatClampNeg : Int) = i := by
  show (((zi i).toInt.toNat : Nat) : Int) = i
  rw [zi_toInt (by omega) h2]
  omega
theorem zidx_zi {i : Int} {n : Nat} (h1 : 0 ≤ i) (h2 : i < n) (h3 : n < 2147483648) : zidx (zi i) n = true := by
  simp only [zidx, Bool.and_eq_true, decide_eq_true_eq]
  rw [zi_toInt (by omega) (by omega)]
  exact ⟨h1, h2⟩
theorem zldl_row {σ : Int → Int} {i : Int} {n : Nat} (h1 : 0 ≤ i) (h2 : i < n) (h3 : n < 2147483648) : zldl (zi i) (.inl (1, n, .inr (.inl (zrow σ)))) = some (zl (σ i)) := by
  show (if zidx (zi i) n = true then some (zrow σ (zi i).toNatClampNeg) else none) = _
  rw [if_pos (zidx_zi h1 h2 h3), zrow, zclampI h1 (by omega)]
theorem zald_row {t : Nat} {σ : Int → Int} {i : Int} {n : Nat} (h1 : 0 ≤ i) (h2 : i < n) (h3 : n < 2147483648) : zald t (zi i) (.inl (t, n, .inl (zrwi σ))) = some (zi (σ i)) := by
  show (if (t = t ∨ (t = 0 ∧ t = 9)) ∧ zidx (zi i) n = true then some (zrwi σ (zi i).toNatClampNeg) else none) = _
  rw [if_pos ⟨Or.inl rfl, zidx_zi h1 h2 h3⟩, zrwi, zclampI h1 (by omega)]
theorem zstl_row {σ : Int → Int} {i x : Int} {n : Nat} (h1 : 0 ≤ i) (h2 : i < n) (h3 : n < 2147483648) : zstl (zi i) (zl x) (.inl (1, n, .inr (.inl (zrow σ)))) = some (.inl (1, n, .inr (.inl (zrow (zset σ i x))))) := by
  show (if zidx (zi i) n = true then some ((.inl (1, n, .inr (.inl (vp_updL (zrow σ) (zi i).toNatClampNeg (zl x))))) : va_E) else none) = _
  rw [if_pos (zidx_zi h1 h2 h3)]
  congr 6
  funext j
  have hc := zclampI h1 (show i < 2147483648 by omega)
  simp only [vp_updL, zrow, zset]
  by_cases hj : j = (zi i).toNatClampNeg
  · rw [if_pos hj, if_pos (by omega)]
  · rw [if_neg hj, if_neg (by omega)]
theorem zast_row {t : Nat} (ht : t = 0) {σ : Int → Int} {i x : Int} {n : Nat} (h1 : 0 ≤ i) (h2 : i < n) (h3 : n < 2147483648) : zast t (zi i) (zi x) (.inl (t, n, .inl (zrwi σ))) = some (.inl (t, n, .inl (zrwi (zset σ i x)))) := by
  subst ht
  show (if 0 = 0 ∧ zidx (zi i) n = true then some ((.inl (0, n, .inl (upd (zrwi σ) (zi i).toNatClampNeg (zi x)))) : va_E) else none) = _
  rw [if_pos ⟨rfl, zidx_zi h1 h2 h3⟩]
  congr 5
  funext j
  have hc := zclampI h1 (show i < 2147483648 by omega)
  simp only [upd, zrwi, zset]
  by_cases hj : j = (zi i).toNatClampNeg
  · rw [if_pos hj, if_pos (by omega)]
  · rw [if_neg hj, if_neg (by omega)]
theorem znew_l (n : Nat) : znew 1 n = .inl (1, n, .inr (.inl (zrow fun _ => 0))) := by
  show (.inl (1, n, .inr (.inl fun _ => 0)) : va_E) = _
  have e : (fun _ : Nat => (0 : Int64)) = zrow (fun _ => 0) := funext fun _ => zl_0.symm
  rw [e]
theorem znew_i (n : Nat) : znew 0 n = .inl (0, n, .inl (zrwi fun _ => 0)) := by
  show (.inl (0, n, .inl fun _ => 0) : va_E) = _
  have e : (fun _ : Nat => (0 : Int32)) = zrwi (fun _ => 0) := funext fun _ => zi_0.symm
  rw [e]
theorem znew_c (n : Nat) : znew 2 n = .inl (2, n, .inl (zrwi fun _ => 0)) := by
  show (.inl (2, n, .inl fun _ => 0) : va_E) = _
  have e : (fun _ : Nat => (0 : Int32)) = zrwi (fun _ => 0) := funext fun _ => zi_0.symm
  rw [e]
theorem znew_b (n : Nat) : znew 3 n = .inl (3, n, .inl (zrwi fun _ => 0)) := by
  show (.inl (3, n, .inl fun _ => 0) : va_E) = _
  have e : (fun _ : Nat => (0 : Int32)) = zrwi (fun _ => 0) := funext fun _ => zi_0.symm
  rw [e]
section ZN
variable {mi pc : Nat} {L S : List Value} {z : zZ} {h : zH} {Q : Option Value → zZ → zH → Prop}
theorem zclampN {k : Nat} (hk : k < 10000) : 0 ≤ (zi (k : Int)).toInt ∧ (zi (k : Int)).toInt < 10000 ∧ (zi (k : Int)).toNatClampNeg = k := by
  have e := zi_toInt (n := (k : Int)) (by omega) (by omega)
  have c := zclampI (i := (k : Int)) (by omega) (by omega)
  omega
theorem zG_newa {ty : ArrayType} {k : Nat} (hc : zcode mi pc = some (.newarray ty)) (ht : zaty ty < 4) (hk : k < 10000) : zG mi pc L (.int (zi k) :: S) z h Q ↔ zG mi (pc + 2) L (.ref z.1 :: S) (z.1 + 1, z.2.1 + k, z.2.2) (zup h z.1 (znew (zaty ty) k)) Q := by
  obtain ⟨c1, c2, c3⟩ := zclampN hk
  have := gG_newa (L := L) (S := S) (z := z) (h := h) (Q := Q) (n := zi k) hc ⟨ht, c1, c2⟩
  rw [c3] at this
  exact this
theorem zG_anew {k0 t a : Nat} {b : Int} {k : Nat} (hc : zcode mi pc = some (.anewarray k0)) (hp : zpool mi (k0 + 100000) = some (3, t, a, b)) (hk : k < 10000) : zG mi pc L (.int (zi k) :: S) z h Q ↔ zG mi (pc + 3) L (.ref z.1 :: S) (z.1 + 1, z.2.1 + k, z.2.2) (zup h z.1 (.inl (t, k, .inr (.inr (.inr (.inr fun _ => none)))))) Q := by
  obtain ⟨c1, c2, c3⟩ := zclampN hk
  have := gG_anew (L := L) (S := S) (z := z) (h := h) (Q := Q) (n := zi k) hc hp ⟨c1, c2⟩
  rw [c3] at this
  exact this
end ZN
