/-! THE CLASS: a State at b is a block of 27 cells, given by the reference's row -/
def vw (τ : Int → Int) (o s : Int) : Int → Int := fun j => τ (o + s * j)
def vsh (τ : Int → Int) : Int → Int := fun k => τ (40 + 9 * (k / 7) + k % 7)
def nv (v : Int) : Int := if v = -1 then 10000 else v
def vof (τ : Int → Int) : Int → Int := fun j => nv (τ (47 + 9 * j))
def zvc (t n : Nat) (f : Int → Int) : va_E := .inl (t, n, .inl (fun j => if j < n then zi (f (j : Int)) else 0))
def zra (t n a s : Nat) : va_E := .inl (t, n, .inr (.inr (.inr (.inr (fun j => if j < n then some (a + s * j) else none)))))
def zmir (f : Int → Int) : va_E := .inr (4, [.int (zi (f 0)), .int (zi (f 1)), .int (zi (f 2)), .int (zi (f 3)), .int (zi (f 4)), .long (zl (f 5))])
def zsob (b : Nat) (τ : Int → Int) : va_E := .inr (9, [.ref (b + 1), .ref (b + 2), .ref (b + 6), .ref (b + 10), .ref (b + 14), .ref (b + 18), .int (zi (τ 1)), .int (zi (τ 0)), .int (zi (τ 5)), .int (zi (τ 6)), .int (zi (τ 7))])
def zpob (a1 a2 a3 : Nat) (u n : Int) : va_E := .inr (6, [.ref a1, .ref a2, .ref a3, .int (zi u), .int (zi n)])
def zcob (a1 a2 a3 : Nat) (n : Int) : va_E := .inr (0, [.ref a1, .ref a2, .ref a3, .int (zi n)])
def zlob (a1 a2 a3 : Nat) (n : Int) : va_E := .inr (7, [.ref a1, .ref a2, .ref a3, .int (zi n)])
def zgob (a1 a2 a3 a4 : Nat) (n : Int) : va_E := .inr (3, [.ref a1, .ref a2, .ref a3, .ref a4, .int (zi n)])
def zbk (b : Nat) (τ : Int → Int) : Nat → va_E
  | 0 => zsob b τ
  | 1 => zra 4 4 (b + 23) 1
  | 2 => zpob (b + 3) (b + 4) (b + 5) 20 (τ 8)
  | 3 => zvc 0 10 (vw τ 90 3)
  | 4 => zvc 0 10 (vw τ 91 3)
  | 5 => zvc 0 10 (vw τ 92 3)
  | 6 => zpob (b + 7) (b + 8) (b + 9) 15 (τ 9)
  | 7 => zvc 0 10 (vw τ 120 3)
  | 8 => zvc 0 10 (vw τ 121 3)
  | 9 => zvc 0 10 (vw τ 122 3)
  | 10 => zcob (b + 11) (b + 12) (b + 13) (τ 2)
  | 11 => zvc 0 35 (vsh τ)
  | 12 => zvc 0 5 (vof τ)
  | 13 => zvc 0 5 (vw τ 48 9)
  | 14 => zlob (b + 15) (b + 16) (b + 17) (τ 3)
  | 15 => zvc 0 12 (vw τ 150 3)
  | 16 => zvc 0 12 (vw τ 151 3)
  | 17 => zvc 0 12 (vw τ 152 3)
  | 18 => zgob (b + 19) (b + 20) (b + 21) (b + 22) (τ 4)
  | 19 => zvc 0 12 (vw τ 190 4)
  | 20 => zvc 0 12 (vw τ 191 4)
  | 21 => zvc 0 12 (vw τ 192 4)
  | 22 => zvc 0 12 (vw τ 193 4)
  | 23 => zmir (vw τ 10 1)
  | 24 => zmir (vw τ 16 1)
  | 25 => zmir (vw τ 22 1)
  | _ => zmir (vw τ 28 1)
def zcs (h : zH) (b : Nat) (τ : Int → Int) : zH := fun x => if b ≤ x ∧ x < b + 27 then zbk b τ (x - b) else h x
/-- the cell that a place of the row lies in -/
def zow (i : Int) : Nat :=
  if i < 0 then 27 else if i < 10 then (if i = 2 then 10 else if i = 3 then 14 else if i = 4 then 18 else if i = 8 then 2 else if i = 9 then 6 else 0)
  else if i < 34 then 23 + ((i - 10) / 6).toNat else if i < 40 then 27 else if i < 85 then (if (i - 40) % 9 < 7 then 11 else if (i - 40) % 9 = 7 then 12 else 13)
  else if i < 90 then 27 else if i < 120 then 3 + ((i - 90) % 3).toNat else if i < 150 then 7 + ((i - 120) % 3).toNat else if i < 186 then 15 + ((i - 150) % 3).toNat
  else if i < 190 then 27 else if i < 238 then 19 + ((i - 190) % 4).toNat else 27
theorem zvc_ext {t n : Nat} {f g : Int → Int} (e : ∀ j : Int, 0 ≤ j → j < n → f j = g j) : zvc t n f = zvc t n g := by
  unfold zvc
  congr 5
  funext j
  by_cases hj : j < n
  · rw [if_pos hj, if_pos hj, e j (by omega) (by omega)]
  · rw [if_neg hj, if_neg hj]
theorem zmir_ext {f g : Int → Int} (e : ∀ c : Int, 0 ≤ c → c < 6 → f c = g c) : zmir f = zmir g := by
  unfold zmir
  rw [e 0 (by omega) (by omega), e 1 (by omega) (by omega), e 2 (by omega) (by omega), e 3 (by omega) (by omega), e 4 (by omega) (by omega), e 5 (by omega) (by omega)]
theorem zcs_o {h : zH} {b x : Nat} {τ : Int → Int} (hx : x < b ∨ b + 27 ≤ x) : zcs h b τ x = h x := if_neg (by omega)
theorem zcs_0 (h : zH) (b : Nat) (τ : Int → Int) : zcs h b τ b = zsob b τ := by
  unfold zcs
  rw [if_pos (by omega)]
  first
    | rw [Nat.sub_self]; rfl
    | rw [Nat.add_sub_cancel_left]; rfl
theorem zcs_1 (h : zH) (b : Nat) (τ : Int → Int) : zcs h b τ (b + 1) = zra 4 4 (b + 23) 1 := by
  unfold zcs
  rw [if_pos (by omega)]
  first
    | rw [Nat.sub_self]; rfl
    | rw [Nat.add_sub_cancel_left]; rfl
theorem zcs_2 (h : zH) (b : Nat) (τ : Int → Int) : zcs h b τ (b + 2) = zpob (b + 3) (b + 4) (b + 5) 20 (τ 8) := by
  unfold zcs
  rw [if_pos (by omega)]
  first
    | rw [Nat.sub_self]; rfl
    | rw [Nat.add_sub_cancel_left]; rfl
theorem zcs_3 (h : zH) (b : Nat) (τ : Int → Int) : zcs h b τ (b + 3) = zvc 0 10 (vw τ 90 3) := by
  unfold zcs
  rw [if_pos (by omega)]
  first
    | rw [Nat.sub_self]; rfl
    | rw [Nat.add_sub_cancel_left]; rfl
theorem zcs_4 (h : zH) (b : Nat) (τ : Int → Int) : zcs h b τ (b + 4) = zvc 0 10 (vw τ 91 3) := by
  unfold zcs
  rw [if_pos (by omega)]
  first
    | rw [Nat.sub_self]; rfl
    | rw [Nat.add_sub_cancel_left]; rfl
theorem zcs_5 (h : zH) (b : Nat) (τ : Int → Int) : zcs h b τ (b + 5) = zvc 0 10 (vw τ 92 3) := by
  unfold zcs
  rw [if_pos (by omega)]
  first
    | rw [Nat.sub_self]; rfl
    | rw [Nat.add_sub_cancel_left]; rfl
theorem zcs_6 (h : zH) (b : Nat) (τ : Int → Int) : zcs h b τ (b + 6) = zpob (b + 7) (b + 8) (b + 9) 15 (τ 9) := by
  unfold zcs
  rw [if_pos (by omega)]
  first
    | rw [Nat.sub_self]; rfl
    | rw [Nat.add_sub_cancel_left]; rfl
theorem zcs_7 (h : zH) (b : Nat) (τ : Int → Int) : zcs h b τ (b + 7) = zvc 0 10 (vw τ 120 3) := by
  unfold zcs
  rw [if_pos (by omega)]
  first
    | rw [Nat.sub_self]; rfl
    | rw [Nat.add_sub_cancel_left]; rfl
theorem zcs_8 (h : zH) (b : Nat) (τ : Int → Int) : zcs h b τ (b + 8) = zvc 0 10 (vw τ 121 3) := by
  unfold zcs
  rw [if_pos (by omega)]
  first
    | rw [Nat.sub_self]; rfl
    | rw [Nat.add_sub_cancel_left]; rfl
theorem zcs_9 (h : zH) (b : Nat) (τ : Int → Int) : zcs h b τ (b + 9) = zvc 0 10 (vw τ 122 3) := by
  unfold zcs
  rw [if_pos (by omega)]
  first
    | rw [Nat.sub_self]; rfl
    | rw [Nat.add_sub_cancel_left]; rfl
theorem zcs_10 (h : zH) (b : Nat) (τ : Int → Int) : zcs h b τ (b + 10) = zcob (b + 11) (b + 12) (b + 13) (τ 2) := by
  unfold zcs
  rw [if_pos (by omega)]
  first
    | rw [Nat.sub_self]; rfl
    | rw [Nat.add_sub_cancel_left]; rfl
theorem zcs_11 (h : zH) (b : Nat) (τ : Int → Int) : zcs h b τ (b + 11) = zvc 0 35 (vsh τ) := by
  unfold zcs
  rw [if_pos (by omega)]
  first
    | rw [Nat.sub_self]; rfl
    | rw [Nat.add_sub_cancel_left]; rfl
theorem zcs_12 (h : zH) (b : Nat) (τ : Int → Int) : zcs h b τ (b + 12) = zvc 0 5 (vof τ) := by
  unfold zcs
  rw [if_pos (by omega)]
  first
    | rw [Nat.sub_self]; rfl
    | rw [Nat.add_sub_cancel_left]; rfl
theorem zcs_13 (h : zH) (b : Nat) (τ : Int → Int) : zcs h b τ (b + 13) = zvc 0 5 (vw τ 48 9) := by
  unfold zcs
  rw [if_pos (by omega)]
  first
    | rw [Nat.sub_self]; rfl
    | rw [Nat.add_sub_cancel_left]; rfl
theorem zcs_14 (h : zH) (b : Nat) (τ : Int → Int) : zcs h b τ (b + 14) = zlob (b + 15) (b + 16) (b + 17) (τ 3) := by
  unfold zcs
  rw [if_pos (by omega)]
  first
    | rw [Nat.sub_self]; rfl
    | rw [Nat.add_sub_cancel_left]; rfl
theorem zcs_15 (h : zH) (b : Nat) (τ : Int → Int) : zcs h b τ (b + 15) = zvc 0 12 (vw τ 150 3) := by
  unfold zcs
  rw [if_pos (by omega)]
  first
    | rw [Nat.sub_self]; rfl
    | rw [Nat.add_sub_cancel_left]; rfl
theorem zcs_16 (h : zH) (b : Nat) (τ : Int → Int) : zcs h b τ (b + 16) = zvc 0 12 (vw τ 151 3) := by
  unfold zcs
  rw [if_pos (by omega)]
  first
    | rw [Nat.sub_self]; rfl
    | rw [Nat.add_sub_cancel_left]; rfl
theorem zcs_17 (h : zH) (b : Nat) (τ : Int → Int) : zcs h b τ (b + 17) = zvc 0 12 (vw τ 152 3) := by
  unfold zcs
  rw [if_pos (by omega)]
  first
    | rw [Nat.sub_self]; rfl
    | rw [Nat.add_sub_cancel_left]; rfl
theorem zcs_18 (h : zH) (b : Nat) (τ : Int → Int) : zcs h b τ (b + 18) = zgob (b + 19) (b + 20) (b + 21) (b + 22) (τ 4) := by
  unfold zcs
  rw [if_pos (by omega)]
  first
    | rw [Nat.sub_self]; rfl
    | rw [Nat.add_sub_cancel_left]; rfl
theorem zcs_19 (h : zH) (b : Nat) (τ : Int → Int) : zcs h b τ (b + 19) = zvc 0 12 (vw τ 190 4) := by
  unfold zcs
  rw [if_pos (by omega)]
  first
    | rw [Nat.sub_self]; rfl
    | rw [Nat.add_sub_cancel_left]; rfl
theorem zcs_20 (h : zH) (b : Nat) (τ : Int → Int) : zcs h b τ (b + 20) = zvc 0 12 (vw τ 191 4) := by
  unfold zcs
  rw [if_pos (by omega)]
  first
    | rw [Nat.sub_self]; rfl
    | rw [Nat.add_sub_cancel_left]; rfl
theorem zcs_21 (h : zH) (b : Nat) (τ : Int → Int) : zcs h b τ (b + 21) = zvc 0 12 (vw τ 192 4) := by
  unfold zcs
  rw [if_pos (by omega)]
  first
    | rw [Nat.sub_self]; rfl
    | rw [Nat.add_sub_cancel_left]; rfl
theorem zcs_22 (h : zH) (b : Nat) (τ : Int → Int) : zcs h b τ (b + 22) = zvc 0 12 (vw τ 193 4) := by
  unfold zcs
  rw [if_pos (by omega)]
  first
    | rw [Nat.sub_self]; rfl
    | rw [Nat.add_sub_cancel_left]; rfl
theorem zcs_23 (h : zH) (b : Nat) (τ : Int → Int) : zcs h b τ (b + 23) = zmir (vw τ 10 1) := by
  unfold zcs
  rw [if_pos (by omega)]
  first
    | rw [Nat.sub_self]; rfl
    | rw [Nat.add_sub_cancel_left]; rfl
theorem zcs_24 (h : zH) (b : Nat) (τ : Int → Int) : zcs h b τ (b + 24) = zmir (vw τ 16 1) := by
  unfold zcs
  rw [if_pos (by omega)]
  first
    | rw [Nat.sub_self]; rfl
    | rw [Nat.add_sub_cancel_left]; rfl
theorem zcs_25 (h : zH) (b : Nat) (τ : Int → Int) : zcs h b τ (b + 25) = zmir (vw τ 22 1) := by
  unfold zcs
  rw [if_pos (by omega)]
  first
    | rw [Nat.sub_self]; rfl
    | rw [Nat.add_sub_cancel_left]; rfl
theorem zcs_26 (h : zH) (b : Nat) (τ : Int → Int) : zcs h b τ (b + 26) = zmir (vw τ 28 1) := by
  unfold zcs
  rw [if_pos (by omega)]
  first
    | rw [Nat.sub_self]; rfl
    | rw [Nat.add_sub_cancel_left]; rfl
theorem zcs_mir {h : zH} {b : Nat} {τ : Int → Int} {m : Int} (h0 : 0 ≤ m) (h4 : m < 4) : zcs h b τ (b + 23 + m.toNat) = zmir (vw τ (10 + 6 * m) 1) := by
  have hm : m = 0 ∨ m = 1 ∨ m = 2 ∨ m = 3 := by omega
  rcases hm with rfl | rfl | rfl | rfl
  · exact zcs_23 h b τ
  · exact zcs_24 h b τ
  · exact zcs_25 h b τ
  · exact zcs_26 h b τ
theorem zow_s {i : Int} (hi : i = 0 ∨ i = 1 ∨ i = 5 ∨ i = 6 ∨ i = 7) : zow i = 0 := by
  rcases hi with rfl | rfl | rfl | rfl | rfl <;> rfl
theorem zow_mir {m c : Int} (h0 : 0 ≤ m) (h4 : m < 4) (c0 : 0 ≤ c) (c6 : c < 6) : zow (10 + 6 * m + c) = 23 + m.toNat := by
  unfold zow
  rw [if_neg (by omega), if_neg (by omega), if_pos (by omega)]
  omega
theorem zow_sh {p w : Int} (h0 : 0 ≤ p) (h5 : p < 5) (w0 : 0 ≤ w) (w7 : w < 7) : zow (40 + 9 * p + w) = 11 := by
  unfold zow
  rw [if_neg (by omega), if_neg (by omega), if_neg (by omega), if_neg (by omega), if_pos (by omega), if_pos (by omega)]
theorem zow_3 {j : Int} (h0 : 0 ≤ j) (hn : j < 10) : zow (90 + 3 * j) = 3 := by
  unfold zow
  rw [if_neg (by omega), if_neg (by omega), if_neg (by omega), if_neg (by omega), if_neg (by omega), if_neg (by omega), if_pos (by omega)]
  omega
theorem zow_4 {j : Int} (h0 : 0 ≤ j) (hn : j < 10) : zow (90 + 3 * j + 1) = 4 := by
  unfold zow
  rw [if_neg (by omega), if_neg (by omega), if_neg (by omega), if_neg (by omega), if_neg (by omega), if_neg (by omega), if_pos (by omega)]
  omega
theorem zow_5 {j : Int} (h0 : 0 ≤ j) (hn : j < 10) : zow (90 + 3 * j + 2) = 5 := by
  unfold zow
  rw [if_neg (by omega), if_neg (by omega), if_neg (by omega), if_neg (by omega), if_neg (by omega), if_neg (by omega), if_pos (by omega)]
  omega
theorem zow_7 {j : Int} (h0 : 0 ≤ j) (hn : j < 10) : zow (120 + 3 * j) = 7 := by
  unfold zow
  rw [if_neg (by omega), if_neg (by omega), if_neg (by omega), if_neg (by omega), if_neg (by omega), if_neg (by omega), if_neg (by omega), if_pos (by omega)]
  omega
theorem zow_8 {j : Int} (h0 : 0 ≤ j) (hn : j < 10) : zow (120 + 3 * j + 1) = 8 := by
  unfold zow
  rw [if_neg (by omega), if_neg (by omega), if_neg (by omega), if_neg (by omega), if_neg (by omega), if_neg (by omega), if_neg (by omega), if_pos (by omega)]
  omega
theorem zow_9 {j : Int} (h0 : 0 ≤ j) (hn : j < 10) : zow (120 + 3 * j + 2) = 9 := by
  unfold zow
  rw [if_neg (by omega), if_neg (by omega), if_neg (by omega), if_neg (by omega), if_neg (by omega), if_neg (by omega), if_neg (by omega), if_pos (by omega)]
  omega
theorem zow_12 {j : Int} (h0 : 0 ≤ j) (hn : j < 5) : zow (40 + 9 * j + 7) = 12 := by
  unfold zow
  rw [if_neg (by omega), if_neg (by omega), if_neg (by omega), if_neg (by omega), if_pos (by omega), if_neg (by omega), if_pos (by omega)]
theorem zow_13 {j : Int} (h0 : 0 ≤ j) (hn : j < 5) : zow (40 + 9 * j + 8) = 13 := by
  unfold zow
  rw [if_neg (by omega), if_neg (by omega), if_neg (by omega), if_neg (by omega), if_pos (by omega), if_neg (by omega), if_neg (by omega)]
theorem zow_15 {j : Int} (h0 : 0 ≤ j) (hn : j < 12) : zow (150 + 3 * j) = 15 := by
  unfold zow
  rw [if_neg (by omega), if_neg (by omega), if_neg (by omega), if_neg (by omega), if_neg (by omega), if_neg (by omega), if_neg (by omega), if_neg (by omega), if_pos (by omega)]
  omega
theorem zow_16 {j : Int} (h0 : 0 ≤ j) (hn : j < 12) : zow (150 + 3 * j + 1) = 16 := by
  unfold zow
  rw [if_neg (by omega), if_neg (by omega), if_neg (by omega), if_neg (by omega), if_neg (by omega), if_neg (by omega), if_neg (by omega), if_neg (by omega), if_pos (by omega)]
  omega
theorem zow_17 {j : Int} (h0 : 0 ≤ j) (hn : j < 12) : zow (150 + 3 * j + 2) = 17 := by
  unfold zow
  rw [if_neg (by omega), if_neg (by omega), if_neg (by omega), if_neg (by omega), if_neg (by omega), if_neg (by omega), if_neg (by omega), if_neg (by omega), if_pos (by omega)]
  omega
theorem zow_19 {j : Int} (h0 : 0 ≤ j) (hn : j < 12) : zow (190 + 4 * j) = 19 := by
  unfold zow
  rw [if_neg (by omega), if_neg (by omega), if_neg (by omega), if_neg (by omega), if_neg (by omega), if_neg (by omega), if_neg (by omega), if_neg (by omega), if_neg (by omega), if_neg (by omega), if_pos (by omega)]
  omega
theorem zow_20 {j : Int} (h0 : 0 ≤ j) (hn : j < 12) : zow (190 + 4 * j + 1) = 20 := by
  unfold zow
  rw [if_neg (by omega), if_neg (by omega), if_neg (by omega), if_neg (by omega), if_neg (by omega), if_neg (by omega), if_neg (by omega), if_neg (by omega), if_neg (by omega), if_neg (by omega), if_pos (by omega)]
  omega
theorem zow_21 {j : Int} (h0 : 0 ≤ j) (hn : j < 12) : zow (190 + 4 * j + 2) = 21 := by
  unfold zow
  rw [if_neg (by omega), if_neg (by omega), if_neg (by omega), if_neg (by omega), if_neg (by omega), if_neg (by omega), if_neg (by omega), if_neg (by omega), if_neg (by omega), if_neg (by omega), if_pos (by omega)]
  omega
theorem zow_22 {j : Int} (h0 : 0 ≤ j) (hn : j < 12) : zow (190 + 4 * j + 3) = 22 := by
  unfold zow
  rw [if_neg (by omega), if_neg (by omega), if_neg (by omega), if_neg (by omega), if_neg (by omega), if_neg (by omega), if_neg (by omega), if_neg (by omega), if_neg (by omega), if_neg (by omega), if_pos (by omega)]
  omega
theorem zbk_ext {b : Nat} {τ τ2 : Int → Int} : ∀ k : Nat, k < 27 → (∀ i, zow i = k → τ2 i = τ i) → zbk b τ2 k = zbk b τ k
  | 0, hk, e => by
    show zsob b τ2 = zsob b τ
    unfold zsob
    rw [e 0 rfl, e 1 rfl, e 5 rfl, e 6 rfl, e 7 rfl]
  | 1, hk, e => rfl
  | 2, hk, e => by
    show zpob (b + 3) (b + 4) (b + 5) 20 (τ2 8) = zpob (b + 3) (b + 4) (b + 5) 20 (τ 8)
    rw [e 8 rfl]
  | 3, hk, e => zvc_ext fun j h0 hn => e _ (show zow (90 + 3 * j) = 3 by rw [show 90 + 3 * j = 90 + 3 * j by omega]; exact zow_3 h0 (by omega))
  | 4, hk, e => zvc_ext fun j h0 hn => e _ (show zow (91 + 3 * j) = 4 by rw [show 91 + 3 * j = 90 + 3 * j + 1 by omega]; exact zow_4 h0 (by omega))
  | 5, hk, e => zvc_ext fun j h0 hn => e _ (show zow (92 + 3 * j) = 5 by rw [show 92 + 3 * j = 90 + 3 * j + 2 by omega]; exact zow_5 h0 (by omega))
  | 6, hk, e => by
    show zpob (b + 7) (b + 8) (b + 9) 15 (τ2 9) = zpob (b + 7) (b + 8) (b + 9) 15 (τ 9)
    rw [e 9 rfl]
  | 7, hk, e => zvc_ext fun j h0 hn => e _ (show zow (120 + 3 * j) = 7 by rw [show 120 + 3 * j = 120 + 3 * j by omega]; exact zow_7 h0 (by omega))
  | 8, hk, e => zvc_ext fun j h0 hn => e _ (show zow (121 + 3 * j) = 8 by rw [show 121 + 3 * j = 120 + 3 * j + 1 by omega]; exact zow_8 h0 (by omega))
  | 9, hk, e => zvc_ext fun j h0 hn => e _ (show zow (122 + 3 * j) = 9 by rw [show 122 + 3 * j = 120 + 3 * j + 2 by omega]; exact zow_9 h0 (by omega))
  | 10, hk, e => by
    show zcob (b + 11) (b + 12) (b + 13) (τ2 2) = zcob (b + 11) (b + 12) (b + 13) (τ 2)
    rw [e 2 rfl]
  | 11, hk, e => zvc_ext fun j h0 hn => e (40 + 9 * (j / 7) + j % 7) (zow_sh (p := j / 7) (w := j % 7) (by omega) (by omega) (by omega) (by omega))
  | 12, hk, e => zvc_ext fun j h0 hn => congrArg nv (e _ (show zow (47 + 9 * j) = 12 by rw [show 47 + 9 * j = 40 + 9 * j + 7 by omega]; exact zow_12 h0 (by omega)))
  | 13, hk, e => zvc_ext fun j h0 hn => e _ (show zow (48 + 9 * j) = 13 by rw [show 48 + 9 * j = 40 + 9 * j + 8 by omega]; exact zow_13 h0 (by omega))
  | 14, hk, e => by
    show zlob (b + 15) (b + 16) (b + 17) (τ2 3) = zlob (b + 15) (b + 16) (b + 17) (τ 3)
    rw [e 3 rfl]
  | 15, hk, e => zvc_ext fun j h0 hn => e _ (show zow (150 + 3 * j) = 15 by rw [show 150 + 3 * j = 150 + 3 * j by omega]; exact zow_15 h0 (by omega))
  | 16, hk, e => zvc_ext fun j h0 hn => e _ (show zow (151 + 3 * j) = 16 by rw [show 151 + 3 * j = 150 + 3 * j + 1 by omega]; exact zow_16 h0 (by omega))
  | 17, hk, e => zvc_ext fun j h0 hn => e _ (show zow (152 + 3 * j) = 17 by rw [show 152 + 3 * j = 150 + 3 * j + 2 by omega]; exact zow_17 h0 (by omega))
  | 18, hk, e => by
    show zgob (b + 19) (b + 20) (b + 21) (b + 22) (τ2 4) = zgob (b + 19) (b + 20) (b + 21) (b + 22) (τ 4)
    rw [e 4 rfl]
  | 19, hk, e => zvc_ext fun j h0 hn => e _ (show zow (190 + 4 * j) = 19 by rw [show 190 + 4 * j = 190 + 4 * j by omega]; exact zow_19 h0 (by omega))
  | 20, hk, e => zvc_ext fun j h0 hn => e _ (show zow (191 + 4 * j) = 20 by rw [show 191 + 4 * j = 190 + 4 * j + 1 by omega]; exact zow_20 h0 (by omega))
  | 21, hk, e => zvc_ext fun j h0 hn => e _ (show zow (192 + 4 * j) = 21 by rw [show 192 + 4 * j = 190 + 4 * j + 2 by omega]; exact zow_21 h0 (by omega))
  | 22, hk, e => zvc_ext fun j h0 hn => e _ (show zow (193 + 4 * j) = 22 by rw [show 193 + 4 * j = 190 + 4 * j + 3 by omega]; exact zow_22 h0 (by omega))
  | 23, hk, e => zmir_ext fun c h0 hn => e (10 + 1 * c) (by rw [show (10 : Int) + 1 * c = 10 + 6 * 0 + c by omega, zow_mir (by omega) (by omega) h0 hn]; rfl)
  | 24, hk, e => zmir_ext fun c h0 hn => e (16 + 1 * c) (by rw [show (16 : Int) + 1 * c = 10 + 6 * 1 + c by omega, zow_mir (by omega) (by omega) h0 hn]; rfl)
  | 25, hk, e => zmir_ext fun c h0 hn => e (22 + 1 * c) (by rw [show (22 : Int) + 1 * c = 10 + 6 * 2 + c by omega, zow_mir (by omega) (by omega) h0 hn]; rfl)
  | 26, hk, e => zmir_ext fun c h0 hn => e (28 + 1 * c) (by rw [show (28 : Int) + 1 * c = 10 + 6 * 3 + c by omega, zow_mir (by omega) (by omega) h0 hn]; rfl)
  | k + 27, hk, e => absurd hk (by omega)
theorem zcs_ext {h : zH} {b : Nat} {τ τ2 : Int → Int} (e : ∀ i, 0 ≤ i → i < 240 → τ2 i = τ i) : zcs h b τ2 = zcs h b τ := by
  funext x
  unfold zcs
  by_cases hx : b ≤ x ∧ x < b + 27
  · rw [if_pos hx, if_pos hx]
    refine zbk_ext _ (by omega) fun i hi => ?_
    by_cases c : 0 ≤ i ∧ i < 240
    · exact e i c.1 c.2
    · have : zow i = 27 := by
        unfold zow
        by_cases c0 : i < 0
        · rw [if_pos c0]
        · rw [if_neg (by omega), if_neg (by omega), if_neg (by omega), if_neg (by omega), if_neg (by omega), if_neg (by omega), if_neg (by omega), if_neg (by omega), if_neg (by omega), if_neg (by omega), if_neg (by omega)]
      omega
  · rw [if_neg hx, if_neg hx]
theorem zcs_put {h : zH} {b j : Nat} {τ τ2 : Int → Int} (hj : j < 27) (ho : ∀ i, zow i ≠ j → τ2 i = τ i) : zup (zcs h b τ) (b + j) (zbk b τ2 j) = zcs h b τ2 := by
  funext x
  by_cases hx : x = b + j
  · rw [hx, zup_self]
    unfold zcs
    rw [if_pos (by omega), Nat.add_sub_cancel_left]
  · rw [zup_ne hx]
    unfold zcs
    by_cases hb : b ≤ x ∧ x < b + 27
    · rw [if_pos hb, if_pos hb]
      exact (zbk_ext _ (by omega) fun i hi => ho i (by omega)).symm
    · rw [if_neg hb, if_neg hb]
theorem zcs_set {h : zH} {b j : Nat} {τ : Int → Int} {i x : Int} {c : va_E} (hj : j < 27) (hi : zow i = j) (hc : c = zbk b (zset τ i x) j) : zup (zcs h b τ) (b + j) c = zcs h b (zset τ i x) := by
  rw [hc]
  refine zcs_put hj fun q hq => ?_
  rw [zset_ap, if_neg (fun e => hq (by rw [e]; exact hi))]
/-- a row whose places of a cell are another's -/
def mx (k : Nat) (τ τ2 : Int → Int) : Int → Int := fun i => if zow i = k then τ2 i else τ i
theorem zcs_mx {h : zH} {b j : Nat} {τ τ2 : Int → Int} {c : va_E} (hj : j < 27) (hc : c = zbk b τ2 j) : zup (zcs h b τ) (b + j) c = zcs h b (mx j τ τ2) := by
  have : c = zbk b (mx j τ τ2) j := by
    rw [hc]
    exact (zbk_ext j hj fun i hi => if_pos hi).symm
  rw [this]
  exact zcs_put hj fun i hi => if_neg hi
theorem zcw_3 {h : zH} {b : Nat} {τ : Int → Int} {i x : Int} (h0 : 0 ≤ i) (hn : i < 10) : zup (zcs h b τ) (b + 3) (zvc 0 10 (zset (vw τ 90 3) i x)) = zcs h b (zset τ (90 + 3 * i) x) := by
  refine zcs_set (by omega) (zow_3 h0 hn) (zvc_ext fun j a b => ?_)
  simp only [zset, vw]
  by_cases c : j = i
  · rw [if_pos c, if_pos (by omega)]
  · rw [if_neg c, if_neg (by omega)]
theorem vr_3 {τ : Int → Int} {i : Int} : vw τ 90 3 i = τ (90 + 3 * i) := congrArg τ (by omega)
theorem zcy_3 {h : zH} {b : Nat} {τ τ2 : Int → Int} : zup (zcs h b τ) (b + 3) (zvc 0 10 (vw τ2 90 3)) = zcs h b (mx 3 τ τ2) := zcs_mx (by omega) rfl
theorem zcw_4 {h : zH} {b : Nat} {τ : Int → Int} {i x : Int} (h0 : 0 ≤ i) (hn : i < 10) : zup (zcs h b τ) (b + 4) (zvc 0 10 (zset (vw τ 91 3) i x)) = zcs h b (zset τ (90 + 3 * i + 1) x) := by
  refine zcs_set (by omega) (zow_4 h0 hn) (zvc_ext fun j a b => ?_)
  simp only [zset, vw]
  by_cases c : j = i
  · rw [if_pos c, if_pos (by omega)]
  · rw [if_neg c, if_neg (by omega)]
theorem vr_4 {τ : Int → Int} {i : Int} : vw τ 91 3 i = τ (90 + 3 * i + 1) := congrArg τ (by omega)
theorem zcy_4 {h : zH} {b : Nat} {τ τ2 : Int → Int} : zup (zcs h b τ) (b + 4) (zvc 0 10 (vw τ2 91 3)) = zcs h b (mx 4 τ τ2) := zcs_mx (by omega) rfl
theorem zcw_5 {h : zH} {b : Nat} {τ : Int → Int} {i x : Int} (h0 : 0 ≤ i) (hn : i < 10) : zup (zcs h b τ) (b + 5) (zvc 0 10 (zset (vw τ 92 3) i x)) = zcs h b (zset τ (90 + 3 * i + 2) x) := by
  refine zcs_set (by omega) (zow_5 h0 hn) (zvc_ext fun j a b => ?_)
  simp only [zset, vw]
  by_cases c : j = i
  · rw [if_pos c, if_pos (by omega)]
  · rw [if_neg c, if_neg (by omega)]
theorem vr_5 {τ : Int → Int} {i : Int} : vw τ 92 3 i = τ (90 + 3 * i + 2) := congrArg τ (by omega)
theorem zcy_5 {h : zH} {b : Nat} {τ τ2 : Int → Int} : zup (zcs h b τ) (b + 5) (zvc 0 10 (vw τ2 92 3)) = zcs h b (mx 5 τ τ2) := zcs_mx (by omega) rfl
theorem zcw_7 {h : zH} {b : Nat} {τ : Int → Int} {i x : Int} (h0 : 0 ≤ i) (hn : i < 10) : zup (zcs h b τ) (b + 7) (zvc 0 10 (zset (vw τ 120 3) i x)) = zcs h b (zset τ (120 + 3 * i) x) := by
  refine zcs_set (by omega) (zow_7 h0 hn) (zvc_ext fun j a b => ?_)
  simp only [zset, vw]
  by_cases c : j = i
  · rw [if_pos c, if_pos (by omega)]
  · rw [if_neg c, if_neg (by omega)]
theorem vr_7 {τ : Int → Int} {i : Int} : vw τ 120 3 i = τ (120 + 3 * i) := congrArg τ (by omega)
theorem zcy_7 {h : zH} {b : Nat} {τ τ2 : Int → Int} : zup (zcs h b τ) (b + 7) (zvc 0 10 (vw τ2 120 3)) = zcs h b (mx 7 τ τ2) := zcs_mx (by omega) rfl
theorem zcw_8 {h : zH} {b : Nat} {τ : Int → Int} {i x : Int} (h0 : 0 ≤ i) (hn : i < 10) : zup (zcs h b τ) (b + 8) (zvc 0 10 (zset (vw τ 121 3) i x)) = zcs h b (zset τ (120 + 3 * i + 1) x) := by
  refine zcs_set (by omega) (zow_8 h0 hn) (zvc_ext fun j a b => ?_)
  simp only [zset, vw]
  by_cases c : j = i
  · rw [if_pos c, if_pos (by omega)]
  · rw [if_neg c, if_neg (by omega)]
theorem vr_8 {τ : Int → Int} {i : Int} : vw τ 121 3 i = τ (120 + 3 * i + 1) := congrArg τ (by omega)
theorem zcy_8 {h : zH} {b : Nat} {τ τ2 : Int → Int} : zup (zcs h b τ) (b + 8) (zvc 0 10 (vw τ2 121 3)) = zcs h b (mx 8 τ τ2) := zcs_mx (by omega) rfl
theorem zcw_9 {h : zH} {b : Nat} {τ : Int → Int} {i x : Int} (h0 : 0 ≤ i) (hn : i < 10) : zup (zcs h b τ) (b + 9) (zvc 0 10 (zset (vw τ 122 3) i x)) = zcs h b (zset τ (120 + 3 * i + 2) x) := by
  refine zcs_set (by omega) (zow_9 h0 hn) (zvc_ext fun j a b => ?_)
  simp only [zset, vw]
  by_cases c : j = i
  · rw [if_pos c, if_pos (by omega)]
  · rw [if_neg c, if_neg (by omega)]
theorem vr_9 {τ : Int → Int} {i : Int} : vw τ 122 3 i = τ (120 + 3 * i + 2) := congrArg τ (by omega)
theorem zcy_9 {h : zH} {b : Nat} {τ τ2 : Int → Int} : zup (zcs h b τ) (b + 9) (zvc 0 10 (vw τ2 122 3)) = zcs h b (mx 9 τ τ2) := zcs_mx (by omega) rfl
theorem zcw_13 {h : zH} {b : Nat} {τ : Int → Int} {i x : Int} (h0 : 0 ≤ i) (hn : i < 5) : zup (zcs h b τ) (b + 13) (zvc 0 5 (zset (vw τ 48 9) i x)) = zcs h b (zset τ (40 + 9 * i + 8) x) := by
  refine zcs_set (by omega) (zow_13 h0 hn) (zvc_ext fun j a b => ?_)
  simp only [zset, vw]
  by_cases c : j = i
  · rw [if_pos c, if_pos (by omega)]
  · rw [if_neg c, if_neg (by omega)]
theorem vr_13 {τ : Int → Int} {i : Int} : vw τ 48 9 i = τ (40 + 9 * i + 8) := congrArg τ (by omega)
theorem zcy_13 {h : zH} {b : Nat} {τ τ2 : Int → Int} : zup (zcs h b τ) (b + 13) (zvc 0 5 (vw τ2 48 9)) = zcs h b (mx 13 τ τ2) := zcs_mx (by omega) rfl
theorem zcw_15 {h : zH} {b : Nat} {τ : Int → Int} {i x : Int} (h0 : 0 ≤ i) (hn : i < 12) : zup (zcs h b τ) (b + 15) (zvc 0 12 (zset (vw τ 150 3) i x)) = zcs h b (zset τ (150 + 3 * i) x) := by
  refine zcs_set (by omega) (zow_15 h0 hn) (zvc_ext fun j a b => ?_)
  simp only [zset, vw]
  by_cases c : j = i
  · rw [if_pos c, if_pos (by omega)]
  · rw [if_neg c, if_neg (by omega)]
theorem vr_15 {τ : Int → Int} {i : Int} : vw τ 150 3 i = τ (150 + 3 * i) := congrArg τ (by omega)
theorem zcy_15 {h : zH} {b : Nat} {τ τ2 : Int → Int} : zup (zcs h b τ) (b + 15) (zvc 0 12 (vw τ2 150 3)) = zcs h b (mx 15 τ τ2) := zcs_mx (by omega) rfl
theorem zcw_16 {h : zH} {b : Nat} {τ : Int → Int} {i x : Int} (h0 : 0 ≤ i) (hn : i < 12) : zup (zcs h b τ) (b + 16) (zvc 0 12 (zset (vw τ 151 3) i x)) = zcs h b (zset τ (150 + 3 * i + 1) x) := by
  refine zcs_set (by omega) (zow_16 h0 hn) (zvc_ext fun j a b => ?_)
  simp only [zset, vw]
  by_cases c : j = i
  · rw [if_pos c, if_pos (by omega)]
  · rw [if_neg c, if_neg (by omega)]
theorem vr_16 {τ : Int → Int} {i : Int} : vw τ 151 3 i = τ (150 + 3 * i + 1) := congrArg τ (by omega)
theorem zcy_16 {h : zH} {b : Nat} {τ τ2 : Int → Int} : zup (zcs h b τ) (b + 16) (zvc 0 12 (vw τ2 151 3)) = zcs h b (mx 16 τ τ2) := zcs_mx (by omega) rfl
theorem zcw_17 {h : zH} {b : Nat} {τ : Int → Int} {i x : Int} (h0 : 0 ≤ i) (hn : i < 12) : zup (zcs h b τ) (b + 17) (zvc 0 12 (zset (vw τ 152 3) i x)) = zcs h b (zset τ (150 + 3 * i + 2) x) := by
  refine zcs_set (by omega) (zow_17 h0 hn) (zvc_ext fun j a b => ?_)
  simp only [zset, vw]
  by_cases c : j = i
  · rw [if_pos c, if_pos (by omega)]
  · rw [if_neg c, if_neg (by omega)]
theorem vr_17 {τ : Int → Int} {i : Int} : vw τ 152 3 i = τ (150 + 3 * i + 2) := congrArg τ (by omega)
theorem zcy_17 {h : zH} {b : Nat} {τ τ2 : Int → Int} : zup (zcs h b τ) (b + 17) (zvc 0 12 (vw τ2 152 3)) = zcs h b (mx 17 τ τ2) := zcs_mx (by omega) rfl
theorem zcw_19 {h : zH} {b : Nat} {τ : Int → Int} {i x : Int} (h0 : 0 ≤ i) (hn : i < 12) : zup (zcs h b τ) (b + 19) (zvc 0 12 (zset (vw τ 190 4) i x)) = zcs h b (zset τ (190 + 4 * i) x) := by
  refine zcs_set (by omega) (zow_19 h0 hn) (zvc_ext fun j a b => ?_)
  simp only [zset, vw]
  by_cases c : j = i
  · rw [if_pos c, if_pos (by omega)]
  · rw [if_neg c, if_neg (by omega)]
theorem vr_19 {τ : Int → Int} {i : Int} : vw τ 190 4 i = τ (190 + 4 * i) := congrArg τ (by omega)
theorem zcy_19 {h : zH} {b : Nat} {τ τ2 : Int → Int} : zup (zcs h b τ) (b + 19) (zvc 0 12 (vw τ2 190 4)) = zcs h b (mx 19 τ τ2) := zcs_mx (by omega) rfl
theorem zcw_20 {h : zH} {b : Nat} {τ : Int → Int} {i x : Int} (h0 : 0 ≤ i) (hn : i < 12) : zup (zcs h b τ) (b + 20) (zvc 0 12 (zset (vw τ 191 4) i x)) = zcs h b (zset τ (190 + 4 * i + 1) x) := by
  refine zcs_set (by omega) (zow_20 h0 hn) (zvc_ext fun j a b => ?_)
  simp only [zset, vw]
  by_cases c : j = i
  · rw [if_pos c, if_pos (by omega)]
  · rw [if_neg c, if_neg (by omega)]
theorem vr_20 {τ : Int → Int} {i : Int} : vw τ 191 4 i = τ (190 + 4 * i + 1) := congrArg τ (by omega)
theorem zcy_20 {h : zH} {b : Nat} {τ τ2 : Int → Int} : zup (zcs h b τ) (b + 20) (zvc 0 12 (vw τ2 191 4)) = zcs h b (mx 20 τ τ2) := zcs_mx (by omega) rfl
theorem zcw_21 {h : zH} {b : Nat} {τ : Int → Int} {i x : Int} (h0 : 0 ≤ i) (hn : i < 12) : zup (zcs h b τ) (b + 21) (zvc 0 12 (zset (vw τ 192 4) i x)) = zcs h b (zset τ (190 + 4 * i + 2) x) := by
  refine zcs_set (by omega) (zow_21 h0 hn) (zvc_ext fun j a b => ?_)
  simp only [zset, vw]
  by_cases c : j = i
  · rw [if_pos c, if_pos (by omega)]
  · rw [if_neg c, if_neg (by omega)]
theorem vr_21 {τ : Int → Int} {i : Int} : vw τ 192 4 i = τ (190 + 4 * i + 2) := congrArg τ (by omega)
theorem zcy_21 {h : zH} {b : Nat} {τ τ2 : Int → Int} : zup (zcs h b τ) (b + 21) (zvc 0 12 (vw τ2 192 4)) = zcs h b (mx 21 τ τ2) := zcs_mx (by omega) rfl
theorem zcw_22 {h : zH} {b : Nat} {τ : Int → Int} {i x : Int} (h0 : 0 ≤ i) (hn : i < 12) : zup (zcs h b τ) (b + 22) (zvc 0 12 (zset (vw τ 193 4) i x)) = zcs h b (zset τ (190 + 4 * i + 3) x) := by
  refine zcs_set (by omega) (zow_22 h0 hn) (zvc_ext fun j a b => ?_)
  simp only [zset, vw]
  by_cases c : j = i
  · rw [if_pos c, if_pos (by omega)]
  · rw [if_neg c, if_neg (by omega)]
theorem vr_22 {τ : Int → Int} {i : Int} : vw τ 193 4 i = τ (190 + 4 * i + 3) := congrArg τ (by omega)
theorem zcy_22 {h : zH} {b : Nat} {τ τ2 : Int → Int} : zup (zcs h b τ) (b + 22) (zvc 0 12 (vw τ2 193 4)) = zcs h b (mx 22 τ τ2) := zcs_mx (by omega) rfl
theorem vr_12 {τ : Int → Int} {i : Int} : vof τ i = nv (τ (40 + 9 * i + 7)) := congrArg (fun x => nv (τ x)) (show 47 + 9 * i = 40 + 9 * i + 7 by omega)
theorem zcw_11 {h : zH} {b : Nat} {τ : Int → Int} {p w x : Int} (h0 : 0 ≤ p) (hn : p < 5) (w0 : 0 ≤ w) (w7 : w < 7) : zup (zcs h b τ) (b + 11) (zvc 0 35 (zset (vsh τ) (p * 7 + w) x)) = zcs h b (zset τ (40 + 9 * p + w) x) := by
  refine zcs_set (by omega) (zow_sh h0 hn w0 w7) (zvc_ext fun j a b => ?_)
  simp only [zset, vsh]
  by_cases c : j = p * 7 + w
  · rw [if_pos c, if_pos (by omega)]
  · rw [if_neg c, if_neg (by omega)]
theorem vsh_ap {τ : Int → Int} {p w : Int} (w0 : 0 ≤ w) (w7 : w < 7) : vsh τ (p * 7 + w) = τ (40 + 9 * p + w) := by
  unfold vsh
  congr 1
  omega
theorem zcy_11 {h : zH} {b : Nat} {τ τ2 : Int → Int} : zup (zcs h b τ) (b + 11) (zvc 0 35 (vsh τ2)) = zcs h b (mx 11 τ τ2) := zcs_mx (by omega) rfl
theorem zcy_12 {h : zH} {b : Nat} {τ τ2 : Int → Int} : zup (zcs h b τ) (b + 12) (zvc 0 5 (vof τ2)) = zcs h b (mx 12 τ τ2) := zcs_mx (by omega) rfl
theorem zcw_12 {h : zH} {b : Nat} {τ : Int → Int} {i x : Int} (h0 : 0 ≤ i) (hn : i < 5) (hx : x ≠ -1) : zup (zcs h b τ) (b + 12) (zvc 0 5 (zset (vof τ) i x)) = zcs h b (zset τ (40 + 9 * i + 7) x) := by
  refine zcs_set (by omega) (zow_12 h0 hn) (zvc_ext fun j a b => ?_)
  simp only [zset, vof]
  by_cases c : j = i
  · rw [if_pos c, if_pos (by omega), nv, if_neg hx]
  · rw [if_neg c, if_neg (by omega)]
theorem zcw_12n {h : zH} {b : Nat} {τ : Int → Int} {i : Int} (h0 : 0 ≤ i) (hn : i < 5) : zup (zcs h b τ) (b + 12) (zvc 0 5 (zset (vof τ) i 10000)) = zcs h b (zset τ (40 + 9 * i + 7) (-1)) := by
  refine zcs_set (by omega) (zow_12 h0 hn) (zvc_ext fun j a b => ?_)
  simp only [zset, vof]
  by_cases c : j = i
  · rw [if_pos c, if_pos (by omega), nv, if_pos rfl]
  · rw [if_neg c, if_neg (by omega)]
theorem zcw_2 {h : zH} {b : Nat} {τ : Int → Int} {x : Int} : zup (zcs h b τ) (b + 2) (zpob (b + 3) (b + 4) (b + 5) 20 x) = zcs h b (zset τ 8 x) := zcs_set (by omega) rfl rfl
theorem zcw_6 {h : zH} {b : Nat} {τ : Int → Int} {x : Int} : zup (zcs h b τ) (b + 6) (zpob (b + 7) (b + 8) (b + 9) 15 x) = zcs h b (zset τ 9 x) := zcs_set (by omega) rfl rfl
theorem zcw_10 {h : zH} {b : Nat} {τ : Int → Int} {x : Int} : zup (zcs h b τ) (b + 10) (zcob (b + 11) (b + 12) (b + 13) x) = zcs h b (zset τ 2 x) := zcs_set (by omega) rfl rfl
theorem zcw_14 {h : zH} {b : Nat} {τ : Int → Int} {x : Int} : zup (zcs h b τ) (b + 14) (zlob (b + 15) (b + 16) (b + 17) x) = zcs h b (zset τ 3 x) := zcs_set (by omega) rfl rfl
theorem zcw_18 {h : zH} {b : Nat} {τ : Int → Int} {x : Int} : zup (zcs h b τ) (b + 18) (zgob (b + 19) (b + 20) (b + 21) (b + 22) x) = zcs h b (zset τ 4 x) := zcs_set (by omega) rfl rfl
theorem zcw_s0 {h : zH} {b : Nat} {τ : Int → Int} {x : Int} : zup (zcs h b τ) b (zsob b (zset τ 0 x)) = zcs h b (zset τ 0 x) := zcs_set (j := 0) (by omega) rfl rfl
theorem zcw_s1 {h : zH} {b : Nat} {τ : Int → Int} {x : Int} : zup (zcs h b τ) b (zsob b (zset τ 1 x)) = zcs h b (zset τ 1 x) := zcs_set (j := 0) (by omega) rfl rfl
theorem zcw_s5 {h : zH} {b : Nat} {τ : Int → Int} {x : Int} : zup (zcs h b τ) b (zsob b (zset τ 5 x)) = zcs h b (zset τ 5 x) := zcs_set (j := 0) (by omega) rfl rfl
theorem zcw_s6 {h : zH} {b : Nat} {τ : Int → Int} {x : Int} : zup (zcs h b τ) b (zsob b (zset τ 6 x)) = zcs h b (zset τ 6 x) := zcs_set (j := 0) (by omega) rfl rfl
theorem zcw_s7 {h : zH} {b : Nat} {τ : Int → Int} {x : Int} : zup (zcs h b τ) b (zsob b (zset τ 7 x)) = zcs h b (zset τ 7 x) := zcs_set (j := 0) (by omega) rfl rfl
theorem zsk_s (b : Nat) (τ : Int → Int) : zisC (zsob b τ) 9 = true := rfl
theorem zsg_0 (b : Nat) (τ : Int → Int) : zget 9 0 (zsob b τ) = some (.ref (b + 1)) := rfl
theorem zsg_1 (b : Nat) (τ : Int → Int) : zget 9 1 (zsob b τ) = some (.ref (b + 2)) := rfl
theorem zsg_2 (b : Nat) (τ : Int → Int) : zget 9 2 (zsob b τ) = some (.ref (b + 6)) := rfl
theorem zsg_3 (b : Nat) (τ : Int → Int) : zget 9 3 (zsob b τ) = some (.ref (b + 10)) := rfl
theorem zsg_4 (b : Nat) (τ : Int → Int) : zget 9 4 (zsob b τ) = some (.ref (b + 14)) := rfl
theorem zsg_5 (b : Nat) (τ : Int → Int) : zget 9 5 (zsob b τ) = some (.ref (b + 18)) := rfl
theorem zsg_6 (b : Nat) (τ : Int → Int) : zget 9 6 (zsob b τ) = some (.int (zi (τ 1))) := rfl
theorem zss_6 (b : Nat) (τ : Int → Int) (x : Int) : zsetf 9 6 (.int (zi x)) (zsob b τ) = some (zsob b (zset τ 1 x)) := by simp [zsetf, zsob, zset]
theorem zsg_7 (b : Nat) (τ : Int → Int) : zget 9 7 (zsob b τ) = some (.int (zi (τ 0))) := rfl
theorem zss_7 (b : Nat) (τ : Int → Int) (x : Int) : zsetf 9 7 (.int (zi x)) (zsob b τ) = some (zsob b (zset τ 0 x)) := by simp [zsetf, zsob, zset]
theorem zsg_8 (b : Nat) (τ : Int → Int) : zget 9 8 (zsob b τ) = some (.int (zi (τ 5))) := rfl
theorem zss_8 (b : Nat) (τ : Int → Int) (x : Int) : zsetf 9 8 (.int (zi x)) (zsob b τ) = some (zsob b (zset τ 5 x)) := by simp [zsetf, zsob, zset]
theorem zsg_9 (b : Nat) (τ : Int → Int) : zget 9 9 (zsob b τ) = some (.int (zi (τ 6))) := rfl
theorem zss_9 (b : Nat) (τ : Int → Int) (x : Int) : zsetf 9 9 (.int (zi x)) (zsob b τ) = some (zsob b (zset τ 6 x)) := by simp [zsetf, zsob, zset]
theorem zsg_10 (b : Nat) (τ : Int → Int) : zget 9 10 (zsob b τ) = some (.int (zi (τ 7))) := rfl
theorem zss_10 (b : Nat) (τ : Int → Int) (x : Int) : zsetf 9 10 (.int (zi x)) (zsob b τ) = some (zsob b (zset τ 7 x)) := by simp [zsetf, zsob, zset]
theorem zpk_ (a1 a2 a3 : Nat) (u n : Int) : zisC (zpob a1 a2 a3 u n) 6 = true := rfl
theorem zpg_0 (a1 a2 a3 : Nat) (u n : Int) : zget 6 0 (zpob a1 a2 a3 u n) = some (.ref a1) := rfl
theorem zpg_1 (a1 a2 a3 : Nat) (u n : Int) : zget 6 1 (zpob a1 a2 a3 u n) = some (.ref a2) := rfl
theorem zpg_2 (a1 a2 a3 : Nat) (u n : Int) : zget 6 2 (zpob a1 a2 a3 u n) = some (.ref a3) := rfl
theorem zpg_3 (a1 a2 a3 : Nat) (u n : Int) : zget 6 3 (zpob a1 a2 a3 u n) = some (.int (zi u)) := rfl
theorem zpg_4 (a1 a2 a3 : Nat) (u n : Int) : zget 6 4 (zpob a1 a2 a3 u n) = some (.int (zi n)) := rfl
theorem zpp_4 (a1 a2 a3 : Nat) (u n : Int) (x : Int) : zsetf 6 4 (.int (zi x)) (zpob a1 a2 a3 u n) = some (zpob a1 a2 a3 u x) := by simp [zsetf, zpob]
theorem zck_ (a1 a2 a3 : Nat) (n : Int) : zisC (zcob a1 a2 a3 n) 0 = true := rfl
theorem zcg_0 (a1 a2 a3 : Nat) (n : Int) : zget 0 0 (zcob a1 a2 a3 n) = some (.ref a1) := rfl
theorem zcg_1 (a1 a2 a3 : Nat) (n : Int) : zget 0 1 (zcob a1 a2 a3 n) = some (.ref a2) := rfl
theorem zcg_2 (a1 a2 a3 : Nat) (n : Int) : zget 0 2 (zcob a1 a2 a3 n) = some (.ref a3) := rfl
theorem zcg_3 (a1 a2 a3 : Nat) (n : Int) : zget 0 3 (zcob a1 a2 a3 n) = some (.int (zi n)) := rfl
theorem zcp_3 (a1 a2 a3 : Nat) (n : Int) (x : Int) : zsetf 0 3 (.int (zi x)) (zcob a1 a2 a3 n) = some (zcob a1 a2 a3 x) := by simp [zsetf, zcob]
theorem zlk_ (a1 a2 a3 : Nat) (n : Int) : zisC (zlob a1 a2 a3 n) 7 = true := rfl
theorem zlg_0 (a1 a2 a3 : Nat) (n : Int) : zget 7 0 (zlob a1 a2 a3 n) = some (.ref a1) := rfl
theorem zlg_1 (a1 a2 a3 : Nat) (n : Int) : zget 7 1 (zlob a1 a2 a3 n) = some (.ref a2) := rfl
theorem zlg_2 (a1 a2 a3 : Nat) (n : Int) : zget 7 2 (zlob a1 a2 a3 n) = some (.ref a3) := rfl
theorem zlg_3 (a1 a2 a3 : Nat) (n : Int) : zget 7 3 (zlob a1 a2 a3 n) = some (.int (zi n)) := rfl
theorem zlp_3 (a1 a2 a3 : Nat) (n : Int) (x : Int) : zsetf 7 3 (.int (zi x)) (zlob a1 a2 a3 n) = some (zlob a1 a2 a3 x) := by simp [zsetf, zlob]
theorem zgk_ (a1 a2 a3 a4 : Nat) (n : Int) : zisC (zgob a1 a2 a3 a4 n) 3 = true := rfl
theorem zgg_0 (a1 a2 a3 a4 : Nat) (n : Int) : zget 3 0 (zgob a1 a2 a3 a4 n) = some (.ref a1) := rfl
theorem zgg_1 (a1 a2 a3 a4 : Nat) (n : Int) : zget 3 1 (zgob a1 a2 a3 a4 n) = some (.ref a2) := rfl
theorem zgg_2 (a1 a2 a3 a4 : Nat) (n : Int) : zget 3 2 (zgob a1 a2 a3 a4 n) = some (.ref a3) := rfl
theorem zgg_3 (a1 a2 a3 a4 : Nat) (n : Int) : zget 3 3 (zgob a1 a2 a3 a4 n) = some (.ref a4) := rfl
theorem zgg_4 (a1 a2 a3 a4 : Nat) (n : Int) : zget 3 4 (zgob a1 a2 a3 a4 n) = some (.int (zi n)) := rfl
theorem zgp_4 (a1 a2 a3 a4 : Nat) (n : Int) (x : Int) : zsetf 3 4 (.int (zi x)) (zgob a1 a2 a3 a4 n) = some (zgob a1 a2 a3 a4 x) := by simp [zsetf, zgob]
theorem zmk_m (f : Int → Int) : zisC (zmir f) 4 = true := rfl
theorem zmg_0 (f : Int → Int) : zget 4 0 (zmir f) = some (.int (zi (f 0))) := rfl
theorem zms_0 (f : Int → Int) (x : Int) : zsetf 4 0 (.int (zi x)) (zmir f) = some (zmir (zset f 0 x)) := by simp [zsetf, zmir, zset]
theorem zmg_1 (f : Int → Int) : zget 4 1 (zmir f) = some (.int (zi (f 1))) := rfl
theorem zms_1 (f : Int → Int) (x : Int) : zsetf 4 1 (.int (zi x)) (zmir f) = some (zmir (zset f 1 x)) := by simp [zsetf, zmir, zset]
theorem zmg_2 (f : Int → Int) : zget 4 2 (zmir f) = some (.int (zi (f 2))) := rfl
theorem zms_2 (f : Int → Int) (x : Int) : zsetf 4 2 (.int (zi x)) (zmir f) = some (zmir (zset f 2 x)) := by simp [zsetf, zmir, zset]
theorem zmg_3 (f : Int → Int) : zget 4 3 (zmir f) = some (.int (zi (f 3))) := rfl
theorem zms_3 (f : Int → Int) (x : Int) : zsetf 4 3 (.int (zi x)) (zmir f) = some (zmir (zset f 3 x)) := by simp [zsetf, zmir, zset]
theorem zmg_4 (f : Int → Int) : zget 4 4 (zmir f) = some (.int (zi (f 4))) := rfl
theorem zms_4 (f : Int → Int) (x : Int) : zsetf 4 4 (.int (zi x)) (zmir f) = some (zmir (zset f 4 x)) := by simp [zsetf, zmir, zset]
theorem zmg_5 (f : Int → Int) : zget 4 5 (zmir f) = some (.long (zl (f 5))) := rfl
theorem zms_5 (f : Int → Int) (x : Int) : zsetf 4 5 (.long (zl x)) (zmir f) = some (zmir (zset f 5 x)) := by simp [zsetf, zmir, zset]
theorem zald_vc {t : Nat} {f : Int → Int} {i : Int} {n : Nat} (h1 : 0 ≤ i) (h2 : i < n) (h3 : n < 2147483648) : zald t (zi i) (zvc t n f) = some (zi (f i)) := by
  have hc := zclampI h1 (show i < 2147483648 by omega)
  show (if (t = t ∨ (t = 0 ∧ t = 9)) ∧ zidx (zi i) n = true then some (if (zi i).toNatClampNeg < n then zi (f ((zi i).toNatClampNeg : Int)) else 0) else none) = _
  rw [if_pos ⟨Or.inl rfl, zidx_zi h1 h2 h3⟩, hc, if_pos (by omega)]
theorem zast_vc {f : Int → Int} {i x : Int} {n : Nat} (h1 : 0 ≤ i) (h2 : i < n) (h3 : n < 2147483648) : zast 0 (zi i) (zi x) (zvc 0 n f) = some (zvc 0 n (zset f i x)) := by
  have hc := zclampI h1 (show i < 2147483648 by omega)
  show (if 0 = 0 ∧ zidx (zi i) n = true then some ((.inl (0, n, .inl (upd (fun j => if j < n then zi (f (j : Int)) else 0) (zi i).toNatClampNeg (zi x)))) : va_E) else none) = _
  rw [if_pos ⟨rfl, zidx_zi h1 h2 h3⟩]
  unfold zvc
  congr 5
  funext j
  simp only [upd, zset]
  by_cases hj : j = (zi i).toNatClampNeg
  · rw [if_pos hj, if_pos (by omega), if_pos (by omega)]
  · rw [if_neg hj]
    by_cases hn : j < n
    · rw [if_pos hn, if_pos hn, if_neg (by omega)]
    · rw [if_neg hn, if_neg hn]
theorem zcpy_vc {f g : Int → Int} {k : Int} {n : Nat} (hk : k = n) (hn : n < 10000) : zcpy (zi 0) (zi 0) (zi k) (zvc 0 n f) (zvc 0 n g) = some (zvc 0 n f) := by
  subst hk
  obtain ⟨c1, c2, c3⟩ := zclampN hn
  have z0 : (zi 0).toInt = 0 := zi_toInt (by omega) (by omega)
  have zc : (zi 0).toNatClampNeg = 0 := by have := zclampI (i := 0) (by omega) (by omega); omega
  have en : (zi (n : Int)).toInt = n := zi_toInt (by omega) (by omega)
  show (if 0 = 0 ∧ 0 = 0 ∧ 0 ≤ (zi 0).toInt ∧ 0 ≤ (zi 0).toInt ∧ 0 ≤ (zi (n : Int)).toInt ∧ (zi 0).toInt + (zi (n : Int)).toInt ≤ n ∧ (zi 0).toInt + (zi (n : Int)).toInt ≤ n then some ((.inl (0, n, .inl (va_cpy (fun j => if j < n then zi (f (j : Int)) else 0) (fun j => if j < n then zi (g (j : Int)) else 0) (zi 0).toNatClampNeg (zi 0).toNatClampNeg (zi (n : Int)).toNatClampNeg))) : va_E) else none) = _
  refine (if_pos ⟨rfl, rfl, by omega, by omega, by omega, by omega, by omega⟩).trans ?_
  unfold zvc
  congr 5
  rw [zc, c3]
  funext j
  simp only [va_cpy]
  by_cases hj : j < n
  · simp [hj]
  · simp [hj]
theorem zldr_ra {t n a s : Nat} {i : Int} (ht : t = 4 ∨ t = 5) (h1 : 0 ≤ i) (h2 : i < n) (h3 : n < 2147483648) : zldr (zi i) (zra t n a s) = some (.ref (a + s * i.toNat)) := by
  have hc := zclampI h1 (show i < 2147483648 by omega)
  show (if (t = 4 ∨ t = 5) ∧ zidx (zi i) n = true then some (va_rf (if (zi i).toNatClampNeg < n then some (a + s * (zi i).toNatClampNeg) else none)) else none) = _
  rw [if_pos ⟨ht, zidx_zi h1 h2 h3⟩, if_pos (by omega), show (zi i).toNatClampNeg = i.toNat by omega]
  rfl
theorem zaln_vc {t n : Nat} {f : Int → Int} (ht : t < 6) : zaln (zvc t n f) = some (zi n) := by
  show (if t < 6 ∨ t = 9 then some (zi n) else none) = _
  rw [if_pos (Or.inl ht)]
