/-! THE CLASS: all its cells. Component 1 to 6 the ring's rows, 7 and 8 the snapshots' rows, 9 the object's numbers (0 reason 1 order 2 cause), 10 taken, 11 signs, 12 the order's numbers, 13 rates, 14 factors, 15 done kinds, 16 open, 17 18 19 the forecast's mirrors, 20 the history's numbers (0 next 1 size 2 paused), 21 the orders' (0 length 1 word 2 position 3 goes on), 22 the forecast's (0 nights) -/
def zpo (p : Nat) (ν : Int → Int) : va_E := .inr (10, [.ref (p + 1), .ref (p + 28), .ref (p + 192), .ref (p + 249), .ref (p + 252), .int (zi (ν 0)), .int (zi (ν 1)), .int (zi (ν 2))])
def zho (p : Nat) (ν : Int → Int) : va_E := .inr (2, [.ref (p + 29), .int (zi (ν 0)), .int (zi (ν 1)), .int (zi (ν 2))])
def zso (p : Nat) : va_E := .inr (8, [.ref (p + 193), .ref (p + 194)])
def zoo (p : Nat) (ν : Int → Int) : va_E := .inr (5, [.ref (p + 250), .ref (p + 251), .int (zi (ν 0)), .int (zi (ν 1)), .int (zi (ν 2)), .int (zi (ν 3))])
def zfo (p : Nat) (ν : Int → Int) : va_E := .inr (1, [.ref (p + 253), .ref (p + 254), .ref (p + 255), .ref (p + 256), .ref (p + 257), .ref (p + 258), .ref (p + 259), .int (zi (ν 0))])
def zpb (p : Nat) (κ : Nat → Int → Int) (k : Nat) : va_E :=
  if k = 0 then zpo p (κ 9) else
  if k = 28 then zho p (κ 20) else
  if k = 29 then zra 5 6 (p + 30) 27 else
  if k = 192 then zso p else
  if k = 193 then zra 5 2 (p + 195) 27 else
  if k = 194 then zvc 3 2 (κ 10) else
  if k = 249 then zoo p (κ 21) else
  if k = 250 then zvc 2 90 (κ 11) else
  if k = 251 then zvc 0 3 (κ 12) else
  if k = 252 then zfo p (κ 22) else
  if k = 253 then zvc 0 60 (κ 13) else
  if k = 254 then zvc 0 60 (κ 14) else
  if k = 255 then zvc 0 60 (κ 15) else
  if k = 256 then zvc 3 60 (κ 16) else
  if k = 257 then zmir (κ 17) else
  if k = 258 then zmir (κ 18) else
  if k = 259 then zmir (κ 19) else
  .inl (0, 0, .inl fun _ => 0)
def zpr (h : zH) (p : Nat) (κ : Nat → Int → Int) : zH := fun x =>
  if p + 30 ≤ x ∧ x < p + 192 then zbk (p + 30 + 27 * ((x - (p + 30)) / 27)) (κ (1 + (x - (p + 30)) / 27)) ((x - (p + 30)) % 27)
  else if p + 195 ≤ x ∧ x < p + 249 then zbk (p + 195 + 27 * ((x - (p + 195)) / 27)) (κ (7 + (x - (p + 195)) / 27)) ((x - (p + 195)) % 27)
  else if p ≤ x ∧ x < p + 260 then zpb p κ (x - p) else h x
theorem zpr_o {h : zH} {p x : Nat} {κ : Nat → Int → Int} (hx : x < p ∨ p + 260 ≤ x) : zpr h p κ x = h x := by
  unfold zpr
  rw [if_neg (by omega), if_neg (by omega), if_neg (by omega)]
theorem zpr_b {h : zH} {p j : Nat} {κ : Nat → Int → Int} (h1 : ¬ (30 ≤ j ∧ j < 192)) (h2 : ¬ (195 ≤ j ∧ j < 249)) (h3 : j < 260) : zpr h p κ (p + j) = zpb p κ j := by
  unfold zpr
  rw [if_neg (by omega), if_neg (by omega), if_pos (by omega), Nat.add_sub_cancel_left]
theorem zpr_0 {h : zH} {p : Nat} {κ : Nat → Int → Int} : zpr h p κ p = zpo p (κ 9) := zpr_b (j := 0) (by omega) (by omega) (by omega)
theorem zpr_28 {h : zH} {p : Nat} {κ : Nat → Int → Int} : zpr h p κ (p + 28) = zho p (κ 20) := zpr_b (j := 28) (by omega) (by omega) (by omega)
theorem zpr_29 {h : zH} {p : Nat} {κ : Nat → Int → Int} : zpr h p κ (p + 29) = zra 5 6 (p + 30) 27 := zpr_b (j := 29) (by omega) (by omega) (by omega)
theorem zpr_192 {h : zH} {p : Nat} {κ : Nat → Int → Int} : zpr h p κ (p + 192) = zso p := zpr_b (j := 192) (by omega) (by omega) (by omega)
theorem zpr_193 {h : zH} {p : Nat} {κ : Nat → Int → Int} : zpr h p κ (p + 193) = zra 5 2 (p + 195) 27 := zpr_b (j := 193) (by omega) (by omega) (by omega)
theorem zpr_194 {h : zH} {p : Nat} {κ : Nat → Int → Int} : zpr h p κ (p + 194) = zvc 3 2 (κ 10) := zpr_b (j := 194) (by omega) (by omega) (by omega)
theorem zpr_249 {h : zH} {p : Nat} {κ : Nat → Int → Int} : zpr h p κ (p + 249) = zoo p (κ 21) := zpr_b (j := 249) (by omega) (by omega) (by omega)
theorem zpr_250 {h : zH} {p : Nat} {κ : Nat → Int → Int} : zpr h p κ (p + 250) = zvc 2 90 (κ 11) := zpr_b (j := 250) (by omega) (by omega) (by omega)
theorem zpr_251 {h : zH} {p : Nat} {κ : Nat → Int → Int} : zpr h p κ (p + 251) = zvc 0 3 (κ 12) := zpr_b (j := 251) (by omega) (by omega) (by omega)
theorem zpr_252 {h : zH} {p : Nat} {κ : Nat → Int → Int} : zpr h p κ (p + 252) = zfo p (κ 22) := zpr_b (j := 252) (by omega) (by omega) (by omega)
theorem zpr_253 {h : zH} {p : Nat} {κ : Nat → Int → Int} : zpr h p κ (p + 253) = zvc 0 60 (κ 13) := zpr_b (j := 253) (by omega) (by omega) (by omega)
theorem zpr_254 {h : zH} {p : Nat} {κ : Nat → Int → Int} : zpr h p κ (p + 254) = zvc 0 60 (κ 14) := zpr_b (j := 254) (by omega) (by omega) (by omega)
theorem zpr_255 {h : zH} {p : Nat} {κ : Nat → Int → Int} : zpr h p κ (p + 255) = zvc 0 60 (κ 15) := zpr_b (j := 255) (by omega) (by omega) (by omega)
theorem zpr_256 {h : zH} {p : Nat} {κ : Nat → Int → Int} : zpr h p κ (p + 256) = zvc 3 60 (κ 16) := zpr_b (j := 256) (by omega) (by omega) (by omega)
theorem zpr_257 {h : zH} {p : Nat} {κ : Nat → Int → Int} : zpr h p κ (p + 257) = zmir (κ 17) := zpr_b (j := 257) (by omega) (by omega) (by omega)
theorem zpr_258 {h : zH} {p : Nat} {κ : Nat → Int → Int} : zpr h p κ (p + 258) = zmir (κ 18) := zpr_b (j := 258) (by omega) (by omega) (by omega)
theorem zpr_259 {h : zH} {p : Nat} {κ : Nat → Int → Int} : zpr h p κ (p + 259) = zmir (κ 19) := zpr_b (j := 259) (by omega) (by omega) (by omega)
theorem zpr_ring {h : zH} {p : Nat} {κ : Nat → Int → Int} {i : Nat} {τ : Int → Int} (hi : i < 6) : zcs (zpr h p κ) (p + 30 + 27 * i) τ = zpr h p (zst κ (1 + i) τ) := by
  funext x
  have hst : ∀ c, c ≠ 1 + i → zst κ (1 + i) τ c = κ c := fun c hc => if_neg hc
  unfold zcs
  by_cases c : p + 30 + 27 * i ≤ x ∧ x < p + 30 + 27 * i + 27
  · rw [if_pos c]
    unfold zpr
    rw [if_pos (by omega), show (x - (p + 30)) / 27 = i by omega, show (x - (p + 30)) % 27 = x - (p + 30 + 27 * i) by omega, zst_ap, if_pos rfl]
  · rw [if_neg c]
    unfold zpr
    by_cases c1 : p + 30 ≤ x ∧ x < p + 192
    · rw [if_pos c1, if_pos c1, hst _ (by omega)]
    · rw [if_neg c1, if_neg c1]
      by_cases c2 : p + 195 ≤ x ∧ x < p + 249
      · rw [if_pos c2, if_pos c2, hst _ (by omega)]
      · rw [if_neg c2, if_neg c2]
        by_cases c3 : p ≤ x ∧ x < p + 260
        · rw [if_pos c3, if_pos c3]
          unfold zpb
          rw [hst 9 (by omega), hst 10 (by omega), hst 11 (by omega), hst 12 (by omega), hst 13 (by omega), hst 14 (by omega), hst 15 (by omega), hst 16 (by omega), hst 17 (by omega), hst 18 (by omega), hst 19 (by omega), hst 20 (by omega), hst 21 (by omega), hst 22 (by omega)]
        · rw [if_neg c3, if_neg c3]
theorem zpr_snap {h : zH} {p : Nat} {κ : Nat → Int → Int} {i : Nat} {τ : Int → Int} (hi : i < 2) : zcs (zpr h p κ) (p + 195 + 27 * i) τ = zpr h p (zst κ (7 + i) τ) := by
  funext x
  have hst : ∀ c, c ≠ 7 + i → zst κ (7 + i) τ c = κ c := fun c hc => if_neg hc
  unfold zcs
  by_cases c : p + 195 + 27 * i ≤ x ∧ x < p + 195 + 27 * i + 27
  · rw [if_pos c]
    unfold zpr
    rw [if_neg (by omega), if_pos (by omega), show (x - (p + 195)) / 27 = i by omega, show (x - (p + 195)) % 27 = x - (p + 195 + 27 * i) by omega, zst_ap, if_pos rfl]
  · rw [if_neg c]
    unfold zpr
    by_cases c1 : p + 30 ≤ x ∧ x < p + 192
    · rw [if_pos c1, if_pos c1, hst _ (by omega)]
    · rw [if_neg c1, if_neg c1]
      by_cases c2 : p + 195 ≤ x ∧ x < p + 249
      · rw [if_pos c2, if_pos c2, hst _ (by omega)]
      · rw [if_neg c2, if_neg c2]
        by_cases c3 : p ≤ x ∧ x < p + 260
        · rw [if_pos c3, if_pos c3]
          unfold zpb
          rw [hst 9 (by omega), hst 10 (by omega), hst 11 (by omega), hst 12 (by omega), hst 13 (by omega), hst 14 (by omega), hst 15 (by omega), hst 16 (by omega), hst 17 (by omega), hst 18 (by omega), hst 19 (by omega), hst 20 (by omega), hst 21 (by omega), hst 22 (by omega)]
        · rw [if_neg c3, if_neg c3]
theorem zpr_put {h : zH} {p j : Nat} {κ κ2 : Nat → Int → Int} (h1 : ¬ (30 ≤ j ∧ j < 192)) (h2 : ¬ (195 ≤ j ∧ j < 249)) (h3 : j < 260) (hb : ∀ c, c < 9 → κ2 c = κ c) (ho : ∀ k, k ≠ j → zpb p κ2 k = zpb p κ k) : zup (zpr h p κ) (p + j) (zpb p κ2 j) = zpr h p κ2 := by
  funext x
  by_cases hx : x = p + j
  · rw [hx, zup_self, zpr_b h1 h2 h3]
  · rw [zup_ne hx]
    unfold zpr
    by_cases c1 : p + 30 ≤ x ∧ x < p + 192
    · rw [if_pos c1, if_pos c1, hb _ (by omega)]
    · rw [if_neg c1, if_neg c1]
      by_cases c2 : p + 195 ≤ x ∧ x < p + 249
      · rw [if_pos c2, if_pos c2, hb _ (by omega)]
      · rw [if_neg c2, if_neg c2]
        by_cases c3 : p ≤ x ∧ x < p + 260
        · rw [if_pos c3, if_pos c3, ho _ (by omega)]
        · rw [if_neg c3, if_neg c3]
theorem zpw_0 {h : zH} {p : Nat} {κ : Nat → Int → Int} {f : Int → Int} : zup (zpr h p κ) p (zpo p f) = zpr h p (zst κ 9 f) := by
  refine zpr_put (j := 0) (κ2 := zst κ 9 f) (by omega) (by omega) (by omega) (fun c hc => if_neg (by omega)) fun k hk => ?_
  unfold zpb
  simp only [zst_ap, if_neg hk, reduceIte, Nat.reduceEqDiff]
theorem zpw_28 {h : zH} {p : Nat} {κ : Nat → Int → Int} {f : Int → Int} : zup (zpr h p κ) (p + 28) (zho p f) = zpr h p (zst κ 20 f) := by
  refine zpr_put (j := 28) (κ2 := zst κ 20 f) (by omega) (by omega) (by omega) (fun c hc => if_neg (by omega)) fun k hk => ?_
  unfold zpb
  simp only [zst_ap, if_neg hk, reduceIte, Nat.reduceEqDiff]
theorem zpw_194 {h : zH} {p : Nat} {κ : Nat → Int → Int} {f : Int → Int} : zup (zpr h p κ) (p + 194) (zvc 3 2 f) = zpr h p (zst κ 10 f) := by
  refine zpr_put (j := 194) (κ2 := zst κ 10 f) (by omega) (by omega) (by omega) (fun c hc => if_neg (by omega)) fun k hk => ?_
  unfold zpb
  simp only [zst_ap, if_neg hk, reduceIte, Nat.reduceEqDiff]
theorem zpw_249 {h : zH} {p : Nat} {κ : Nat → Int → Int} {f : Int → Int} : zup (zpr h p κ) (p + 249) (zoo p f) = zpr h p (zst κ 21 f) := by
  refine zpr_put (j := 249) (κ2 := zst κ 21 f) (by omega) (by omega) (by omega) (fun c hc => if_neg (by omega)) fun k hk => ?_
  unfold zpb
  simp only [zst_ap, if_neg hk, reduceIte, Nat.reduceEqDiff]
theorem zpw_250 {h : zH} {p : Nat} {κ : Nat → Int → Int} {f : Int → Int} : zup (zpr h p κ) (p + 250) (zvc 2 90 f) = zpr h p (zst κ 11 f) := by
  refine zpr_put (j := 250) (κ2 := zst κ 11 f) (by omega) (by omega) (by omega) (fun c hc => if_neg (by omega)) fun k hk => ?_
  unfold zpb
  simp only [zst_ap, if_neg hk, reduceIte, Nat.reduceEqDiff]
theorem zpw_251 {h : zH} {p : Nat} {κ : Nat → Int → Int} {f : Int → Int} : zup (zpr h p κ) (p + 251) (zvc 0 3 f) = zpr h p (zst κ 12 f) := by
  refine zpr_put (j := 251) (κ2 := zst κ 12 f) (by omega) (by omega) (by omega) (fun c hc => if_neg (by omega)) fun k hk => ?_
  unfold zpb
  simp only [zst_ap, if_neg hk, reduceIte, Nat.reduceEqDiff]
theorem zpw_252 {h : zH} {p : Nat} {κ : Nat → Int → Int} {f : Int → Int} : zup (zpr h p κ) (p + 252) (zfo p f) = zpr h p (zst κ 22 f) := by
  refine zpr_put (j := 252) (κ2 := zst κ 22 f) (by omega) (by omega) (by omega) (fun c hc => if_neg (by omega)) fun k hk => ?_
  unfold zpb
  simp only [zst_ap, if_neg hk, reduceIte, Nat.reduceEqDiff]
theorem zpw_253 {h : zH} {p : Nat} {κ : Nat → Int → Int} {f : Int → Int} : zup (zpr h p κ) (p + 253) (zvc 0 60 f) = zpr h p (zst κ 13 f) := by
  refine zpr_put (j := 253) (κ2 := zst κ 13 f) (by omega) (by omega) (by omega) (fun c hc => if_neg (by omega)) fun k hk => ?_
  unfold zpb
  simp only [zst_ap, if_neg hk, reduceIte, Nat.reduceEqDiff]
theorem zpw_254 {h : zH} {p : Nat} {κ : Nat → Int → Int} {f : Int → Int} : zup (zpr h p κ) (p + 254) (zvc 0 60 f) = zpr h p (zst κ 14 f) := by
  refine zpr_put (j := 254) (κ2 := zst κ 14 f) (by omega) (by omega) (by omega) (fun c hc => if_neg (by omega)) fun k hk => ?_
  unfold zpb
  simp only [zst_ap, if_neg hk, reduceIte, Nat.reduceEqDiff]
theorem zpw_255 {h : zH} {p : Nat} {κ : Nat → Int → Int} {f : Int → Int} : zup (zpr h p κ) (p + 255) (zvc 0 60 f) = zpr h p (zst κ 15 f) := by
  refine zpr_put (j := 255) (κ2 := zst κ 15 f) (by omega) (by omega) (by omega) (fun c hc => if_neg (by omega)) fun k hk => ?_
  unfold zpb
  simp only [zst_ap, if_neg hk, reduceIte, Nat.reduceEqDiff]
theorem zpw_256 {h : zH} {p : Nat} {κ : Nat → Int → Int} {f : Int → Int} : zup (zpr h p κ) (p + 256) (zvc 3 60 f) = zpr h p (zst κ 16 f) := by
  refine zpr_put (j := 256) (κ2 := zst κ 16 f) (by omega) (by omega) (by omega) (fun c hc => if_neg (by omega)) fun k hk => ?_
  unfold zpb
  simp only [zst_ap, if_neg hk, reduceIte, Nat.reduceEqDiff]
theorem zpw_257 {h : zH} {p : Nat} {κ : Nat → Int → Int} {f : Int → Int} : zup (zpr h p κ) (p + 257) (zmir f) = zpr h p (zst κ 17 f) := by
  refine zpr_put (j := 257) (κ2 := zst κ 17 f) (by omega) (by omega) (by omega) (fun c hc => if_neg (by omega)) fun k hk => ?_
  unfold zpb
  simp only [zst_ap, if_neg hk, reduceIte, Nat.reduceEqDiff]
theorem zpw_258 {h : zH} {p : Nat} {κ : Nat → Int → Int} {f : Int → Int} : zup (zpr h p κ) (p + 258) (zmir f) = zpr h p (zst κ 18 f) := by
  refine zpr_put (j := 258) (κ2 := zst κ 18 f) (by omega) (by omega) (by omega) (fun c hc => if_neg (by omega)) fun k hk => ?_
  unfold zpb
  simp only [zst_ap, if_neg hk, reduceIte, Nat.reduceEqDiff]
theorem zpw_259 {h : zH} {p : Nat} {κ : Nat → Int → Int} {f : Int → Int} : zup (zpr h p κ) (p + 259) (zmir f) = zpr h p (zst κ 19 f) := by
  refine zpr_put (j := 259) (κ2 := zst κ 19 f) (by omega) (by omega) (by omega) (fun c hc => if_neg (by omega)) fun k hk => ?_
  unfold zpb
  simp only [zst_ap, if_neg hk, reduceIte, Nat.reduceEqDiff]
theorem zcs_up {h : zH} {b x : Nat} {τ : Int → Int} {c : va_E} (hx : x < b ∨ b + 27 ≤ x) : zup (zcs h b τ) x c = zcs (zup h x c) b τ := by
  funext y
  simp only [zup, zcs]
  by_cases e : y = x
  · rw [if_pos e, if_neg (by omega), if_pos e]
  · rw [if_neg e]
    by_cases r : b ≤ y ∧ y < b + 27
    · rw [if_pos r, if_pos r]
    · rw [if_neg r, if_neg r, if_neg e]
theorem zcs_comm {h : zH} {b b2 : Nat} {τ τ2 : Int → Int} (hd : b + 27 ≤ b2 ∨ b2 + 27 ≤ b) : zcs (zcs h b τ) b2 τ2 = zcs (zcs h b2 τ2) b τ := by
  funext x
  simp only [zcs]
  by_cases c : b ≤ x ∧ x < b + 27
  · rw [if_neg (by omega), if_pos c, if_pos c]
  · by_cases c2 : b2 ≤ x ∧ x < b2 + 27
    · rw [if_pos c2, if_neg c, if_pos c2]
    · rw [if_neg c2, if_neg c, if_neg c, if_neg c2]
theorem zcs_zcs {h : zH} {b : Nat} {τ τ2 : Int → Int} : zcs (zcs h b τ) b τ2 = zcs h b τ2 := by
  funext x
  simp only [zcs]
  by_cases c : b ≤ x ∧ x < b + 27
  · rw [if_pos c, if_pos c]
  · rw [if_neg c, if_neg c, if_neg c]
theorem zk_po (p : Nat) (v : Int → Int) : zisC (zpo p v) 10 = true := rfl
theorem zg_po0 (p : Nat) (v : Int → Int) : zget 10 0 (zpo p v) = some (.ref (p + 1)) := rfl
theorem zg_po1 (p : Nat) (v : Int → Int) : zget 10 1 (zpo p v) = some (.ref (p + 28)) := rfl
theorem zg_po2 (p : Nat) (v : Int → Int) : zget 10 2 (zpo p v) = some (.ref (p + 192)) := rfl
theorem zg_po3 (p : Nat) (v : Int → Int) : zget 10 3 (zpo p v) = some (.ref (p + 249)) := rfl
theorem zg_po4 (p : Nat) (v : Int → Int) : zget 10 4 (zpo p v) = some (.ref (p + 252)) := rfl
theorem zg_po5 (p : Nat) (v : Int → Int) : zget 10 5 (zpo p v) = some (.int (zi (v 0))) := rfl
theorem zs_po5 (p : Nat) (v : Int → Int) (x : Int) : zsetf 10 5 (.int (zi x)) (zpo p v) = some (zpo p (zset v 0 x)) := by simp [zsetf, zpo, zset]
theorem zg_po6 (p : Nat) (v : Int → Int) : zget 10 6 (zpo p v) = some (.int (zi (v 1))) := rfl
theorem zs_po6 (p : Nat) (v : Int → Int) (x : Int) : zsetf 10 6 (.int (zi x)) (zpo p v) = some (zpo p (zset v 1 x)) := by simp [zsetf, zpo, zset]
theorem zg_po7 (p : Nat) (v : Int → Int) : zget 10 7 (zpo p v) = some (.int (zi (v 2))) := rfl
theorem zs_po7 (p : Nat) (v : Int → Int) (x : Int) : zsetf 10 7 (.int (zi x)) (zpo p v) = some (zpo p (zset v 2 x)) := by simp [zsetf, zpo, zset]
theorem zk_ho (p : Nat) (v : Int → Int) : zisC (zho p v) 2 = true := rfl
theorem zg_ho0 (p : Nat) (v : Int → Int) : zget 2 0 (zho p v) = some (.ref (p + 29)) := rfl
theorem zg_ho1 (p : Nat) (v : Int → Int) : zget 2 1 (zho p v) = some (.int (zi (v 0))) := rfl
theorem zs_ho1 (p : Nat) (v : Int → Int) (x : Int) : zsetf 2 1 (.int (zi x)) (zho p v) = some (zho p (zset v 0 x)) := by simp [zsetf, zho, zset]
theorem zg_ho2 (p : Nat) (v : Int → Int) : zget 2 2 (zho p v) = some (.int (zi (v 1))) := rfl
theorem zs_ho2 (p : Nat) (v : Int → Int) (x : Int) : zsetf 2 2 (.int (zi x)) (zho p v) = some (zho p (zset v 1 x)) := by simp [zsetf, zho, zset]
theorem zg_ho3 (p : Nat) (v : Int → Int) : zget 2 3 (zho p v) = some (.int (zi (v 2))) := rfl
theorem zs_ho3_0 (p : Nat) (v : Int → Int) : zput 2 3 (.int (zi 0)) (zho p v) = some (zho p (zset v 2 0)) := by
  rw [zput_setf (by first | exact zfit_b0 | (show zfit .boolean _ = true; exact zfit_b0))]
  simp [zsetf, zho, zset]
theorem zs_ho3_1 (p : Nat) (v : Int → Int) : zput 2 3 (.int (zi 1)) (zho p v) = some (zho p (zset v 2 1)) := by
  rw [zput_setf (by first | exact zfit_b1 | (show zfit .boolean _ = true; exact zfit_b1))]
  simp [zsetf, zho, zset]
theorem zk_oo (p : Nat) (v : Int → Int) : zisC (zoo p v) 5 = true := rfl
theorem zg_oo0 (p : Nat) (v : Int → Int) : zget 5 0 (zoo p v) = some (.ref (p + 250)) := rfl
theorem zg_oo1 (p : Nat) (v : Int → Int) : zget 5 1 (zoo p v) = some (.ref (p + 251)) := rfl
theorem zg_oo2 (p : Nat) (v : Int → Int) : zget 5 2 (zoo p v) = some (.int (zi (v 0))) := rfl
theorem zs_oo2 (p : Nat) (v : Int → Int) (x : Int) : zsetf 5 2 (.int (zi x)) (zoo p v) = some (zoo p (zset v 0 x)) := by simp [zsetf, zoo, zset]
theorem zg_oo3 (p : Nat) (v : Int → Int) : zget 5 3 (zoo p v) = some (.int (zi (v 1))) := rfl
theorem zs_oo3 (p : Nat) (v : Int → Int) (x : Int) : zsetf 5 3 (.int (zi x)) (zoo p v) = some (zoo p (zset v 1 x)) := by simp [zsetf, zoo, zset]
theorem zg_oo4 (p : Nat) (v : Int → Int) : zget 5 4 (zoo p v) = some (.int (zi (v 2))) := rfl
theorem zs_oo4 (p : Nat) (v : Int → Int) (x : Int) : zsetf 5 4 (.int (zi x)) (zoo p v) = some (zoo p (zset v 2 x)) := by simp [zsetf, zoo, zset]
theorem zg_oo5 (p : Nat) (v : Int → Int) : zget 5 5 (zoo p v) = some (.int (zi (v 3))) := rfl
theorem zs_oo5_0 (p : Nat) (v : Int → Int) : zput 5 5 (.int (zi 0)) (zoo p v) = some (zoo p (zset v 3 0)) := by
  rw [zput_setf (by first | exact zfit_b0 | (show zfit .boolean _ = true; exact zfit_b0))]
  simp [zsetf, zoo, zset]
theorem zs_oo5_1 (p : Nat) (v : Int → Int) : zput 5 5 (.int (zi 1)) (zoo p v) = some (zoo p (zset v 3 1)) := by
  rw [zput_setf (by first | exact zfit_b1 | (show zfit .boolean _ = true; exact zfit_b1))]
  simp [zsetf, zoo, zset]
theorem zk_fo (p : Nat) (v : Int → Int) : zisC (zfo p v) 1 = true := rfl
theorem zg_fo0 (p : Nat) (v : Int → Int) : zget 1 0 (zfo p v) = some (.ref (p + 253)) := rfl
theorem zg_fo1 (p : Nat) (v : Int → Int) : zget 1 1 (zfo p v) = some (.ref (p + 254)) := rfl
theorem zg_fo2 (p : Nat) (v : Int → Int) : zget 1 2 (zfo p v) = some (.ref (p + 255)) := rfl
theorem zg_fo3 (p : Nat) (v : Int → Int) : zget 1 3 (zfo p v) = some (.ref (p + 256)) := rfl
theorem zg_fo4 (p : Nat) (v : Int → Int) : zget 1 4 (zfo p v) = some (.ref (p + 257)) := rfl
theorem zg_fo5 (p : Nat) (v : Int → Int) : zget 1 5 (zfo p v) = some (.ref (p + 258)) := rfl
theorem zg_fo6 (p : Nat) (v : Int → Int) : zget 1 6 (zfo p v) = some (.ref (p + 259)) := rfl
theorem zg_fo7 (p : Nat) (v : Int → Int) : zget 1 7 (zfo p v) = some (.int (zi (v 0))) := rfl
theorem zs_fo7 (p : Nat) (v : Int → Int) (x : Int) : zsetf 1 7 (.int (zi x)) (zfo p v) = some (zfo p (zset v 0 x)) := by simp [zsetf, zfo, zset]
theorem zk_so (p : Nat) : zisC (zso p) 8 = true := rfl
theorem zg_so0 (p : Nat) : zget 8 0 (zso p) = some (.ref (p + 193)) := rfl
theorem zg_so1 (p : Nat) : zget 8 1 (zso p) = some (.ref (p + 194)) := rfl
theorem zast_vcb {f : Int → Int} {i x : Int} {n : Nat} (h1 : 0 ≤ i) (h2 : i < n) (h3 : n < 2147483648) (hx : x = 0 ∨ x = 1) : zast 3 (zi i) (zi x) (zvc 3 n f) = some (zvc 3 n (zset f i x)) := by
  have hc := zclampI h1 (show i < 2147483648 by omega)
  have e : znar 3 (zi x) = zi x := by rcases hx with rfl | rfl <;> decide +kernel
  show (if 3 = 3 ∧ zidx (zi i) n = true then some ((.inl (3, n, .inl (upd (fun j => if j < n then zi (f (j : Int)) else 0) (zi i).toNatClampNeg (znar 3 (zi x))))) : va_E) else none) = _
  rw [if_pos ⟨rfl, zidx_zi h1 h2 h3⟩, e]
  unfold zvc
  congr 5
  funext j
  simp only [upd, zset]
  by_cases hj : j = (zi i).toNatClampNeg
  · rw [if_pos hj, if_pos (by omega), if_pos (by omega)]
  · rw [if_neg hj]
    by_cases hn : j < n
    · rw [if_pos hn, if_pos hn, if_neg (by omega)]
    · rw [if_neg hn, if_neg hn]
theorem zast_vcc {f : Int → Int} {i x : Int} {n : Nat} (h1 : 0 ≤ i) (h2 : i < n) (h3 : n < 2147483648) (hx : 0 ≤ x ∧ x < 65536) : zast 2 (zi i) (zi x) (zvc 2 n f) = some (zvc 2 n (zset f i x)) := by
  have hc := zclampI h1 (show i < 2147483648 by omega)
  have e : znar 2 (zi x) = zi x := znar_c hx.1 hx.2
  show (if 2 = 2 ∧ zidx (zi i) n = true then some ((.inl (2, n, .inl (upd (fun j => if j < n then zi (f (j : Int)) else 0) (zi i).toNatClampNeg (znar 2 (zi x))))) : va_E) else none) = _
  rw [if_pos ⟨rfl, zidx_zi h1 h2 h3⟩, e]
  unfold zvc
  congr 5
  funext j
  simp only [upd, zset]
  by_cases hj : j = (zi i).toNatClampNeg
  · rw [if_pos hj, if_pos (by omega), if_pos (by omega)]
  · rw [if_neg hj]
    by_cases hn : j < n
    · rw [if_pos hn, if_pos hn, if_neg (by omega)]
    · rw [if_neg hn, if_neg hn]
