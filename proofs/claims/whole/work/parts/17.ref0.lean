/-! THE REFERENCE: its cells as one value ρ; component 0 now, 1 saved, 2 history, 3 slots, 4 isFilled, 5 text, 6 orderOf, 7 the numbers (0 kept 1 reason 2 typed 3 from 4 to 5 fault 6 orders 7 failed 8 cause) -/
theorem zbr_t {c A B : Prop} (hc : c) : ((c → A) ∧ (¬ c → B)) = A := propext ⟨fun k => k.1 hc, fun k => ⟨fun _ => k, fun n => absurd hc n⟩⟩
theorem zbr_f {c A B : Prop} (hc : ¬ c) : ((c → A) ∧ (¬ c → B)) = B := propext ⟨fun k => k.2 hc, fun k => ⟨fun n => absurd n hc, fun _ => k⟩⟩
def zst (ρ : Nat → Int → Int) (c : Nat) (f : Int → Int) : Nat → Int → Int := fun d => if d = c then f else ρ d
theorem zst_ap (ρ : Nat → Int → Int) (c : Nat) (f : Int → Int) (d : Nat) : zst ρ c f d = if d = c then f else ρ d := rfl
theorem zst_zst (ρ : Nat → Int → Int) (c : Nat) (f g : Int → Int) : zst (zst ρ c f) c g = zst ρ c g := by
  funext d
  simp only [zst]
  by_cases h : d = c
  · rw [if_pos h, if_pos h]
  · rw [if_neg h, if_neg h, if_neg h]
theorem zst_self (ρ : Nat → Int → Int) (c : Nat) : zst ρ c (ρ c) = ρ := by
  funext d
  simp only [zst]
  by_cases h : d = c
  · rw [if_pos h, h]
  · rw [if_neg h]
def zrobj (a : Nat) (v : Int → Int) : va_E := .inr (11, [.ref (a + 1), .ref (a + 2), .ref (a + 3), .int (zi (v 0)), .ref (a + 4), .ref (a + 5), .int (zi (v 1)), .int (zi (v 2)), .ref (a + 6), .int (zi (v 3)), .int (zi (v 4)), .int (zi (v 5)), .int (zi (v 6)), .ref (a + 7), .int (zi (v 7)), .int (zi (v 8))])
def zmk (h : zH) (a : Nat) (ρ : Nat → Int → Int) : zH := fun x =>
  if x = a then zrobj a (ρ 7) else if x = a + 1 then .inl (1, 240, .inr (.inl (zrow (ρ 0)))) else if x = a + 2 then .inl (1, 240, .inr (.inl (zrow (ρ 1)))) else if x = a + 3 then .inl (1, 1440, .inr (.inl (zrow (ρ 2)))) else if x = a + 4 then .inl (1, 480, .inr (.inl (zrow (ρ 3)))) else
  if x = a + 5 then .inl (3, 2, .inl (zrwi (ρ 4))) else if x = a + 6 then .inl (2, 90, .inl (zrwi (ρ 5))) else if x = a + 7 then .inl (0, 200, .inl (zrwi (ρ 6))) else h x
theorem zmk_0 (h : zH) (a : Nat) (ρ : Nat → Int → Int) : zmk h a ρ a = zrobj a (ρ 7) := by simp [zmk]
theorem zmk_1 (h : zH) (a : Nat) (ρ : Nat → Int → Int) : zmk h a ρ (a + 1) = .inl (1, 240, .inr (.inl (zrow (ρ 0)))) := by simp [zmk]
theorem zmk_2 (h : zH) (a : Nat) (ρ : Nat → Int → Int) : zmk h a ρ (a + 2) = .inl (1, 240, .inr (.inl (zrow (ρ 1)))) := by simp [zmk]
theorem zmk_3 (h : zH) (a : Nat) (ρ : Nat → Int → Int) : zmk h a ρ (a + 3) = .inl (1, 1440, .inr (.inl (zrow (ρ 2)))) := by simp [zmk]
theorem zmk_4 (h : zH) (a : Nat) (ρ : Nat → Int → Int) : zmk h a ρ (a + 4) = .inl (1, 480, .inr (.inl (zrow (ρ 3)))) := by simp [zmk]
theorem zmk_5 (h : zH) (a : Nat) (ρ : Nat → Int → Int) : zmk h a ρ (a + 5) = .inl (3, 2, .inl (zrwi (ρ 4))) := by simp [zmk]
theorem zmk_6 (h : zH) (a : Nat) (ρ : Nat → Int → Int) : zmk h a ρ (a + 6) = .inl (2, 90, .inl (zrwi (ρ 5))) := by simp [zmk]
theorem zmk_7 (h : zH) (a : Nat) (ρ : Nat → Int → Int) : zmk h a ρ (a + 7) = .inl (0, 200, .inl (zrwi (ρ 6))) := by simp [zmk]
theorem zmw_0 (h : zH) (a : Nat) (ρ : Nat → Int → Int) (f : Int → Int) : zup (zmk h a ρ) a (zrobj a f) = zmk h a (zst ρ 7 f) := by
  funext x
  simp only [zup, zmk, zst]
  by_cases hx : x = a <;> simp [hx]
theorem zmw_1 (h : zH) (a : Nat) (ρ : Nat → Int → Int) (f : Int → Int) : zup (zmk h a ρ) (a + 1) (.inl (1, 240, .inr (.inl (zrow f)))) = zmk h a (zst ρ 0 f) := by
  funext x
  simp only [zup, zmk, zst]
  by_cases hx : x = a + 1 <;> simp [hx]
theorem zmw_2 (h : zH) (a : Nat) (ρ : Nat → Int → Int) (f : Int → Int) : zup (zmk h a ρ) (a + 2) (.inl (1, 240, .inr (.inl (zrow f)))) = zmk h a (zst ρ 1 f) := by
  funext x
  simp only [zup, zmk, zst]
  by_cases hx : x = a + 2 <;> simp [hx]
theorem zmw_3 (h : zH) (a : Nat) (ρ : Nat → Int → Int) (f : Int → Int) : zup (zmk h a ρ) (a + 3) (.inl (1, 1440, .inr (.inl (zrow f)))) = zmk h a (zst ρ 2 f) := by
  funext x
  simp only [zup, zmk, zst]
  by_cases hx : x = a + 3 <;> simp [hx]
theorem zmw_4 (h : zH) (a : Nat) (ρ : Nat → Int → Int) (f : Int → Int) : zup (zmk h a ρ) (a + 4) (.inl (1, 480, .inr (.inl (zrow f)))) = zmk h a (zst ρ 3 f) := by
  funext x
  simp only [zup, zmk, zst]
  by_cases hx : x = a + 4 <;> simp [hx]
theorem zmw_5 (h : zH) (a : Nat) (ρ : Nat → Int → Int) (f : Int → Int) : zup (zmk h a ρ) (a + 5) (.inl (3, 2, .inl (zrwi f))) = zmk h a (zst ρ 4 f) := by
  funext x
  simp only [zup, zmk, zst]
  by_cases hx : x = a + 5 <;> simp [hx]
theorem zmw_6 (h : zH) (a : Nat) (ρ : Nat → Int → Int) (f : Int → Int) : zup (zmk h a ρ) (a + 6) (.inl (2, 90, .inl (zrwi f))) = zmk h a (zst ρ 5 f) := by
  funext x
  simp only [zup, zmk, zst]
  by_cases hx : x = a + 6 <;> simp [hx]
theorem zmw_7 (h : zH) (a : Nat) (ρ : Nat → Int → Int) (f : Int → Int) : zup (zmk h a ρ) (a + 7) (.inl (0, 200, .inl (zrwi f))) = zmk h a (zst ρ 6 f) := by
  funext x
  simp only [zup, zmk, zst]
  by_cases hx : x = a + 7 <;> simp [hx]
theorem zisr (a : Nat) (v : Int → Int) : zisC (zrobj a v) 11 = true := rfl
theorem zrg_0 (a : Nat) (v : Int → Int) : zget 11 0 (zrobj a v) = some (.ref (a + 1)) := rfl
theorem zrg_1 (a : Nat) (v : Int → Int) : zget 11 1 (zrobj a v) = some (.ref (a + 2)) := rfl
theorem zrg_2 (a : Nat) (v : Int → Int) : zget 11 2 (zrobj a v) = some (.ref (a + 3)) := rfl
theorem zrg_3 (a : Nat) (v : Int → Int) : zget 11 3 (zrobj a v) = some (.int (zi (v 0))) := rfl
theorem zrg_4 (a : Nat) (v : Int → Int) : zget 11 4 (zrobj a v) = some (.ref (a + 4)) := rfl
theorem zrg_5 (a : Nat) (v : Int → Int) : zget 11 5 (zrobj a v) = some (.ref (a + 5)) := rfl
theorem zrg_6 (a : Nat) (v : Int → Int) : zget 11 6 (zrobj a v) = some (.int (zi (v 1))) := rfl
theorem zrg_7 (a : Nat) (v : Int → Int) : zget 11 7 (zrobj a v) = some (.int (zi (v 2))) := rfl
theorem zrg_8 (a : Nat) (v : Int → Int) : zget 11 8 (zrobj a v) = some (.ref (a + 6)) := rfl
theorem zrg_9 (a : Nat) (v : Int → Int) : zget 11 9 (zrobj a v) = some (.int (zi (v 3))) := rfl
theorem zrg_10 (a : Nat) (v : Int → Int) : zget 11 10 (zrobj a v) = some (.int (zi (v 4))) := rfl
theorem zrg_11 (a : Nat) (v : Int → Int) : zget 11 11 (zrobj a v) = some (.int (zi (v 5))) := rfl
theorem zrg_12 (a : Nat) (v : Int → Int) : zget 11 12 (zrobj a v) = some (.int (zi (v 6))) := rfl
theorem zrg_13 (a : Nat) (v : Int → Int) : zget 11 13 (zrobj a v) = some (.ref (a + 7)) := rfl
theorem zrg_14 (a : Nat) (v : Int → Int) : zget 11 14 (zrobj a v) = some (.int (zi (v 7))) := rfl
theorem zrg_15 (a : Nat) (v : Int → Int) : zget 11 15 (zrobj a v) = some (.int (zi (v 8))) := rfl
theorem zrs_3 (a : Nat) (v : Int → Int) (x : Int) : zsetf 11 3 (.int (zi x)) (zrobj a v) = some (zrobj a (zset v 0 x)) := by simp [zsetf, zrobj, zset]
theorem zrs_6 (a : Nat) (v : Int → Int) (x : Int) : zsetf 11 6 (.int (zi x)) (zrobj a v) = some (zrobj a (zset v 1 x)) := by simp [zsetf, zrobj, zset]
theorem zrs_7 (a : Nat) (v : Int → Int) (x : Int) : zsetf 11 7 (.int (zi x)) (zrobj a v) = some (zrobj a (zset v 2 x)) := by simp [zsetf, zrobj, zset]
theorem zrs_9 (a : Nat) (v : Int → Int) (x : Int) : zsetf 11 9 (.int (zi x)) (zrobj a v) = some (zrobj a (zset v 3 x)) := by simp [zsetf, zrobj, zset]
theorem zrs_10 (a : Nat) (v : Int → Int) (x : Int) : zsetf 11 10 (.int (zi x)) (zrobj a v) = some (zrobj a (zset v 4 x)) := by simp [zsetf, zrobj, zset]
theorem zrs_11 (a : Nat) (v : Int → Int) (x : Int) : zsetf 11 11 (.int (zi x)) (zrobj a v) = some (zrobj a (zset v 5 x)) := by simp [zsetf, zrobj, zset]
theorem zrs_12 (a : Nat) (v : Int → Int) (x : Int) : zsetf 11 12 (.int (zi x)) (zrobj a v) = some (zrobj a (zset v 6 x)) := by simp [zsetf, zrobj, zset]
theorem zrs_14 (a : Nat) (v : Int → Int) (x : Int) : zsetf 11 14 (.int (zi x)) (zrobj a v) = some (zrobj a (zset v 7 x)) := by simp [zsetf, zrobj, zset]
theorem zrs_15 (a : Nat) (v : Int → Int) (x : Int) : zsetf 11 15 (.int (zi x)) (zrobj a v) = some (zrobj a (zset v 8 x)) := by simp [zsetf, zrobj, zset]
