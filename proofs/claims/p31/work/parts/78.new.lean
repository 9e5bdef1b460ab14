/-! THE CLASS: made anew -/
def z0 : Int → Int := fun _ => 0
theorem znew_v0 (n : Nat) : znew 0 n = zvc 0 n z0 := by
  show (.inl (0, n, .inl fun _ => 0) : va_E) = _
  unfold zvc
  congr 4
  funext j
  by_cases h : j < n
  · rw [if_pos h]; exact zi_0.symm
  · rw [if_neg h]
theorem znew_v2 (n : Nat) : znew 2 n = zvc 2 n z0 := by
  show (.inl (2, n, .inl fun _ => 0) : va_E) = _
  unfold zvc
  congr 4
  funext j
  by_cases h : j < n
  · rw [if_pos h]; exact zi_0.symm
  · rw [if_neg h]
theorem znew_v3 (n : Nat) : znew 3 n = zvc 3 n z0 := by
  show (.inl (3, n, .inl fun _ => 0) : va_E) = _
  unfold zvc
  congr 4
  funext j
  by_cases h : j < n
  · rw [if_pos h]; exact zi_0.symm
  · rw [if_neg h]
/-- an array of objects, its first i places taken -/
def zrp (t n a s i : Nat) : va_E := .inl (t, n, .inr (.inr (.inr (.inr (fun j => if j < i then some (a + s * j) else none)))))
theorem zrp_0 (t n a s : Nat) : (.inl (t, n, .inr (.inr (.inr (.inr fun _ => none)))) : va_E) = zrp t n a s 0 := by
  unfold zrp
  congr 6
theorem zrp_n (t n a s : Nat) : zrp t n a s n = zra t n a s := rfl
theorem zstr_rp {t n a s : Nat} {i : Nat} {cv : va_E} (ht : t = 4 ∨ t = 5) (h2 : i < n) (h3 : n < 2147483648) (hc : zisC cv (zArC t) = true) {v : Nat} (hv : v = a + s * i) : zstr (zi (i : Int)) v cv (zrp t n a s i) = some (zrp t n a s (i + 1)) := by
  have hcl := zclampI (i := (i : Int)) (by omega) (by omega)
  show (if (t = 4 ∨ t = 5) ∧ zidx (zi (i : Int)) n = true ∧ zisC cv (zArC t) = true then some ((.inl (t, n, .inr (.inr (.inr (.inr (va_up (fun j => if j < i then some (a + s * j) else none) (zi (i : Int)).toNatClampNeg (some v))))))) : va_E) else none) = _
  rw [if_pos ⟨ht, zidx_zi (by omega) (by omega) h3, hc⟩]
  unfold zrp
  congr 8
  funext j
  have e : (zi (i : Int)).toNatClampNeg = i := by omega
  simp only [va_up, e]
  by_cases c : j = i
  · rw [if_pos c, if_pos (by omega), hv, c]
  · rw [if_neg c]
    by_cases d : j < i
    · rw [if_pos d, if_pos (by omega)]
    · rw [if_neg d, if_neg (by omega)]
theorem zup_dn {h : zH} {x b : Nat} {c u : va_E} (hx : x ≠ b) : zup (zup h x c) b u = zup (zup h b u) x c := by
  funext y
  simp only [zup]
  by_cases e : y = b
  · rw [if_pos e, if_neg (by omega), if_pos e]
  · rw [if_neg e]
    by_cases r : y = x
    · rw [if_pos r, if_pos r]
    · rw [if_neg r, if_neg r, if_neg e]
def ofr9 : va_E := .inr (9, [.null, .null, .null, .null, .null, .null, .int 0, .int 0, .int 0, .int 0, .int 0])
section NW
variable {L S : List Value} {z : zZ} {h : zH} {Q K : Option Value → zZ → zH → Prop} {q n : Nat} {w : Nat → Nat}
theorem n0_7 : zG 0 7 L (.int (zi 35) :: S) z h Q ↔ zG 0 9 L (.ref z.1 :: S) (z.1 + 1, z.2.1 + 35, z.2.2) (zup h z.1 (znew 0 35)) Q := e0_7 (k := 35) (by decide)
theorem n0_14 : zG 0 14 L (.int (zi 5) :: S) z h Q ↔ zG 0 16 L (.ref z.1 :: S) (z.1 + 1, z.2.1 + 5, z.2.2) (zup h z.1 (znew 0 5)) Q := e0_14 (k := 5) (by decide)
theorem n0_21 : zG 0 21 L (.int (zi 5) :: S) z h Q ↔ zG 0 23 L (.ref z.1 :: S) (z.1 + 1, z.2.1 + 5, z.2.2) (zup h z.1 (znew 0 5)) Q := e0_21 (k := 5) (by decide)
theorem n10_7 : zG 10 7 L (.int (zi 60) :: S) z h Q ↔ zG 10 9 L (.ref z.1 :: S) (z.1 + 1, z.2.1 + 60, z.2.2) (zup h z.1 (znew 0 60)) Q := e10_7 (k := 60) (by decide)
theorem n10_15 : zG 10 15 L (.int (zi 60) :: S) z h Q ↔ zG 10 17 L (.ref z.1 :: S) (z.1 + 1, z.2.1 + 60, z.2.2) (zup h z.1 (znew 0 60)) Q := e10_15 (k := 60) (by decide)
theorem n10_23 : zG 10 23 L (.int (zi 60) :: S) z h Q ↔ zG 10 25 L (.ref z.1 :: S) (z.1 + 1, z.2.1 + 60, z.2.2) (zup h z.1 (znew 0 60)) Q := e10_23 (k := 60) (by decide)
theorem n10_31 : zG 10 31 L (.int (zi 60) :: S) z h Q ↔ zG 10 33 L (.ref z.1 :: S) (z.1 + 1, z.2.1 + 60, z.2.2) (zup h z.1 (znew 3 60)) Q := e10_31 (k := 60) (by decide)
theorem n18_7 : zG 18 7 L (.int (zi 6) :: S) z h Q ↔ zG 18 10 L (.ref z.1 :: S) (z.1 + 1, z.2.1 + 6, z.2.2) (zup h z.1 (.inl (5, 6, .inr (.inr (.inr (.inr fun _ => none)))))) Q := e18_7 (k := 6) (by decide)
theorem n21_7 : zG 21 7 L (.int (zi 12) :: S) z h Q ↔ zG 21 9 L (.ref z.1 :: S) (z.1 + 1, z.2.1 + 12, z.2.2) (zup h z.1 (znew 0 12)) Q := e21_7 (k := 12) (by decide)
theorem n21_15 : zG 21 15 L (.int (zi 12) :: S) z h Q ↔ zG 21 17 L (.ref z.1 :: S) (z.1 + 1, z.2.1 + 12, z.2.2) (zup h z.1 (znew 0 12)) Q := e21_15 (k := 12) (by decide)
theorem n21_23 : zG 21 23 L (.int (zi 12) :: S) z h Q ↔ zG 21 25 L (.ref z.1 :: S) (z.1 + 1, z.2.1 + 12, z.2.2) (zup h z.1 (znew 0 12)) Q := e21_23 (k := 12) (by decide)
theorem n21_31 : zG 21 31 L (.int (zi 12) :: S) z h Q ↔ zG 21 33 L (.ref z.1 :: S) (z.1 + 1, z.2.1 + 12, z.2.2) (zup h z.1 (znew 0 12)) Q := e21_31 (k := 12) (by decide)
theorem n31_7 : zG 31 7 L (.int (zi 90) :: S) z h Q ↔ zG 31 9 L (.ref z.1 :: S) (z.1 + 1, z.2.1 + 90, z.2.2) (zup h z.1 (znew 2 90)) Q := e31_7 (k := 90) (by decide)
theorem n31_14 : zG 31 14 L (.int (zi 3) :: S) z h Q ↔ zG 31 16 L (.ref z.1 :: S) (z.1 + 1, z.2.1 + 3, z.2.2) (zup h z.1 (znew 0 3)) Q := e31_14 (k := 3) (by decide)
theorem n32_7 : zG 32 7 L (.int (zi 10) :: S) z h Q ↔ zG 32 9 L (.ref z.1 :: S) (z.1 + 1, z.2.1 + 10, z.2.2) (zup h z.1 (znew 0 10)) Q := e32_7 (k := 10) (by decide)
theorem n32_15 : zG 32 15 L (.int (zi 10) :: S) z h Q ↔ zG 32 17 L (.ref z.1 :: S) (z.1 + 1, z.2.1 + 10, z.2.2) (zup h z.1 (znew 0 10)) Q := e32_15 (k := 10) (by decide)
theorem n32_23 : zG 32 23 L (.int (zi 10) :: S) z h Q ↔ zG 32 25 L (.ref z.1 :: S) (z.1 + 1, z.2.1 + 10, z.2.2) (zup h z.1 (znew 0 10)) Q := e32_23 (k := 10) (by decide)
theorem n37_7 : zG 37 7 L (.int (zi 12) :: S) z h Q ↔ zG 37 9 L (.ref z.1 :: S) (z.1 + 1, z.2.1 + 12, z.2.2) (zup h z.1 (znew 0 12)) Q := e37_7 (k := 12) (by decide)
theorem n37_15 : zG 37 15 L (.int (zi 12) :: S) z h Q ↔ zG 37 17 L (.ref z.1 :: S) (z.1 + 1, z.2.1 + 12, z.2.2) (zup h z.1 (znew 0 12)) Q := e37_15 (k := 12) (by decide)
theorem n37_23 : zG 37 23 L (.int (zi 12) :: S) z h Q ↔ zG 37 25 L (.ref z.1 :: S) (z.1 + 1, z.2.1 + 12, z.2.2) (zup h z.1 (znew 0 12)) Q := e37_23 (k := 12) (by decide)
theorem n45_6 : zG 45 6 L (.int (zi 2) :: S) z h Q ↔ zG 45 9 L (.ref z.1 :: S) (z.1 + 1, z.2.1 + 2, z.2.2) (zup h z.1 (.inl (5, 2, .inr (.inr (.inr (.inr fun _ => none)))))) Q := e45_6 (k := 2) (by decide)
theorem n45_14 : zG 45 14 L (.int (zi 2) :: S) z h Q ↔ zG 45 16 L (.ref z.1 :: S) (z.1 + 1, z.2.1 + 2, z.2.2) (zup h z.1 (znew 3 2)) Q := e45_14 (k := 2) (by decide)
theorem n50_6 : zG 50 6 L (.int (zi 4) :: S) z h Q ↔ zG 50 9 L (.ref z.1 :: S) (z.1 + 1, z.2.1 + 4, z.2.2) (zup h z.1 (.inl (4, 4, .inr (.inr (.inr (.inr fun _ => none)))))) Q := e50_6 (k := 4) (by decide)
theorem zf6_0 {v x0 x1 x2 x3 x4 : Value} : zsetf 6 0 v (.inr (6, [x0, x1, x2, x3, x4])) = some (.inr (6, [v, x1, x2, x3, x4])) := zsetf_inr 6 0 v [x0, x1, x2, x3, x4] (show 0 < 5 by decide)
theorem zf6_1 {v x0 x1 x2 x3 x4 : Value} : zsetf 6 1 v (.inr (6, [x0, x1, x2, x3, x4])) = some (.inr (6, [x0, v, x2, x3, x4])) := zsetf_inr 6 1 v [x0, x1, x2, x3, x4] (show 1 < 5 by decide)
theorem zf6_2 {v x0 x1 x2 x3 x4 : Value} : zsetf 6 2 v (.inr (6, [x0, x1, x2, x3, x4])) = some (.inr (6, [x0, x1, v, x3, x4])) := zsetf_inr 6 2 v [x0, x1, x2, x3, x4] (show 2 < 5 by decide)
theorem zf6_3 {v x0 x1 x2 x3 x4 : Value} : zsetf 6 3 v (.inr (6, [x0, x1, x2, x3, x4])) = some (.inr (6, [x0, x1, x2, v, x4])) := zsetf_inr 6 3 v [x0, x1, x2, x3, x4] (show 3 < 5 by decide)
theorem zf6_4 {v x0 x1 x2 x3 x4 : Value} : zsetf 6 4 v (.inr (6, [x0, x1, x2, x3, x4])) = some (.inr (6, [x0, x1, x2, x3, v])) := zsetf_inr 6 4 v [x0, x1, x2, x3, x4] (show 4 < 5 by decide)
theorem zf0_0 {v x0 x1 x2 x3 : Value} : zsetf 0 0 v (.inr (0, [x0, x1, x2, x3])) = some (.inr (0, [v, x1, x2, x3])) := zsetf_inr 0 0 v [x0, x1, x2, x3] (show 0 < 4 by decide)
theorem zf0_1 {v x0 x1 x2 x3 : Value} : zsetf 0 1 v (.inr (0, [x0, x1, x2, x3])) = some (.inr (0, [x0, v, x2, x3])) := zsetf_inr 0 1 v [x0, x1, x2, x3] (show 1 < 4 by decide)
theorem zf0_2 {v x0 x1 x2 x3 : Value} : zsetf 0 2 v (.inr (0, [x0, x1, x2, x3])) = some (.inr (0, [x0, x1, v, x3])) := zsetf_inr 0 2 v [x0, x1, x2, x3] (show 2 < 4 by decide)
theorem zf0_3 {v x0 x1 x2 x3 : Value} : zsetf 0 3 v (.inr (0, [x0, x1, x2, x3])) = some (.inr (0, [x0, x1, x2, v])) := zsetf_inr 0 3 v [x0, x1, x2, x3] (show 3 < 4 by decide)
theorem zf7_0 {v x0 x1 x2 x3 : Value} : zsetf 7 0 v (.inr (7, [x0, x1, x2, x3])) = some (.inr (7, [v, x1, x2, x3])) := zsetf_inr 7 0 v [x0, x1, x2, x3] (show 0 < 4 by decide)
theorem zf7_1 {v x0 x1 x2 x3 : Value} : zsetf 7 1 v (.inr (7, [x0, x1, x2, x3])) = some (.inr (7, [x0, v, x2, x3])) := zsetf_inr 7 1 v [x0, x1, x2, x3] (show 1 < 4 by decide)
theorem zf7_2 {v x0 x1 x2 x3 : Value} : zsetf 7 2 v (.inr (7, [x0, x1, x2, x3])) = some (.inr (7, [x0, x1, v, x3])) := zsetf_inr 7 2 v [x0, x1, x2, x3] (show 2 < 4 by decide)
theorem zf7_3 {v x0 x1 x2 x3 : Value} : zsetf 7 3 v (.inr (7, [x0, x1, x2, x3])) = some (.inr (7, [x0, x1, x2, v])) := zsetf_inr 7 3 v [x0, x1, x2, x3] (show 3 < 4 by decide)
theorem zf3_0 {v x0 x1 x2 x3 x4 : Value} : zsetf 3 0 v (.inr (3, [x0, x1, x2, x3, x4])) = some (.inr (3, [v, x1, x2, x3, x4])) := zsetf_inr 3 0 v [x0, x1, x2, x3, x4] (show 0 < 5 by decide)
theorem zf3_1 {v x0 x1 x2 x3 x4 : Value} : zsetf 3 1 v (.inr (3, [x0, x1, x2, x3, x4])) = some (.inr (3, [x0, v, x2, x3, x4])) := zsetf_inr 3 1 v [x0, x1, x2, x3, x4] (show 1 < 5 by decide)
theorem zf3_2 {v x0 x1 x2 x3 x4 : Value} : zsetf 3 2 v (.inr (3, [x0, x1, x2, x3, x4])) = some (.inr (3, [x0, x1, v, x3, x4])) := zsetf_inr 3 2 v [x0, x1, x2, x3, x4] (show 2 < 5 by decide)
theorem zf3_3 {v x0 x1 x2 x3 x4 : Value} : zsetf 3 3 v (.inr (3, [x0, x1, x2, x3, x4])) = some (.inr (3, [x0, x1, x2, v, x4])) := zsetf_inr 3 3 v [x0, x1, x2, x3, x4] (show 3 < 5 by decide)
theorem zf3_4 {v x0 x1 x2 x3 x4 : Value} : zsetf 3 4 v (.inr (3, [x0, x1, x2, x3, x4])) = some (.inr (3, [x0, x1, x2, x3, v])) := zsetf_inr 3 4 v [x0, x1, x2, x3, x4] (show 4 < 5 by decide)
theorem zf9_0 {v x0 x1 x2 x3 x4 x5 x6 x7 x8 x9 x10 : Value} : zsetf 9 0 v (.inr (9, [x0, x1, x2, x3, x4, x5, x6, x7, x8, x9, x10])) = some (.inr (9, [v, x1, x2, x3, x4, x5, x6, x7, x8, x9, x10])) := zsetf_inr 9 0 v [x0, x1, x2, x3, x4, x5, x6, x7, x8, x9, x10] (show 0 < 11 by decide)
theorem zf9_1 {v x0 x1 x2 x3 x4 x5 x6 x7 x8 x9 x10 : Value} : zsetf 9 1 v (.inr (9, [x0, x1, x2, x3, x4, x5, x6, x7, x8, x9, x10])) = some (.inr (9, [x0, v, x2, x3, x4, x5, x6, x7, x8, x9, x10])) := zsetf_inr 9 1 v [x0, x1, x2, x3, x4, x5, x6, x7, x8, x9, x10] (show 1 < 11 by decide)
theorem zf9_2 {v x0 x1 x2 x3 x4 x5 x6 x7 x8 x9 x10 : Value} : zsetf 9 2 v (.inr (9, [x0, x1, x2, x3, x4, x5, x6, x7, x8, x9, x10])) = some (.inr (9, [x0, x1, v, x3, x4, x5, x6, x7, x8, x9, x10])) := zsetf_inr 9 2 v [x0, x1, x2, x3, x4, x5, x6, x7, x8, x9, x10] (show 2 < 11 by decide)
theorem zf9_3 {v x0 x1 x2 x3 x4 x5 x6 x7 x8 x9 x10 : Value} : zsetf 9 3 v (.inr (9, [x0, x1, x2, x3, x4, x5, x6, x7, x8, x9, x10])) = some (.inr (9, [x0, x1, x2, v, x4, x5, x6, x7, x8, x9, x10])) := zsetf_inr 9 3 v [x0, x1, x2, x3, x4, x5, x6, x7, x8, x9, x10] (show 3 < 11 by decide)
theorem zf9_4 {v x0 x1 x2 x3 x4 x5 x6 x7 x8 x9 x10 : Value} : zsetf 9 4 v (.inr (9, [x0, x1, x2, x3, x4, x5, x6, x7, x8, x9, x10])) = some (.inr (9, [x0, x1, x2, x3, v, x5, x6, x7, x8, x9, x10])) := zsetf_inr 9 4 v [x0, x1, x2, x3, x4, x5, x6, x7, x8, x9, x10] (show 4 < 11 by decide)
theorem zf9_5 {v x0 x1 x2 x3 x4 x5 x6 x7 x8 x9 x10 : Value} : zsetf 9 5 v (.inr (9, [x0, x1, x2, x3, x4, x5, x6, x7, x8, x9, x10])) = some (.inr (9, [x0, x1, x2, x3, x4, v, x6, x7, x8, x9, x10])) := zsetf_inr 9 5 v [x0, x1, x2, x3, x4, x5, x6, x7, x8, x9, x10] (show 5 < 11 by decide)
theorem zf9_6 {v x0 x1 x2 x3 x4 x5 x6 x7 x8 x9 x10 : Value} : zsetf 9 6 v (.inr (9, [x0, x1, x2, x3, x4, x5, x6, x7, x8, x9, x10])) = some (.inr (9, [x0, x1, x2, x3, x4, x5, v, x7, x8, x9, x10])) := zsetf_inr 9 6 v [x0, x1, x2, x3, x4, x5, x6, x7, x8, x9, x10] (show 6 < 11 by decide)
theorem zf9_7 {v x0 x1 x2 x3 x4 x5 x6 x7 x8 x9 x10 : Value} : zsetf 9 7 v (.inr (9, [x0, x1, x2, x3, x4, x5, x6, x7, x8, x9, x10])) = some (.inr (9, [x0, x1, x2, x3, x4, x5, x6, v, x8, x9, x10])) := zsetf_inr 9 7 v [x0, x1, x2, x3, x4, x5, x6, x7, x8, x9, x10] (show 7 < 11 by decide)
theorem zf9_8 {v x0 x1 x2 x3 x4 x5 x6 x7 x8 x9 x10 : Value} : zsetf 9 8 v (.inr (9, [x0, x1, x2, x3, x4, x5, x6, x7, x8, x9, x10])) = some (.inr (9, [x0, x1, x2, x3, x4, x5, x6, x7, v, x9, x10])) := zsetf_inr 9 8 v [x0, x1, x2, x3, x4, x5, x6, x7, x8, x9, x10] (show 8 < 11 by decide)
theorem zf9_9 {v x0 x1 x2 x3 x4 x5 x6 x7 x8 x9 x10 : Value} : zsetf 9 9 v (.inr (9, [x0, x1, x2, x3, x4, x5, x6, x7, x8, x9, x10])) = some (.inr (9, [x0, x1, x2, x3, x4, x5, x6, x7, x8, v, x10])) := zsetf_inr 9 9 v [x0, x1, x2, x3, x4, x5, x6, x7, x8, x9, x10] (show 9 < 11 by decide)
theorem zf9_10 {v x0 x1 x2 x3 x4 x5 x6 x7 x8 x9 x10 : Value} : zsetf 9 10 v (.inr (9, [x0, x1, x2, x3, x4, x5, x6, x7, x8, x9, x10])) = some (.inr (9, [x0, x1, x2, x3, x4, x5, x6, x7, x8, x9, v])) := zsetf_inr 9 10 v [x0, x1, x2, x3, x4, x5, x6, x7, x8, x9, x10] (show 10 < 11 by decide)
theorem zf2_0 {v x0 x1 x2 x3 : Value} : zsetf 2 0 v (.inr (2, [x0, x1, x2, x3])) = some (.inr (2, [v, x1, x2, x3])) := zsetf_inr 2 0 v [x0, x1, x2, x3] (show 0 < 4 by decide)
theorem zf2_1 {v x0 x1 x2 x3 : Value} : zsetf 2 1 v (.inr (2, [x0, x1, x2, x3])) = some (.inr (2, [x0, v, x2, x3])) := zsetf_inr 2 1 v [x0, x1, x2, x3] (show 1 < 4 by decide)
theorem zf2_2 {v x0 x1 x2 x3 : Value} : zsetf 2 2 v (.inr (2, [x0, x1, x2, x3])) = some (.inr (2, [x0, x1, v, x3])) := zsetf_inr 2 2 v [x0, x1, x2, x3] (show 2 < 4 by decide)
theorem zf2_3 {v x0 x1 x2 x3 : Value} : zsetf 2 3 v (.inr (2, [x0, x1, x2, x3])) = some (.inr (2, [x0, x1, x2, v])) := zsetf_inr 2 3 v [x0, x1, x2, x3] (show 3 < 4 by decide)
theorem zf8_0 {v x0 x1 : Value} : zsetf 8 0 v (.inr (8, [x0, x1])) = some (.inr (8, [v, x1])) := zsetf_inr 8 0 v [x0, x1] (show 0 < 2 by decide)
theorem zf8_1 {v x0 x1 : Value} : zsetf 8 1 v (.inr (8, [x0, x1])) = some (.inr (8, [x0, v])) := zsetf_inr 8 1 v [x0, x1] (show 1 < 2 by decide)
theorem zf5_0 {v x0 x1 x2 x3 x4 x5 : Value} : zsetf 5 0 v (.inr (5, [x0, x1, x2, x3, x4, x5])) = some (.inr (5, [v, x1, x2, x3, x4, x5])) := zsetf_inr 5 0 v [x0, x1, x2, x3, x4, x5] (show 0 < 6 by decide)
theorem zf5_1 {v x0 x1 x2 x3 x4 x5 : Value} : zsetf 5 1 v (.inr (5, [x0, x1, x2, x3, x4, x5])) = some (.inr (5, [x0, v, x2, x3, x4, x5])) := zsetf_inr 5 1 v [x0, x1, x2, x3, x4, x5] (show 1 < 6 by decide)
theorem zf5_2 {v x0 x1 x2 x3 x4 x5 : Value} : zsetf 5 2 v (.inr (5, [x0, x1, x2, x3, x4, x5])) = some (.inr (5, [x0, x1, v, x3, x4, x5])) := zsetf_inr 5 2 v [x0, x1, x2, x3, x4, x5] (show 2 < 6 by decide)
theorem zf5_3 {v x0 x1 x2 x3 x4 x5 : Value} : zsetf 5 3 v (.inr (5, [x0, x1, x2, x3, x4, x5])) = some (.inr (5, [x0, x1, x2, v, x4, x5])) := zsetf_inr 5 3 v [x0, x1, x2, x3, x4, x5] (show 3 < 6 by decide)
theorem zf5_4 {v x0 x1 x2 x3 x4 x5 : Value} : zsetf 5 4 v (.inr (5, [x0, x1, x2, x3, x4, x5])) = some (.inr (5, [x0, x1, x2, x3, v, x5])) := zsetf_inr 5 4 v [x0, x1, x2, x3, x4, x5] (show 4 < 6 by decide)
theorem zf5_5 {v x0 x1 x2 x3 x4 x5 : Value} : zsetf 5 5 v (.inr (5, [x0, x1, x2, x3, x4, x5])) = some (.inr (5, [x0, x1, x2, x3, x4, v])) := zsetf_inr 5 5 v [x0, x1, x2, x3, x4, x5] (show 5 < 6 by decide)
theorem zf1_0 {v x0 x1 x2 x3 x4 x5 x6 x7 : Value} : zsetf 1 0 v (.inr (1, [x0, x1, x2, x3, x4, x5, x6, x7])) = some (.inr (1, [v, x1, x2, x3, x4, x5, x6, x7])) := zsetf_inr 1 0 v [x0, x1, x2, x3, x4, x5, x6, x7] (show 0 < 8 by decide)
theorem zf1_1 {v x0 x1 x2 x3 x4 x5 x6 x7 : Value} : zsetf 1 1 v (.inr (1, [x0, x1, x2, x3, x4, x5, x6, x7])) = some (.inr (1, [x0, v, x2, x3, x4, x5, x6, x7])) := zsetf_inr 1 1 v [x0, x1, x2, x3, x4, x5, x6, x7] (show 1 < 8 by decide)
theorem zf1_2 {v x0 x1 x2 x3 x4 x5 x6 x7 : Value} : zsetf 1 2 v (.inr (1, [x0, x1, x2, x3, x4, x5, x6, x7])) = some (.inr (1, [x0, x1, v, x3, x4, x5, x6, x7])) := zsetf_inr 1 2 v [x0, x1, x2, x3, x4, x5, x6, x7] (show 2 < 8 by decide)
theorem zf1_3 {v x0 x1 x2 x3 x4 x5 x6 x7 : Value} : zsetf 1 3 v (.inr (1, [x0, x1, x2, x3, x4, x5, x6, x7])) = some (.inr (1, [x0, x1, x2, v, x4, x5, x6, x7])) := zsetf_inr 1 3 v [x0, x1, x2, x3, x4, x5, x6, x7] (show 3 < 8 by decide)
theorem zf1_4 {v x0 x1 x2 x3 x4 x5 x6 x7 : Value} : zsetf 1 4 v (.inr (1, [x0, x1, x2, x3, x4, x5, x6, x7])) = some (.inr (1, [x0, x1, x2, x3, v, x5, x6, x7])) := zsetf_inr 1 4 v [x0, x1, x2, x3, x4, x5, x6, x7] (show 4 < 8 by decide)
theorem zf1_5 {v x0 x1 x2 x3 x4 x5 x6 x7 : Value} : zsetf 1 5 v (.inr (1, [x0, x1, x2, x3, x4, x5, x6, x7])) = some (.inr (1, [x0, x1, x2, x3, x4, v, x6, x7])) := zsetf_inr 1 5 v [x0, x1, x2, x3, x4, x5, x6, x7] (show 5 < 8 by decide)
theorem zf1_6 {v x0 x1 x2 x3 x4 x5 x6 x7 : Value} : zsetf 1 6 v (.inr (1, [x0, x1, x2, x3, x4, x5, x6, x7])) = some (.inr (1, [x0, x1, x2, x3, x4, x5, v, x7])) := zsetf_inr 1 6 v [x0, x1, x2, x3, x4, x5, x6, x7] (show 6 < 8 by decide)
theorem zf1_7 {v x0 x1 x2 x3 x4 x5 x6 x7 : Value} : zsetf 1 7 v (.inr (1, [x0, x1, x2, x3, x4, x5, x6, x7])) = some (.inr (1, [x0, x1, x2, x3, x4, x5, x6, v])) := zsetf_inr 1 7 v [x0, x1, x2, x3, x4, x5, x6, x7] (show 7 < 8 by decide)
theorem zf10_0 {v x0 x1 x2 x3 x4 x5 x6 x7 : Value} : zsetf 10 0 v (.inr (10, [x0, x1, x2, x3, x4, x5, x6, x7])) = some (.inr (10, [v, x1, x2, x3, x4, x5, x6, x7])) := zsetf_inr 10 0 v [x0, x1, x2, x3, x4, x5, x6, x7] (show 0 < 8 by decide)
theorem zf10_1 {v x0 x1 x2 x3 x4 x5 x6 x7 : Value} : zsetf 10 1 v (.inr (10, [x0, x1, x2, x3, x4, x5, x6, x7])) = some (.inr (10, [x0, v, x2, x3, x4, x5, x6, x7])) := zsetf_inr 10 1 v [x0, x1, x2, x3, x4, x5, x6, x7] (show 1 < 8 by decide)
theorem zf10_2 {v x0 x1 x2 x3 x4 x5 x6 x7 : Value} : zsetf 10 2 v (.inr (10, [x0, x1, x2, x3, x4, x5, x6, x7])) = some (.inr (10, [x0, x1, v, x3, x4, x5, x6, x7])) := zsetf_inr 10 2 v [x0, x1, x2, x3, x4, x5, x6, x7] (show 2 < 8 by decide)
theorem zf10_3 {v x0 x1 x2 x3 x4 x5 x6 x7 : Value} : zsetf 10 3 v (.inr (10, [x0, x1, x2, x3, x4, x5, x6, x7])) = some (.inr (10, [x0, x1, x2, v, x4, x5, x6, x7])) := zsetf_inr 10 3 v [x0, x1, x2, x3, x4, x5, x6, x7] (show 3 < 8 by decide)
theorem zf10_4 {v x0 x1 x2 x3 x4 x5 x6 x7 : Value} : zsetf 10 4 v (.inr (10, [x0, x1, x2, x3, x4, x5, x6, x7])) = some (.inr (10, [x0, x1, x2, x3, v, x5, x6, x7])) := zsetf_inr 10 4 v [x0, x1, x2, x3, x4, x5, x6, x7] (show 4 < 8 by decide)
theorem zf10_5 {v x0 x1 x2 x3 x4 x5 x6 x7 : Value} : zsetf 10 5 v (.inr (10, [x0, x1, x2, x3, x4, x5, x6, x7])) = some (.inr (10, [x0, x1, x2, x3, x4, v, x6, x7])) := zsetf_inr 10 5 v [x0, x1, x2, x3, x4, x5, x6, x7] (show 5 < 8 by decide)
theorem zf10_6 {v x0 x1 x2 x3 x4 x5 x6 x7 : Value} : zsetf 10 6 v (.inr (10, [x0, x1, x2, x3, x4, x5, x6, x7])) = some (.inr (10, [x0, x1, x2, x3, x4, x5, v, x7])) := zsetf_inr 10 6 v [x0, x1, x2, x3, x4, x5, x6, x7] (show 6 < 8 by decide)
theorem zf10_7 {v x0 x1 x2 x3 x4 x5 x6 x7 : Value} : zsetf 10 7 v (.inr (10, [x0, x1, x2, x3, x4, x5, x6, x7])) = some (.inr (10, [x0, x1, x2, x3, x4, x5, x6, v])) := zsetf_inr 10 7 v [x0, x1, x2, x3, x4, x5, x6, x7] (show 7 < 8 by decide)
theorem t_per {u : Int} : zG 32 0 [.ref q, .int (zi u)] [] (q + 1, n, w) (zup h q (.inr (6, [.null, .null, .null, .int 0, .int 0]))) K ↔ K none (q + 4, n + 30, w) (zup (zup (zup (zup h q (zpob (q + 1) (q + 2) (q + 3) u 0)) (q + 1) (zvc 0 10 z0)) (q + 2) (zvc 0 10 z0)) (q + 3) (zvc 0 10 z0)) := by
  have hb : ∀ (H : zH) (x : Nat) (c u : va_E), x ≠ q → zup (zup H x c) q u = zup (zup H q u) x c := fun H x c u hx => zup_dn hx
  simp (disch := omega) only [e32_0, e32_1, e32_4, e32_5, e32_9, e32_12, e32_13, e32_17, e32_20, e32_21, e32_25, e32_28, e32_29, e32_30, e32_33, n32_7, n32_15, n32_23, zf6_0, zf6_1, zf6_2, zf6_3, zf6_4, zi_add, zi_sub, zi_mul, zl_add, zl_sub, zl_mul, zl_i, zi_l, zi_lt, zi_le, zi_eq, zl_lt, zl_le, zl_eq, zlc_lt, zlc_le, zlc_gt, zlc_ge, zlc_eq, zi_ne0, zl_ne0, zi_div, zl_div, zi_rem, zl_rem, zcat_nil, zcat_int, zcat_ref, zcat_long, zkill_int, zkill_ref, zkill_long, zkill_J, zkill2, zto_some, zto_none, znb0, znb1, zB_some, zbr_t, zbr_f, not_true_eq_false, not_false_eq_true, true_imp_iff, false_imp_iff, true_and, and_true, Nat.reduceAdd, Nat.reduceLeDiff, Int.reduceAdd, Int.reduceSub, Int.reduceMul, Int.reduceNeg, zisC_inr, zget_inr, zsetf_inr, zldl_row, zald_row, zstl_row, zast_row, List.getElem?_cons_zero, List.getElem?_cons_succ, List.length_cons, List.length_nil, List.set_cons_zero, List.set_cons_succ, zup_ap, if_true, if_pos, if_neg, zup_two, znew_v0, znew_v2, znew_v3, hb]
  rfl
theorem t_crew : zG 0 0 [.ref q] [] (q + 1, n, w) (zup h q (.inr (0, [.null, .null, .null, .int 0]))) K ↔ K none (q + 4, n + 45, w) (zup (zup (zup (zup h q (zcob (q + 1) (q + 2) (q + 3) 0)) (q + 1) (zvc 0 35 z0)) (q + 2) (zvc 0 5 z0)) (q + 3) (zvc 0 5 z0)) := by
  have hb : ∀ (H : zH) (x : Nat) (c u : va_E), x ≠ q → zup (zup H x c) q u = zup (zup H q u) x c := fun H x c u hx => zup_dn hx
  simp (disch := omega) only [e0_0, e0_1, e0_4, e0_5, e0_9, e0_12, e0_13, e0_16, e0_19, e0_20, e0_23, e0_26, n0_7, n0_14, n0_21, zf0_0, zf0_1, zf0_2, zf0_3, zi_add, zi_sub, zi_mul, zl_add, zl_sub, zl_mul, zl_i, zi_l, zi_lt, zi_le, zi_eq, zl_lt, zl_le, zl_eq, zlc_lt, zlc_le, zlc_gt, zlc_ge, zlc_eq, zi_ne0, zl_ne0, zi_div, zl_div, zi_rem, zl_rem, zcat_nil, zcat_int, zcat_ref, zcat_long, zkill_int, zkill_ref, zkill_long, zkill_J, zkill2, zto_some, zto_none, znb0, znb1, zB_some, zbr_t, zbr_f, not_true_eq_false, not_false_eq_true, true_imp_iff, false_imp_iff, true_and, and_true, Nat.reduceAdd, Nat.reduceLeDiff, Int.reduceAdd, Int.reduceSub, Int.reduceMul, Int.reduceNeg, zisC_inr, zget_inr, zsetf_inr, zldl_row, zald_row, zstl_row, zast_row, List.getElem?_cons_zero, List.getElem?_cons_succ, List.length_cons, List.length_nil, List.set_cons_zero, List.set_cons_succ, zup_ap, if_true, if_pos, if_neg, zup_two, znew_v0, znew_v2, znew_v3, hb]
  rfl
theorem t_plan : zG 37 0 [.ref q] [] (q + 1, n, w) (zup h q (.inr (7, [.null, .null, .null, .int 0]))) K ↔ K none (q + 4, n + 36, w) (zup (zup (zup (zup h q (zlob (q + 1) (q + 2) (q + 3) 0)) (q + 1) (zvc 0 12 z0)) (q + 2) (zvc 0 12 z0)) (q + 3) (zvc 0 12 z0)) := by
  have hb : ∀ (H : zH) (x : Nat) (c u : va_E), x ≠ q → zup (zup H x c) q u = zup (zup H q u) x c := fun H x c u hx => zup_dn hx
  simp (disch := omega) only [e37_0, e37_1, e37_4, e37_5, e37_9, e37_12, e37_13, e37_17, e37_20, e37_21, e37_25, e37_28, n37_7, n37_15, n37_23, zf7_0, zf7_1, zf7_2, zf7_3, zi_add, zi_sub, zi_mul, zl_add, zl_sub, zl_mul, zl_i, zi_l, zi_lt, zi_le, zi_eq, zl_lt, zl_le, zl_eq, zlc_lt, zlc_le, zlc_gt, zlc_ge, zlc_eq, zi_ne0, zl_ne0, zi_div, zl_div, zi_rem, zl_rem, zcat_nil, zcat_int, zcat_ref, zcat_long, zkill_int, zkill_ref, zkill_long, zkill_J, zkill2, zto_some, zto_none, znb0, znb1, zB_some, zbr_t, zbr_f, not_true_eq_false, not_false_eq_true, true_imp_iff, false_imp_iff, true_and, and_true, Nat.reduceAdd, Nat.reduceLeDiff, Int.reduceAdd, Int.reduceSub, Int.reduceMul, Int.reduceNeg, zisC_inr, zget_inr, zsetf_inr, zldl_row, zald_row, zstl_row, zast_row, List.getElem?_cons_zero, List.getElem?_cons_succ, List.length_cons, List.length_nil, List.set_cons_zero, List.set_cons_succ, zup_ap, if_true, if_pos, if_neg, zup_two, znew_v0, znew_v2, znew_v3, hb]
  rfl
theorem t_log : zG 21 0 [.ref q] [] (q + 1, n, w) (zup h q (.inr (3, [.null, .null, .null, .null, .int 0]))) K ↔ K none (q + 5, n + 48, w) (zup (zup (zup (zup (zup h q (zgob (q + 1) (q + 2) (q + 3) (q + 4) 0)) (q + 1) (zvc 0 12 z0)) (q + 2) (zvc 0 12 z0)) (q + 3) (zvc 0 12 z0)) (q + 4) (zvc 0 12 z0)) := by
  have hb : ∀ (H : zH) (x : Nat) (c u : va_E), x ≠ q → zup (zup H x c) q u = zup (zup H q u) x c := fun H x c u hx => zup_dn hx
  simp (disch := omega) only [e21_0, e21_1, e21_4, e21_5, e21_9, e21_12, e21_13, e21_17, e21_20, e21_21, e21_25, e21_28, e21_29, e21_33, e21_36, n21_7, n21_15, n21_23, n21_31, zf3_0, zf3_1, zf3_2, zf3_3, zf3_4, zi_add, zi_sub, zi_mul, zl_add, zl_sub, zl_mul, zl_i, zi_l, zi_lt, zi_le, zi_eq, zl_lt, zl_le, zl_eq, zlc_lt, zlc_le, zlc_gt, zlc_ge, zlc_eq, zi_ne0, zl_ne0, zi_div, zl_div, zi_rem, zl_rem, zcat_nil, zcat_int, zcat_ref, zcat_long, zkill_int, zkill_ref, zkill_long, zkill_J, zkill2, zto_some, zto_none, znb0, znb1, zB_some, zbr_t, zbr_f, not_true_eq_false, not_false_eq_true, true_imp_iff, false_imp_iff, true_and, and_true, Nat.reduceAdd, Nat.reduceLeDiff, Int.reduceAdd, Int.reduceSub, Int.reduceMul, Int.reduceNeg, zisC_inr, zget_inr, zsetf_inr, zldl_row, zald_row, zstl_row, zast_row, List.getElem?_cons_zero, List.getElem?_cons_succ, List.length_cons, List.length_nil, List.set_cons_zero, List.set_cons_succ, zup_ap, if_true, if_pos, if_neg, zup_two, znew_v0, znew_v2, znew_v3, hb]
  rfl
theorem t_mir {a : Nat} {H : zH} {zz : zZ} : zG 25 0 [.ref a] [] zz H K ↔ K none zz H := by
  simp (disch := omega) only [e25_0, e25_1, e25_4, zi_add, zi_sub, zi_mul, zl_add, zl_sub, zl_mul, zl_i, zi_l, zi_lt, zi_le, zi_eq, zl_lt, zl_le, zl_eq, zlc_lt, zlc_le, zlc_gt, zlc_ge, zlc_eq, zi_ne0, zl_ne0, zi_div, zl_div, zi_rem, zl_rem, zcat_nil, zcat_int, zcat_ref, zcat_long, zkill_int, zkill_ref, zkill_long, zkill_J, zkill2, zto_some, zto_none, znb0, znb1, zB_some, zbr_t, zbr_f, not_true_eq_false, not_false_eq_true, true_imp_iff, false_imp_iff, true_and, and_true, Nat.reduceAdd, Nat.reduceLeDiff, Int.reduceAdd, Int.reduceSub, Int.reduceMul, Int.reduceNeg, zisC_inr, zget_inr, zsetf_inr, zldl_row, zald_row, zstl_row, zast_row, List.getElem?_cons_zero, List.getElem?_cons_succ, List.length_cons, List.length_nil, List.set_cons_zero, List.set_cons_succ]
theorem t_sign : zG 31 0 [.ref q] [] (q + 1, n, w) (zup h q (.inr (5, [.null, .null, .int 0, .int 0, .int 0, .int 0]))) K ↔ K none (q + 3, n + 93, w) (zup (zup (zup h q (.inr (5, [.ref (q + 1), .ref (q + 2), .int 0, .int 0, .int 0, .int 0]))) (q + 1) (zvc 2 90 z0)) (q + 2) (zvc 0 3 z0)) := by
  have hb : ∀ (H : zH) (x : Nat) (c u : va_E), x ≠ q → zup (zup H x c) q u = zup (zup H q u) x c := fun H x c u hx => zup_dn hx
  simp (disch := omega) only [e31_0, e31_1, e31_4, e31_5, e31_9, e31_12, e31_13, e31_16, e31_19, n31_7, n31_14, zf5_0, zf5_1, zf5_2, zf5_3, zf5_4, zf5_5, zi_add, zi_sub, zi_mul, zl_add, zl_sub, zl_mul, zl_i, zi_l, zi_lt, zi_le, zi_eq, zl_lt, zl_le, zl_eq, zlc_lt, zlc_le, zlc_gt, zlc_ge, zlc_eq, zi_ne0, zl_ne0, zi_div, zl_div, zi_rem, zl_rem, zcat_nil, zcat_int, zcat_ref, zcat_long, zkill_int, zkill_ref, zkill_long, zkill_J, zkill2, zto_some, zto_none, znb0, znb1, zB_some, zbr_t, zbr_f, not_true_eq_false, not_false_eq_true, true_imp_iff, false_imp_iff, true_and, and_true, Nat.reduceAdd, Nat.reduceLeDiff, Int.reduceAdd, Int.reduceSub, Int.reduceMul, Int.reduceNeg, zisC_inr, zget_inr, zsetf_inr, zldl_row, zald_row, zstl_row, zast_row, List.getElem?_cons_zero, List.getElem?_cons_succ, List.length_cons, List.length_nil, List.set_cons_zero, List.set_cons_succ, zup_ap, if_true, if_pos, if_neg, zup_two, znew_v0, znew_v2, znew_v3, hb]
theorem t_fore : zG 10 0 [.ref q] [] (q + 1, n, w) (zup h q (.inr (1, [.null, .null, .null, .null, .null, .null, .null, .int 0]))) K ↔ K none (q + 8, n + 258, w) (zup (zup (zup (zup (zup (zup (zup (zup h q (.inr (1, [.ref (q + 1), .ref (q + 2), .ref (q + 3), .ref (q + 4), .ref (q + 5), .ref (q + 6), .ref (q + 7), .int 0]))) (q + 1) (zvc 0 60 z0)) (q + 2) (zvc 0 60 z0)) (q + 3) (zvc 0 60 z0)) (q + 4) (zvc 3 60 z0)) (q + 5) (.inr (4, [.int 0, .int 0, .int 0, .int 0, .int 0, .long 0]))) (q + 6) (.inr (4, [.int 0, .int 0, .int 0, .int 0, .int 0, .long 0]))) (q + 7) (.inr (4, [.int 0, .int 0, .int 0, .int 0, .int 0, .long 0]))) := by
  have hb : ∀ (H : zH) (x : Nat) (c u : va_E), x ≠ q → zup (zup H x c) q u = zup (zup H q u) x c := fun H x c u hx => zup_dn hx
  simp (disch := omega) only [e10_0, e10_1, e10_4, e10_5, e10_9, e10_12, e10_13, e10_17, e10_20, e10_21, e10_25, e10_28, e10_29, e10_33, e10_36, e10_37, e10_40, e10_41, e10_44, e10_47, e10_48, e10_51, e10_52, e10_55, e10_58, e10_59, e10_62, e10_63, e10_66, e10_69, n10_7, n10_15, n10_23, n10_31, zf1_0, zf1_1, zf1_2, zf1_3, zf1_4, zf1_5, zf1_6, zf1_7, zi_add, zi_sub, zi_mul, zl_add, zl_sub, zl_mul, zl_i, zi_l, zi_lt, zi_le, zi_eq, zl_lt, zl_le, zl_eq, zlc_lt, zlc_le, zlc_gt, zlc_ge, zlc_eq, zi_ne0, zl_ne0, zi_div, zl_div, zi_rem, zl_rem, zcat_nil, zcat_int, zcat_ref, zcat_long, zkill_int, zkill_ref, zkill_long, zkill_J, zkill2, zto_some, zto_none, znb0, znb1, zB_some, zbr_t, zbr_f, not_true_eq_false, not_false_eq_true, true_imp_iff, false_imp_iff, true_and, and_true, Nat.reduceAdd, Nat.reduceLeDiff, Int.reduceAdd, Int.reduceSub, Int.reduceMul, Int.reduceNeg, zisC_inr, zget_inr, zsetf_inr, zldl_row, zald_row, zstl_row, zast_row, List.getElem?_cons_zero, List.getElem?_cons_succ, List.length_cons, List.length_nil, List.set_cons_zero, List.set_cons_succ, zup_ap, if_true, if_pos, if_neg, zup_two, znew_v0, znew_v2, znew_v3, hb, t_mir]
/-- a State under way: its object O, its mirrors' array M, cells 2 to k - 1 as they end -/
def zpt (h : zH) (b k : Nat) (O M : va_E) : zH := fun x => if x = b then O else if x = b + 1 then M else if b + 2 ≤ x ∧ x < b + k then zbk b z0 (x - b) else h x
theorem zpt_o (h : zH) (b k : Nat) (O M : va_E) : zpt h b k O M b = O := if_pos rfl
theorem zpt_m (h : zH) (b k : Nat) (O M : va_E) : zpt h b k O M (b + 1) = M := (if_neg (by omega)).trans (if_pos rfl)
theorem zpu_o {h : zH} {b k : Nat} {O M O2 : va_E} : zup (zpt h b k O M) b O2 = zpt h b k O2 M := by
  funext x
  simp only [zup, zpt]
  by_cases c : x = b
  · rw [if_pos c, if_pos c]
  · rw [if_neg c, if_neg c, if_neg c]
theorem zpu_m {h : zH} {b k : Nat} {O M M2 : va_E} : zup (zpt h b k O M) (b + 1) M2 = zpt h b k O M2 := by
  funext x
  simp only [zup, zpt]
  by_cases c : x = b + 1
  · rw [if_pos c, if_neg (by omega), if_pos c]
  · rw [if_neg c]
    by_cases d : x = b
    · rw [if_pos d, if_pos d]
    · rw [if_neg d, if_neg d, if_neg c, if_neg c]
theorem zpu_k {h : zH} {b k x : Nat} {O M c : va_E} (hk : 2 ≤ k ∧ k < 27) (hx : x = b + k) (hc : c = zbk b z0 k) : zup (zpt h b k O M) x c = zpt h b (k + 1) O M := by
  subst hx
  funext y
  simp only [zup, zpt]
  by_cases e : y = b + k
  · rw [if_pos e, if_neg (by omega), if_neg (by omega), if_pos (by omega), e, Nat.add_sub_cancel_left, hc]
  · rw [if_neg e]
    by_cases c0 : y = b
    · rw [if_pos c0, if_pos c0]
    · rw [if_neg c0, if_neg c0]
      by_cases c1 : y = b + 1
      · rw [if_pos c1, if_pos c1]
      · rw [if_neg c1, if_neg c1]
        by_cases c2 : b + 2 ≤ y ∧ y < b + k
        · rw [if_pos c2, if_pos (by omega)]
        · rw [if_neg c2, if_neg (by omega)]
theorem zpt_end {h : zH} {b : Nat} : zpt h b 27 (zsob b z0) (zra 4 4 (b + 23) 1) = zcs h b z0 := by
  funext x
  simp only [zpt, zcs]
  by_cases c0 : x = b
  · rw [if_pos c0, if_pos (by omega), c0, Nat.sub_self]
    rfl
  · rw [if_neg c0]
    by_cases c1 : x = b + 1
    · rw [if_pos c1, if_pos (by omega), c1, Nat.add_sub_cancel_left]
      rfl
    · rw [if_neg c1]
      by_cases c2 : b + 2 ≤ x ∧ x < b + 27
      · rw [if_pos c2, if_pos (by omega)]
      · rw [if_neg c2, if_neg (by omega)]
theorem zpq_23 {h : zH} {b x : Nat} {O M : va_E} (hx : x = b + 23) : zpt h b 24 O M x = .inr (4, [.int 0, .int 0, .int 0, .int 0, .int 0, .long 0]) := by
  subst hx
  unfold zpt
  rw [if_neg (by omega), if_neg (by omega), if_pos (by omega), Nat.add_sub_cancel_left]
  rfl
theorem zpq_24 {h : zH} {b x : Nat} {O M : va_E} (hx : x = b + 24) : zpt h b 25 O M x = .inr (4, [.int 0, .int 0, .int 0, .int 0, .int 0, .long 0]) := by
  subst hx
  unfold zpt
  rw [if_neg (by omega), if_neg (by omega), if_pos (by omega), Nat.add_sub_cancel_left]
  rfl
theorem zpq_25 {h : zH} {b x : Nat} {O M : va_E} (hx : x = b + 25) : zpt h b 26 O M x = .inr (4, [.int 0, .int 0, .int 0, .int 0, .int 0, .long 0]) := by
  subst hx
  unfold zpt
  rw [if_neg (by omega), if_neg (by omega), if_pos (by omega), Nat.add_sub_cancel_left]
  rfl
theorem zpq_26 {h : zH} {b x : Nat} {O M : va_E} (hx : x = b + 26) : zpt h b 27 O M x = .inr (4, [.int 0, .int 0, .int 0, .int 0, .int 0, .long 0]) := by
  subst hx
  unfold zpt
  rw [if_neg (by omega), if_neg (by omega), if_pos (by omega), Nat.add_sub_cancel_left]
  rfl
theorem zpk_2 {h : zH} {b x : Nat} {O M : va_E} (hx : x = b + 2) : zup (zpt h b 2 O M) x (zpob (b + 3) (b + 4) (b + 5) 20 0) = zpt h b 3 O M := zpu_k (by omega) hx rfl
theorem zpk_3 {h : zH} {b x : Nat} {O M : va_E} (hx : x = b + 3) : zup (zpt h b 3 O M) x (zvc 0 10 z0) = zpt h b 4 O M := zpu_k (by omega) hx rfl
theorem zpk_4 {h : zH} {b x : Nat} {O M : va_E} (hx : x = b + 4) : zup (zpt h b 4 O M) x (zvc 0 10 z0) = zpt h b 5 O M := zpu_k (by omega) hx rfl
theorem zpk_5 {h : zH} {b x : Nat} {O M : va_E} (hx : x = b + 5) : zup (zpt h b 5 O M) x (zvc 0 10 z0) = zpt h b 6 O M := zpu_k (by omega) hx rfl
theorem zpk_6 {h : zH} {b x : Nat} {O M : va_E} (hx : x = b + 6) : zup (zpt h b 6 O M) x (zpob (b + 7) (b + 8) (b + 9) 15 0) = zpt h b 7 O M := zpu_k (by omega) hx rfl
theorem zpk_7 {h : zH} {b x : Nat} {O M : va_E} (hx : x = b + 7) : zup (zpt h b 7 O M) x (zvc 0 10 z0) = zpt h b 8 O M := zpu_k (by omega) hx rfl
theorem zpk_8 {h : zH} {b x : Nat} {O M : va_E} (hx : x = b + 8) : zup (zpt h b 8 O M) x (zvc 0 10 z0) = zpt h b 9 O M := zpu_k (by omega) hx rfl
theorem zpk_9 {h : zH} {b x : Nat} {O M : va_E} (hx : x = b + 9) : zup (zpt h b 9 O M) x (zvc 0 10 z0) = zpt h b 10 O M := zpu_k (by omega) hx rfl
theorem zpk_10 {h : zH} {b x : Nat} {O M : va_E} (hx : x = b + 10) : zup (zpt h b 10 O M) x (zcob (b + 11) (b + 12) (b + 13) 0) = zpt h b 11 O M := zpu_k (by omega) hx rfl
theorem zpk_11 {h : zH} {b x : Nat} {O M : va_E} (hx : x = b + 11) : zup (zpt h b 11 O M) x (zvc 0 35 z0) = zpt h b 12 O M := zpu_k (by omega) hx rfl
theorem zpk_12 {h : zH} {b x : Nat} {O M : va_E} (hx : x = b + 12) : zup (zpt h b 12 O M) x (zvc 0 5 z0) = zpt h b 13 O M := zpu_k (by omega) hx rfl
theorem zpk_13 {h : zH} {b x : Nat} {O M : va_E} (hx : x = b + 13) : zup (zpt h b 13 O M) x (zvc 0 5 z0) = zpt h b 14 O M := zpu_k (by omega) hx rfl
theorem zpk_14 {h : zH} {b x : Nat} {O M : va_E} (hx : x = b + 14) : zup (zpt h b 14 O M) x (zlob (b + 15) (b + 16) (b + 17) 0) = zpt h b 15 O M := zpu_k (by omega) hx rfl
theorem zpk_15 {h : zH} {b x : Nat} {O M : va_E} (hx : x = b + 15) : zup (zpt h b 15 O M) x (zvc 0 12 z0) = zpt h b 16 O M := zpu_k (by omega) hx rfl
theorem zpk_16 {h : zH} {b x : Nat} {O M : va_E} (hx : x = b + 16) : zup (zpt h b 16 O M) x (zvc 0 12 z0) = zpt h b 17 O M := zpu_k (by omega) hx rfl
theorem zpk_17 {h : zH} {b x : Nat} {O M : va_E} (hx : x = b + 17) : zup (zpt h b 17 O M) x (zvc 0 12 z0) = zpt h b 18 O M := zpu_k (by omega) hx rfl
theorem zpk_18 {h : zH} {b x : Nat} {O M : va_E} (hx : x = b + 18) : zup (zpt h b 18 O M) x (zgob (b + 19) (b + 20) (b + 21) (b + 22) 0) = zpt h b 19 O M := zpu_k (by omega) hx rfl
theorem zpk_19 {h : zH} {b x : Nat} {O M : va_E} (hx : x = b + 19) : zup (zpt h b 19 O M) x (zvc 0 12 z0) = zpt h b 20 O M := zpu_k (by omega) hx rfl
theorem zpk_20 {h : zH} {b x : Nat} {O M : va_E} (hx : x = b + 20) : zup (zpt h b 20 O M) x (zvc 0 12 z0) = zpt h b 21 O M := zpu_k (by omega) hx rfl
theorem zpk_21 {h : zH} {b x : Nat} {O M : va_E} (hx : x = b + 21) : zup (zpt h b 21 O M) x (zvc 0 12 z0) = zpt h b 22 O M := zpu_k (by omega) hx rfl
theorem zpk_22 {h : zH} {b x : Nat} {O M : va_E} (hx : x = b + 22) : zup (zpt h b 22 O M) x (zvc 0 12 z0) = zpt h b 23 O M := zpu_k (by omega) hx rfl
theorem zpk_23 {h : zH} {b x : Nat} {O M : va_E} (hx : x = b + 23) : zup (zpt h b 23 O M) x (.inr (4, [.int 0, .int 0, .int 0, .int 0, .int 0, .long 0])) = zpt h b 24 O M := zpu_k (by omega) hx rfl
theorem zpk_24 {h : zH} {b x : Nat} {O M : va_E} (hx : x = b + 24) : zup (zpt h b 24 O M) x (.inr (4, [.int 0, .int 0, .int 0, .int 0, .int 0, .long 0])) = zpt h b 25 O M := zpu_k (by omega) hx rfl
theorem zpk_25 {h : zH} {b x : Nat} {O M : va_E} (hx : x = b + 25) : zup (zpt h b 25 O M) x (.inr (4, [.int 0, .int 0, .int 0, .int 0, .int 0, .long 0])) = zpt h b 26 O M := zpu_k (by omega) hx rfl
theorem zpk_26 {h : zH} {b x : Nat} {O M : va_E} (hx : x = b + 26) : zup (zpt h b 26 O M) x (.inr (4, [.int 0, .int 0, .int 0, .int 0, .int 0, .long 0])) = zpt h b 27 O M := zpu_k (by omega) hx rfl
theorem t_s0 : zG 50 0 [.ref q, zJ] [] (q + 1, n, w) (zup h q ofr9) K ↔ zG 50 12 [.ref q, zJ] [] (q + 2, n + 4, w) (zpt h q 2 (.inr (9, [.ref (q + 1), .null, .null, .null, .null, .null, .int 0, .int 0, .int 0, .int 0, .int 0])) (zrp 4 4 (q + 23) 1 0)) K := by
  have hr := zrp_0 4 4 (q + 23) 1
  have e : ∀ O M : va_E, zup (zup h q O) (q + 1) M = zpt h q 2 O M := fun O M => by
    funext x
    simp only [zup, zpt]
    by_cases c : x = q + 1
    · rw [if_pos c, if_neg (by omega), if_pos c]
    · rw [if_neg c, if_neg c]
      by_cases d : x = q
      · rw [if_pos d, if_pos d]
      · rw [if_neg d, if_neg d, if_neg (by omega)]
  unfold ofr9
  simp (disch := omega) only [e50_0, e50_1, e50_4, e50_5, n50_6, e50_9, zi_add, zi_sub, zi_mul, zl_add, zl_sub, zl_mul, zl_i, zi_l, zi_lt, zi_le, zi_eq, zl_lt, zl_le, zl_eq, zlc_lt, zlc_le, zlc_gt, zlc_ge, zlc_eq, zi_ne0, zl_ne0, zi_div, zl_div, zi_rem, zl_rem, zcat_nil, zcat_int, zcat_ref, zcat_long, zkill_int, zkill_ref, zkill_long, zkill_J, zkill2, zto_some, zto_none, znb0, znb1, zB_some, zbr_t, zbr_f, not_true_eq_false, not_false_eq_true, true_imp_iff, false_imp_iff, true_and, and_true, Nat.reduceAdd, Nat.reduceLeDiff, Int.reduceAdd, Int.reduceSub, Int.reduceMul, Int.reduceNeg, zisC_inr, zget_inr, zsetf_inr, zldl_row, zald_row, zstl_row, zast_row, List.getElem?_cons_zero, List.getElem?_cons_succ, List.length_cons, List.length_nil, List.set_cons_zero, List.set_cons_succ, zup_self, zup_two, zpt_o, zpt_m, zpu_o, zpu_m, zf9_0, zf9_1, zf9_2, zf9_3, zf9_4, zf9_5, zf9_6, zf9_7, zf9_8, zf9_9, zf9_10, zpk_2, zpk_3, zpk_4, zpk_5, zpk_6, zpk_7, zpk_8, zpk_9, zpk_10, zpk_11, zpk_12, zpk_13, zpk_14, zpk_15, zpk_16, zpk_17, zpk_18, zpk_19, zpk_20, zpk_21, zpk_22, zpk_23, zpk_24, zpk_25, zpk_26, t_per, t_crew, t_plan, t_log, t_mir, zpq_23, zpq_24, zpq_25, zpq_26, hr, e]
theorem t_s1 {M : va_E} : zG 50 12 [.ref q, zJ] [] (q + 2, n, w) (zpt h q 2 (.inr (9, [.ref (q + 1), .null, .null, .null, .null, .null, .int 0, .int 0, .int 0, .int 0, .int 0])) M) K ↔ zG 50 25 [.ref q, zJ] [] (q + 6, n + 35, w) (zpt h q 6 (.inr (9, [.ref (q + 1), .ref (q + 2), .null, .null, .null, .null, .int 0, .int 0, .int 0, .int 0, .int 0])) M) K := by
  simp (disch := omega) only [e50_12, e50_13, e50_16, e50_17, e50_19, e50_22, zi_add, zi_sub, zi_mul, zl_add, zl_sub, zl_mul, zl_i, zi_l, zi_lt, zi_le, zi_eq, zl_lt, zl_le, zl_eq, zlc_lt, zlc_le, zlc_gt, zlc_ge, zlc_eq, zi_ne0, zl_ne0, zi_div, zl_div, zi_rem, zl_rem, zcat_nil, zcat_int, zcat_ref, zcat_long, zkill_int, zkill_ref, zkill_long, zkill_J, zkill2, zto_some, zto_none, znb0, znb1, zB_some, zbr_t, zbr_f, not_true_eq_false, not_false_eq_true, true_imp_iff, false_imp_iff, true_and, and_true, Nat.reduceAdd, Nat.reduceLeDiff, Int.reduceAdd, Int.reduceSub, Int.reduceMul, Int.reduceNeg, zisC_inr, zget_inr, zsetf_inr, zldl_row, zald_row, zstl_row, zast_row, List.getElem?_cons_zero, List.getElem?_cons_succ, List.length_cons, List.length_nil, List.set_cons_zero, List.set_cons_succ, zup_self, zup_two, zpt_o, zpt_m, zpu_o, zpu_m, zf9_0, zf9_1, zf9_2, zf9_3, zf9_4, zf9_5, zf9_6, zf9_7, zf9_8, zf9_9, zf9_10, zpk_2, zpk_3, zpk_4, zpk_5, zpk_6, zpk_7, zpk_8, zpk_9, zpk_10, zpk_11, zpk_12, zpk_13, zpk_14, zpk_15, zpk_16, zpk_17, zpk_18, zpk_19, zpk_20, zpk_21, zpk_22, zpk_23, zpk_24, zpk_25, zpk_26, t_per, t_crew, t_plan, t_log, t_mir, zpq_23, zpq_24, zpq_25, zpq_26]
theorem t_s2 {M : va_E} : zG 50 25 [.ref q, zJ] [] (q + 6, n, w) (zpt h q 6 (.inr (9, [.ref (q + 1), .ref (q + 2), .null, .null, .null, .null, .int 0, .int 0, .int 0, .int 0, .int 0])) M) K ↔ zG 50 38 [.ref q, zJ] [] (q + 10, n + 35, w) (zpt h q 10 (.inr (9, [.ref (q + 1), .ref (q + 2), .ref (q + 6), .null, .null, .null, .int 0, .int 0, .int 0, .int 0, .int 0])) M) K := by
  simp (disch := omega) only [e50_25, e50_26, e50_29, e50_30, e50_32, e50_35, zi_add, zi_sub, zi_mul, zl_add, zl_sub, zl_mul, zl_i, zi_l, zi_lt, zi_le, zi_eq, zl_lt, zl_le, zl_eq, zlc_lt, zlc_le, zlc_gt, zlc_ge, zlc_eq, zi_ne0, zl_ne0, zi_div, zl_div, zi_rem, zl_rem, zcat_nil, zcat_int, zcat_ref, zcat_long, zkill_int, zkill_ref, zkill_long, zkill_J, zkill2, zto_some, zto_none, znb0, znb1, zB_some, zbr_t, zbr_f, not_true_eq_false, not_false_eq_true, true_imp_iff, false_imp_iff, true_and, and_true, Nat.reduceAdd, Nat.reduceLeDiff, Int.reduceAdd, Int.reduceSub, Int.reduceMul, Int.reduceNeg, zisC_inr, zget_inr, zsetf_inr, zldl_row, zald_row, zstl_row, zast_row, List.getElem?_cons_zero, List.getElem?_cons_succ, List.length_cons, List.length_nil, List.set_cons_zero, List.set_cons_succ, zup_self, zup_two, zpt_o, zpt_m, zpu_o, zpu_m, zf9_0, zf9_1, zf9_2, zf9_3, zf9_4, zf9_5, zf9_6, zf9_7, zf9_8, zf9_9, zf9_10, zpk_2, zpk_3, zpk_4, zpk_5, zpk_6, zpk_7, zpk_8, zpk_9, zpk_10, zpk_11, zpk_12, zpk_13, zpk_14, zpk_15, zpk_16, zpk_17, zpk_18, zpk_19, zpk_20, zpk_21, zpk_22, zpk_23, zpk_24, zpk_25, zpk_26, t_per, t_crew, t_plan, t_log, t_mir, zpq_23, zpq_24, zpq_25, zpq_26]
theorem t_s3 {M : va_E} : zG 50 38 [.ref q, zJ] [] (q + 10, n, w) (zpt h q 10 (.inr (9, [.ref (q + 1), .ref (q + 2), .ref (q + 6), .null, .null, .null, .int 0, .int 0, .int 0, .int 0, .int 0])) M) K ↔ zG 50 49 [.ref q, zJ] [] (q + 14, n + 49, w) (zpt h q 14 (.inr (9, [.ref (q + 1), .ref (q + 2), .ref (q + 6), .ref (q + 10), .null, .null, .int 0, .int 0, .int 0, .int 0, .int 0])) M) K := by
  simp (disch := omega) only [e50_38, e50_39, e50_42, e50_43, e50_46, zi_add, zi_sub, zi_mul, zl_add, zl_sub, zl_mul, zl_i, zi_l, zi_lt, zi_le, zi_eq, zl_lt, zl_le, zl_eq, zlc_lt, zlc_le, zlc_gt, zlc_ge, zlc_eq, zi_ne0, zl_ne0, zi_div, zl_div, zi_rem, zl_rem, zcat_nil, zcat_int, zcat_ref, zcat_long, zkill_int, zkill_ref, zkill_long, zkill_J, zkill2, zto_some, zto_none, znb0, znb1, zB_some, zbr_t, zbr_f, not_true_eq_false, not_false_eq_true, true_imp_iff, false_imp_iff, true_and, and_true, Nat.reduceAdd, Nat.reduceLeDiff, Int.reduceAdd, Int.reduceSub, Int.reduceMul, Int.reduceNeg, zisC_inr, zget_inr, zsetf_inr, zldl_row, zald_row, zstl_row, zast_row, List.getElem?_cons_zero, List.getElem?_cons_succ, List.length_cons, List.length_nil, List.set_cons_zero, List.set_cons_succ, zup_self, zup_two, zpt_o, zpt_m, zpu_o, zpu_m, zf9_0, zf9_1, zf9_2, zf9_3, zf9_4, zf9_5, zf9_6, zf9_7, zf9_8, zf9_9, zf9_10, zpk_2, zpk_3, zpk_4, zpk_5, zpk_6, zpk_7, zpk_8, zpk_9, zpk_10, zpk_11, zpk_12, zpk_13, zpk_14, zpk_15, zpk_16, zpk_17, zpk_18, zpk_19, zpk_20, zpk_21, zpk_22, zpk_23, zpk_24, zpk_25, zpk_26, t_per, t_crew, t_plan, t_log, t_mir, zpq_23, zpq_24, zpq_25, zpq_26]
theorem t_s4 {M : va_E} : zG 50 49 [.ref q, zJ] [] (q + 14, n, w) (zpt h q 14 (.inr (9, [.ref (q + 1), .ref (q + 2), .ref (q + 6), .ref (q + 10), .null, .null, .int 0, .int 0, .int 0, .int 0, .int 0])) M) K ↔ zG 50 60 [.ref q, zJ] [] (q + 18, n + 40, w) (zpt h q 18 (.inr (9, [.ref (q + 1), .ref (q + 2), .ref (q + 6), .ref (q + 10), .ref (q + 14), .null, .int 0, .int 0, .int 0, .int 0, .int 0])) M) K := by
  simp (disch := omega) only [e50_49, e50_50, e50_53, e50_54, e50_57, zi_add, zi_sub, zi_mul, zl_add, zl_sub, zl_mul, zl_i, zi_l, zi_lt, zi_le, zi_eq, zl_lt, zl_le, zl_eq, zlc_lt, zlc_le, zlc_gt, zlc_ge, zlc_eq, zi_ne0, zl_ne0, zi_div, zl_div, zi_rem, zl_rem, zcat_nil, zcat_int, zcat_ref, zcat_long, zkill_int, zkill_ref, zkill_long, zkill_J, zkill2, zto_some, zto_none, znb0, znb1, zB_some, zbr_t, zbr_f, not_true_eq_false, not_false_eq_true, true_imp_iff, false_imp_iff, true_and, and_true, Nat.reduceAdd, Nat.reduceLeDiff, Int.reduceAdd, Int.reduceSub, Int.reduceMul, Int.reduceNeg, zisC_inr, zget_inr, zsetf_inr, zldl_row, zald_row, zstl_row, zast_row, List.getElem?_cons_zero, List.getElem?_cons_succ, List.length_cons, List.length_nil, List.set_cons_zero, List.set_cons_succ, zup_self, zup_two, zpt_o, zpt_m, zpu_o, zpu_m, zf9_0, zf9_1, zf9_2, zf9_3, zf9_4, zf9_5, zf9_6, zf9_7, zf9_8, zf9_9, zf9_10, zpk_2, zpk_3, zpk_4, zpk_5, zpk_6, zpk_7, zpk_8, zpk_9, zpk_10, zpk_11, zpk_12, zpk_13, zpk_14, zpk_15, zpk_16, zpk_17, zpk_18, zpk_19, zpk_20, zpk_21, zpk_22, zpk_23, zpk_24, zpk_25, zpk_26, t_per, t_crew, t_plan, t_log, t_mir, zpq_23, zpq_24, zpq_25, zpq_26]
theorem t_s5 {M : va_E} : zG 50 60 [.ref q, zJ] [] (q + 18, n, w) (zpt h q 18 (.inr (9, [.ref (q + 1), .ref (q + 2), .ref (q + 6), .ref (q + 10), .ref (q + 14), .null, .int 0, .int 0, .int 0, .int 0, .int 0])) M) K ↔ zG 50 71 [.ref q, zJ] [] (q + 23, n + 53, w) (zpt h q 23 (.inr (9, [.ref (q + 1), .ref (q + 2), .ref (q + 6), .ref (q + 10), .ref (q + 14), .ref (q + 18), .int 0, .int 0, .int 0, .int 0, .int 0])) M) K := by
  simp (disch := omega) only [e50_60, e50_61, e50_64, e50_65, e50_68, zi_add, zi_sub, zi_mul, zl_add, zl_sub, zl_mul, zl_i, zi_l, zi_lt, zi_le, zi_eq, zl_lt, zl_le, zl_eq, zlc_lt, zlc_le, zlc_gt, zlc_ge, zlc_eq, zi_ne0, zl_ne0, zi_div, zl_div, zi_rem, zl_rem, zcat_nil, zcat_int, zcat_ref, zcat_long, zkill_int, zkill_ref, zkill_long, zkill_J, zkill2, zto_some, zto_none, znb0, znb1, zB_some, zbr_t, zbr_f, not_true_eq_false, not_false_eq_true, true_imp_iff, false_imp_iff, true_and, and_true, Nat.reduceAdd, Nat.reduceLeDiff, Int.reduceAdd, Int.reduceSub, Int.reduceMul, Int.reduceNeg, zisC_inr, zget_inr, zsetf_inr, zldl_row, zald_row, zstl_row, zast_row, List.getElem?_cons_zero, List.getElem?_cons_succ, List.length_cons, List.length_nil, List.set_cons_zero, List.set_cons_succ, zup_self, zup_two, zpt_o, zpt_m, zpu_o, zpu_m, zf9_0, zf9_1, zf9_2, zf9_3, zf9_4, zf9_5, zf9_6, zf9_7, zf9_8, zf9_9, zf9_10, zpk_2, zpk_3, zpk_4, zpk_5, zpk_6, zpk_7, zpk_8, zpk_9, zpk_10, zpk_11, zpk_12, zpk_13, zpk_14, zpk_15, zpk_16, zpk_17, zpk_18, zpk_19, zpk_20, zpk_21, zpk_22, zpk_23, zpk_24, zpk_25, zpk_26, t_per, t_crew, t_plan, t_log, t_mir, zpq_23, zpq_24, zpq_25, zpq_26]
theorem t_s6 {M : va_E} {O : va_E} : zG 50 71 [.ref q, zJ] [] (q + 23, n, w) (zpt h q 23 O M) K ↔ zG 50 73 [.ref q, .int (zi 0)] [] (q + 23, n, w) (zpt h q 23 O M) K := by
  simp (disch := omega) only [e50_71, e50_72, zi_add, zi_sub, zi_mul, zl_add, zl_sub, zl_mul, zl_i, zi_l, zi_lt, zi_le, zi_eq, zl_lt, zl_le, zl_eq, zlc_lt, zlc_le, zlc_gt, zlc_ge, zlc_eq, zi_ne0, zl_ne0, zi_div, zl_div, zi_rem, zl_rem, zcat_nil, zcat_int, zcat_ref, zcat_long, zkill_int, zkill_ref, zkill_long, zkill_J, zkill2, zto_some, zto_none, znb0, znb1, zB_some, zbr_t, zbr_f, not_true_eq_false, not_false_eq_true, true_imp_iff, false_imp_iff, true_and, and_true, Nat.reduceAdd, Nat.reduceLeDiff, Int.reduceAdd, Int.reduceSub, Int.reduceMul, Int.reduceNeg, zisC_inr, zget_inr, zsetf_inr, zldl_row, zald_row, zstl_row, zast_row, List.getElem?_cons_zero, List.getElem?_cons_succ, List.length_cons, List.length_nil, List.set_cons_zero, List.set_cons_succ, zup_self, zup_two, zpt_o, zpt_m, zpu_o, zpu_m, zf9_0, zf9_1, zf9_2, zf9_3, zf9_4, zf9_5, zf9_6, zf9_7, zf9_8, zf9_9, zf9_10, zpk_2, zpk_3, zpk_4, zpk_5, zpk_6, zpk_7, zpk_8, zpk_9, zpk_10, zpk_11, zpk_12, zpk_13, zpk_14, zpk_15, zpk_16, zpk_17, zpk_18, zpk_19, zpk_20, zpk_21, zpk_22, zpk_23, zpk_24, zpk_25, zpk_26, t_per, t_crew, t_plan, t_log, t_mir, zpq_23, zpq_24, zpq_25, zpq_26]
theorem t_m0 : zG 50 73 [.ref q, .int (zi 0)] [] (q + 23, n, w) (zpt h q 23 (.inr (9, [.ref (q + 1), .ref (q + 2), .ref (q + 6), .ref (q + 10), .ref (q + 14), .ref (q + 18), .int 0, .int 0, .int 0, .int 0, .int 0])) (zrp 4 4 (q + 23) 1 0)) K ↔ zG 50 73 [.ref q, .int (zi 1)] [] (q + 24, n + 6, w) (zpt h q 24 (.inr (9, [.ref (q + 1), .ref (q + 2), .ref (q + 6), .ref (q + 10), .ref (q + 14), .ref (q + 18), .int 0, .int 0, .int 0, .int 0, .int 0])) (zrp 4 4 (q + 23) 1 1)) K := by
  have hs : ∀ (v : Nat) (fs : List Value), v = q + 23 → zstr (zi 0) v (.inr (4, fs)) (zrp 4 4 (q + 23) 1 0) = some (zrp 4 4 (q + 23) 1 1) := fun v fs hv => zstr_rp (i := 0) (Or.inl rfl) (by omega) (by omega) rfl (by omega)
  have hv : ∀ (O M c : va_E) (x : Nat), zup (zpt h q 23 O M) x c x = c := fun O M c x => zup_self _ _ _
  have ho : zisC (.inr (9, [.ref (q + 1), .ref (q + 2), .ref (q + 6), .ref (q + 10), .ref (q + 14), .ref (q + 18), .int 0, .int 0, .int 0, .int 0, .int 0])) 9 = true := rfl
  have hn : ∀ (O M c : va_E) (x : Nat), x = q + 23 → zup (zpt h q 23 O M) x c (q + 1) = M := fun O M c x hx => by rw [zup_ne (by omega), zpt_m]
  rw [e50_73]
  simp (disch := omega) only [e50_74, e50_75, e50_78, e50_79, e50_82, e50_83, e50_86, e50_87, e50_90, e50_91, e50_94, e50_97, zi_add, zi_sub, zi_mul, zl_add, zl_sub, zl_mul, zl_i, zi_l, zi_lt, zi_le, zi_eq, zl_lt, zl_le, zl_eq, zlc_lt, zlc_le, zlc_gt, zlc_ge, zlc_eq, zi_ne0, zl_ne0, zi_div, zl_div, zi_rem, zl_rem, zcat_nil, zcat_int, zcat_ref, zcat_long, zkill_int, zkill_ref, zkill_long, zkill_J, zkill2, zto_some, zto_none, znb0, znb1, zB_some, zbr_t, zbr_f, not_true_eq_false, not_false_eq_true, true_imp_iff, false_imp_iff, true_and, and_true, Nat.reduceAdd, Nat.reduceLeDiff, Int.reduceAdd, Int.reduceSub, Int.reduceMul, Int.reduceNeg, zisC_inr, zget_inr, zsetf_inr, zldl_row, zald_row, zstl_row, zast_row, List.getElem?_cons_zero, List.getElem?_cons_succ, List.length_cons, List.length_nil, List.set_cons_zero, List.set_cons_succ, zup_self, zup_two, zpt_o, zpt_m, zpu_o, zpu_m, zf9_0, zf9_1, zf9_2, zf9_3, zf9_4, zf9_5, zf9_6, zf9_7, zf9_8, zf9_9, zf9_10, zpk_2, zpk_3, zpk_4, zpk_5, zpk_6, zpk_7, zpk_8, zpk_9, zpk_10, zpk_11, zpk_12, zpk_13, zpk_14, zpk_15, zpk_16, zpk_17, zpk_18, zpk_19, zpk_20, zpk_21, zpk_22, zpk_23, zpk_24, zpk_25, zpk_26, t_per, t_crew, t_plan, t_log, t_mir, zpq_23, zpq_24, zpq_25, zpq_26, hs]
theorem t_m1 : zG 50 73 [.ref q, .int (zi 1)] [] (q + 24, n, w) (zpt h q 24 (.inr (9, [.ref (q + 1), .ref (q + 2), .ref (q + 6), .ref (q + 10), .ref (q + 14), .ref (q + 18), .int 0, .int 0, .int 0, .int 0, .int 0])) (zrp 4 4 (q + 23) 1 1)) K ↔ zG 50 73 [.ref q, .int (zi 2)] [] (q + 25, n + 6, w) (zpt h q 25 (.inr (9, [.ref (q + 1), .ref (q + 2), .ref (q + 6), .ref (q + 10), .ref (q + 14), .ref (q + 18), .int 0, .int 0, .int 0, .int 0, .int 0])) (zrp 4 4 (q + 23) 1 2)) K := by
  have hs : ∀ (v : Nat) (fs : List Value), v = q + 24 → zstr (zi 1) v (.inr (4, fs)) (zrp 4 4 (q + 23) 1 1) = some (zrp 4 4 (q + 23) 1 2) := fun v fs hv => zstr_rp (i := 1) (Or.inl rfl) (by omega) (by omega) rfl (by omega)
  have hv : ∀ (O M c : va_E) (x : Nat), zup (zpt h q 24 O M) x c x = c := fun O M c x => zup_self _ _ _
  have ho : zisC (.inr (9, [.ref (q + 1), .ref (q + 2), .ref (q + 6), .ref (q + 10), .ref (q + 14), .ref (q + 18), .int 0, .int 0, .int 0, .int 0, .int 0])) 9 = true := rfl
  have hn : ∀ (O M c : va_E) (x : Nat), x = q + 24 → zup (zpt h q 24 O M) x c (q + 1) = M := fun O M c x hx => by rw [zup_ne (by omega), zpt_m]
  rw [e50_73]
  simp (disch := omega) only [e50_74, e50_75, e50_78, e50_79, e50_82, e50_83, e50_86, e50_87, e50_90, e50_91, e50_94, e50_97, zi_add, zi_sub, zi_mul, zl_add, zl_sub, zl_mul, zl_i, zi_l, zi_lt, zi_le, zi_eq, zl_lt, zl_le, zl_eq, zlc_lt, zlc_le, zlc_gt, zlc_ge, zlc_eq, zi_ne0, zl_ne0, zi_div, zl_div, zi_rem, zl_rem, zcat_nil, zcat_int, zcat_ref, zcat_long, zkill_int, zkill_ref, zkill_long, zkill_J, zkill2, zto_some, zto_none, znb0, znb1, zB_some, zbr_t, zbr_f, not_true_eq_false, not_false_eq_true, true_imp_iff, false_imp_iff, true_and, and_true, Nat.reduceAdd, Nat.reduceLeDiff, Int.reduceAdd, Int.reduceSub, Int.reduceMul, Int.reduceNeg, zisC_inr, zget_inr, zsetf_inr, zldl_row, zald_row, zstl_row, zast_row, List.getElem?_cons_zero, List.getElem?_cons_succ, List.length_cons, List.length_nil, List.set_cons_zero, List.set_cons_succ, zup_self, zup_two, zpt_o, zpt_m, zpu_o, zpu_m, zf9_0, zf9_1, zf9_2, zf9_3, zf9_4, zf9_5, zf9_6, zf9_7, zf9_8, zf9_9, zf9_10, zpk_2, zpk_3, zpk_4, zpk_5, zpk_6, zpk_7, zpk_8, zpk_9, zpk_10, zpk_11, zpk_12, zpk_13, zpk_14, zpk_15, zpk_16, zpk_17, zpk_18, zpk_19, zpk_20, zpk_21, zpk_22, zpk_23, zpk_24, zpk_25, zpk_26, t_per, t_crew, t_plan, t_log, t_mir, zpq_23, zpq_24, zpq_25, zpq_26, hs]
theorem t_m2 : zG 50 73 [.ref q, .int (zi 2)] [] (q + 25, n, w) (zpt h q 25 (.inr (9, [.ref (q + 1), .ref (q + 2), .ref (q + 6), .ref (q + 10), .ref (q + 14), .ref (q + 18), .int 0, .int 0, .int 0, .int 0, .int 0])) (zrp 4 4 (q + 23) 1 2)) K ↔ zG 50 73 [.ref q, .int (zi 3)] [] (q + 26, n + 6, w) (zpt h q 26 (.inr (9, [.ref (q + 1), .ref (q + 2), .ref (q + 6), .ref (q + 10), .ref (q + 14), .ref (q + 18), .int 0, .int 0, .int 0, .int 0, .int 0])) (zrp 4 4 (q + 23) 1 3)) K := by
  have hs : ∀ (v : Nat) (fs : List Value), v = q + 25 → zstr (zi 2) v (.inr (4, fs)) (zrp 4 4 (q + 23) 1 2) = some (zrp 4 4 (q + 23) 1 3) := fun v fs hv => zstr_rp (i := 2) (Or.inl rfl) (by omega) (by omega) rfl (by omega)
  have hv : ∀ (O M c : va_E) (x : Nat), zup (zpt h q 25 O M) x c x = c := fun O M c x => zup_self _ _ _
  have ho : zisC (.inr (9, [.ref (q + 1), .ref (q + 2), .ref (q + 6), .ref (q + 10), .ref (q + 14), .ref (q + 18), .int 0, .int 0, .int 0, .int 0, .int 0])) 9 = true := rfl
  have hn : ∀ (O M c : va_E) (x : Nat), x = q + 25 → zup (zpt h q 25 O M) x c (q + 1) = M := fun O M c x hx => by rw [zup_ne (by omega), zpt_m]
  rw [e50_73]
  simp (disch := omega) only [e50_74, e50_75, e50_78, e50_79, e50_82, e50_83, e50_86, e50_87, e50_90, e50_91, e50_94, e50_97, zi_add, zi_sub, zi_mul, zl_add, zl_sub, zl_mul, zl_i, zi_l, zi_lt, zi_le, zi_eq, zl_lt, zl_le, zl_eq, zlc_lt, zlc_le, zlc_gt, zlc_ge, zlc_eq, zi_ne0, zl_ne0, zi_div, zl_div, zi_rem, zl_rem, zcat_nil, zcat_int, zcat_ref, zcat_long, zkill_int, zkill_ref, zkill_long, zkill_J, zkill2, zto_some, zto_none, znb0, znb1, zB_some, zbr_t, zbr_f, not_true_eq_false, not_false_eq_true, true_imp_iff, false_imp_iff, true_and, and_true, Nat.reduceAdd, Nat.reduceLeDiff, Int.reduceAdd, Int.reduceSub, Int.reduceMul, Int.reduceNeg, zisC_inr, zget_inr, zsetf_inr, zldl_row, zald_row, zstl_row, zast_row, List.getElem?_cons_zero, List.getElem?_cons_succ, List.length_cons, List.length_nil, List.set_cons_zero, List.set_cons_succ, zup_self, zup_two, zpt_o, zpt_m, zpu_o, zpu_m, zf9_0, zf9_1, zf9_2, zf9_3, zf9_4, zf9_5, zf9_6, zf9_7, zf9_8, zf9_9, zf9_10, zpk_2, zpk_3, zpk_4, zpk_5, zpk_6, zpk_7, zpk_8, zpk_9, zpk_10, zpk_11, zpk_12, zpk_13, zpk_14, zpk_15, zpk_16, zpk_17, zpk_18, zpk_19, zpk_20, zpk_21, zpk_22, zpk_23, zpk_24, zpk_25, zpk_26, t_per, t_crew, t_plan, t_log, t_mir, zpq_23, zpq_24, zpq_25, zpq_26, hs]
theorem t_m3 : zG 50 73 [.ref q, .int (zi 3)] [] (q + 26, n, w) (zpt h q 26 (.inr (9, [.ref (q + 1), .ref (q + 2), .ref (q + 6), .ref (q + 10), .ref (q + 14), .ref (q + 18), .int 0, .int 0, .int 0, .int 0, .int 0])) (zrp 4 4 (q + 23) 1 3)) K ↔ zG 50 73 [.ref q, .int (zi 4)] [] (q + 27, n + 6, w) (zpt h q 27 (.inr (9, [.ref (q + 1), .ref (q + 2), .ref (q + 6), .ref (q + 10), .ref (q + 14), .ref (q + 18), .int 0, .int 0, .int 0, .int 0, .int 0])) (zrp 4 4 (q + 23) 1 4)) K := by
  have hs : ∀ (v : Nat) (fs : List Value), v = q + 26 → zstr (zi 3) v (.inr (4, fs)) (zrp 4 4 (q + 23) 1 3) = some (zrp 4 4 (q + 23) 1 4) := fun v fs hv => zstr_rp (i := 3) (Or.inl rfl) (by omega) (by omega) rfl (by omega)
  have hv : ∀ (O M c : va_E) (x : Nat), zup (zpt h q 26 O M) x c x = c := fun O M c x => zup_self _ _ _
  have ho : zisC (.inr (9, [.ref (q + 1), .ref (q + 2), .ref (q + 6), .ref (q + 10), .ref (q + 14), .ref (q + 18), .int 0, .int 0, .int 0, .int 0, .int 0])) 9 = true := rfl
  have hn : ∀ (O M c : va_E) (x : Nat), x = q + 26 → zup (zpt h q 26 O M) x c (q + 1) = M := fun O M c x hx => by rw [zup_ne (by omega), zpt_m]
  rw [e50_73]
  simp (disch := omega) only [e50_74, e50_75, e50_78, e50_79, e50_82, e50_83, e50_86, e50_87, e50_90, e50_91, e50_94, e50_97, zi_add, zi_sub, zi_mul, zl_add, zl_sub, zl_mul, zl_i, zi_l, zi_lt, zi_le, zi_eq, zl_lt, zl_le, zl_eq, zlc_lt, zlc_le, zlc_gt, zlc_ge, zlc_eq, zi_ne0, zl_ne0, zi_div, zl_div, zi_rem, zl_rem, zcat_nil, zcat_int, zcat_ref, zcat_long, zkill_int, zkill_ref, zkill_long, zkill_J, zkill2, zto_some, zto_none, znb0, znb1, zB_some, zbr_t, zbr_f, not_true_eq_false, not_false_eq_true, true_imp_iff, false_imp_iff, true_and, and_true, Nat.reduceAdd, Nat.reduceLeDiff, Int.reduceAdd, Int.reduceSub, Int.reduceMul, Int.reduceNeg, zisC_inr, zget_inr, zsetf_inr, zldl_row, zald_row, zstl_row, zast_row, List.getElem?_cons_zero, List.getElem?_cons_succ, List.length_cons, List.length_nil, List.set_cons_zero, List.set_cons_succ, zup_self, zup_two, zpt_o, zpt_m, zpu_o, zpu_m, zf9_0, zf9_1, zf9_2, zf9_3, zf9_4, zf9_5, zf9_6, zf9_7, zf9_8, zf9_9, zf9_10, zpk_2, zpk_3, zpk_4, zpk_5, zpk_6, zpk_7, zpk_8, zpk_9, zpk_10, zpk_11, zpk_12, zpk_13, zpk_14, zpk_15, zpk_16, zpk_17, zpk_18, zpk_19, zpk_20, zpk_21, zpk_22, zpk_23, zpk_24, zpk_25, zpk_26, t_per, t_crew, t_plan, t_log, t_mir, zpq_23, zpq_24, zpq_25, zpq_26, hs]
theorem t_state : zG 50 0 [.ref q, zJ] [] (q + 1, n, w) (zup h q ofr9) K ↔ K none (q + 27, n + 240, w) (zcs h q z0) := by
  have e0 : (.inr (9, [.ref (q + 1), .ref (q + 2), .ref (q + 6), .ref (q + 10), .ref (q + 14), .ref (q + 18), .int 0, .int 0, .int 0, .int 0, .int 0]) : va_E) = zsob q z0 := by
    unfold zsob
    rw [show z0 1 = 0 from rfl, show z0 0 = 0 from rfl, show z0 5 = 0 from rfl, show z0 6 = 0 from rfl, show z0 7 = 0 from rfl, zi_0]
  rw [t_s0, t_s1, t_s2, t_s3, t_s4, t_s5, t_s6, t_m0, t_m1, t_m2, t_m3, e50_73]
  simp (disch := omega) only [e50_74, e50_75, e50_78, e50_79, e50_82, e50_83, e50_86, e50_87, e50_90, e50_91, e50_94, e50_97, zi_add, zi_sub, zi_mul, zl_add, zl_sub, zl_mul, zl_i, zi_l, zi_lt, zi_le, zi_eq, zl_lt, zl_le, zl_eq, zlc_lt, zlc_le, zlc_gt, zlc_ge, zlc_eq, zi_ne0, zl_ne0, zi_div, zl_div, zi_rem, zl_rem, zcat_nil, zcat_int, zcat_ref, zcat_long, zkill_int, zkill_ref, zkill_long, zkill_J, zkill2, zto_some, zto_none, znb0, znb1, zB_some, zbr_t, zbr_f, not_true_eq_false, not_false_eq_true, true_imp_iff, false_imp_iff, true_and, and_true, Nat.reduceAdd, Nat.reduceLeDiff, Int.reduceAdd, Int.reduceSub, Int.reduceMul, Int.reduceNeg, zisC_inr, zget_inr, zsetf_inr, zldl_row, zald_row, zstl_row, zast_row, List.getElem?_cons_zero, List.getElem?_cons_succ, List.length_cons, List.length_nil, List.set_cons_zero, List.set_cons_succ]
  rw [zrp_n, e0, zpt_end]
end NW
