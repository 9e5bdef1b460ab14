/-! the reference: made anew -/
def r0 : Nat → Int → Int := fun c => if c = 7 then (fun j => if j = 7 ∨ j = 8 then -1000005 else 0) else fun _ => 0
theorem zup_mid {h : zH} {a b : Nat} (hab : a ≠ b) (v w u : va_E) : zup (zup (zup h a v) b w) a u = zup (zup h b w) a u := by
  funext x
  simp only [zup]
  by_cases c : x = a
  · rw [if_pos c, if_pos c]
  · rw [if_neg c, if_neg c]
    by_cases c2 : x = b
    · rw [if_pos c2, if_neg c]
    · rw [if_neg c2, if_neg c]
theorem zup_two (h : zH) (a : Nat) (v u : va_E) : zup (zup h a v) a u = zup h a u := by
  funext x
  simp only [zup]
  by_cases c : x = a
  · rw [if_pos c, if_pos c]
  · rw [if_neg c, if_neg c, if_neg c]
theorem zf_0 {v x0 x1 x2 x3 x4 x5 x6 x7 x8 x9 x10 x11 x12 x13 x14 x15 : Value} : zsetf 11 0 v (.inr (11, [x0, x1, x2, x3, x4, x5, x6, x7, x8, x9, x10, x11, x12, x13, x14, x15])) = some (.inr (11, [v, x1, x2, x3, x4, x5, x6, x7, x8, x9, x10, x11, x12, x13, x14, x15])) := zsetf_inr 11 0 v [x0, x1, x2, x3, x4, x5, x6, x7, x8, x9, x10, x11, x12, x13, x14, x15] (show 0 < 16 by decide)
theorem zf_1 {v x0 x1 x2 x3 x4 x5 x6 x7 x8 x9 x10 x11 x12 x13 x14 x15 : Value} : zsetf 11 1 v (.inr (11, [x0, x1, x2, x3, x4, x5, x6, x7, x8, x9, x10, x11, x12, x13, x14, x15])) = some (.inr (11, [x0, v, x2, x3, x4, x5, x6, x7, x8, x9, x10, x11, x12, x13, x14, x15])) := zsetf_inr 11 1 v [x0, x1, x2, x3, x4, x5, x6, x7, x8, x9, x10, x11, x12, x13, x14, x15] (show 1 < 16 by decide)
theorem zf_2 {v x0 x1 x2 x3 x4 x5 x6 x7 x8 x9 x10 x11 x12 x13 x14 x15 : Value} : zsetf 11 2 v (.inr (11, [x0, x1, x2, x3, x4, x5, x6, x7, x8, x9, x10, x11, x12, x13, x14, x15])) = some (.inr (11, [x0, x1, v, x3, x4, x5, x6, x7, x8, x9, x10, x11, x12, x13, x14, x15])) := zsetf_inr 11 2 v [x0, x1, x2, x3, x4, x5, x6, x7, x8, x9, x10, x11, x12, x13, x14, x15] (show 2 < 16 by decide)
theorem zf_4 {v x0 x1 x2 x3 x4 x5 x6 x7 x8 x9 x10 x11 x12 x13 x14 x15 : Value} : zsetf 11 4 v (.inr (11, [x0, x1, x2, x3, x4, x5, x6, x7, x8, x9, x10, x11, x12, x13, x14, x15])) = some (.inr (11, [x0, x1, x2, x3, v, x5, x6, x7, x8, x9, x10, x11, x12, x13, x14, x15])) := zsetf_inr 11 4 v [x0, x1, x2, x3, x4, x5, x6, x7, x8, x9, x10, x11, x12, x13, x14, x15] (show 4 < 16 by decide)
theorem zf_5 {v x0 x1 x2 x3 x4 x5 x6 x7 x8 x9 x10 x11 x12 x13 x14 x15 : Value} : zsetf 11 5 v (.inr (11, [x0, x1, x2, x3, x4, x5, x6, x7, x8, x9, x10, x11, x12, x13, x14, x15])) = some (.inr (11, [x0, x1, x2, x3, x4, v, x6, x7, x8, x9, x10, x11, x12, x13, x14, x15])) := zsetf_inr 11 5 v [x0, x1, x2, x3, x4, x5, x6, x7, x8, x9, x10, x11, x12, x13, x14, x15] (show 5 < 16 by decide)
theorem zf_8 {v x0 x1 x2 x3 x4 x5 x6 x7 x8 x9 x10 x11 x12 x13 x14 x15 : Value} : zsetf 11 8 v (.inr (11, [x0, x1, x2, x3, x4, x5, x6, x7, x8, x9, x10, x11, x12, x13, x14, x15])) = some (.inr (11, [x0, x1, x2, x3, x4, x5, x6, x7, v, x9, x10, x11, x12, x13, x14, x15])) := zsetf_inr 11 8 v [x0, x1, x2, x3, x4, x5, x6, x7, x8, x9, x10, x11, x12, x13, x14, x15] (show 8 < 16 by decide)
theorem zf_13 {v x0 x1 x2 x3 x4 x5 x6 x7 x8 x9 x10 x11 x12 x13 x14 x15 : Value} : zsetf 11 13 v (.inr (11, [x0, x1, x2, x3, x4, x5, x6, x7, x8, x9, x10, x11, x12, x13, x14, x15])) = some (.inr (11, [x0, x1, x2, x3, x4, x5, x6, x7, x8, x9, x10, x11, x12, v, x14, x15])) := zsetf_inr 11 13 v [x0, x1, x2, x3, x4, x5, x6, x7, x8, x9, x10, x11, x12, x13, x14, x15] (show 13 < 16 by decide)
theorem zf_14 {v x0 x1 x2 x3 x4 x5 x6 x7 x8 x9 x10 x11 x12 x13 x14 x15 : Value} : zsetf 11 14 v (.inr (11, [x0, x1, x2, x3, x4, x5, x6, x7, x8, x9, x10, x11, x12, x13, x14, x15])) = some (.inr (11, [x0, x1, x2, x3, x4, x5, x6, x7, x8, x9, x10, x11, x12, x13, v, x15])) := zsetf_inr 11 14 v [x0, x1, x2, x3, x4, x5, x6, x7, x8, x9, x10, x11, x12, x13, x14, x15] (show 14 < 16 by decide)
theorem zf_15 {v x0 x1 x2 x3 x4 x5 x6 x7 x8 x9 x10 x11 x12 x13 x14 x15 : Value} : zsetf 11 15 v (.inr (11, [x0, x1, x2, x3, x4, x5, x6, x7, x8, x9, x10, x11, x12, x13, x14, x15])) = some (.inr (11, [x0, x1, x2, x3, x4, x5, x6, x7, x8, x9, x10, x11, x12, x13, x14, v])) := zsetf_inr 11 15 v [x0, x1, x2, x3, x4, x5, x6, x7, x8, x9, x10, x11, x12, x13, x14, x15] (show 15 < 16 by decide)
section RF25
variable {L S : List Value} {z : zZ} {h : zH} {Q K : Option Value → zZ → zH → Prop} {a s : Nat}
theorem n113_8 : zG 113 8 L (.int (zi 240) :: S) z h Q ↔ zG 113 10 L (.ref z.1 :: S) (z.1 + 1, z.2.1 + 240, z.2.2) (zup h z.1 (znew 1 240)) Q := e113_8 (k := 240) (by decide)
theorem n113_17 : zG 113 17 L (.int (zi 240) :: S) z h Q ↔ zG 113 19 L (.ref z.1 :: S) (z.1 + 1, z.2.1 + 240, z.2.2) (zup h z.1 (znew 1 240)) Q := e113_17 (k := 240) (by decide)
theorem n113_26 : zG 113 26 L (.int (zi 1440) :: S) z h Q ↔ zG 113 28 L (.ref z.1 :: S) (z.1 + 1, z.2.1 + 1440, z.2.2) (zup h z.1 (znew 1 1440)) Q := e113_26 (k := 1440) (by decide)
theorem n113_35 : zG 113 35 L (.int (zi 480) :: S) z h Q ↔ zG 113 37 L (.ref z.1 :: S) (z.1 + 1, z.2.1 + 480, z.2.2) (zup h z.1 (znew 1 480)) Q := e113_35 (k := 480) (by decide)
theorem n113_42 : zG 113 42 L (.int (zi 2) :: S) z h Q ↔ zG 113 44 L (.ref z.1 :: S) (z.1 + 1, z.2.1 + 2, z.2.2) (zup h z.1 (znew 3 2)) Q := e113_42 (k := 2) (by decide)
theorem n113_50 : zG 113 50 L (.int (zi 90) :: S) z h Q ↔ zG 113 52 L (.ref z.1 :: S) (z.1 + 1, z.2.1 + 90, z.2.2) (zup h z.1 (znew 2 90)) Q := e113_50 (k := 90) (by decide)
theorem n113_59 : zG 113 59 L (.int (zi 200) :: S) z h Q ↔ zG 113 61 L (.ref z.1 :: S) (z.1 + 1, z.2.1 + 200, z.2.2) (zup h z.1 (znew 0 200)) Q := e113_59 (k := 200) (by decide)
theorem s_init {st : zZ} (hz : st.1 = a + 1) :
    zG 113 0 [.ref a] [] st (zup h a (.inr (11, [.null, .null, .null, .int 0, .null, .null, .int 0, .int 0, .null, .int 0, .int 0, .int 0, .int 0, .null, .int 0, .int 0]))) K ↔ K none (a + 8, st.2.1 + 2692, st.2.2) (zmk h a r0) := by
  simp (maxSteps := 4000000) (disch := omega) only [zup_mid, zup_two, zf_0, zf_1, zf_2, zf_4, zf_5, zf_8, zf_13, zf_14, zf_15, e113_0, e113_1, e113_4, e113_5, e113_10, e113_13, e113_14, e113_19, e113_22, e113_23, e113_28, e113_31, e113_32, e113_37, e113_40, e113_41, e113_44, e113_47, e113_48, e113_52, e113_55, e113_56, e113_61, e113_64, e113_65, e113_67, e113_70, e113_71, e113_73, e113_76, n113_8, n113_17, n113_26, n113_35, n113_42, n113_50, n113_59, zi_add, zi_sub, zi_mul, zl_add, zl_sub, zl_mul, zl_i, zi_l, zi_lt, zi_le, zi_eq, zl_lt, zl_le, zl_eq, zlc_lt, zlc_le, zlc_gt, zlc_ge, zlc_eq, zi_ne0, zl_ne0, zi_div, zl_div, zi_rem, zl_rem, zcat_nil, zcat_int, zcat_ref, zcat_long, zkill_int, zkill_ref, zkill_long, zkill_J, zkill2, zto_some, zto_none, znb0, znb1, zB_some, zbr_t, zbr_f, not_true_eq_false, not_false_eq_true, true_imp_iff, false_imp_iff, true_and, and_true, Nat.reduceAdd, Nat.reduceLeDiff, Int.reduceAdd, Int.reduceSub, Int.reduceMul, Int.reduceNeg, zisC_inr, zget_inr, zsetf_inr, zldl_row, zald_row, zstl_row, zast_row, List.getElem?_cons_zero, List.getElem?_cons_succ, List.length_cons, List.length_nil, List.set_cons_zero, List.set_cons_succ, zmk_0, zmk_1, zmk_2, zmk_3, zmk_4, zmk_5, zmk_6, zmk_7, zrg_0, zrg_1, zrg_2, zrg_3, zrg_4, zrg_5, zrg_6, zrg_7, zrg_8, zrg_9, zrg_10, zrg_11, zrg_12, zrg_13, zrg_14, zrg_15, zrs_3, zrs_6, zrs_7, zrs_9, zrs_10, zrs_11, zrs_12, zrs_14, zrs_15, zmw_0, zmw_1, zmw_2, zmw_3, zmw_4, zmw_5, zmw_6, zmw_7, zisr, zup_ap, if_true, if_pos, if_neg, hz, znew_l, znew_i, znew_c, znew_b]
  refine iff_of_eq (congr (congrArg (K none) ?_) ?_)
  · rfl
  · funext x
    have e0 : (0 : Int32) = zi 0 := by decide +kernel
    by_cases c0 : x = a
    · subst c0
      simp (disch := omega) only [zup_ap, if_true, if_pos, if_neg, zmk_0, e0]
      rfl
    · by_cases c8 : x < a + 1 ∨ a + 8 ≤ x
      · simp (disch := omega) only [zup_ap, if_neg, zmk]
      · rcases (by omega : x = a + 1 ∨ x = a + 2 ∨ x = a + 3 ∨ x = a + 4 ∨ x = a + 5 ∨ x = a + 6 ∨ x = a + 7) with c | c | c | c | c | c | c
        all_goals
          subst c
          simp (disch := omega) only [zup_ap, if_true, if_pos, if_neg, zmk_1, zmk_2, zmk_3, zmk_4, zmk_5, zmk_6, zmk_7]
          try rfl
end RF25
