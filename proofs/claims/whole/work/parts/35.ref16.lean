/-! the reference's text: an order, its other words -/
section RF16
variable {z : zZ} {h : zH} {K : Option Value → zZ → zH → Prop} {a : Nat} {ρ : Nat → Int → Int}
theorem s_ro_3 {l1 l3 : Value} (hC : tC (ρ 5)) (ho : 0 ≤ ρ 7 6 ∧ ρ 7 6 ≤ 40) (hn : 0 ≤ ρ 7 2 ∧ ρ 7 2 ≤ 90) (he : 0 ≤ ρ 7 4 ∧ ρ 7 4 ≤ ρ 7 2) (hf : ρ 7 5 = -1000005) :
    ∃ v τ, rOrd ρ 3 (pTail (ρ 5) (ρ 7 2) (ρ 7 4) 3) v τ ∧ ∀ K, (zG 165 48 [.ref a, l1, .int (zi 3), l3] [] z (zmk h a ρ) K ↔ K none z (zmk h a (zst (zst ρ 6 τ) 7 v))) := by
  obtain ⟨x1, w1, o1, g5, g4, gx, E1⟩ := s_arg (z := z) (h := h) (a := a) (ρ := zst ρ 6 (zset (ρ 6) (4 * ρ 7 6) 3)) (lo := 0) (hi := 11) (by simp only [zst_zst, zst_ap, zset_ap, reduceIte, Nat.reduceEqDiff, Nat.zero_ne_one, Nat.one_ne_zero, Int.reduceEq]; exact hC) (by omega) (by omega) (by simp only [zst_zst, zst_ap, zset_ap, reduceIte, Nat.reduceEqDiff, Nat.zero_ne_one, Nat.one_ne_zero, Int.reduceEq]; exact hn) (by simp only [zst_zst, zst_ap, zset_ap, reduceIte, Nat.reduceEqDiff, Nat.zero_ne_one, Nat.one_ne_zero, Int.reduceEq]; exact he) (by simp only [zst_zst, zst_ap, zset_ap, reduceIte, Nat.reduceEqDiff, Nat.zero_ne_one, Nat.one_ne_zero, Int.reduceEq]; exact hf)
  simp only [zst_zst, zst_ap, zset_ap, reduceIte, Nat.reduceEqDiff, Nat.zero_ne_one, Nat.one_ne_zero, Int.reduceEq] at o1 g5 g4 gx E1
  have b1 := pArg_b (ρ 5) (n := ρ 7 2) (e := ρ 7 4) (lo := 0) (hi := 11) he (by omega)
  have r6 : w1 6 = ρ 7 6 := o1 6 (by omega) (by omega) (by omega)
  have e0 : pTail (ρ 5) (ρ 7 2) (ρ 7 4) 3 = if 0 ≤ (pArg (ρ 5) (ρ 7 2) (ρ 7 4) 0 11).1 then ((pArg (ρ 5) (ρ 7 2) (ρ 7 4) 0 11).1, (0, 0, 0), 0) else (-1000005, ((pArg (ρ 5) (ρ 7 2) (ρ 7 4) 0 11).2.1, 0, 0), (pArg (ρ 5) (ρ 7 2) (ρ 7 4) 0 11).2.2) := rfl
  rw [e0]
  unfold rOrd
  refine ⟨zset w1 6 (ρ 7 6 + 1), zset (zset (ρ 6) (4 * ρ 7 6) 3) (4 * ρ 7 6 + 1) x1, ⟨fun j h3 h4 h5 h6 => ?_, ?_, ?_, fun j hj => ?_, fun q => ?_⟩, fun K => ?_⟩
  · rw [zset_ap, if_neg h6, o1 j h3 h4 h5]
  · rw [zset_ap, if_pos rfl]
  · rw [zset_ap, if_neg (by omega), g5]
    by_cases c1 : 0 ≤ (pArg (ρ 5) (ρ 7 2) (ρ 7 4) 0 11).1
    · rw [if_pos c1]
    · rw [if_neg c1]
      show _ = (-1000005 : Int)
      omega
  · rw [zset_ap, if_neg (by omega), zset_ap, if_neg (by omega)]
  · by_cases c1 : 0 ≤ (pArg (ρ 5) (ρ 7 2) (ρ 7 4) 0 11).1
    · rw [if_pos c1] at q
      exact absurd c1 (Int.not_le.2 q)
    · rw [if_neg c1]
      refine ⟨?_, ?_, ?_, fun q2 => ?_, fun q2 => ?_⟩
      · rw [zset_ap, if_neg (by omega), g4]
      · rw [zset_ap, if_neg (by omega), zset_ap, if_pos rfl]
      · rw [zset_ap, if_pos rfl]
        exact gx (by omega)
      · omega
      · omega
  · simp (disch := omega) only [e165_0, e165_1, e165_2, e165_5, e165_6, e165_9, e165_12, e165_14, e165_17, e165_18, e165_21, e165_22, e165_23, e165_24, e165_27, e165_30, e165_31, e165_34, e165_35, e165_38, e165_41, e165_42, e165_45, e165_48, e165_49, e165_50, e165_53, e165_54, e165_55, e165_56, e165_59, e165_60, e165_61, e165_62, e165_63, e165_66, e165_67, e165_68, e165_69, e165_70, e165_71, e165_74, e165_75, e165_76, e165_78, e165_81, e165_84, e165_85, e165_86, e165_87, e165_88, e165_91, e165_93, e165_96, e165_97, e165_98, e165_101, e165_103, e165_106, e165_107, e165_110, e165_111, e165_112, e165_113, e165_116, e165_117, e165_118, e165_121, e165_122, e165_125, e165_126, e165_127, e165_128, e165_129, e165_130, e165_132, e165_135, e165_136, e165_137, e165_138, e165_141, e165_142, e165_145, e165_146, e165_147, e165_148, e165_149, e165_150, e165_153, e165_156, e165_157, e165_158, e165_159, e165_162, e165_163, e165_164, e165_167, zi_add, zi_sub, zi_mul, zl_add, zl_sub, zl_mul, zl_i, zi_l, zi_lt, zi_le, zi_eq, zl_lt, zl_le, zl_eq, zlc_lt, zlc_le, zlc_gt, zlc_ge, zlc_eq, zi_ne0, zl_ne0, zi_div, zl_div, zi_rem, zl_rem, zcat_nil, zcat_int, zcat_ref, zcat_long, zkill_int, zkill_ref, zkill_long, zkill_J, zkill2, zto_some, zto_none, znb0, znb1, zB_some, zbr_t, zbr_f, not_true_eq_false, not_false_eq_true, true_imp_iff, false_imp_iff, true_and, and_true, Nat.reduceAdd, Nat.reduceLeDiff, Int.reduceAdd, Int.reduceSub, Int.reduceMul, Int.reduceNeg, zisC_inr, zget_inr, zsetf_inr, zldl_row, zald_row, zstl_row, zast_row, List.getElem?_cons_zero, List.getElem?_cons_succ, List.length_cons, List.length_nil, List.set_cons_zero, List.set_cons_succ, zmk_0, zmk_1, zmk_2, zmk_3, zmk_4, zmk_5, zmk_6, zmk_7, zrg_0, zrg_1, zrg_2, zrg_3, zrg_4, zrg_5, zrg_6, zrg_7, zrg_8, zrg_9, zrg_10, zrg_11, zrg_12, zrg_13, zrg_14, zrg_15, zrs_3, zrs_6, zrs_7, zrs_9, zrs_10, zrs_11, zrs_12, zrs_14, zrs_15, zmw_0, zmw_1, zmw_2, zmw_3, zmw_4, zmw_5, zmw_6, zmw_7, zisr, E1, zst_zst, zst_ap, zset_ap, reduceIte, Nat.reduceEqDiff, Nat.zero_ne_one, Nat.one_ne_zero, Int.reduceEq, zst_67, r6]
theorem s_ro_4 {l1 l3 : Value} (hC : tC (ρ 5)) (ho : 0 ≤ ρ 7 6 ∧ ρ 7 6 ≤ 40) (hn : 0 ≤ ρ 7 2 ∧ ρ 7 2 ≤ 90) (he : 0 ≤ ρ 7 4 ∧ ρ 7 4 ≤ ρ 7 2) (hf : ρ 7 5 = -1000005) :
    ∃ v τ, rOrd ρ 4 (pTail (ρ 5) (ρ 7 2) (ρ 7 4) 4) v τ ∧ ∀ K, (zG 165 48 [.ref a, l1, .int (zi 4), l3] [] z (zmk h a ρ) K ↔ K none z (zmk h a (zst (zst ρ 6 τ) 7 v))) := by
  obtain ⟨x1, w1, o1, g5, g4, gx, E1⟩ := s_arg (z := z) (h := h) (a := a) (ρ := zst ρ 6 (zset (ρ 6) (4 * ρ 7 6) 4)) (lo := 1) (hi := 60) (by simp only [zst_zst, zst_ap, zset_ap, reduceIte, Nat.reduceEqDiff, Nat.zero_ne_one, Nat.one_ne_zero, Int.reduceEq]; exact hC) (by omega) (by omega) (by simp only [zst_zst, zst_ap, zset_ap, reduceIte, Nat.reduceEqDiff, Nat.zero_ne_one, Nat.one_ne_zero, Int.reduceEq]; exact hn) (by simp only [zst_zst, zst_ap, zset_ap, reduceIte, Nat.reduceEqDiff, Nat.zero_ne_one, Nat.one_ne_zero, Int.reduceEq]; exact he) (by simp only [zst_zst, zst_ap, zset_ap, reduceIte, Nat.reduceEqDiff, Nat.zero_ne_one, Nat.one_ne_zero, Int.reduceEq]; exact hf)
  simp only [zst_zst, zst_ap, zset_ap, reduceIte, Nat.reduceEqDiff, Nat.zero_ne_one, Nat.one_ne_zero, Int.reduceEq] at o1 g5 g4 gx E1
  have b1 := pArg_b (ρ 5) (n := ρ 7 2) (e := ρ 7 4) (lo := 1) (hi := 60) he (by omega)
  have r6 : w1 6 = ρ 7 6 := o1 6 (by omega) (by omega) (by omega)
  have e0 : pTail (ρ 5) (ρ 7 2) (ρ 7 4) 4 = if 0 ≤ (pArg (ρ 5) (ρ 7 2) (ρ 7 4) 1 60).1 then ((pArg (ρ 5) (ρ 7 2) (ρ 7 4) 1 60).1, (0, 0, 0), 0) else (-1000005, ((pArg (ρ 5) (ρ 7 2) (ρ 7 4) 1 60).2.1, 0, 0), (pArg (ρ 5) (ρ 7 2) (ρ 7 4) 1 60).2.2) := rfl
  rw [e0]
  unfold rOrd
  refine ⟨zset w1 6 (ρ 7 6 + 1), zset (zset (ρ 6) (4 * ρ 7 6) 4) (4 * ρ 7 6 + 1) x1, ⟨fun j h3 h4 h5 h6 => ?_, ?_, ?_, fun j hj => ?_, fun q => ?_⟩, fun K => ?_⟩
  · rw [zset_ap, if_neg h6, o1 j h3 h4 h5]
  · rw [zset_ap, if_pos rfl]
  · rw [zset_ap, if_neg (by omega), g5]
    by_cases c1 : 0 ≤ (pArg (ρ 5) (ρ 7 2) (ρ 7 4) 1 60).1
    · rw [if_pos c1]
    · rw [if_neg c1]
      show _ = (-1000005 : Int)
      omega
  · rw [zset_ap, if_neg (by omega), zset_ap, if_neg (by omega)]
  · by_cases c1 : 0 ≤ (pArg (ρ 5) (ρ 7 2) (ρ 7 4) 1 60).1
    · rw [if_pos c1] at q
      exact absurd c1 (Int.not_le.2 q)
    · rw [if_neg c1]
      refine ⟨?_, ?_, ?_, fun q2 => ?_, fun q2 => ?_⟩
      · rw [zset_ap, if_neg (by omega), g4]
      · rw [zset_ap, if_neg (by omega), zset_ap, if_pos rfl]
      · rw [zset_ap, if_pos rfl]
        exact gx (by omega)
      · omega
      · omega
  · simp (disch := omega) only [e165_0, e165_1, e165_2, e165_5, e165_6, e165_9, e165_12, e165_14, e165_17, e165_18, e165_21, e165_22, e165_23, e165_24, e165_27, e165_30, e165_31, e165_34, e165_35, e165_38, e165_41, e165_42, e165_45, e165_48, e165_49, e165_50, e165_53, e165_54, e165_55, e165_56, e165_59, e165_60, e165_61, e165_62, e165_63, e165_66, e165_67, e165_68, e165_69, e165_70, e165_71, e165_74, e165_75, e165_76, e165_78, e165_81, e165_84, e165_85, e165_86, e165_87, e165_88, e165_91, e165_93, e165_96, e165_97, e165_98, e165_101, e165_103, e165_106, e165_107, e165_110, e165_111, e165_112, e165_113, e165_116, e165_117, e165_118, e165_121, e165_122, e165_125, e165_126, e165_127, e165_128, e165_129, e165_130, e165_132, e165_135, e165_136, e165_137, e165_138, e165_141, e165_142, e165_145, e165_146, e165_147, e165_148, e165_149, e165_150, e165_153, e165_156, e165_157, e165_158, e165_159, e165_162, e165_163, e165_164, e165_167, zi_add, zi_sub, zi_mul, zl_add, zl_sub, zl_mul, zl_i, zi_l, zi_lt, zi_le, zi_eq, zl_lt, zl_le, zl_eq, zlc_lt, zlc_le, zlc_gt, zlc_ge, zlc_eq, zi_ne0, zl_ne0, zi_div, zl_div, zi_rem, zl_rem, zcat_nil, zcat_int, zcat_ref, zcat_long, zkill_int, zkill_ref, zkill_long, zkill_J, zkill2, zto_some, zto_none, znb0, znb1, zB_some, zbr_t, zbr_f, not_true_eq_false, not_false_eq_true, true_imp_iff, false_imp_iff, true_and, and_true, Nat.reduceAdd, Nat.reduceLeDiff, Int.reduceAdd, Int.reduceSub, Int.reduceMul, Int.reduceNeg, zisC_inr, zget_inr, zsetf_inr, zldl_row, zald_row, zstl_row, zast_row, List.getElem?_cons_zero, List.getElem?_cons_succ, List.length_cons, List.length_nil, List.set_cons_zero, List.set_cons_succ, zmk_0, zmk_1, zmk_2, zmk_3, zmk_4, zmk_5, zmk_6, zmk_7, zrg_0, zrg_1, zrg_2, zrg_3, zrg_4, zrg_5, zrg_6, zrg_7, zrg_8, zrg_9, zrg_10, zrg_11, zrg_12, zrg_13, zrg_14, zrg_15, zrs_3, zrs_6, zrs_7, zrs_9, zrs_10, zrs_11, zrs_12, zrs_14, zrs_15, zmw_0, zmw_1, zmw_2, zmw_3, zmw_4, zmw_5, zmw_6, zmw_7, zisr, E1, zst_zst, zst_ap, zset_ap, reduceIte, Nat.reduceEqDiff, Nat.zero_ne_one, Nat.one_ne_zero, Int.reduceEq, zst_67, r6]
theorem s_ro_5 {l1 l3 : Value} (hC : tC (ρ 5)) (ho : 0 ≤ ρ 7 6 ∧ ρ 7 6 ≤ 40) (hn : 0 ≤ ρ 7 2 ∧ ρ 7 2 ≤ 90) (he : 0 ≤ ρ 7 4 ∧ ρ 7 4 ≤ ρ 7 2) (hf : ρ 7 5 = -1000005) :
    ∃ v τ, rOrd ρ 5 (pTail (ρ 5) (ρ 7 2) (ρ 7 4) 5) v τ ∧ ∀ K, (zG 165 48 [.ref a, l1, .int (zi 5), l3] [] z (zmk h a ρ) K ↔ K none z (zmk h a (zst (zst ρ 6 τ) 7 v))) := by
  obtain ⟨x1, w1, o1, g5, g4, gx, E1⟩ := s_arg (z := z) (h := h) (a := a) (ρ := zst ρ 6 (zset (ρ 6) (4 * ρ 7 6) 5)) (lo := 0) (hi := 59) (by simp only [zst_zst, zst_ap, zset_ap, reduceIte, Nat.reduceEqDiff, Nat.zero_ne_one, Nat.one_ne_zero, Int.reduceEq]; exact hC) (by omega) (by omega) (by simp only [zst_zst, zst_ap, zset_ap, reduceIte, Nat.reduceEqDiff, Nat.zero_ne_one, Nat.one_ne_zero, Int.reduceEq]; exact hn) (by simp only [zst_zst, zst_ap, zset_ap, reduceIte, Nat.reduceEqDiff, Nat.zero_ne_one, Nat.one_ne_zero, Int.reduceEq]; exact he) (by simp only [zst_zst, zst_ap, zset_ap, reduceIte, Nat.reduceEqDiff, Nat.zero_ne_one, Nat.one_ne_zero, Int.reduceEq]; exact hf)
  simp only [zst_zst, zst_ap, zset_ap, reduceIte, Nat.reduceEqDiff, Nat.zero_ne_one, Nat.one_ne_zero, Int.reduceEq] at o1 g5 g4 gx E1
  have b1 := pArg_b (ρ 5) (n := ρ 7 2) (e := ρ 7 4) (lo := 0) (hi := 59) he (by omega)
  have r6 : w1 6 = ρ 7 6 := o1 6 (by omega) (by omega) (by omega)
  have r2 : w1 2 = ρ 7 2 := o1 2 (by omega) (by omega) (by omega)
  have e0 : pTail (ρ 5) (ρ 7 2) (ρ 7 4) 5 = if 0 ≤ (pArg (ρ 5) (ρ 7 2) (ρ 7 4) 0 59).1 then ((pArg (ρ 5) (ρ 7 2) (ρ 7 4) 0 59).1, (0, 0, 0), 0) else
    if 0 ≤ (pArg (ρ 5) (ρ 7 2) (pArg (ρ 5) (ρ 7 2) (ρ 7 4) 0 59).2.2 0 59).1 then ((pArg (ρ 5) (ρ 7 2) (pArg (ρ 5) (ρ 7 2) (ρ 7 4) 0 59).2.2 0 59).1, (0, 0, 0), 0) else
    if 0 ≤ (pArg (ρ 5) (ρ 7 2) (pArg (ρ 5) (ρ 7 2) (pArg (ρ 5) (ρ 7 2) (ρ 7 4) 0 59).2.2 0 59).2.2 0 500).1 then ((pArg (ρ 5) (ρ 7 2) (pArg (ρ 5) (ρ 7 2) (pArg (ρ 5) (ρ 7 2) (ρ 7 4) 0 59).2.2 0 59).2.2 0 500).1, (0, 0, 0), 0) else
    (-1000005, ((pArg (ρ 5) (ρ 7 2) (ρ 7 4) 0 59).2.1, (pArg (ρ 5) (ρ 7 2) (pArg (ρ 5) (ρ 7 2) (ρ 7 4) 0 59).2.2 0 59).2.1, (pArg (ρ 5) (ρ 7 2) (pArg (ρ 5) (ρ 7 2) (pArg (ρ 5) (ρ 7 2) (ρ 7 4) 0 59).2.2 0 59).2.2 0 500).2.1), (pArg (ρ 5) (ρ 7 2) (pArg (ρ 5) (ρ 7 2) (pArg (ρ 5) (ρ 7 2) (ρ 7 4) 0 59).2.2 0 59).2.2 0 500).2.2) := rfl
  rw [e0]
  unfold rOrd
  by_cases c1 : 0 ≤ (pArg (ρ 5) (ρ 7 2) (ρ 7 4) 0 59).1
  · rw [if_pos c1]
    have F : ∀ (τ : Int → Int) (l1 l2 : Value) (K : Option Value → zZ → zH → Prop), zG 164 0 [.ref a, l1, l2, zJ, zJ, zJ] [] z (zmk h a (zst (zst ρ 6 τ) 7 w1)) K ↔ K (some (.int (zi 0))) z (zmk h a (zst (zst ρ 6 τ) 7 w1)) := fun τ l1 l2 K => s_arg_f (by show 0 ≤ w1 5 ∧ w1 5 ≤ 100; omega)
    refine ⟨zset w1 6 (ρ 7 6 + 1), zset (zset (zset (zset (ρ 6) (4 * ρ 7 6) 5) (4 * ρ 7 6 + 1) x1) (4 * ρ 7 6 + 2) 0) (4 * ρ 7 6 + 3) 0, ⟨fun j h3 h4 h5 h6 => ?_, ?_, ?_, fun j hj => ?_, fun q => absurd c1 (by omega)⟩, fun K => ?_⟩
    · rw [zset_ap, if_neg h6, o1 j h3 h4 h5]
    · rw [zset_ap, if_pos rfl]
    · rw [zset_ap, if_neg (by omega), g5]
    · rw [zset_ap, if_neg (by omega), zset_ap, if_neg (by omega), zset_ap, if_neg (by omega), zset_ap, if_neg (by omega)]
    · simp (disch := omega) only [e165_0, e165_1, e165_2, e165_5, e165_6, e165_9, e165_12, e165_14, e165_17, e165_18, e165_21, e165_22, e165_23, e165_24, e165_27, e165_30, e165_31, e165_34, e165_35, e165_38, e165_41, e165_42, e165_45, e165_48, e165_49, e165_50, e165_53, e165_54, e165_55, e165_56, e165_59, e165_60, e165_61, e165_62, e165_63, e165_66, e165_67, e165_68, e165_69, e165_70, e165_71, e165_74, e165_75, e165_76, e165_78, e165_81, e165_84, e165_85, e165_86, e165_87, e165_88, e165_91, e165_93, e165_96, e165_97, e165_98, e165_101, e165_103, e165_106, e165_107, e165_110, e165_111, e165_112, e165_113, e165_116, e165_117, e165_118, e165_121, e165_122, e165_125, e165_126, e165_127, e165_128, e165_129, e165_130, e165_132, e165_135, e165_136, e165_137, e165_138, e165_141, e165_142, e165_145, e165_146, e165_147, e165_148, e165_149, e165_150, e165_153, e165_156, e165_157, e165_158, e165_159, e165_162, e165_163, e165_164, e165_167, zi_add, zi_sub, zi_mul, zl_add, zl_sub, zl_mul, zl_i, zi_l, zi_lt, zi_le, zi_eq, zl_lt, zl_le, zl_eq, zlc_lt, zlc_le, zlc_gt, zlc_ge, zlc_eq, zi_ne0, zl_ne0, zi_div, zl_div, zi_rem, zl_rem, zcat_nil, zcat_int, zcat_ref, zcat_long, zkill_int, zkill_ref, zkill_long, zkill_J, zkill2, zto_some, zto_none, znb0, znb1, zB_some, zbr_t, zbr_f, not_true_eq_false, not_false_eq_true, true_imp_iff, false_imp_iff, true_and, and_true, Nat.reduceAdd, Nat.reduceLeDiff, Int.reduceAdd, Int.reduceSub, Int.reduceMul, Int.reduceNeg, zisC_inr, zget_inr, zsetf_inr, zldl_row, zald_row, zstl_row, zast_row, List.getElem?_cons_zero, List.getElem?_cons_succ, List.length_cons, List.length_nil, List.set_cons_zero, List.set_cons_succ, zmk_0, zmk_1, zmk_2, zmk_3, zmk_4, zmk_5, zmk_6, zmk_7, zrg_0, zrg_1, zrg_2, zrg_3, zrg_4, zrg_5, zrg_6, zrg_7, zrg_8, zrg_9, zrg_10, zrg_11, zrg_12, zrg_13, zrg_14, zrg_15, zrs_3, zrs_6, zrs_7, zrs_9, zrs_10, zrs_11, zrs_12, zrs_14, zrs_15, zmw_0, zmw_1, zmw_2, zmw_3, zmw_4, zmw_5, zmw_6, zmw_7, zisr, E1, F, zst_zst, zst_ap, zset_ap, reduceIte, Nat.reduceEqDiff, Nat.zero_ne_one, Nat.one_ne_zero, Int.reduceEq, zst_67, r6]
  · rw [if_neg c1]
    have f1 : w1 5 = -1000005 := by omega
    obtain ⟨x2, w2, o2, k5, k4, kx, E2⟩ := s_arg (z := z) (h := h) (a := a) (ρ := zst (zst ρ 6 (zset (zset (ρ 6) (4 * ρ 7 6) 5) (4 * ρ 7 6 + 1) x1)) 7 w1) (lo := 0) (hi := 59) (by simp only [zst_zst, zst_ap, zset_ap, reduceIte, Nat.reduceEqDiff, Nat.zero_ne_one, Nat.one_ne_zero, Int.reduceEq]; exact hC) (by omega) (by omega) (by simp only [zst_zst, zst_ap, zset_ap, reduceIte, Nat.reduceEqDiff, Nat.zero_ne_one, Nat.one_ne_zero, Int.reduceEq]; omega) (by simp only [zst_zst, zst_ap, zset_ap, reduceIte, Nat.reduceEqDiff, Nat.zero_ne_one, Nat.one_ne_zero, Int.reduceEq]; omega) (by simp only [zst_zst, zst_ap, zset_ap, reduceIte, Nat.reduceEqDiff, Nat.zero_ne_one, Nat.one_ne_zero, Int.reduceEq]; exact f1)
    simp only [zst_zst, zst_ap, zset_ap, reduceIte, Nat.reduceEqDiff, Nat.zero_ne_one, Nat.one_ne_zero, Int.reduceEq] at o2 k5 k4 kx E2
    rw [r2, g4] at k5 k4 kx
    have b2 := pArg_b (ρ 5) (n := ρ 7 2) (e := (pArg (ρ 5) (ρ 7 2) (ρ 7 4) 0 59).2.2) (lo := 0) (hi := 59) (by omega) (by omega)
    have s6 : w2 6 = ρ 7 6 := (o2 6 (by omega) (by omega) (by omega)).trans r6
    have s2 : w2 2 = ρ 7 2 := (o2 2 (by omega) (by omega) (by omega)).trans r2
    by_cases c2 : 0 ≤ (pArg (ρ 5) (ρ 7 2) (pArg (ρ 5) (ρ 7 2) (ρ 7 4) 0 59).2.2 0 59).1
    · rw [if_pos c2]
      have F : ∀ (τ : Int → Int) (l1 l2 : Value) (K : Option Value → zZ → zH → Prop), zG 164 0 [.ref a, l1, l2, zJ, zJ, zJ] [] z (zmk h a (zst (zst ρ 6 τ) 7 w2)) K ↔ K (some (.int (zi 0))) z (zmk h a (zst (zst ρ 6 τ) 7 w2)) := fun τ l1 l2 K => s_arg_f (by show 0 ≤ w2 5 ∧ w2 5 ≤ 100; omega)
      refine ⟨zset w2 6 (ρ 7 6 + 1), zset (zset (zset (zset (ρ 6) (4 * ρ 7 6) 5) (4 * ρ 7 6 + 1) x1) (4 * ρ 7 6 + 2) x2) (4 * ρ 7 6 + 3) 0, ⟨fun j h3 h4 h5 h6 => ?_, ?_, ?_, fun j hj => ?_, fun q => absurd c2 (by omega)⟩, fun K => ?_⟩
      · rw [zset_ap, if_neg h6, o2 j h3 h4 h5, o1 j h3 h4 h5]
      · rw [zset_ap, if_pos rfl]
      · rw [zset_ap, if_neg (by omega), k5]
      · rw [zset_ap, if_neg (by omega), zset_ap, if_neg (by omega), zset_ap, if_neg (by omega), zset_ap, if_neg (by omega)]
      · simp (disch := omega) only [e165_0, e165_1, e165_2, e165_5, e165_6, e165_9, e165_12, e165_14, e165_17, e165_18, e165_21, e165_22, e165_23, e165_24, e165_27, e165_30, e165_31, e165_34, e165_35, e165_38, e165_41, e165_42, e165_45, e165_48, e165_49, e165_50, e165_53, e165_54, e165_55, e165_56, e165_59, e165_60, e165_61, e165_62, e165_63, e165_66, e165_67, e165_68, e165_69, e165_70, e165_71, e165_74, e165_75, e165_76, e165_78, e165_81, e165_84, e165_85, e165_86, e165_87, e165_88, e165_91, e165_93, e165_96, e165_97, e165_98, e165_101, e165_103, e165_106, e165_107, e165_110, e165_111, e165_112, e165_113, e165_116, e165_117, e165_118, e165_121, e165_122, e165_125, e165_126, e165_127, e165_128, e165_129, e165_130, e165_132, e165_135, e165_136, e165_137, e165_138, e165_141, e165_142, e165_145, e165_146, e165_147, e165_148, e165_149, e165_150, e165_153, e165_156, e165_157, e165_158, e165_159, e165_162, e165_163, e165_164, e165_167, zi_add, zi_sub, zi_mul, zl_add, zl_sub, zl_mul, zl_i, zi_l, zi_lt, zi_le, zi_eq, zl_lt, zl_le, zl_eq, zlc_lt, zlc_le, zlc_gt, zlc_ge, zlc_eq, zi_ne0, zl_ne0, zi_div, zl_div, zi_rem, zl_rem, zcat_nil, zcat_int, zcat_ref, zcat_long, zkill_int, zkill_ref, zkill_long, zkill_J, zkill2, zto_some, zto_none, znb0, znb1, zB_some, zbr_t, zbr_f, not_true_eq_false, not_false_eq_true, true_imp_iff, false_imp_iff, true_and, and_true, Nat.reduceAdd, Nat.reduceLeDiff, Int.reduceAdd, Int.reduceSub, Int.reduceMul, Int.reduceNeg, zisC_inr, zget_inr, zsetf_inr, zldl_row, zald_row, zstl_row, zast_row, List.getElem?_cons_zero, List.getElem?_cons_succ, List.length_cons, List.length_nil, List.set_cons_zero, List.set_cons_succ, zmk_0, zmk_1, zmk_2, zmk_3, zmk_4, zmk_5, zmk_6, zmk_7, zrg_0, zrg_1, zrg_2, zrg_3, zrg_4, zrg_5, zrg_6, zrg_7, zrg_8, zrg_9, zrg_10, zrg_11, zrg_12, zrg_13, zrg_14, zrg_15, zrs_3, zrs_6, zrs_7, zrs_9, zrs_10, zrs_11, zrs_12, zrs_14, zrs_15, zmw_0, zmw_1, zmw_2, zmw_3, zmw_4, zmw_5, zmw_6, zmw_7, zisr, E1, E2, F, zst_zst, zst_ap, zset_ap, reduceIte, Nat.reduceEqDiff, Nat.zero_ne_one, Nat.one_ne_zero, Int.reduceEq, zst_67, r6, s6]
    · rw [if_neg c2]
      have f2 : w2 5 = -1000005 := by omega
      obtain ⟨x3, w3, o3, m5, m4, mx, E3⟩ := s_arg (z := z) (h := h) (a := a) (ρ := zst (zst ρ 6 (zset (zset (zset (ρ 6) (4 * ρ 7 6) 5) (4 * ρ 7 6 + 1) x1) (4 * ρ 7 6 + 2) x2)) 7 w2) (lo := 0) (hi := 500) (by simp only [zst_zst, zst_ap, zset_ap, reduceIte, Nat.reduceEqDiff, Nat.zero_ne_one, Nat.one_ne_zero, Int.reduceEq]; exact hC) (by omega) (by omega) (by simp only [zst_zst, zst_ap, zset_ap, reduceIte, Nat.reduceEqDiff, Nat.zero_ne_one, Nat.one_ne_zero, Int.reduceEq]; omega) (by simp only [zst_zst, zst_ap, zset_ap, reduceIte, Nat.reduceEqDiff, Nat.zero_ne_one, Nat.one_ne_zero, Int.reduceEq]; omega) (by simp only [zst_zst, zst_ap, zset_ap, reduceIte, Nat.reduceEqDiff, Nat.zero_ne_one, Nat.one_ne_zero, Int.reduceEq]; exact f2)
      simp only [zst_zst, zst_ap, zset_ap, reduceIte, Nat.reduceEqDiff, Nat.zero_ne_one, Nat.one_ne_zero, Int.reduceEq] at o3 m5 m4 mx E3
      rw [s2, k4] at m5 m4 mx
      have b3 := pArg_b (ρ 5) (n := ρ 7 2) (e := (pArg (ρ 5) (ρ 7 2) (pArg (ρ 5) (ρ 7 2) (ρ 7 4) 0 59).2.2 0 59).2.2) (lo := 0) (hi := 500) (by omega) (by omega)
      have t6 : w3 6 = ρ 7 6 := (o3 6 (by omega) (by omega) (by omega)).trans s6
      refine ⟨zset w3 6 (ρ 7 6 + 1), zset (zset (zset (zset (ρ 6) (4 * ρ 7 6) 5) (4 * ρ 7 6 + 1) x1) (4 * ρ 7 6 + 2) x2) (4 * ρ 7 6 + 3) x3, ⟨fun j h3 h4 h5 h6 => ?_, ?_, ?_, fun j hj => ?_, fun q => ?_⟩, fun K => ?_⟩
      · rw [zset_ap, if_neg h6, o3 j h3 h4 h5, o2 j h3 h4 h5, o1 j h3 h4 h5]
      · rw [zset_ap, if_pos rfl]
      · rw [zset_ap, if_neg (by omega), m5]
        by_cases c3 : 0 ≤ (pArg (ρ 5) (ρ 7 2) (pArg (ρ 5) (ρ 7 2) (pArg (ρ 5) (ρ 7 2) (ρ 7 4) 0 59).2.2 0 59).2.2 0 500).1
        · rw [if_pos c3]
        · rw [if_neg c3]
          show _ = (-1000005 : Int)
          omega
      · rw [zset_ap, if_neg (by omega), zset_ap, if_neg (by omega), zset_ap, if_neg (by omega), zset_ap, if_neg (by omega)]
      · by_cases c3 : 0 ≤ (pArg (ρ 5) (ρ 7 2) (pArg (ρ 5) (ρ 7 2) (pArg (ρ 5) (ρ 7 2) (ρ 7 4) 0 59).2.2 0 59).2.2 0 500).1
        · rw [if_pos c3] at q
          exact absurd c3 (Int.not_le.2 q)
        · rw [if_neg c3]
          refine ⟨?_, ?_, ?_, fun q2 => ?_, fun q2 => ?_⟩
          · rw [zset_ap, if_neg (by omega), m4]
          · rw [zset_ap, if_neg (by omega), zset_ap, if_neg (by omega), zset_ap, if_neg (by omega), zset_ap, if_pos rfl]
          · rw [zset_ap, if_neg (by omega), zset_ap, if_neg (by omega), zset_ap, if_pos rfl]
            exact gx (by omega)
          · rw [zset_ap, if_neg (by omega), zset_ap, if_pos rfl]
            exact kx (by omega)
          · rw [zset_ap, if_pos rfl]
            exact mx (by omega)
      · simp (disch := omega) only [e165_0, e165_1, e165_2, e165_5, e165_6, e165_9, e165_12, e165_14, e165_17, e165_18, e165_21, e165_22, e165_23, e165_24, e165_27, e165_30, e165_31, e165_34, e165_35, e165_38, e165_41, e165_42, e165_45, e165_48, e165_49, e165_50, e165_53, e165_54, e165_55, e165_56, e165_59, e165_60, e165_61, e165_62, e165_63, e165_66, e165_67, e165_68, e165_69, e165_70, e165_71, e165_74, e165_75, e165_76, e165_78, e165_81, e165_84, e165_85, e165_86, e165_87, e165_88, e165_91, e165_93, e165_96, e165_97, e165_98, e165_101, e165_103, e165_106, e165_107, e165_110, e165_111, e165_112, e165_113, e165_116, e165_117, e165_118, e165_121, e165_122, e165_125, e165_126, e165_127, e165_128, e165_129, e165_130, e165_132, e165_135, e165_136, e165_137, e165_138, e165_141, e165_142, e165_145, e165_146, e165_147, e165_148, e165_149, e165_150, e165_153, e165_156, e165_157, e165_158, e165_159, e165_162, e165_163, e165_164, e165_167, zi_add, zi_sub, zi_mul, zl_add, zl_sub, zl_mul, zl_i, zi_l, zi_lt, zi_le, zi_eq, zl_lt, zl_le, zl_eq, zlc_lt, zlc_le, zlc_gt, zlc_ge, zlc_eq, zi_ne0, zl_ne0, zi_div, zl_div, zi_rem, zl_rem, zcat_nil, zcat_int, zcat_ref, zcat_long, zkill_int, zkill_ref, zkill_long, zkill_J, zkill2, zto_some, zto_none, znb0, znb1, zB_some, zbr_t, zbr_f, not_true_eq_false, not_false_eq_true, true_imp_iff, false_imp_iff, true_and, and_true, Nat.reduceAdd, Nat.reduceLeDiff, Int.reduceAdd, Int.reduceSub, Int.reduceMul, Int.reduceNeg, zisC_inr, zget_inr, zsetf_inr, zldl_row, zald_row, zstl_row, zast_row, List.getElem?_cons_zero, List.getElem?_cons_succ, List.length_cons, List.length_nil, List.set_cons_zero, List.set_cons_succ, zmk_0, zmk_1, zmk_2, zmk_3, zmk_4, zmk_5, zmk_6, zmk_7, zrg_0, zrg_1, zrg_2, zrg_3, zrg_4, zrg_5, zrg_6, zrg_7, zrg_8, zrg_9, zrg_10, zrg_11, zrg_12, zrg_13, zrg_14, zrg_15, zrs_3, zrs_6, zrs_7, zrs_9, zrs_10, zrs_11, zrs_12, zrs_14, zrs_15, zmw_0, zmw_1, zmw_2, zmw_3, zmw_4, zmw_5, zmw_6, zmw_7, zisr, E1, E2, E3, zst_zst, zst_ap, zset_ap, reduceIte, Nat.reduceEqDiff, Nat.zero_ne_one, Nat.one_ne_zero, Int.reduceEq, zst_67, r6, s6, t6]
end RF16
