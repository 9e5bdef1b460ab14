/-! the reference's text: an order -/
theorem zst_67 (ρ : Nat → Int → Int) (f w g : Int → Int) : zst (zst (zst ρ 6 f) 7 w) 6 g = zst (zst ρ 6 g) 7 w := by
  rw [zst_comm (zst ρ 6 f) (by decide), zst_zst]
theorem pEnd_b (t : Int → Int) (n s : Int) : s ≤ pEnd t n s ∧ (s ≤ n → pEnd t n s ≤ n) := pEndN_b t n _ s
theorem pArg_b (t : Int → Int) {n e lo hi : Int} (he : 0 ≤ e ∧ e ≤ n) (hlo : 0 ≤ lo) : ((pArg t n e lo hi).1 = -1000005 ∧ e + 2 ≤ (pArg t n e lo hi).2.2 ∧ (pArg t n e lo hi).2.2 ≤ n ∧ lo ≤ (pArg t n e lo hi).2.1 ∧ (pArg t n e lo hi).2.1 ≤ hi) ∨ (0 ≤ (pArg t n e lo hi).1 ∧ (pArg t n e lo hi).1 ≤ n) := by
  have hq := pEnd_b t n (e + 1)
  unfold pArg
  by_cases c1 : e < n ∧ t e = 32
  · rw [if_pos c1]
    by_cases c2 : lo ≤ pNum t (e + 1) (pEnd t n (e + 1)) ∧ pNum t (e + 1) (pEnd t n (e + 1)) ≤ hi
    · rw [if_pos c2]
      refine Or.inl ⟨rfl, ?_, hq.2 (by omega), c2.1, c2.2⟩
      show e + 2 ≤ pEnd t n (e + 1)
      by_cases c3 : 1 ≤ pEnd t n (e + 1) - (e + 1)
      · omega
      · have hv : pNum t (e + 1) (pEnd t n (e + 1)) = -1 := if_neg fun w => c3 w.1.1
        omega
    · rw [if_neg c2]
      refine Or.inr ⟨?_, ?_⟩
      · show 0 ≤ e + 1
        omega
      · show e + 1 ≤ n
        omega
  · rw [if_neg c1]
    exact Or.inr he
/-- the numbers behind a word that ends at e -/
def pTail (t : Int → Int) (n e w : Int) : Int × (Int × Int × Int) × Int :=
  if 0 ≤ (pArg t n e (if w = 4 then 1 else 0) (if w = 4 then 60 else if w = 3 then 11 else if w = 5 then 59 else 3)).1 then ((pArg t n e (if w = 4 then 1 else 0) (if w = 4 then 60 else if w = 3 then 11 else if w = 5 then 59 else 3)).1, (0, 0, 0), 0)
  else if w = 3 ∨ w = 4 then (-1000005, ((pArg t n e (if w = 4 then 1 else 0) (if w = 4 then 60 else if w = 3 then 11 else if w = 5 then 59 else 3)).2.1, 0, 0), (pArg t n e (if w = 4 then 1 else 0) (if w = 4 then 60 else if w = 3 then 11 else if w = 5 then 59 else 3)).2.2)
  else if 0 ≤ (pArg t n (pArg t n e 0 (if w = 5 then 59 else 3)).2.2 0 59).1 then ((pArg t n (pArg t n e 0 (if w = 5 then 59 else 3)).2.2 0 59).1, (0, 0, 0), 0)
  else if w ≠ 5 then (-1000005, ((pArg t n e 0 (if w = 5 then 59 else 3)).2.1, (pArg t n (pArg t n e 0 (if w = 5 then 59 else 3)).2.2 0 59).2.1, 0), (pArg t n (pArg t n e 0 (if w = 5 then 59 else 3)).2.2 0 59).2.2)
  else if 0 ≤ (pArg t n (pArg t n (pArg t n e 0 59).2.2 0 59).2.2 0 500).1 then ((pArg t n (pArg t n (pArg t n e 0 59).2.2 0 59).2.2 0 500).1, (0, 0, 0), 0)
  else (-1000005, ((pArg t n e 0 59).2.1, (pArg t n (pArg t n e 0 59).2.2 0 59).2.1, (pArg t n (pArg t n (pArg t n e 0 59).2.2 0 59).2.2 0 500).2.1), (pArg t n (pArg t n (pArg t n e 0 59).2.2 0 59).2.2 0 500).2.2)
/-- what reading an order leaves in the numbers and the rows -/
def rOrd (ρ : Nat → Int → Int) (w : Int) (P : Int × (Int × Int × Int) × Int) (v τ : Int → Int) : Prop :=
  (∀ j, j ≠ 3 → j ≠ 4 → j ≠ 5 → j ≠ 6 → v j = ρ 7 j) ∧ v 6 = ρ 7 6 + 1 ∧ v 5 = P.1 ∧ (∀ j, (j < 4 * ρ 7 6 ∨ 4 * ρ 7 6 + 4 ≤ j) → τ j = ρ 6 j) ∧
  (P.1 < 0 → v 4 = P.2.2 ∧ τ (4 * ρ 7 6) = w ∧ τ (4 * ρ 7 6 + 1) = P.2.1.1 ∧ ((w < 3 ∨ w = 5) → τ (4 * ρ 7 6 + 2) = P.2.1.2.1) ∧ (w = 5 → τ (4 * ρ 7 6 + 3) = P.2.1.2.2))
section RF15
variable {z : zZ} {h : zH} {K : Option Value → zZ → zH → Prop} {a : Nat} {ρ : Nat → Int → Int}
theorem s_ro_f {l1 l3 : Value} (ho : 0 ≤ ρ 7 6 ∧ ρ 7 6 ≤ 40) (hf : 0 ≤ ρ 7 5 ∧ ρ 7 5 ≤ 100) :
    zG 165 48 [.ref a, l1, .int (zi (-1000005)), l3] [] z (zmk h a ρ) K ↔ K none z (zmk h a (zst (zst ρ 6 (zset (zset (zset (ρ 6) (4 * ρ 7 6) (-1000005)) (4 * ρ 7 6 + 1) 0) (4 * ρ 7 6 + 2) 0)) 7 (zset (ρ 7) 6 (ρ 7 6 + 1)))) := by
  have F : ∀ (τ : Int → Int) (l1 l2 : Value) (K : Option Value → zZ → zH → Prop), zG 164 0 [.ref a, l1, l2, zJ, zJ, zJ] [] z (zmk h a (zst ρ 6 τ)) K ↔ K (some (.int (zi 0))) z (zmk h a (zst ρ 6 τ)) := fun τ l1 l2 K => s_arg_f hf
  simp (disch := omega) only [e165_0, e165_1, e165_2, e165_5, e165_6, e165_9, e165_12, e165_14, e165_17, e165_18, e165_21, e165_22, e165_23, e165_24, e165_27, e165_30, e165_31, e165_34, e165_35, e165_38, e165_41, e165_42, e165_45, e165_48, e165_49, e165_50, e165_53, e165_54, e165_55, e165_56, e165_59, e165_60, e165_61, e165_62, e165_63, e165_66, e165_67, e165_68, e165_69, e165_70, e165_71, e165_74, e165_75, e165_76, e165_78, e165_81, e165_84, e165_85, e165_86, e165_87, e165_88, e165_91, e165_93, e165_96, e165_97, e165_98, e165_101, e165_103, e165_106, e165_107, e165_110, e165_111, e165_112, e165_113, e165_116, e165_117, e165_118, e165_121, e165_122, e165_125, e165_126, e165_127, e165_128, e165_129, e165_130, e165_132, e165_135, e165_136, e165_137, e165_138, e165_141, e165_142, e165_145, e165_146, e165_147, e165_148, e165_149, e165_150, e165_153, e165_156, e165_157, e165_158, e165_159, e165_162, e165_163, e165_164, e165_167, zi_add, zi_sub, zi_mul, zl_add, zl_sub, zl_mul, zl_i, zi_l, zi_lt, zi_le, zi_eq, zl_lt, zl_le, zl_eq, zlc_lt, zlc_le, zlc_gt, zlc_ge, zlc_eq, zi_ne0, zl_ne0, zi_div, zl_div, zi_rem, zl_rem, zcat_nil, zcat_int, zcat_ref, zcat_long, zkill_int, zkill_ref, zkill_long, zkill_J, zkill2, zto_some, zto_none, znb0, znb1, zB_some, zbr_t, zbr_f, not_true_eq_false, not_false_eq_true, true_imp_iff, false_imp_iff, true_and, and_true, Nat.reduceAdd, Nat.reduceLeDiff, Int.reduceAdd, Int.reduceSub, Int.reduceMul, Int.reduceNeg, zisC_inr, zget_inr, zsetf_inr, zldl_row, zald_row, zstl_row, zast_row, List.getElem?_cons_zero, List.getElem?_cons_succ, List.length_cons, List.length_nil, List.set_cons_zero, List.set_cons_succ, zmk_0, zmk_1, zmk_2, zmk_3, zmk_4, zmk_5, zmk_6, zmk_7, zrg_0, zrg_1, zrg_2, zrg_3, zrg_4, zrg_5, zrg_6, zrg_7, zrg_8, zrg_9, zrg_10, zrg_11, zrg_12, zrg_13, zrg_14, zrg_15, zrs_3, zrs_6, zrs_7, zrs_9, zrs_10, zrs_11, zrs_12, zrs_14, zrs_15, zmw_0, zmw_1, zmw_2, zmw_3, zmw_4, zmw_5, zmw_6, zmw_7, zisr, F, zst_zst, zst_ap, zset_ap, reduceIte, Nat.reduceEqDiff, Nat.zero_ne_one, Nat.one_ne_zero, Int.reduceEq]
theorem s_ro_2 {w : Int} {l1 l3 : Value} (hw : 0 ≤ w ∧ w ≤ 2) (hC : tC (ρ 5)) (ho : 0 ≤ ρ 7 6 ∧ ρ 7 6 ≤ 40) (hn : 0 ≤ ρ 7 2 ∧ ρ 7 2 ≤ 90) (he : 0 ≤ ρ 7 4 ∧ ρ 7 4 ≤ ρ 7 2) (hf : ρ 7 5 = -1000005) :
    ∃ v τ, rOrd ρ w (pTail (ρ 5) (ρ 7 2) (ρ 7 4) w) v τ ∧ ∀ K, (zG 165 48 [.ref a, l1, .int (zi w), l3] [] z (zmk h a ρ) K ↔ K none z (zmk h a (zst (zst ρ 6 τ) 7 v))) := by
  obtain ⟨x1, w1, o1, g5, g4, gx, E1⟩ := s_arg (z := z) (h := h) (a := a) (ρ := zst ρ 6 (zset (ρ 6) (4 * ρ 7 6) w)) (lo := 0) (hi := 3) (by simp only [zst_zst, zst_ap, zset_ap, reduceIte, Nat.reduceEqDiff, Nat.zero_ne_one, Nat.one_ne_zero, Int.reduceEq]; exact hC) (by omega) (by omega) (by simp only [zst_zst, zst_ap, zset_ap, reduceIte, Nat.reduceEqDiff, Nat.zero_ne_one, Nat.one_ne_zero, Int.reduceEq]; exact hn) (by simp only [zst_zst, zst_ap, zset_ap, reduceIte, Nat.reduceEqDiff, Nat.zero_ne_one, Nat.one_ne_zero, Int.reduceEq]; exact he) (by simp only [zst_zst, zst_ap, zset_ap, reduceIte, Nat.reduceEqDiff, Nat.zero_ne_one, Nat.one_ne_zero, Int.reduceEq]; exact hf)
  simp only [zst_zst, zst_ap, zset_ap, reduceIte, Nat.reduceEqDiff, Nat.zero_ne_one, Nat.one_ne_zero, Int.reduceEq] at o1 g5 g4 gx E1
  have b1 := pArg_b (ρ 5) (n := ρ 7 2) (e := ρ 7 4) (lo := 0) (hi := 3) he (by omega)
  have r6 : w1 6 = ρ 7 6 := o1 6 (by omega) (by omega) (by omega)
  have r2 : w1 2 = ρ 7 2 := o1 2 (by omega) (by omega) (by omega)
  unfold pTail rOrd
  rw [if_neg (show ¬ w = 4 by omega), if_neg (show ¬ w = 4 by omega), if_neg (show ¬ w = 3 by omega), if_neg (show ¬ w = 5 by omega)]
  by_cases c1 : 0 ≤ (pArg (ρ 5) (ρ 7 2) (ρ 7 4) 0 3).1
  · rw [if_pos c1]
    have F : ∀ (τ : Int → Int) (l1 l2 : Value) (K : Option Value → zZ → zH → Prop), zG 164 0 [.ref a, l1, l2, zJ, zJ, zJ] [] z (zmk h a (zst (zst ρ 6 τ) 7 w1)) K ↔ K (some (.int (zi 0))) z (zmk h a (zst (zst ρ 6 τ) 7 w1)) := fun τ l1 l2 K => s_arg_f (by show 0 ≤ w1 5 ∧ w1 5 ≤ 100; omega)
    refine ⟨zset w1 6 (ρ 7 6 + 1), zset (zset (zset (ρ 6) (4 * ρ 7 6) w) (4 * ρ 7 6 + 1) x1) (4 * ρ 7 6 + 2) 0, ⟨fun j h3 h4 h5 h6 => ?_, ?_, ?_, fun j hj => ?_, fun q => absurd c1 (by omega)⟩, fun K => ?_⟩
    · rw [zset_ap, if_neg h6, o1 j h3 h4 h5]
    · rw [zset_ap, if_pos rfl]
    · rw [zset_ap, if_neg (by omega), g5]
    · rw [zset_ap, if_neg (by omega), zset_ap, if_neg (by omega), zset_ap, if_neg (by omega)]
    · simp (disch := omega) only [e165_0, e165_1, e165_2, e165_5, e165_6, e165_9, e165_12, e165_14, e165_17, e165_18, e165_21, e165_22, e165_23, e165_24, e165_27, e165_30, e165_31, e165_34, e165_35, e165_38, e165_41, e165_42, e165_45, e165_48, e165_49, e165_50, e165_53, e165_54, e165_55, e165_56, e165_59, e165_60, e165_61, e165_62, e165_63, e165_66, e165_67, e165_68, e165_69, e165_70, e165_71, e165_74, e165_75, e165_76, e165_78, e165_81, e165_84, e165_85, e165_86, e165_87, e165_88, e165_91, e165_93, e165_96, e165_97, e165_98, e165_101, e165_103, e165_106, e165_107, e165_110, e165_111, e165_112, e165_113, e165_116, e165_117, e165_118, e165_121, e165_122, e165_125, e165_126, e165_127, e165_128, e165_129, e165_130, e165_132, e165_135, e165_136, e165_137, e165_138, e165_141, e165_142, e165_145, e165_146, e165_147, e165_148, e165_149, e165_150, e165_153, e165_156, e165_157, e165_158, e165_159, e165_162, e165_163, e165_164, e165_167, zi_add, zi_sub, zi_mul, zl_add, zl_sub, zl_mul, zl_i, zi_l, zi_lt, zi_le, zi_eq, zl_lt, zl_le, zl_eq, zlc_lt, zlc_le, zlc_gt, zlc_ge, zlc_eq, zi_ne0, zl_ne0, zi_div, zl_div, zi_rem, zl_rem, zcat_nil, zcat_int, zcat_ref, zcat_long, zkill_int, zkill_ref, zkill_long, zkill_J, zkill2, zto_some, zto_none, znb0, znb1, zB_some, zbr_t, zbr_f, not_true_eq_false, not_false_eq_true, true_imp_iff, false_imp_iff, true_and, and_true, Nat.reduceAdd, Nat.reduceLeDiff, Int.reduceAdd, Int.reduceSub, Int.reduceMul, Int.reduceNeg, zisC_inr, zget_inr, zsetf_inr, zldl_row, zald_row, zstl_row, zast_row, List.getElem?_cons_zero, List.getElem?_cons_succ, List.length_cons, List.length_nil, List.set_cons_zero, List.set_cons_succ, zmk_0, zmk_1, zmk_2, zmk_3, zmk_4, zmk_5, zmk_6, zmk_7, zrg_0, zrg_1, zrg_2, zrg_3, zrg_4, zrg_5, zrg_6, zrg_7, zrg_8, zrg_9, zrg_10, zrg_11, zrg_12, zrg_13, zrg_14, zrg_15, zrs_3, zrs_6, zrs_7, zrs_9, zrs_10, zrs_11, zrs_12, zrs_14, zrs_15, zmw_0, zmw_1, zmw_2, zmw_3, zmw_4, zmw_5, zmw_6, zmw_7, zisr, E1, F, zst_zst, zst_ap, zset_ap, reduceIte, Nat.reduceEqDiff, Nat.zero_ne_one, Nat.one_ne_zero, Int.reduceEq, zst_67, r6]
  · rw [if_neg c1, if_neg (by omega)]
    have f1 : w1 5 = -1000005 := by omega
    obtain ⟨x2, w2, o2, k5, k4, kx, E2⟩ := s_arg (z := z) (h := h) (a := a) (ρ := zst (zst ρ 6 (zset (zset (ρ 6) (4 * ρ 7 6) w) (4 * ρ 7 6 + 1) x1)) 7 w1) (lo := 0) (hi := 59) (by simp only [zst_zst, zst_ap, zset_ap, reduceIte, Nat.reduceEqDiff, Nat.zero_ne_one, Nat.one_ne_zero, Int.reduceEq]; exact hC) (by omega) (by omega) (by simp only [zst_zst, zst_ap, zset_ap, reduceIte, Nat.reduceEqDiff, Nat.zero_ne_one, Nat.one_ne_zero, Int.reduceEq]; omega) (by simp only [zst_zst, zst_ap, zset_ap, reduceIte, Nat.reduceEqDiff, Nat.zero_ne_one, Nat.one_ne_zero, Int.reduceEq]; omega) (by simp only [zst_zst, zst_ap, zset_ap, reduceIte, Nat.reduceEqDiff, Nat.zero_ne_one, Nat.one_ne_zero, Int.reduceEq]; exact f1)
    simp only [zst_zst, zst_ap, zset_ap, reduceIte, Nat.reduceEqDiff, Nat.zero_ne_one, Nat.one_ne_zero, Int.reduceEq] at o2 k5 k4 kx E2
    rw [r2, g4] at k5 k4 kx
    have s6 : w2 6 = ρ 7 6 := (o2 6 (by omega) (by omega) (by omega)).trans r6
    by_cases c2 : 0 ≤ (pArg (ρ 5) (ρ 7 2) (pArg (ρ 5) (ρ 7 2) (ρ 7 4) 0 3).2.2 0 59).1
    · rw [if_pos c2]
      refine ⟨zset w2 6 (ρ 7 6 + 1), zset (zset (zset (ρ 6) (4 * ρ 7 6) w) (4 * ρ 7 6 + 1) x1) (4 * ρ 7 6 + 2) x2, ⟨fun j h3 h4 h5 h6 => ?_, ?_, ?_, fun j hj => ?_, fun q => absurd c2 (by omega)⟩, fun K => ?_⟩
      · rw [zset_ap, if_neg h6, o2 j h3 h4 h5, o1 j h3 h4 h5]
      · rw [zset_ap, if_pos rfl]
      · rw [zset_ap, if_neg (by omega), k5]
      · rw [zset_ap, if_neg (by omega), zset_ap, if_neg (by omega), zset_ap, if_neg (by omega)]
      · simp (disch := omega) only [e165_0, e165_1, e165_2, e165_5, e165_6, e165_9, e165_12, e165_14, e165_17, e165_18, e165_21, e165_22, e165_23, e165_24, e165_27, e165_30, e165_31, e165_34, e165_35, e165_38, e165_41, e165_42, e165_45, e165_48, e165_49, e165_50, e165_53, e165_54, e165_55, e165_56, e165_59, e165_60, e165_61, e165_62, e165_63, e165_66, e165_67, e165_68, e165_69, e165_70, e165_71, e165_74, e165_75, e165_76, e165_78, e165_81, e165_84, e165_85, e165_86, e165_87, e165_88, e165_91, e165_93, e165_96, e165_97, e165_98, e165_101, e165_103, e165_106, e165_107, e165_110, e165_111, e165_112, e165_113, e165_116, e165_117, e165_118, e165_121, e165_122, e165_125, e165_126, e165_127, e165_128, e165_129, e165_130, e165_132, e165_135, e165_136, e165_137, e165_138, e165_141, e165_142, e165_145, e165_146, e165_147, e165_148, e165_149, e165_150, e165_153, e165_156, e165_157, e165_158, e165_159, e165_162, e165_163, e165_164, e165_167, zi_add, zi_sub, zi_mul, zl_add, zl_sub, zl_mul, zl_i, zi_l, zi_lt, zi_le, zi_eq, zl_lt, zl_le, zl_eq, zlc_lt, zlc_le, zlc_gt, zlc_ge, zlc_eq, zi_ne0, zl_ne0, zi_div, zl_div, zi_rem, zl_rem, zcat_nil, zcat_int, zcat_ref, zcat_long, zkill_int, zkill_ref, zkill_long, zkill_J, zkill2, zto_some, zto_none, znb0, znb1, zB_some, zbr_t, zbr_f, not_true_eq_false, not_false_eq_true, true_imp_iff, false_imp_iff, true_and, and_true, Nat.reduceAdd, Nat.reduceLeDiff, Int.reduceAdd, Int.reduceSub, Int.reduceMul, Int.reduceNeg, zisC_inr, zget_inr, zsetf_inr, zldl_row, zald_row, zstl_row, zast_row, List.getElem?_cons_zero, List.getElem?_cons_succ, List.length_cons, List.length_nil, List.set_cons_zero, List.set_cons_succ, zmk_0, zmk_1, zmk_2, zmk_3, zmk_4, zmk_5, zmk_6, zmk_7, zrg_0, zrg_1, zrg_2, zrg_3, zrg_4, zrg_5, zrg_6, zrg_7, zrg_8, zrg_9, zrg_10, zrg_11, zrg_12, zrg_13, zrg_14, zrg_15, zrs_3, zrs_6, zrs_7, zrs_9, zrs_10, zrs_11, zrs_12, zrs_14, zrs_15, zmw_0, zmw_1, zmw_2, zmw_3, zmw_4, zmw_5, zmw_6, zmw_7, zisr, E1, E2, zst_zst, zst_ap, zset_ap, reduceIte, Nat.reduceEqDiff, Nat.zero_ne_one, Nat.one_ne_zero, Int.reduceEq, zst_67, r6, s6]
    · rw [if_neg c2, if_pos (by omega)]
      refine ⟨zset w2 6 (ρ 7 6 + 1), zset (zset (zset (ρ 6) (4 * ρ 7 6) w) (4 * ρ 7 6 + 1) x1) (4 * ρ 7 6 + 2) x2, ⟨fun j h3 h4 h5 h6 => ?_, ?_, ?_, fun j hj => ?_, fun q => ⟨?_, ?_, ?_, fun q2 => ?_, fun q2 => ?_⟩⟩, fun K => ?_⟩
      · rw [zset_ap, if_neg h6, o2 j h3 h4 h5, o1 j h3 h4 h5]
      · rw [zset_ap, if_pos rfl]
      · rw [zset_ap, if_neg (by omega), k5]
        have := pArg_b (ρ 5) (n := ρ 7 2) (e := (pArg (ρ 5) (ρ 7 2) (ρ 7 4) 0 3).2.2) (lo := 0) (hi := 59) (by omega) (by omega)
        show _ = (-1000005 : Int)
        omega
      · rw [zset_ap, if_neg (by omega), zset_ap, if_neg (by omega), zset_ap, if_neg (by omega)]
      · rw [zset_ap, if_neg (by omega), k4]
      · rw [zset_ap, if_neg (by omega), zset_ap, if_neg (by omega), zset_ap, if_pos rfl]
      · rw [zset_ap, if_neg (by omega), zset_ap, if_pos rfl]
        exact gx (by omega)
      · rw [zset_ap, if_pos rfl]
        exact kx (by omega)
      · omega
      · simp (disch := omega) only [e165_0, e165_1, e165_2, e165_5, e165_6, e165_9, e165_12, e165_14, e165_17, e165_18, e165_21, e165_22, e165_23, e165_24, e165_27, e165_30, e165_31, e165_34, e165_35, e165_38, e165_41, e165_42, e165_45, e165_48, e165_49, e165_50, e165_53, e165_54, e165_55, e165_56, e165_59, e165_60, e165_61, e165_62, e165_63, e165_66, e165_67, e165_68, e165_69, e165_70, e165_71, e165_74, e165_75, e165_76, e165_78, e165_81, e165_84, e165_85, e165_86, e165_87, e165_88, e165_91, e165_93, e165_96, e165_97, e165_98, e165_101, e165_103, e165_106, e165_107, e165_110, e165_111, e165_112, e165_113, e165_116, e165_117, e165_118, e165_121, e165_122, e165_125, e165_126, e165_127, e165_128, e165_129, e165_130, e165_132, e165_135, e165_136, e165_137, e165_138, e165_141, e165_142, e165_145, e165_146, e165_147, e165_148, e165_149, e165_150, e165_153, e165_156, e165_157, e165_158, e165_159, e165_162, e165_163, e165_164, e165_167, zi_add, zi_sub, zi_mul, zl_add, zl_sub, zl_mul, zl_i, zi_l, zi_lt, zi_le, zi_eq, zl_lt, zl_le, zl_eq, zlc_lt, zlc_le, zlc_gt, zlc_ge, zlc_eq, zi_ne0, zl_ne0, zi_div, zl_div, zi_rem, zl_rem, zcat_nil, zcat_int, zcat_ref, zcat_long, zkill_int, zkill_ref, zkill_long, zkill_J, zkill2, zto_some, zto_none, znb0, znb1, zB_some, zbr_t, zbr_f, not_true_eq_false, not_false_eq_true, true_imp_iff, false_imp_iff, true_and, and_true, Nat.reduceAdd, Nat.reduceLeDiff, Int.reduceAdd, Int.reduceSub, Int.reduceMul, Int.reduceNeg, zisC_inr, zget_inr, zsetf_inr, zldl_row, zald_row, zstl_row, zast_row, List.getElem?_cons_zero, List.getElem?_cons_succ, List.length_cons, List.length_nil, List.set_cons_zero, List.set_cons_succ, zmk_0, zmk_1, zmk_2, zmk_3, zmk_4, zmk_5, zmk_6, zmk_7, zrg_0, zrg_1, zrg_2, zrg_3, zrg_4, zrg_5, zrg_6, zrg_7, zrg_8, zrg_9, zrg_10, zrg_11, zrg_12, zrg_13, zrg_14, zrg_15, zrs_3, zrs_6, zrs_7, zrs_9, zrs_10, zrs_11, zrs_12, zrs_14, zrs_15, zmw_0, zmw_1, zmw_2, zmw_3, zmw_4, zmw_5, zmw_6, zmw_7, zisr, E1, E2, zst_zst, zst_ap, zset_ap, reduceIte, Nat.reduceEqDiff, Nat.zero_ne_one, Nat.one_ne_zero, Int.reduceEq, zst_67, r6, s6]
end RF15
