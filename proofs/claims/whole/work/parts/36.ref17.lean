/-! the reference's text: an order from its place, all orders -/
def pOrd (t : Int → Int) (n s : Int) : Int × (Int × Int × Int × Int) × Int :=
  if pWord t s (pEnd t n s) < 0 then (s, (0, 0, 0, 0), 0) else ((pTail t n (pEnd t n s) (pWord t s (pEnd t n s))).1, (pWord t s (pEnd t n s), (pTail t n (pEnd t n s) (pWord t s (pEnd t n s))).2.1), (pTail t n (pEnd t n s) (pWord t s (pEnd t n s))).2.2)
theorem pWord_b (t : Int → Int) (s e : Int) : pWord t s e = -1000005 ∨ (0 ≤ pWord t s e ∧ pWord t s e ≤ 5 ∧ s + 4 ≤ e) := by
  unfold pWord
  by_cases c0 : pIs t s e 115 110 111 119 4
  · rw [if_pos c0]
    omega
  · rw [if_neg c0]
    by_cases c1 : pIs t s e 119 97 115 104 4
    · rw [if_pos c1]
      omega
    · rw [if_neg c1]
      by_cases c2 : pIs t s e 99 111 97 116 4
      · rw [if_pos c2]
        omega
      · rw [if_neg c2]
        by_cases c3 : pIs t s e 100 114 111 112 4
        · rw [if_pos c3]
          omega
        · rw [if_neg c3]
          by_cases c4 : pIs t s e 110 105 103 104 6 ∧ t (s + 4) = 116 ∧ t (s + 5) = 115
          · rw [if_pos c4]
            omega
          · rw [if_neg c4]
            by_cases c5 : pIs t s e 100 117 115 116 4
            · rw [if_pos c5]
              omega
            · rw [if_neg c5]
              omega
theorem pTail_b (t : Int → Int) {n e w : Int} (he : 0 ≤ e ∧ e ≤ n) : ((pTail t n e w).1 = -1000005 ∧ e + 2 ≤ (pTail t n e w).2.2 ∧ (pTail t n e w).2.2 ≤ n) ∨ (0 ≤ (pTail t n e w).1 ∧ (pTail t n e w).1 ≤ n) := by
  have b0 := pArg_b t (n := n) (e := e) (lo := if w = 4 then 1 else 0) (hi := if w = 4 then 60 else if w = 3 then 11 else if w = 5 then 59 else 3) he (by split <;> omega)
  have b1 := pArg_b t (n := n) (e := e) (lo := 0) (hi := if w = 5 then 59 else 3) he (by omega)
  have b1' := pArg_b t (n := n) (e := e) (lo := 0) (hi := 59) he (by omega)
  unfold pTail
  by_cases c0 : 0 ≤ (pArg t n e (if w = 4 then 1 else 0) (if w = 4 then 60 else if w = 3 then 11 else if w = 5 then 59 else 3)).1
  · rw [if_pos c0]
    exact Or.inr (by omega)
  · rw [if_neg c0]
    by_cases c1 : w = 3 ∨ w = 4
    · rw [if_pos c1]
      refine Or.inl ⟨rfl, ?_⟩
      show e + 2 ≤ (pArg t n e (if w = 4 then 1 else 0) (if w = 4 then 60 else if w = 3 then 11 else if w = 5 then 59 else 3)).2.2 ∧ (pArg t n e (if w = 4 then 1 else 0) (if w = 4 then 60 else if w = 3 then 11 else if w = 5 then 59 else 3)).2.2 ≤ n
      omega
    · rw [if_neg c1]
      rw [if_neg (show ¬ w = 4 by omega), if_neg (show ¬ w = 4 by omega), if_neg (show ¬ w = 3 by omega)] at c0
      have b2 := pArg_b t (n := n) (e := (pArg t n e 0 (if w = 5 then 59 else 3)).2.2) (lo := 0) (hi := 59) (by omega) (by omega)
      by_cases c2 : 0 ≤ (pArg t n (pArg t n e 0 (if w = 5 then 59 else 3)).2.2 0 59).1
      · rw [if_pos c2]
        exact Or.inr (by omega)
      · rw [if_neg c2]
        by_cases c3 : w ≠ 5
        · rw [if_pos c3]
          refine Or.inl ⟨rfl, ?_⟩
          show e + 2 ≤ (pArg t n (pArg t n e 0 (if w = 5 then 59 else 3)).2.2 0 59).2.2 ∧ (pArg t n (pArg t n e 0 (if w = 5 then 59 else 3)).2.2 0 59).2.2 ≤ n
          omega
        · rw [if_neg c3]
          have c5 : w = 5 := by omega
          rw [if_pos c5] at c0 c2 b1 b2
          have b3 := pArg_b t (n := n) (e := (pArg t n (pArg t n e 0 59).2.2 0 59).2.2) (lo := 0) (hi := 500) (by omega) (by omega)
          by_cases c4 : 0 ≤ (pArg t n (pArg t n (pArg t n e 0 59).2.2 0 59).2.2 0 500).1
          · rw [if_pos c4]
            exact Or.inr (by omega)
          · rw [if_neg c4]
            refine Or.inl ⟨rfl, ?_⟩
            show e + 2 ≤ (pArg t n (pArg t n (pArg t n e 0 59).2.2 0 59).2.2 0 500).2.2 ∧ (pArg t n (pArg t n (pArg t n e 0 59).2.2 0 59).2.2 0 500).2.2 ≤ n
            omega
theorem pOrd_b (t : Int → Int) {n s : Int} (hs : 0 ≤ s ∧ s ≤ n) : ((pOrd t n s).1 = -1000005 ∧ s + 6 ≤ (pOrd t n s).2.2 ∧ (pOrd t n s).2.2 ≤ n ∧ 0 ≤ (pOrd t n s).2.1.1 ∧ (pOrd t n s).2.1.1 ≤ 5) ∨ (0 ≤ (pOrd t n s).1 ∧ (pOrd t n s).1 ≤ n) := by
  have hq := pEnd_b t n s
  have hw := pWord_b t s (pEnd t n s)
  have ht := pTail_b t (n := n) (e := pEnd t n s) (w := pWord t s (pEnd t n s)) (by omega)
  unfold pOrd
  by_cases c : pWord t s (pEnd t n s) < 0
  · rw [if_pos c]
    exact Or.inr hs
  · rw [if_neg c]
    rcases ht with ht | ht
    · refine Or.inl ⟨ht.1, ?_, ht.2.2, ?_, ?_⟩
      · show s + 6 ≤ (pTail t n (pEnd t n s) (pWord t s (pEnd t n s))).2.2
        omega
      · show 0 ≤ pWord t s (pEnd t n s)
        omega
      · show pWord t s (pEnd t n s) ≤ 5
        omega
    · exact Or.inr ht
section RF17
variable {z : zZ} {h : zH} {K : Option Value → zZ → zH → Prop} {a : Nat} {ρ : Nat → Int → Int}
theorem s_readOrder {s : Int} (hs : 0 ≤ s ∧ s ≤ ρ 7 2) (hC : tC (ρ 5)) (ho : 0 ≤ ρ 7 6 ∧ ρ 7 6 ≤ 40) (hn : 0 ≤ ρ 7 2 ∧ ρ 7 2 ≤ 90) :
    ∃ v τ, rOrd ρ (pOrd (ρ 5) (ρ 7 2) s).2.1.1 ((pOrd (ρ 5) (ρ 7 2) s).1, (pOrd (ρ 5) (ρ 7 2) s).2.1.2, (pOrd (ρ 5) (ρ 7 2) s).2.2) v τ ∧ ∀ K, (zG 165 0 [.ref a, .int (zi s), zJ, zJ] [] z (zmk h a ρ) K ↔ K none z (zmk h a (zst (zst ρ 6 τ) 7 v))) := by
  have hq := pEnd_b (ρ 5) (ρ 7 2) s
  have hw := pWord_b (ρ 5) s (pEnd (ρ 5) (ρ 7 2) s)
  have f3 := rfnd_3 (ρ 7) (ρ 5) s
  have f4 := rfnd_4 (ρ 7) (ρ 5) s
  have f5 := rfnd_5 (ρ 7) (ρ 5) s
  have f2 := rfnd_o (ρ 7) (ρ 5) s 2 (by omega) (by omega) (by omega)
  have f6 := rfnd_o (ρ 7) (ρ 5) s 6 (by omega) (by omega) (by omega)
  have hF : ∀ K, zG 161 0 [.ref a, .int (zi s)] [] z (zmk h a ρ) K ↔ K none z (zmk h a (zst ρ 7 (rfnd (ρ 7) (ρ 5) s))) := fun K => s_find (by omega) hC hn
  have hW : ∀ K, zG 163 0 [.ref a] [] z (zmk h a (zst ρ 7 (rfnd (ρ 7) (ρ 5) s))) K ↔ K (some (.int (zi (pWord (ρ 5) s (pEnd (ρ 5) (ρ 7 2) s))))) z (zmk h a (zst ρ 7 (rfnd (ρ 7) (ρ 5) s))) := fun K => by
    rw [s_word (by simp only [zst_zst, zst_ap, zset_ap, reduceIte, Nat.reduceEqDiff, Nat.zero_ne_one, Nat.one_ne_zero, Int.reduceEq]; exact hC) (by simp only [zst_zst, zst_ap, zset_ap, reduceIte, Nat.reduceEqDiff, Nat.zero_ne_one, Nat.one_ne_zero, Int.reduceEq]; rw [f3, f4]; omega)]
    simp only [zst_zst, zst_ap, zset_ap, reduceIte, Nat.reduceEqDiff, Nat.zero_ne_one, Nat.one_ne_zero, Int.reduceEq, f3, f4]
  unfold pOrd
  by_cases c : pWord (ρ 5) s (pEnd (ρ 5) (ρ 7 2) s) < 0
  · rw [if_pos c]
    have hT : ∀ (l1 l3 : Value) K, zG 165 48 [.ref a, l1, .int (zi (-1000005)), l3] [] z (zmk h a (zst ρ 7 (zset (rfnd (ρ 7) (ρ 5) s) 5 s))) K ↔ K none z (zmk h a (zst (zst ρ 6 (zset (zset (zset (ρ 6) (4 * ρ 7 6) (-1000005)) (4 * ρ 7 6 + 1) 0) (4 * ρ 7 6 + 2) 0)) 7 (zset (zset (rfnd (ρ 7) (ρ 5) s) 5 s) 6 (ρ 7 6 + 1)))) := fun l1 l3 K => by
      have e6 : zset (rfnd (ρ 7) (ρ 5) s) 5 s 6 = ρ 7 6 := by rw [zset_ap, if_neg (by omega), f6]
      rw [s_ro_f (by simp only [zst_zst, zst_ap, zset_ap, reduceIte, Nat.reduceEqDiff, Nat.zero_ne_one, Nat.one_ne_zero, Int.reduceEq]; rw [f6]; exact ho) (by simp only [zst_zst, zst_ap, zset_ap, reduceIte, Nat.reduceEqDiff, Nat.zero_ne_one, Nat.one_ne_zero, Int.reduceEq]; omega)]
      simp only [zst_zst, zst_ap, zset_ap, reduceIte, Nat.reduceEqDiff, Nat.zero_ne_one, Nat.one_ne_zero, Int.reduceEq]
      rw [f6, zst_comm ρ (by decide), zst_zst]
    refine ⟨zset (zset (rfnd (ρ 7) (ρ 5) s) 5 s) 6 (ρ 7 6 + 1), zset (zset (zset (ρ 6) (4 * ρ 7 6) (-1000005)) (4 * ρ 7 6 + 1) 0) (4 * ρ 7 6 + 2) 0, ⟨fun j h3 h4 h5 h6 => ?_, ?_, ?_, fun j hj => ?_, fun q => absurd q (by show ¬ s < 0; omega)⟩, fun K => ?_⟩
    · rw [zset_ap, if_neg h6, zset_ap, if_neg h5, rfnd_o _ _ _ _ h3 h4 h5]
    · rw [zset_ap, if_pos rfl]
    · rw [zset_ap, if_neg (by omega), zset_ap, if_pos rfl]
    · rw [zset_ap, if_neg (by omega), zset_ap, if_neg (by omega), zset_ap, if_neg (by omega)]
    · by_cases c2 : pEnd (ρ 5) (ρ 7 2) s = s
      · rw [if_pos c2] at f5
        simp (disch := omega) only [e165_0, e165_1, e165_2, e165_5, e165_6, e165_9, e165_12, e165_14, e165_17, e165_18, e165_21, e165_22, e165_23, e165_24, e165_27, e165_30, e165_31, e165_34, e165_35, e165_38, e165_41, e165_42, e165_45, e165_49, e165_50, e165_53, e165_54, e165_55, e165_56, e165_59, e165_60, e165_61, e165_62, e165_63, e165_66, e165_67, e165_68, e165_69, e165_70, e165_71, e165_74, e165_75, e165_76, e165_78, e165_81, e165_84, e165_85, e165_86, e165_87, e165_88, e165_91, e165_93, e165_96, e165_97, e165_98, e165_101, e165_103, e165_106, e165_107, e165_110, e165_111, e165_112, e165_113, e165_116, e165_117, e165_118, e165_121, e165_122, e165_125, e165_126, e165_127, e165_128, e165_129, e165_130, e165_132, e165_135, e165_136, e165_137, e165_138, e165_141, e165_142, e165_145, e165_146, e165_147, e165_148, e165_149, e165_150, e165_153, e165_156, e165_157, e165_158, e165_159, e165_162, e165_163, e165_164, e165_167, zi_add, zi_sub, zi_mul, zl_add, zl_sub, zl_mul, zl_i, zi_l, zi_lt, zi_le, zi_eq, zl_lt, zl_le, zl_eq, zlc_lt, zlc_le, zlc_gt, zlc_ge, zlc_eq, zi_ne0, zl_ne0, zi_div, zl_div, zi_rem, zl_rem, zcat_nil, zcat_int, zcat_ref, zcat_long, zkill_int, zkill_ref, zkill_long, zkill_J, zkill2, zto_some, zto_none, znb0, znb1, zB_some, zbr_t, zbr_f, not_true_eq_false, not_false_eq_true, true_imp_iff, false_imp_iff, true_and, and_true, Nat.reduceAdd, Nat.reduceLeDiff, Int.reduceAdd, Int.reduceSub, Int.reduceMul, Int.reduceNeg, zisC_inr, zget_inr, zsetf_inr, zldl_row, zald_row, zstl_row, zast_row, List.getElem?_cons_zero, List.getElem?_cons_succ, List.length_cons, List.length_nil, List.set_cons_zero, List.set_cons_succ, zmk_0, zmk_1, zmk_2, zmk_3, zmk_4, zmk_5, zmk_6, zmk_7, zrg_0, zrg_1, zrg_2, zrg_3, zrg_4, zrg_5, zrg_6, zrg_7, zrg_8, zrg_9, zrg_10, zrg_11, zrg_12, zrg_13, zrg_14, zrg_15, zrs_3, zrs_6, zrs_7, zrs_9, zrs_10, zrs_11, zrs_12, zrs_14, zrs_15, zmw_0, zmw_1, zmw_2, zmw_3, zmw_4, zmw_5, zmw_6, zmw_7, zisr, hF, zst_ap, if_true, f3, f4, f5, zst_zst, hT]
      · rw [if_neg c2] at f5
        have cw : pWord (ρ 5) s (pEnd (ρ 5) (ρ 7 2) s) = -1000005 := by omega
        rw [cw] at hW
        simp (disch := omega) only [e165_0, e165_1, e165_2, e165_5, e165_6, e165_9, e165_12, e165_14, e165_17, e165_18, e165_21, e165_22, e165_23, e165_24, e165_27, e165_30, e165_31, e165_34, e165_35, e165_38, e165_41, e165_42, e165_45, e165_49, e165_50, e165_53, e165_54, e165_55, e165_56, e165_59, e165_60, e165_61, e165_62, e165_63, e165_66, e165_67, e165_68, e165_69, e165_70, e165_71, e165_74, e165_75, e165_76, e165_78, e165_81, e165_84, e165_85, e165_86, e165_87, e165_88, e165_91, e165_93, e165_96, e165_97, e165_98, e165_101, e165_103, e165_106, e165_107, e165_110, e165_111, e165_112, e165_113, e165_116, e165_117, e165_118, e165_121, e165_122, e165_125, e165_126, e165_127, e165_128, e165_129, e165_130, e165_132, e165_135, e165_136, e165_137, e165_138, e165_141, e165_142, e165_145, e165_146, e165_147, e165_148, e165_149, e165_150, e165_153, e165_156, e165_157, e165_158, e165_159, e165_162, e165_163, e165_164, e165_167, zi_add, zi_sub, zi_mul, zl_add, zl_sub, zl_mul, zl_i, zi_l, zi_lt, zi_le, zi_eq, zl_lt, zl_le, zl_eq, zlc_lt, zlc_le, zlc_gt, zlc_ge, zlc_eq, zi_ne0, zl_ne0, zi_div, zl_div, zi_rem, zl_rem, zcat_nil, zcat_int, zcat_ref, zcat_long, zkill_int, zkill_ref, zkill_long, zkill_J, zkill2, zto_some, zto_none, znb0, znb1, zB_some, zbr_t, zbr_f, not_true_eq_false, not_false_eq_true, true_imp_iff, false_imp_iff, true_and, and_true, Nat.reduceAdd, Nat.reduceLeDiff, Int.reduceAdd, Int.reduceSub, Int.reduceMul, Int.reduceNeg, zisC_inr, zget_inr, zsetf_inr, zldl_row, zald_row, zstl_row, zast_row, List.getElem?_cons_zero, List.getElem?_cons_succ, List.length_cons, List.length_nil, List.set_cons_zero, List.set_cons_succ, zmk_0, zmk_1, zmk_2, zmk_3, zmk_4, zmk_5, zmk_6, zmk_7, zrg_0, zrg_1, zrg_2, zrg_3, zrg_4, zrg_5, zrg_6, zrg_7, zrg_8, zrg_9, zrg_10, zrg_11, zrg_12, zrg_13, zrg_14, zrg_15, zrs_3, zrs_6, zrs_7, zrs_9, zrs_10, zrs_11, zrs_12, zrs_14, zrs_15, zmw_0, zmw_1, zmw_2, zmw_3, zmw_4, zmw_5, zmw_6, zmw_7, zisr, hF, hW, zst_ap, if_true, f3, f4, f5, zst_zst, hT]
  · rw [if_neg c]
    rw [if_neg (show ¬ pEnd (ρ 5) (ρ 7 2) s = s by omega)] at f5
    have hT : ∃ v τ, rOrd ρ (pWord (ρ 5) s (pEnd (ρ 5) (ρ 7 2) s)) (pTail (ρ 5) (ρ 7 2) (pEnd (ρ 5) (ρ 7 2) s) (pWord (ρ 5) s (pEnd (ρ 5) (ρ 7 2) s))) v τ ∧ ∀ K, (zG 165 48 [.ref a, .int (zi s), .int (zi (pWord (ρ 5) s (pEnd (ρ 5) (ρ 7 2) s))), zJ] [] z (zmk h a (zst ρ 7 (zset (rfnd (ρ 7) (ρ 5) s) 5 (-1000005)))) K ↔ K none z (zmk h a (zst (zst ρ 6 τ) 7 v))) := by
      have e6 : zset (rfnd (ρ 7) (ρ 5) s) 5 (-1000005) 6 = ρ 7 6 := by rw [zset_ap, if_neg (by omega), f6]
      have e2 : zset (rfnd (ρ 7) (ρ 5) s) 5 (-1000005) 2 = ρ 7 2 := by rw [zset_ap, if_neg (by omega), f2]
      have e4 : zset (rfnd (ρ 7) (ρ 5) s) 5 (-1000005) 4 = pEnd (ρ 5) (ρ 7 2) s := by rw [zset_ap, if_neg (by omega), f4]
      have e5 : zset (rfnd (ρ 7) (ρ 5) s) 5 (-1000005) 5 = -1000005 := by rw [zset_ap, if_pos rfl]
      generalize hg : pWord (ρ 5) s (pEnd (ρ 5) (ρ 7 2) s) = w at *
      have base : ∃ v τ, rOrd (zst ρ 7 (zset (rfnd (ρ 7) (ρ 5) s) 5 (-1000005))) w (pTail (ρ 5) (ρ 7 2) (pEnd (ρ 5) (ρ 7 2) s) w) v τ ∧ ∀ K, (zG 165 48 [.ref a, .int (zi s), .int (zi w), zJ] [] z (zmk h a (zst ρ 7 (zset (rfnd (ρ 7) (ρ 5) s) 5 (-1000005)))) K ↔ K none z (zmk h a (zst (zst (zst ρ 7 (zset (rfnd (ρ 7) (ρ 5) s) 5 (-1000005))) 6 τ) 7 v))) := by
        rcases (by omega : (0 ≤ w ∧ w ≤ 2) ∨ w = 3 ∨ w = 4 ∨ w = 5) with hw2 | hw2 | hw2 | hw2
        · have := s_ro_2 (z := z) (h := h) (a := a) (ρ := zst ρ 7 (zset (rfnd (ρ 7) (ρ 5) s) 5 (-1000005))) (w := w) (l1 := .int (zi s)) (l3 := zJ) hw2 (by simp only [zst_zst, zst_ap, zset_ap, reduceIte, Nat.reduceEqDiff, Nat.zero_ne_one, Nat.one_ne_zero, Int.reduceEq]; exact hC) (by simp only [zst_zst, zst_ap, zset_ap, reduceIte, Nat.reduceEqDiff, Nat.zero_ne_one, Nat.one_ne_zero, Int.reduceEq]; rw [f6]; exact ho) (by simp only [zst_zst, zst_ap, zset_ap, reduceIte, Nat.reduceEqDiff, Nat.zero_ne_one, Nat.one_ne_zero, Int.reduceEq]; rw [f2]; exact hn) (by simp only [zst_zst, zst_ap, zset_ap, reduceIte, Nat.reduceEqDiff, Nat.zero_ne_one, Nat.one_ne_zero, Int.reduceEq]; rw [f2, f4]; omega) (by simp only [zst_zst, zst_ap, zset_ap, reduceIte, Nat.reduceEqDiff, Nat.zero_ne_one, Nat.one_ne_zero, Int.reduceEq])
          simp only [zst_ap, reduceIte, Nat.reduceEqDiff, e2, e4] at this
          exact this
        · subst hw2
          have := s_ro_3 (z := z) (h := h) (a := a) (ρ := zst ρ 7 (zset (rfnd (ρ 7) (ρ 5) s) 5 (-1000005))) (l1 := .int (zi s)) (l3 := zJ) (by simp only [zst_zst, zst_ap, zset_ap, reduceIte, Nat.reduceEqDiff, Nat.zero_ne_one, Nat.one_ne_zero, Int.reduceEq]; exact hC) (by simp only [zst_zst, zst_ap, zset_ap, reduceIte, Nat.reduceEqDiff, Nat.zero_ne_one, Nat.one_ne_zero, Int.reduceEq]; rw [f6]; exact ho) (by simp only [zst_zst, zst_ap, zset_ap, reduceIte, Nat.reduceEqDiff, Nat.zero_ne_one, Nat.one_ne_zero, Int.reduceEq]; rw [f2]; exact hn) (by simp only [zst_zst, zst_ap, zset_ap, reduceIte, Nat.reduceEqDiff, Nat.zero_ne_one, Nat.one_ne_zero, Int.reduceEq]; rw [f2, f4]; omega) (by simp only [zst_zst, zst_ap, zset_ap, reduceIte, Nat.reduceEqDiff, Nat.zero_ne_one, Nat.one_ne_zero, Int.reduceEq])
          simp only [zst_ap, reduceIte, Nat.reduceEqDiff, e2, e4] at this
          exact this
        · subst hw2
          have := s_ro_4 (z := z) (h := h) (a := a) (ρ := zst ρ 7 (zset (rfnd (ρ 7) (ρ 5) s) 5 (-1000005))) (l1 := .int (zi s)) (l3 := zJ) (by simp only [zst_zst, zst_ap, zset_ap, reduceIte, Nat.reduceEqDiff, Nat.zero_ne_one, Nat.one_ne_zero, Int.reduceEq]; exact hC) (by simp only [zst_zst, zst_ap, zset_ap, reduceIte, Nat.reduceEqDiff, Nat.zero_ne_one, Nat.one_ne_zero, Int.reduceEq]; rw [f6]; exact ho) (by simp only [zst_zst, zst_ap, zset_ap, reduceIte, Nat.reduceEqDiff, Nat.zero_ne_one, Nat.one_ne_zero, Int.reduceEq]; rw [f2]; exact hn) (by simp only [zst_zst, zst_ap, zset_ap, reduceIte, Nat.reduceEqDiff, Nat.zero_ne_one, Nat.one_ne_zero, Int.reduceEq]; rw [f2, f4]; omega) (by simp only [zst_zst, zst_ap, zset_ap, reduceIte, Nat.reduceEqDiff, Nat.zero_ne_one, Nat.one_ne_zero, Int.reduceEq])
          simp only [zst_ap, reduceIte, Nat.reduceEqDiff, e2, e4] at this
          exact this
        · subst hw2
          have := s_ro_5 (z := z) (h := h) (a := a) (ρ := zst ρ 7 (zset (rfnd (ρ 7) (ρ 5) s) 5 (-1000005))) (l1 := .int (zi s)) (l3 := zJ) (by simp only [zst_zst, zst_ap, zset_ap, reduceIte, Nat.reduceEqDiff, Nat.zero_ne_one, Nat.one_ne_zero, Int.reduceEq]; exact hC) (by simp only [zst_zst, zst_ap, zset_ap, reduceIte, Nat.reduceEqDiff, Nat.zero_ne_one, Nat.one_ne_zero, Int.reduceEq]; rw [f6]; exact ho) (by simp only [zst_zst, zst_ap, zset_ap, reduceIte, Nat.reduceEqDiff, Nat.zero_ne_one, Nat.one_ne_zero, Int.reduceEq]; rw [f2]; exact hn) (by simp only [zst_zst, zst_ap, zset_ap, reduceIte, Nat.reduceEqDiff, Nat.zero_ne_one, Nat.one_ne_zero, Int.reduceEq]; rw [f2, f4]; omega) (by simp only [zst_zst, zst_ap, zset_ap, reduceIte, Nat.reduceEqDiff, Nat.zero_ne_one, Nat.one_ne_zero, Int.reduceEq])
          simp only [zst_ap, reduceIte, Nat.reduceEqDiff, e2, e4] at this
          exact this
      obtain ⟨v, τ, hr, E⟩ := base
      refine ⟨v, τ, ?_, fun K => ?_⟩
      · unfold rOrd at hr ⊢
        simp only [zst_ap, reduceIte, Nat.reduceEqDiff, e6] at hr
        refine ⟨fun j h3 h4 h5 h6 => ?_, hr.2⟩
        rw [hr.1 j h3 h4 h5 h6, zset_ap, if_neg h5, rfnd_o _ _ _ _ h3 h4 h5]
      · rw [E K, zst_comm ρ (by decide), zst_zst]
    obtain ⟨v, τ, hr, E⟩ := hT
    refine ⟨v, τ, hr, fun K => ?_⟩
    simp (disch := omega) only [e165_0, e165_1, e165_2, e165_5, e165_6, e165_9, e165_12, e165_14, e165_17, e165_18, e165_21, e165_22, e165_23, e165_24, e165_27, e165_30, e165_31, e165_34, e165_35, e165_38, e165_41, e165_42, e165_45, e165_49, e165_50, e165_53, e165_54, e165_55, e165_56, e165_59, e165_60, e165_61, e165_62, e165_63, e165_66, e165_67, e165_68, e165_69, e165_70, e165_71, e165_74, e165_75, e165_76, e165_78, e165_81, e165_84, e165_85, e165_86, e165_87, e165_88, e165_91, e165_93, e165_96, e165_97, e165_98, e165_101, e165_103, e165_106, e165_107, e165_110, e165_111, e165_112, e165_113, e165_116, e165_117, e165_118, e165_121, e165_122, e165_125, e165_126, e165_127, e165_128, e165_129, e165_130, e165_132, e165_135, e165_136, e165_137, e165_138, e165_141, e165_142, e165_145, e165_146, e165_147, e165_148, e165_149, e165_150, e165_153, e165_156, e165_157, e165_158, e165_159, e165_162, e165_163, e165_164, e165_167, zi_add, zi_sub, zi_mul, zl_add, zl_sub, zl_mul, zl_i, zi_l, zi_lt, zi_le, zi_eq, zl_lt, zl_le, zl_eq, zlc_lt, zlc_le, zlc_gt, zlc_ge, zlc_eq, zi_ne0, zl_ne0, zi_div, zl_div, zi_rem, zl_rem, zcat_nil, zcat_int, zcat_ref, zcat_long, zkill_int, zkill_ref, zkill_long, zkill_J, zkill2, zto_some, zto_none, znb0, znb1, zB_some, zbr_t, zbr_f, not_true_eq_false, not_false_eq_true, true_imp_iff, false_imp_iff, true_and, and_true, Nat.reduceAdd, Nat.reduceLeDiff, Int.reduceAdd, Int.reduceSub, Int.reduceMul, Int.reduceNeg, zisC_inr, zget_inr, zsetf_inr, zldl_row, zald_row, zstl_row, zast_row, List.getElem?_cons_zero, List.getElem?_cons_succ, List.length_cons, List.length_nil, List.set_cons_zero, List.set_cons_succ, zmk_0, zmk_1, zmk_2, zmk_3, zmk_4, zmk_5, zmk_6, zmk_7, zrg_0, zrg_1, zrg_2, zrg_3, zrg_4, zrg_5, zrg_6, zrg_7, zrg_8, zrg_9, zrg_10, zrg_11, zrg_12, zrg_13, zrg_14, zrg_15, zrs_3, zrs_6, zrs_7, zrs_9, zrs_10, zrs_11, zrs_12, zrs_14, zrs_15, zmw_0, zmw_1, zmw_2, zmw_3, zmw_4, zmw_5, zmw_6, zmw_7, zisr, hF, hW, zst_ap, if_true, f3, f4, f5, zst_zst, E]
end RF17
