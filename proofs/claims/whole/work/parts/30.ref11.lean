/-! the reference: the best day -/
theorem ragst_0 {σ : Int → Int} {m k d : Int} (h : ragst σ m k d = 0) : σ 3 ≠ 12 := by
  unfold ragst at h
  intro c
  by_cases c1 : rpeop σ d < rneed k
  · rw [if_pos c1] at h
    omega
  · rw [if_neg c1] at h
    by_cases c2 : rhour σ d < rplan σ d + rtake k
    · rw [if_pos c2] at h
      omega
    · rw [if_neg c2] at h
      by_cases c3 : rhasB σ m d (σ 3).toNat = true
      · rw [if_pos c3] at h
        omega
      · rw [if_neg c3, if_pos c] at h
        omega
theorem rbdN_b {σ : Int → Int} (hI : rI σ) (hT : σ 0 ≤ 100000000) {m k : Int} (hm : 0 ≤ m ∧ m < σ 1) (hk : 0 ≤ k ∧ k ≤ 2) {N : Nat} (hN : N ≤ 60) : ∀ d : Nat, d ≤ 60 → (-1000005 ≤ (rbdN σ m k N d).1 ∧ (rbdN σ m k N d).1 < d) ∧ (0 ≤ (rbdN σ m k N d).2 ∧ (rbdN σ m k N d).2 ≤ 240000000)
  | 0, _ => ⟨⟨by show (-1000005 : Int) ≤ -1000005; omega, by show (-1000005 : Int) < 0; omega⟩, by show (0 : Int) ≤ 0; omega, by show (0 : Int) ≤ 240000000; omega⟩
  | d + 1, hd => by
    have ih := rbdN_b hI hT hm hk hN d (by omega)
    have h2 := hI.2.1
    show (-1000005 ≤ (rbdS σ m k N d (rbdN σ m k N d)).1 ∧ (rbdS σ m k N d (rbdN σ m k N d)).1 < _) ∧ (0 ≤ (rbdS σ m k N d (rbdN σ m k N d)).2 ∧ (rbdS σ m k N d (rbdN σ m k N d)).2 ≤ 240000000)
    unfold rbdS
    by_cases c : ragst σ m k (σ 0 + d) = 0
    · rw [if_pos c]
      have h3 := ragst_0 c
      have hb := rpasS_b N (hI.add hm hk (d := σ 0 + d) (by omega) (by omega))
      split
      · refine ⟨⟨?_, ?_⟩, ?_, ?_⟩
        · show (-1000005 : Int) ≤ d
          omega
        · show (d : Int) < ((d + 1 : Nat) : Int)
          omega
        · exact hb.1
        · show rpasS N (radd σ m k (σ 0 + d)) ≤ 240000000
          omega
      · omega
    · rw [if_neg c]
      omega
section RF11
variable {z : zZ} {h : zH} {K : Option Value → zZ → zH → Prop} {a : Nat} {ρ : Nat → Int → Int}
theorem s_bday_l {m k : Int} {N : Nat} {ζ : Int → Int} (hm : 0 ≤ m ∧ m < ρ 0 1) (hk : 0 ≤ k ∧ k ≤ 2) (hN : N ≤ 60) (hI : rI (ρ 0)) (hT : ρ 0 0 ≤ 100000000) (h1 : ρ 1 = rcpy (ρ 0) ζ 0 0 240) (r : Nat) : ∀ (d : Nat) (l8 l9 l10 l11 : Value), d + r = N →
    (zG 157 52 [.ref a, .int (zi m), .int (zi k), .int (zi (N : Int)), .int (zi (rbdN (ρ 0) m k N d).1), .long (zl (rbdN (ρ 0) m k N d).2), zJ, .int (zi (d : Int)), l8, l9, l10, l11] [] z (zmk h a ρ) K ↔ K (some (.int (zi (rbdN (ρ 0) m k N N).1))) z (zmk h a ρ)) := by
  have hb := hI.2.1
  induction r with
  | zero =>
    intro d l8 l9 l10 l11 hd
    obtain rfl : d = N := by omega
    rw [e157_52]
    simp (disch := omega) only [e157_0, e157_1, e157_2, e157_5, e157_8, e157_10, e157_11, e157_12, e157_13, e157_14, e157_17, e157_20, e157_23, e157_24, e157_25, e157_26, e157_29, e157_32, e157_35, e157_37, e157_38, e157_39, e157_42, e157_44, e157_46, e157_47, e157_49, e157_50, e157_54, e157_55, e157_58, e157_59, e157_60, e157_61, e157_62, e157_65, e157_66, e157_67, e157_69, e157_70, e157_71, e157_74, e157_77, e157_78, e157_79, e157_80, e157_81, e157_84, e157_85, e157_86, e157_88, e157_89, e157_90, e157_93, e157_94, e157_96, e157_97, e157_98, e157_101, e157_103, e157_105, e157_108, e157_110, e157_112, e157_113, e157_116, e157_118, e157_121, e157_123, e157_125, e157_127, e157_129, e157_132, e157_134, e157_137, e157_139, e157_141, e157_144, e157_147, e157_149, zi_add, zi_sub, zi_mul, zl_add, zl_sub, zl_mul, zl_i, zi_l, zi_lt, zi_le, zi_eq, zl_lt, zl_le, zl_eq, zlc_lt, zlc_le, zlc_gt, zlc_ge, zlc_eq, zi_ne0, zl_ne0, zi_div, zl_div, zi_rem, zl_rem, zcat_nil, zcat_int, zcat_ref, zcat_long, zkill_int, zkill_ref, zkill_long, zkill_J, zkill2, zto_some, zto_none, znb0, znb1, zB_some, zbr_t, zbr_f, not_true_eq_false, not_false_eq_true, true_imp_iff, false_imp_iff, true_and, and_true, Nat.reduceAdd, Nat.reduceLeDiff, Int.reduceAdd, Int.reduceSub, Int.reduceMul, Int.reduceNeg, zisC_inr, zget_inr, zsetf_inr, zldl_row, zald_row, zstl_row, zast_row, List.getElem?_cons_zero, List.getElem?_cons_succ, List.length_cons, List.length_nil, List.set_cons_zero, List.set_cons_succ, zmk_0, zmk_1, zmk_2, zmk_3, zmk_4, zmk_5, zmk_6, zmk_7, zrg_0, zrg_1, zrg_2, zrg_3, zrg_4, zrg_5, zrg_6, zrg_7, zrg_8, zrg_9, zrg_10, zrg_11, zrg_12, zrg_13, zrg_14, zrg_15, zrs_3, zrs_6, zrs_7, zrs_9, zrs_10, zrs_11, zrs_12, zrs_14, zrs_15, zmw_0, zmw_1, zmw_2, zmw_3, zmw_4, zmw_5, zmw_6, zmw_7, zisr]
  | succ r ih =>
    intro d l8 l9 l10 l11 hd
    have bb := rbdN_b hI hT hm hk hN d (by omega)
    have e1 : zi ((d : Int) + 1) = zi ((d + 1 : Nat) : Int) := by rw [Int.natCast_add]; rfl
    have hG : ∀ K, zG 142 0 [.ref a, .int (zi m), .int (zi k), .long (zl (ρ 0 0 + (d : Int))), zJ, zJ] [] z (zmk h a ρ) K ↔ K (some (.int (zi (ragst (ρ 0) m k (ρ 0 0 + (d : Int)))))) z (zmk h a ρ) := fun K => s_against (by omega) (by omega) (by omega) (by omega) (by omega) hI.bd
    have gb := ragst_b (ρ 0) m k (ρ 0 0 + (d : Int))
    have eS : rbdN (ρ 0) m k N (d + 1) = rbdS (ρ 0) m k N d (rbdN (ρ 0) m k N d) := rfl
    unfold rbdS at eS
    rw [e157_52]
    by_cases c : ragst (ρ 0) m k (ρ 0 0 + (d : Int)) = 0
    · rw [if_pos c] at eS
      have h3 := ragst_0 c
      have hA := hI.add hm hk (d := ρ 0 0 + (d : Int)) (by omega) (by omega)
      have hL := rpasS_b N hA
      have hD : ∀ K, zG 144 0 [.ref a, .int (zi m), .int (zi k), .long (zl (ρ 0 0 + (d : Int))), zJ, zJ, zJ] [] z (zmk h a ρ) K ↔ K (some (.int (zi (rplc (ρ 0) (ρ 0 0 + (d : Int)) : Int)))) z (zmk h a (zst ρ 0 (radd (ρ 0) m k (ρ 0 0 + (d : Int))))) := fun K => s_adds (by omega) (by omega) (by omega) (by omega) hI.bd
      have hp := rplc_le (ρ 0) (ρ 0 0 + (d : Int)) (by omega)
      have hH : ∀ K, zG 155 0 [.ref a, .int (zi (N : Int)), zJ, zJ] [] z (zmk h a (zst ρ 0 (radd (ρ 0) m k (ρ 0 0 + (d : Int))))) K ↔ K (some (.long (zl (rpasS N (radd (ρ 0) m k (ρ 0 0 + (d : Int))))))) z (zmk h a ρ) := by
        intro K
        rw [s_ahead (by omega) (by simp only [zst_ap, if_true]; exact hA) (by simp only [zst_ap, if_true]; rw [radd_o _ _ _ _ (by omega) _ (by omega) (by omega)]; exact hT)]
        simp only [zst_ap, if_true, zst_zst, if_neg (show ¬ (1 : Nat) = 0 by decide), Int.toNat_natCast]
        rw [h1, rput (fun j hj => (rpasN_x j hj _ hA).trans (radd_x hI _ _ _ (by omega) j hj)), zst_self]
      by_cases c1 : (rbdN (ρ 0) m k N d).1 < 0
      · rw [if_pos (Or.inl c1)] at eS
        simp (disch := omega) only [e157_0, e157_1, e157_2, e157_5, e157_8, e157_10, e157_11, e157_12, e157_13, e157_14, e157_17, e157_20, e157_23, e157_24, e157_25, e157_26, e157_29, e157_32, e157_35, e157_37, e157_38, e157_39, e157_42, e157_44, e157_46, e157_47, e157_49, e157_50, e157_54, e157_55, e157_58, e157_59, e157_60, e157_61, e157_62, e157_65, e157_66, e157_67, e157_69, e157_70, e157_71, e157_74, e157_77, e157_78, e157_79, e157_80, e157_81, e157_84, e157_85, e157_86, e157_88, e157_89, e157_90, e157_93, e157_94, e157_96, e157_97, e157_98, e157_101, e157_103, e157_105, e157_108, e157_110, e157_112, e157_113, e157_116, e157_118, e157_121, e157_123, e157_125, e157_127, e157_129, e157_132, e157_134, e157_137, e157_139, e157_141, e157_144, e157_147, e157_149, zi_add, zi_sub, zi_mul, zl_add, zl_sub, zl_mul, zl_i, zi_l, zi_lt, zi_le, zi_eq, zl_lt, zl_le, zl_eq, zlc_lt, zlc_le, zlc_gt, zlc_ge, zlc_eq, zi_ne0, zl_ne0, zi_div, zl_div, zi_rem, zl_rem, zcat_nil, zcat_int, zcat_ref, zcat_long, zkill_int, zkill_ref, zkill_long, zkill_J, zkill2, zto_some, zto_none, znb0, znb1, zB_some, zbr_t, zbr_f, not_true_eq_false, not_false_eq_true, true_imp_iff, false_imp_iff, true_and, and_true, Nat.reduceAdd, Nat.reduceLeDiff, Int.reduceAdd, Int.reduceSub, Int.reduceMul, Int.reduceNeg, zisC_inr, zget_inr, zsetf_inr, zldl_row, zald_row, zstl_row, zast_row, List.getElem?_cons_zero, List.getElem?_cons_succ, List.length_cons, List.length_nil, List.set_cons_zero, List.set_cons_succ, zmk_0, zmk_1, zmk_2, zmk_3, zmk_4, zmk_5, zmk_6, zmk_7, zrg_0, zrg_1, zrg_2, zrg_3, zrg_4, zrg_5, zrg_6, zrg_7, zrg_8, zrg_9, zrg_10, zrg_11, zrg_12, zrg_13, zrg_14, zrg_15, zrs_3, zrs_6, zrs_7, zrs_9, zrs_10, zrs_11, zrs_12, zrs_14, zrs_15, zmw_0, zmw_1, zmw_2, zmw_3, zmw_4, zmw_5, zmw_6, zmw_7, zisr, hG, hD, hH, e1]
        have := ih (d + 1) (.long (zl (rplc (ρ 0) (ρ 0 0 + (d : Int)) : Int))) zJ (.long (zl (rpasS N (radd (ρ 0) m k (ρ 0 0 + (d : Int)))))) zJ (by omega)
        rw [eS] at this
        exact this
      · by_cases c2 : rpasS N (radd (ρ 0) m k (ρ 0 0 + (d : Int))) < (rbdN (ρ 0) m k N d).2
        · rw [if_pos (Or.inr c2)] at eS
          simp (disch := omega) only [e157_0, e157_1, e157_2, e157_5, e157_8, e157_10, e157_11, e157_12, e157_13, e157_14, e157_17, e157_20, e157_23, e157_24, e157_25, e157_26, e157_29, e157_32, e157_35, e157_37, e157_38, e157_39, e157_42, e157_44, e157_46, e157_47, e157_49, e157_50, e157_54, e157_55, e157_58, e157_59, e157_60, e157_61, e157_62, e157_65, e157_66, e157_67, e157_69, e157_70, e157_71, e157_74, e157_77, e157_78, e157_79, e157_80, e157_81, e157_84, e157_85, e157_86, e157_88, e157_89, e157_90, e157_93, e157_94, e157_96, e157_97, e157_98, e157_101, e157_103, e157_105, e157_108, e157_110, e157_112, e157_113, e157_116, e157_118, e157_121, e157_123, e157_125, e157_127, e157_129, e157_132, e157_134, e157_137, e157_139, e157_141, e157_144, e157_147, e157_149, zi_add, zi_sub, zi_mul, zl_add, zl_sub, zl_mul, zl_i, zi_l, zi_lt, zi_le, zi_eq, zl_lt, zl_le, zl_eq, zlc_lt, zlc_le, zlc_gt, zlc_ge, zlc_eq, zi_ne0, zl_ne0, zi_div, zl_div, zi_rem, zl_rem, zcat_nil, zcat_int, zcat_ref, zcat_long, zkill_int, zkill_ref, zkill_long, zkill_J, zkill2, zto_some, zto_none, znb0, znb1, zB_some, zbr_t, zbr_f, not_true_eq_false, not_false_eq_true, true_imp_iff, false_imp_iff, true_and, and_true, Nat.reduceAdd, Nat.reduceLeDiff, Int.reduceAdd, Int.reduceSub, Int.reduceMul, Int.reduceNeg, zisC_inr, zget_inr, zsetf_inr, zldl_row, zald_row, zstl_row, zast_row, List.getElem?_cons_zero, List.getElem?_cons_succ, List.length_cons, List.length_nil, List.set_cons_zero, List.set_cons_succ, zmk_0, zmk_1, zmk_2, zmk_3, zmk_4, zmk_5, zmk_6, zmk_7, zrg_0, zrg_1, zrg_2, zrg_3, zrg_4, zrg_5, zrg_6, zrg_7, zrg_8, zrg_9, zrg_10, zrg_11, zrg_12, zrg_13, zrg_14, zrg_15, zrs_3, zrs_6, zrs_7, zrs_9, zrs_10, zrs_11, zrs_12, zrs_14, zrs_15, zmw_0, zmw_1, zmw_2, zmw_3, zmw_4, zmw_5, zmw_6, zmw_7, zisr, hG, hD, hH, e1]
          have := ih (d + 1) (.long (zl (rplc (ρ 0) (ρ 0 0 + (d : Int)) : Int))) zJ (.long (zl (rpasS N (radd (ρ 0) m k (ρ 0 0 + (d : Int)))))) zJ (by omega)
          rw [eS] at this
          exact this
        · rw [if_neg (by omega)] at eS
          simp (disch := omega) only [e157_0, e157_1, e157_2, e157_5, e157_8, e157_10, e157_11, e157_12, e157_13, e157_14, e157_17, e157_20, e157_23, e157_24, e157_25, e157_26, e157_29, e157_32, e157_35, e157_37, e157_38, e157_39, e157_42, e157_44, e157_46, e157_47, e157_49, e157_50, e157_54, e157_55, e157_58, e157_59, e157_60, e157_61, e157_62, e157_65, e157_66, e157_67, e157_69, e157_70, e157_71, e157_74, e157_77, e157_78, e157_79, e157_80, e157_81, e157_84, e157_85, e157_86, e157_88, e157_89, e157_90, e157_93, e157_94, e157_96, e157_97, e157_98, e157_101, e157_103, e157_105, e157_108, e157_110, e157_112, e157_113, e157_116, e157_118, e157_121, e157_123, e157_125, e157_127, e157_129, e157_132, e157_134, e157_137, e157_139, e157_141, e157_144, e157_147, e157_149, zi_add, zi_sub, zi_mul, zl_add, zl_sub, zl_mul, zl_i, zi_l, zi_lt, zi_le, zi_eq, zl_lt, zl_le, zl_eq, zlc_lt, zlc_le, zlc_gt, zlc_ge, zlc_eq, zi_ne0, zl_ne0, zi_div, zl_div, zi_rem, zl_rem, zcat_nil, zcat_int, zcat_ref, zcat_long, zkill_int, zkill_ref, zkill_long, zkill_J, zkill2, zto_some, zto_none, znb0, znb1, zB_some, zbr_t, zbr_f, not_true_eq_false, not_false_eq_true, true_imp_iff, false_imp_iff, true_and, and_true, Nat.reduceAdd, Nat.reduceLeDiff, Int.reduceAdd, Int.reduceSub, Int.reduceMul, Int.reduceNeg, zisC_inr, zget_inr, zsetf_inr, zldl_row, zald_row, zstl_row, zast_row, List.getElem?_cons_zero, List.getElem?_cons_succ, List.length_cons, List.length_nil, List.set_cons_zero, List.set_cons_succ, zmk_0, zmk_1, zmk_2, zmk_3, zmk_4, zmk_5, zmk_6, zmk_7, zrg_0, zrg_1, zrg_2, zrg_3, zrg_4, zrg_5, zrg_6, zrg_7, zrg_8, zrg_9, zrg_10, zrg_11, zrg_12, zrg_13, zrg_14, zrg_15, zrs_3, zrs_6, zrs_7, zrs_9, zrs_10, zrs_11, zrs_12, zrs_14, zrs_15, zmw_0, zmw_1, zmw_2, zmw_3, zmw_4, zmw_5, zmw_6, zmw_7, zisr, hG, hD, hH, e1]
          have := ih (d + 1) (.long (zl (rplc (ρ 0) (ρ 0 0 + (d : Int)) : Int))) zJ (.long (zl (rpasS N (radd (ρ 0) m k (ρ 0 0 + (d : Int)))))) zJ (by omega)
          rw [eS] at this
          exact this
    · rw [if_neg c] at eS
      simp (disch := omega) only [e157_0, e157_1, e157_2, e157_5, e157_8, e157_10, e157_11, e157_12, e157_13, e157_14, e157_17, e157_20, e157_23, e157_24, e157_25, e157_26, e157_29, e157_32, e157_35, e157_37, e157_38, e157_39, e157_42, e157_44, e157_46, e157_47, e157_49, e157_50, e157_54, e157_55, e157_58, e157_59, e157_60, e157_61, e157_62, e157_65, e157_66, e157_67, e157_69, e157_70, e157_71, e157_74, e157_77, e157_78, e157_79, e157_80, e157_81, e157_84, e157_85, e157_86, e157_88, e157_89, e157_90, e157_93, e157_94, e157_96, e157_97, e157_98, e157_101, e157_103, e157_105, e157_108, e157_110, e157_112, e157_113, e157_116, e157_118, e157_121, e157_123, e157_125, e157_127, e157_129, e157_132, e157_134, e157_137, e157_139, e157_141, e157_144, e157_147, e157_149, zi_add, zi_sub, zi_mul, zl_add, zl_sub, zl_mul, zl_i, zi_l, zi_lt, zi_le, zi_eq, zl_lt, zl_le, zl_eq, zlc_lt, zlc_le, zlc_gt, zlc_ge, zlc_eq, zi_ne0, zl_ne0, zi_div, zl_div, zi_rem, zl_rem, zcat_nil, zcat_int, zcat_ref, zcat_long, zkill_int, zkill_ref, zkill_long, zkill_J, zkill2, zto_some, zto_none, znb0, znb1, zB_some, zbr_t, zbr_f, not_true_eq_false, not_false_eq_true, true_imp_iff, false_imp_iff, true_and, and_true, Nat.reduceAdd, Nat.reduceLeDiff, Int.reduceAdd, Int.reduceSub, Int.reduceMul, Int.reduceNeg, zisC_inr, zget_inr, zsetf_inr, zldl_row, zald_row, zstl_row, zast_row, List.getElem?_cons_zero, List.getElem?_cons_succ, List.length_cons, List.length_nil, List.set_cons_zero, List.set_cons_succ, zmk_0, zmk_1, zmk_2, zmk_3, zmk_4, zmk_5, zmk_6, zmk_7, zrg_0, zrg_1, zrg_2, zrg_3, zrg_4, zrg_5, zrg_6, zrg_7, zrg_8, zrg_9, zrg_10, zrg_11, zrg_12, zrg_13, zrg_14, zrg_15, zrs_3, zrs_6, zrs_7, zrs_9, zrs_10, zrs_11, zrs_12, zrs_14, zrs_15, zmw_0, zmw_1, zmw_2, zmw_3, zmw_4, zmw_5, zmw_6, zmw_7, zisr, hG, e1]
      have := ih (d + 1) l8 l9 l10 l11 (by omega)
      rw [eS] at this
      exact this
theorem s_bestDay {m k n : Int} (h1 : zI m) (h2 : zI k) (h3 : zI n) (hI : rI (ρ 0)) (hT : ρ 0 0 ≤ 100000000) :
    zG 157 0 [.ref a, .int (zi m), .int (zi k), .int (zi n), zJ, zJ, zJ, zJ, zJ, zJ, zJ, zJ] [] z (zmk h a ρ) K ↔ K (some (.int (zi (abday ρ m k n).1))) z (zmk h a (abday ρ m k n).2) := by
  have hb := hI.2.1
  unfold zI at h1 h2 h3
  unfold abday
  by_cases c1 : 0 ≤ m ∧ m ≤ ρ 0 1 - 1
  · rw [if_neg (not_not_intro c1)]
    by_cases c2 : 0 ≤ k ∧ k ≤ 2
    · by_cases c3 : 1 ≤ n ∧ n ≤ 60
      · rw [if_neg (by omega)]
        simp (disch := omega) only [e157_0, e157_1, e157_2, e157_5, e157_8, e157_10, e157_11, e157_12, e157_13, e157_14, e157_17, e157_20, e157_23, e157_24, e157_25, e157_26, e157_29, e157_32, e157_35, e157_37, e157_38, e157_39, e157_42, e157_44, e157_46, e157_47, e157_49, e157_50, e157_54, e157_55, e157_58, e157_59, e157_60, e157_61, e157_62, e157_65, e157_66, e157_67, e157_69, e157_70, e157_71, e157_74, e157_77, e157_78, e157_79, e157_80, e157_81, e157_84, e157_85, e157_86, e157_88, e157_89, e157_90, e157_93, e157_94, e157_96, e157_97, e157_98, e157_101, e157_103, e157_105, e157_108, e157_110, e157_112, e157_113, e157_116, e157_118, e157_121, e157_123, e157_125, e157_127, e157_129, e157_132, e157_134, e157_137, e157_139, e157_141, e157_144, e157_147, e157_149, zi_add, zi_sub, zi_mul, zl_add, zl_sub, zl_mul, zl_i, zi_l, zi_lt, zi_le, zi_eq, zl_lt, zl_le, zl_eq, zlc_lt, zlc_le, zlc_gt, zlc_ge, zlc_eq, zi_ne0, zl_ne0, zi_div, zl_div, zi_rem, zl_rem, zcat_nil, zcat_int, zcat_ref, zcat_long, zkill_int, zkill_ref, zkill_long, zkill_J, zkill2, zto_some, zto_none, znb0, znb1, zB_some, zbr_t, zbr_f, not_true_eq_false, not_false_eq_true, true_imp_iff, false_imp_iff, true_and, and_true, Nat.reduceAdd, Nat.reduceLeDiff, Int.reduceAdd, Int.reduceSub, Int.reduceMul, Int.reduceNeg, zisC_inr, zget_inr, zsetf_inr, zldl_row, zald_row, zstl_row, zast_row, List.getElem?_cons_zero, List.getElem?_cons_succ, List.length_cons, List.length_nil, List.set_cons_zero, List.set_cons_succ, zmk_0, zmk_1, zmk_2, zmk_3, zmk_4, zmk_5, zmk_6, zmk_7, zrg_0, zrg_1, zrg_2, zrg_3, zrg_4, zrg_5, zrg_6, zrg_7, zrg_8, zrg_9, zrg_10, zrg_11, zrg_12, zrg_13, zrg_14, zrg_15, zrs_3, zrs_6, zrs_7, zrs_9, zrs_10, zrs_11, zrs_12, zrs_14, zrs_15, zmw_0, zmw_1, zmw_2, zmw_3, zmw_4, zmw_5, zmw_6, zmw_7, zisr, s_noMirror, s_in, s_save]
        have l0 := s_bday_l (z := z) (h := h) (K := K) (a := a) (ρ := rsav ρ) (m := m) (k := k) (N := n.toNat) (ζ := ρ 1) ⟨c1.1, by show m < ρ 0 1; omega⟩ c2 (by omega) hI hT rfl n.toNat 0 zJ zJ zJ zJ (by omega)
        rw [show ((n.toNat : Nat) : Int) = n by omega] at l0
        exact l0
      · rw [if_pos (by omega)]
        simp (disch := omega) only [e157_0, e157_1, e157_2, e157_5, e157_8, e157_10, e157_11, e157_12, e157_13, e157_14, e157_17, e157_20, e157_23, e157_24, e157_25, e157_26, e157_29, e157_32, e157_35, e157_37, e157_38, e157_39, e157_42, e157_44, e157_46, e157_47, e157_49, e157_50, e157_54, e157_55, e157_58, e157_59, e157_60, e157_61, e157_62, e157_65, e157_66, e157_67, e157_69, e157_70, e157_71, e157_74, e157_77, e157_78, e157_79, e157_80, e157_81, e157_84, e157_85, e157_86, e157_88, e157_89, e157_90, e157_93, e157_94, e157_96, e157_97, e157_98, e157_101, e157_103, e157_105, e157_108, e157_110, e157_112, e157_113, e157_116, e157_118, e157_121, e157_123, e157_125, e157_127, e157_129, e157_132, e157_134, e157_137, e157_139, e157_141, e157_144, e157_147, e157_149, zi_add, zi_sub, zi_mul, zl_add, zl_sub, zl_mul, zl_i, zi_l, zi_lt, zi_le, zi_eq, zl_lt, zl_le, zl_eq, zlc_lt, zlc_le, zlc_gt, zlc_ge, zlc_eq, zi_ne0, zl_ne0, zi_div, zl_div, zi_rem, zl_rem, zcat_nil, zcat_int, zcat_ref, zcat_long, zkill_int, zkill_ref, zkill_long, zkill_J, zkill2, zto_some, zto_none, znb0, znb1, zB_some, zbr_t, zbr_f, not_true_eq_false, not_false_eq_true, true_imp_iff, false_imp_iff, true_and, and_true, Nat.reduceAdd, Nat.reduceLeDiff, Int.reduceAdd, Int.reduceSub, Int.reduceMul, Int.reduceNeg, zisC_inr, zget_inr, zsetf_inr, zldl_row, zald_row, zstl_row, zast_row, List.getElem?_cons_zero, List.getElem?_cons_succ, List.length_cons, List.length_nil, List.set_cons_zero, List.set_cons_succ, zmk_0, zmk_1, zmk_2, zmk_3, zmk_4, zmk_5, zmk_6, zmk_7, zrg_0, zrg_1, zrg_2, zrg_3, zrg_4, zrg_5, zrg_6, zrg_7, zrg_8, zrg_9, zrg_10, zrg_11, zrg_12, zrg_13, zrg_14, zrg_15, zrs_3, zrs_6, zrs_7, zrs_9, zrs_10, zrs_11, zrs_12, zrs_14, zrs_15, zmw_0, zmw_1, zmw_2, zmw_3, zmw_4, zmw_5, zmw_6, zmw_7, zisr, s_noMirror, s_in]
    · rw [if_pos (by omega)]
      simp (disch := omega) only [e157_0, e157_1, e157_2, e157_5, e157_8, e157_10, e157_11, e157_12, e157_13, e157_14, e157_17, e157_20, e157_23, e157_24, e157_25, e157_26, e157_29, e157_32, e157_35, e157_37, e157_38, e157_39, e157_42, e157_44, e157_46, e157_47, e157_49, e157_50, e157_54, e157_55, e157_58, e157_59, e157_60, e157_61, e157_62, e157_65, e157_66, e157_67, e157_69, e157_70, e157_71, e157_74, e157_77, e157_78, e157_79, e157_80, e157_81, e157_84, e157_85, e157_86, e157_88, e157_89, e157_90, e157_93, e157_94, e157_96, e157_97, e157_98, e157_101, e157_103, e157_105, e157_108, e157_110, e157_112, e157_113, e157_116, e157_118, e157_121, e157_123, e157_125, e157_127, e157_129, e157_132, e157_134, e157_137, e157_139, e157_141, e157_144, e157_147, e157_149, zi_add, zi_sub, zi_mul, zl_add, zl_sub, zl_mul, zl_i, zi_l, zi_lt, zi_le, zi_eq, zl_lt, zl_le, zl_eq, zlc_lt, zlc_le, zlc_gt, zlc_ge, zlc_eq, zi_ne0, zl_ne0, zi_div, zl_div, zi_rem, zl_rem, zcat_nil, zcat_int, zcat_ref, zcat_long, zkill_int, zkill_ref, zkill_long, zkill_J, zkill2, zto_some, zto_none, znb0, znb1, zB_some, zbr_t, zbr_f, not_true_eq_false, not_false_eq_true, true_imp_iff, false_imp_iff, true_and, and_true, Nat.reduceAdd, Nat.reduceLeDiff, Int.reduceAdd, Int.reduceSub, Int.reduceMul, Int.reduceNeg, zisC_inr, zget_inr, zsetf_inr, zldl_row, zald_row, zstl_row, zast_row, List.getElem?_cons_zero, List.getElem?_cons_succ, List.length_cons, List.length_nil, List.set_cons_zero, List.set_cons_succ, zmk_0, zmk_1, zmk_2, zmk_3, zmk_4, zmk_5, zmk_6, zmk_7, zrg_0, zrg_1, zrg_2, zrg_3, zrg_4, zrg_5, zrg_6, zrg_7, zrg_8, zrg_9, zrg_10, zrg_11, zrg_12, zrg_13, zrg_14, zrg_15, zrs_3, zrs_6, zrs_7, zrs_9, zrs_10, zrs_11, zrs_12, zrs_14, zrs_15, zmw_0, zmw_1, zmw_2, zmw_3, zmw_4, zmw_5, zmw_6, zmw_7, zisr, s_noMirror, s_in]
  · rw [if_pos c1]
    simp (disch := omega) only [e157_0, e157_1, e157_2, e157_5, e157_8, e157_10, e157_11, e157_12, e157_13, e157_14, e157_17, e157_20, e157_23, e157_24, e157_25, e157_26, e157_29, e157_32, e157_35, e157_37, e157_38, e157_39, e157_42, e157_44, e157_46, e157_47, e157_49, e157_50, e157_54, e157_55, e157_58, e157_59, e157_60, e157_61, e157_62, e157_65, e157_66, e157_67, e157_69, e157_70, e157_71, e157_74, e157_77, e157_78, e157_79, e157_80, e157_81, e157_84, e157_85, e157_86, e157_88, e157_89, e157_90, e157_93, e157_94, e157_96, e157_97, e157_98, e157_101, e157_103, e157_105, e157_108, e157_110, e157_112, e157_113, e157_116, e157_118, e157_121, e157_123, e157_125, e157_127, e157_129, e157_132, e157_134, e157_137, e157_139, e157_141, e157_144, e157_147, e157_149, zi_add, zi_sub, zi_mul, zl_add, zl_sub, zl_mul, zl_i, zi_l, zi_lt, zi_le, zi_eq, zl_lt, zl_le, zl_eq, zlc_lt, zlc_le, zlc_gt, zlc_ge, zlc_eq, zi_ne0, zl_ne0, zi_div, zl_div, zi_rem, zl_rem, zcat_nil, zcat_int, zcat_ref, zcat_long, zkill_int, zkill_ref, zkill_long, zkill_J, zkill2, zto_some, zto_none, znb0, znb1, zB_some, zbr_t, zbr_f, not_true_eq_false, not_false_eq_true, true_imp_iff, false_imp_iff, true_and, and_true, Nat.reduceAdd, Nat.reduceLeDiff, Int.reduceAdd, Int.reduceSub, Int.reduceMul, Int.reduceNeg, zisC_inr, zget_inr, zsetf_inr, zldl_row, zald_row, zstl_row, zast_row, List.getElem?_cons_zero, List.getElem?_cons_succ, List.length_cons, List.length_nil, List.set_cons_zero, List.set_cons_succ, zmk_0, zmk_1, zmk_2, zmk_3, zmk_4, zmk_5, zmk_6, zmk_7, zrg_0, zrg_1, zrg_2, zrg_3, zrg_4, zrg_5, zrg_6, zrg_7, zrg_8, zrg_9, zrg_10, zrg_11, zrg_12, zrg_13, zrg_14, zrg_15, zrs_3, zrs_6, zrs_7, zrs_9, zrs_10, zrs_11, zrs_12, zrs_14, zrs_15, zmw_0, zmw_1, zmw_2, zmw_3, zmw_4, zmw_5, zmw_6, zmw_7, zisr, s_noMirror]
end RF11
