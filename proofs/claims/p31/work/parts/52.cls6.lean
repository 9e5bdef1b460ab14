/-! the class: a cleaning taken out of the plan, entered in the log -/
def rdm (σ : Int → Int) (p q : Int) : Int → Int := fun j => if 150 + 3 * p ≤ j ∧ j < 150 + 3 * q then σ (j + 3) else σ j
theorem rdm_0 (σ : Int → Int) (p : Int) : rdm σ p p = σ := by
  funext j
  exact if_neg (by omega)
theorem rdm_hi {σ : Int → Int} {p q j : Int} (hj : 150 + 3 * q ≤ j) : rdm σ p q j = σ j := if_neg (by omega)
theorem rdm_3 {σ : Int → Int} {p q : Int} (hp : 0 ≤ p) : rdm σ p q 3 = σ 3 := if_neg (by omega)
theorem rdm_s {σ : Int → Int} {p q : Int} (hp : p ≤ q) : zset (zset (zset (rdm σ p q) (150 + 3 * q) (σ (150 + 3 * (q + 1)))) (150 + 3 * q + 1) (σ (150 + 3 * (q + 1) + 1))) (150 + 3 * q + 2) (σ (150 + 3 * (q + 1) + 2)) = rdm σ p (q + 1) := by
  funext j
  simp only [zset, rdm]
  by_cases c2 : j = 150 + 3 * q + 2
  · rw [if_pos c2, if_pos (by omega)]
    congr 1
    omega
  · rw [if_neg c2]
    by_cases c1 : j = 150 + 3 * q + 1
    · rw [if_pos c1, if_pos (by omega)]
      congr 1
      omega
    · rw [if_neg c1]
      by_cases c0 : j = 150 + 3 * q
      · rw [if_pos c0, if_pos (by omega)]
        congr 1
        omega
      · rw [if_neg c0]
        by_cases c : 150 + 3 * p ≤ j ∧ j < 150 + 3 * q
        · rw [if_pos c, if_pos (by omega)]
        · rw [if_neg c, if_neg (by omega)]
theorem rdm_end {σ : Int → Int} {p : Int} (hp : 0 ≤ p ∧ p ≤ σ 3 - 1) : zset (rdm σ p (σ 3 - 1)) 3 (σ 3 - 1) = rdrop σ p := by
  funext j
  rw [rdrop_ap hp]
  simp only [zset, rdm]
  by_cases c : j = 3
  · rw [if_pos c, if_neg (by omega), if_pos c]
  · rw [if_neg c, if_neg c]
theorem rshf_0 (σ : Int → Int) : rshf σ 237 = σ := by
  funext j
  exact if_neg (by omega)
theorem rshf_lo {σ : Int → Int} {x j : Int} (hj : j ≤ x) : rshf σ x j = σ j := if_neg (by omega)
theorem rshg_s {σ : Int → Int} {i : Int} (h0 : 0 ≤ i) (h1 : i < 11) : zset (zset (zset (zset (rshf σ (190 + 4 * (i + 1) + 3)) (190 + 4 * (i + 1)) (σ (190 + 4 * i))) (190 + 4 * (i + 1) + 1) (σ (190 + 4 * i + 1))) (190 + 4 * (i + 1) + 2) (σ (190 + 4 * i + 2))) (190 + 4 * (i + 1) + 3) (σ (190 + 4 * i + 3)) = rshf σ (190 + 4 * i + 3) := by
  funext j
  simp only [zset, rshf]
  by_cases c3 : j = 190 + 4 * (i + 1) + 3
  · rw [if_pos c3, if_pos (by omega)]
    congr 1
    omega
  · rw [if_neg c3]
    by_cases c2 : j = 190 + 4 * (i + 1) + 2
    · rw [if_pos c2, if_pos (by omega)]
      congr 1
      omega
    · rw [if_neg c2]
      by_cases c1 : j = 190 + 4 * (i + 1) + 1
      · rw [if_pos c1, if_pos (by omega)]
        congr 1
        omega
      · rw [if_neg c1]
        by_cases c0 : j = 190 + 4 * (i + 1)
        · rw [if_pos c0, if_pos (by omega)]
          congr 1
          omega
        · rw [if_neg c0]
          by_cases c : 190 + 4 * (i + 1) + 3 < j ∧ j ≤ 237
          · rw [if_pos c, if_pos (by omega)]
          · rw [if_neg c, if_neg (by omega)]
section CM5
variable {z : zZ} {h : zH} {K : Option Value → zZ → zH → Prop} {b : Nat} {τ : Int → Int}
theorem c_remove_l {p : Int} (hp : 0 ≤ p ∧ p ≤ τ 3 - 1) (h12 : τ 3 ≤ 12) (r : Nat) : ∀ q : Int, p ≤ q → q + 1 + r = τ 3 →
    (zG 41 13 [.ref (b + 14), .int (zi p), .int (zi (q + 1))] [] z (zcs h b (rdm τ p q)) K ↔ K none z (zcs h b (rdrop τ p))) := by
  induction r with
  | zero =>
    intro q hq hk
    have e3 := rdm_3 (σ := τ) (q := q) hp.1
    have eq : q = τ 3 - 1 := by omega
    have eE := rdm_end hp
    rw [← eq] at eE
    have eE2 : zset (rdm τ p q) 3 (τ 3 - 1) = rdrop τ p := by rw [← eq]; exact eE
    rw [e41_13]
    simp (disch := omega) only [e41_0, e41_1, e41_2, e41_5, e41_8, e41_9, e41_10, e41_11, e41_12, e41_14, e41_15, e41_18, e41_21, e41_22, e41_25, e41_26, e41_27, e41_28, e41_29, e41_32, e41_33, e41_34, e41_35, e41_36, e41_39, e41_40, e41_41, e41_42, e41_43, e41_46, e41_47, e41_48, e41_49, e41_50, e41_53, e41_54, e41_55, e41_56, e41_57, e41_60, e41_61, e41_62, e41_63, e41_66, e41_69, e41_70, e41_71, e41_74, e41_75, e41_76, e41_79, zi_add, zi_sub, zi_mul, zl_add, zl_sub, zl_mul, zl_i, zi_l, zi_lt, zi_le, zi_eq, zl_lt, zl_le, zl_eq, zlc_lt, zlc_le, zlc_gt, zlc_ge, zlc_eq, zi_ne0, zl_ne0, zi_div, zl_div, zi_rem, zl_rem, zcat_nil, zcat_int, zcat_ref, zcat_long, zkill_int, zkill_ref, zkill_long, zkill_J, zkill2, zto_some, zto_none, znb0, znb1, zB_some, zbr_t, zbr_f, not_true_eq_false, not_false_eq_true, true_imp_iff, false_imp_iff, true_and, and_true, Nat.reduceAdd, Nat.reduceLeDiff, Int.reduceAdd, Int.reduceSub, Int.reduceMul, Int.reduceNeg, zisC_inr, zget_inr, zsetf_inr, zldl_row, zald_row, zstl_row, zast_row, List.getElem?_cons_zero, List.getElem?_cons_succ, List.length_cons, List.length_nil, List.set_cons_zero, List.set_cons_succ, zcs_0, zcs_1, zcs_2, zcs_3, zcs_4, zcs_5, zcs_6, zcs_7, zcs_8, zcs_9, zcs_10, zcs_11, zcs_12, zcs_13, zcs_14, zcs_15, zcs_16, zcs_17, zcs_18, zcs_19, zcs_20, zcs_21, zcs_22, zcs_23, zcs_24, zcs_25, zcs_26, zcs_mir, zsk_s, zpk_, zck_, zlk_, zgk_, zmk_m, zsg_0, zsg_1, zsg_2, zsg_3, zsg_4, zsg_5, zsg_6, zsg_7, zsg_8, zsg_9, zsg_10, zss_6, zss_7, zss_8, zss_9, zss_10, zpg_0, zpg_1, zpg_2, zpg_3, zpg_4, zcg_0, zcg_1, zcg_2, zcg_3, zlg_0, zlg_1, zlg_2, zlg_3, zgg_0, zgg_1, zgg_2, zgg_3, zgg_4, zpp_4, zcp_3, zlp_3, zgp_4, zmg_0, zmg_1, zmg_2, zmg_3, zmg_4, zmg_5, zms_0, zms_1, zms_2, zms_3, zms_4, zms_5, zald_vc, zast_vc, zaln_vc, vsh_ap, zup_self, zup_two, zcw_2, zcw_3, zcw_4, zcw_5, zcw_6, zcw_7, zcw_8, zcw_9, zcw_10, zcw_11, zcw_13, zcw_14, zcw_15, zcw_16, zcw_17, zcw_18, zcw_19, zcw_20, zcw_21, zcw_22, zcw_12n, vr_3, vr_4, vr_5, vr_7, vr_8, vr_9, vr_12, vr_13, vr_15, vr_16, vr_17, vr_19, vr_20, vr_21, vr_22, zcw_s0, zcw_s1, zcw_s5, zcw_s6, zcw_s7, e3, eE2]
  | succ r ih =>
    intro q hq hk
    have e3 := rdm_3 (σ := τ) (q := q) hp.1
    have ih2 := ih (q + 1) (by omega) (by omega)
    have es := rdm_s (σ := τ) (p := p) (q := q) hq
    have r0 := rdm_hi (σ := τ) (p := p) (q := q) (j := 150 + 3 * (q + 1)) (by omega)
    have r1 := rdm_hi (σ := τ) (p := p) (q := q) (j := 150 + 3 * (q + 1) + 1) (by omega)
    have r2 := rdm_hi (σ := τ) (p := p) (q := q) (j := 150 + 3 * (q + 1) + 2) (by omega)
    have em : q + 1 - 1 = q := by omega
    have n01 : ¬ (150 + 3 * (q + 1) + 1 = 150 + 3 * q) := by omega
    have n02 : ¬ (150 + 3 * (q + 1) + 2 = 150 + 3 * q) := by omega
    have n12 : ¬ (150 + 3 * (q + 1) + 2 = 150 + 3 * q + 1) := by omega
    rw [e41_13]
    simp (disch := omega) only [e41_0, e41_1, e41_2, e41_5, e41_8, e41_9, e41_10, e41_11, e41_12, e41_14, e41_15, e41_18, e41_21, e41_22, e41_25, e41_26, e41_27, e41_28, e41_29, e41_32, e41_33, e41_34, e41_35, e41_36, e41_39, e41_40, e41_41, e41_42, e41_43, e41_46, e41_47, e41_48, e41_49, e41_50, e41_53, e41_54, e41_55, e41_56, e41_57, e41_60, e41_61, e41_62, e41_63, e41_66, e41_69, e41_70, e41_71, e41_74, e41_75, e41_76, e41_79, zi_add, zi_sub, zi_mul, zl_add, zl_sub, zl_mul, zl_i, zi_l, zi_lt, zi_le, zi_eq, zl_lt, zl_le, zl_eq, zlc_lt, zlc_le, zlc_gt, zlc_ge, zlc_eq, zi_ne0, zl_ne0, zi_div, zl_div, zi_rem, zl_rem, zcat_nil, zcat_int, zcat_ref, zcat_long, zkill_int, zkill_ref, zkill_long, zkill_J, zkill2, zto_some, zto_none, znb0, znb1, zB_some, zbr_t, zbr_f, not_true_eq_false, not_false_eq_true, true_imp_iff, false_imp_iff, true_and, and_true, Nat.reduceAdd, Nat.reduceLeDiff, Int.reduceAdd, Int.reduceSub, Int.reduceMul, Int.reduceNeg, zisC_inr, zget_inr, zsetf_inr, zldl_row, zald_row, zstl_row, zast_row, List.getElem?_cons_zero, List.getElem?_cons_succ, List.length_cons, List.length_nil, List.set_cons_zero, List.set_cons_succ, zcs_0, zcs_1, zcs_2, zcs_3, zcs_4, zcs_5, zcs_6, zcs_7, zcs_8, zcs_9, zcs_10, zcs_11, zcs_12, zcs_13, zcs_14, zcs_15, zcs_16, zcs_17, zcs_18, zcs_19, zcs_20, zcs_21, zcs_22, zcs_23, zcs_24, zcs_25, zcs_26, zcs_mir, zsk_s, zpk_, zck_, zlk_, zgk_, zmk_m, zsg_0, zsg_1, zsg_2, zsg_3, zsg_4, zsg_5, zsg_6, zsg_7, zsg_8, zsg_9, zsg_10, zss_6, zss_7, zss_8, zss_9, zss_10, zpg_0, zpg_1, zpg_2, zpg_3, zpg_4, zcg_0, zcg_1, zcg_2, zcg_3, zlg_0, zlg_1, zlg_2, zlg_3, zgg_0, zgg_1, zgg_2, zgg_3, zgg_4, zpp_4, zcp_3, zlp_3, zgp_4, zmg_0, zmg_1, zmg_2, zmg_3, zmg_4, zmg_5, zms_0, zms_1, zms_2, zms_3, zms_4, zms_5, zald_vc, zast_vc, zaln_vc, vsh_ap, zup_self, zup_two, zcw_2, zcw_3, zcw_4, zcw_5, zcw_6, zcw_7, zcw_8, zcw_9, zcw_10, zcw_11, zcw_13, zcw_14, zcw_15, zcw_16, zcw_17, zcw_18, zcw_19, zcw_20, zcw_21, zcw_22, zcw_12n, vr_3, vr_4, vr_5, vr_7, vr_8, vr_9, vr_12, vr_13, vr_15, vr_16, vr_17, vr_19, vr_20, vr_21, vr_22, zcw_s0, zcw_s1, zcw_s5, zcw_s6, zcw_s7, e3, em, r0, r1, r2, zst_zst, zst_ap, zset_ap, reduceIte, Nat.reduceEqDiff, Nat.zero_ne_one, Nat.one_ne_zero, Int.reduceEq, if_neg, n01, n02, n12, es]
    exact ih2
theorem c_remove {p : Int} (hp : 0 ≤ p ∧ p ≤ τ 3 - 1) (hI : rI τ) : zG 41 0 [.ref (b + 14), .int (zi p), zJ] [] z (zcs h b τ) K ↔ K none z (zcs h b (rdrop τ p)) := by
  have h2 := hI.2.1
  have l0 := c_remove_l (z := z) (h := h) (K := K) (b := b) hp (by omega) (τ 3 - (p + 1)).toNat p (by omega) (by omega)
  rw [rdm_0] at l0
  have hh : ∀ K0 : Option Value → zZ → zH → Prop, zG 39 0 [.ref (b + 14), .int (zi p)] [] z (zcs h b τ) K0 ↔ K0 (some (.int (zi 1))) z (zcs h b τ) := fun K0 => by rw [c_phas ⟨by omega, by omega⟩ hI, zbr_t hp]
  rw [← l0]
  simp (disch := omega) only [e41_0, e41_1, e41_2, e41_5, e41_8, e41_9, e41_10, e41_11, e41_12, e41_14, e41_15, e41_18, e41_21, e41_22, e41_25, e41_26, e41_27, e41_28, e41_29, e41_32, e41_33, e41_34, e41_35, e41_36, e41_39, e41_40, e41_41, e41_42, e41_43, e41_46, e41_47, e41_48, e41_49, e41_50, e41_53, e41_54, e41_55, e41_56, e41_57, e41_60, e41_61, e41_62, e41_63, e41_66, e41_69, e41_70, e41_71, e41_74, e41_75, e41_76, e41_79, zi_add, zi_sub, zi_mul, zl_add, zl_sub, zl_mul, zl_i, zi_l, zi_lt, zi_le, zi_eq, zl_lt, zl_le, zl_eq, zlc_lt, zlc_le, zlc_gt, zlc_ge, zlc_eq, zi_ne0, zl_ne0, zi_div, zl_div, zi_rem, zl_rem, zcat_nil, zcat_int, zcat_ref, zcat_long, zkill_int, zkill_ref, zkill_long, zkill_J, zkill2, zto_some, zto_none, znb0, znb1, zB_some, zbr_t, zbr_f, not_true_eq_false, not_false_eq_true, true_imp_iff, false_imp_iff, true_and, and_true, Nat.reduceAdd, Nat.reduceLeDiff, Int.reduceAdd, Int.reduceSub, Int.reduceMul, Int.reduceNeg, zisC_inr, zget_inr, zsetf_inr, zldl_row, zald_row, zstl_row, zast_row, List.getElem?_cons_zero, List.getElem?_cons_succ, List.length_cons, List.length_nil, List.set_cons_zero, List.set_cons_succ, zcs_0, zcs_1, zcs_2, zcs_3, zcs_4, zcs_5, zcs_6, zcs_7, zcs_8, zcs_9, zcs_10, zcs_11, zcs_12, zcs_13, zcs_14, zcs_15, zcs_16, zcs_17, zcs_18, zcs_19, zcs_20, zcs_21, zcs_22, zcs_23, zcs_24, zcs_25, zcs_26, zcs_mir, zsk_s, zpk_, zck_, zlk_, zgk_, zmk_m, zsg_0, zsg_1, zsg_2, zsg_3, zsg_4, zsg_5, zsg_6, zsg_7, zsg_8, zsg_9, zsg_10, zss_6, zss_7, zss_8, zss_9, zss_10, zpg_0, zpg_1, zpg_2, zpg_3, zpg_4, zcg_0, zcg_1, zcg_2, zcg_3, zlg_0, zlg_1, zlg_2, zlg_3, zgg_0, zgg_1, zgg_2, zgg_3, zgg_4, zpp_4, zcp_3, zlp_3, zgp_4, zmg_0, zmg_1, zmg_2, zmg_3, zmg_4, zmg_5, zms_0, zms_1, zms_2, zms_3, zms_4, zms_5, zald_vc, zast_vc, zaln_vc, vsh_ap, zup_self, zup_two, zcw_2, zcw_3, zcw_4, zcw_5, zcw_6, zcw_7, zcw_8, zcw_9, zcw_10, zcw_11, zcw_13, zcw_14, zcw_15, zcw_16, zcw_17, zcw_18, zcw_19, zcw_20, zcw_21, zcw_22, zcw_12n, vr_3, vr_4, vr_5, vr_7, vr_8, vr_9, vr_12, vr_13, vr_15, vr_16, vr_17, vr_19, vr_20, vr_21, vr_22, zcw_s0, zcw_s1, zcw_s5, zcw_s6, zcw_s7, hh]
theorem c_enter_l {m kd d dn : Int} (hdn : dn = 0 ∨ dn = 1) (h4 : 0 ≤ τ 4 ∧ τ 4 ≤ 12) (i : Nat) : i ≤ 11 →
    (zG 24 4 [.ref (b + 18), .int (zi m), .int (zi kd), .int (zi d), .int (zi dn), .int (zi i)] [] z (zcs h b (rshf τ (190 + 4 * i + 3))) K ↔ K none z (zcs h b (rent τ m kd d dn))) := by
  induction i with
  | zero =>
    intro _
    have e4 : rshf τ 193 4 = τ 4 := if_neg (by omega)
    have ec : (if 12 < τ 4 + 1 then 12 else τ 4 + 1) = (if τ 4 < 12 then τ 4 + 1 else τ 4) := by
      by_cases c : τ 4 < 12
      · rw [if_pos c, if_neg (by omega)]
      · rw [if_neg c, if_pos (by omega)]
        omega
    have e0 : ((0 : Nat) : Int) = 0 := rfl
    unfold rent
    rw [e24_4, e0]
    rcases hdn with rfl | rfl
    · simp (disch := omega) only [e24_0, e24_2, e24_6, e24_9, e24_10, e24_13, e24_15, e24_16, e24_19, e24_21, e24_22, e24_23, e24_24, e24_25, e24_26, e24_29, e24_31, e24_32, e24_35, e24_37, e24_38, e24_39, e24_40, e24_41, e24_42, e24_45, e24_47, e24_48, e24_51, e24_53, e24_54, e24_55, e24_56, e24_57, e24_58, e24_61, e24_63, e24_64, e24_67, e24_69, e24_70, e24_71, e24_72, e24_73, e24_76, e24_79, e24_80, e24_83, e24_84, e24_85, e24_86, e24_87, e24_90, e24_91, e24_92, e24_93, e24_94, e24_97, e24_98, e24_99, e24_100, e24_101, e24_104, e24_105, e24_107, e24_110, e24_111, e24_114, e24_115, e24_116, e24_117, e24_118, e24_121, e24_122, e24_123, e24_125, e24_128, e24_131, zi_add, zi_sub, zi_mul, zl_add, zl_sub, zl_mul, zl_i, zi_l, zi_lt, zi_le, zi_eq, zl_lt, zl_le, zl_eq, zlc_lt, zlc_le, zlc_gt, zlc_ge, zlc_eq, zi_ne0, zl_ne0, zi_div, zl_div, zi_rem, zl_rem, zcat_nil, zcat_int, zcat_ref, zcat_long, zkill_int, zkill_ref, zkill_long, zkill_J, zkill2, zto_some, zto_none, znb0, znb1, zB_some, zbr_t, zbr_f, not_true_eq_false, not_false_eq_true, true_imp_iff, false_imp_iff, true_and, and_true, Nat.reduceAdd, Nat.reduceLeDiff, Int.reduceAdd, Int.reduceSub, Int.reduceMul, Int.reduceNeg, zisC_inr, zget_inr, zsetf_inr, zldl_row, zald_row, zstl_row, zast_row, List.getElem?_cons_zero, List.getElem?_cons_succ, List.length_cons, List.length_nil, List.set_cons_zero, List.set_cons_succ, zcs_0, zcs_1, zcs_2, zcs_3, zcs_4, zcs_5, zcs_6, zcs_7, zcs_8, zcs_9, zcs_10, zcs_11, zcs_12, zcs_13, zcs_14, zcs_15, zcs_16, zcs_17, zcs_18, zcs_19, zcs_20, zcs_21, zcs_22, zcs_23, zcs_24, zcs_25, zcs_26, zcs_mir, zsk_s, zpk_, zck_, zlk_, zgk_, zmk_m, zsg_0, zsg_1, zsg_2, zsg_3, zsg_4, zsg_5, zsg_6, zsg_7, zsg_8, zsg_9, zsg_10, zss_6, zss_7, zss_8, zss_9, zss_10, zpg_0, zpg_1, zpg_2, zpg_3, zpg_4, zcg_0, zcg_1, zcg_2, zcg_3, zlg_0, zlg_1, zlg_2, zlg_3, zgg_0, zgg_1, zgg_2, zgg_3, zgg_4, zpp_4, zcp_3, zlp_3, zgp_4, zmg_0, zmg_1, zmg_2, zmg_3, zmg_4, zmg_5, zms_0, zms_1, zms_2, zms_3, zms_4, zms_5, zald_vc, zast_vc, zaln_vc, vsh_ap, zup_self, zup_two, zcw_2, zcw_3, zcw_4, zcw_5, zcw_6, zcw_7, zcw_8, zcw_9, zcw_10, zcw_11, zcw_13, zcw_14, zcw_15, zcw_16, zcw_17, zcw_18, zcw_19, zcw_20, zcw_21, zcw_22, zcw_12n, vr_3, vr_4, vr_5, vr_7, vr_8, vr_9, vr_12, vr_13, vr_15, vr_16, vr_17, vr_19, vr_20, vr_21, vr_22, zcw_s0, zcw_s1, zcw_s5, zcw_s6, zcw_s7, ↓zi_mn, e4, zst_zst, zst_ap, zset_ap, reduceIte, Nat.reduceEqDiff, Nat.zero_ne_one, Nat.one_ne_zero, Int.reduceEq, ec]
    · simp (disch := omega) only [e24_0, e24_2, e24_6, e24_9, e24_10, e24_13, e24_15, e24_16, e24_19, e24_21, e24_22, e24_23, e24_24, e24_25, e24_26, e24_29, e24_31, e24_32, e24_35, e24_37, e24_38, e24_39, e24_40, e24_41, e24_42, e24_45, e24_47, e24_48, e24_51, e24_53, e24_54, e24_55, e24_56, e24_57, e24_58, e24_61, e24_63, e24_64, e24_67, e24_69, e24_70, e24_71, e24_72, e24_73, e24_76, e24_79, e24_80, e24_83, e24_84, e24_85, e24_86, e24_87, e24_90, e24_91, e24_92, e24_93, e24_94, e24_97, e24_98, e24_99, e24_100, e24_101, e24_104, e24_105, e24_107, e24_110, e24_111, e24_114, e24_115, e24_116, e24_117, e24_118, e24_121, e24_122, e24_123, e24_125, e24_128, e24_131, zi_add, zi_sub, zi_mul, zl_add, zl_sub, zl_mul, zl_i, zi_l, zi_lt, zi_le, zi_eq, zl_lt, zl_le, zl_eq, zlc_lt, zlc_le, zlc_gt, zlc_ge, zlc_eq, zi_ne0, zl_ne0, zi_div, zl_div, zi_rem, zl_rem, zcat_nil, zcat_int, zcat_ref, zcat_long, zkill_int, zkill_ref, zkill_long, zkill_J, zkill2, zto_some, zto_none, znb0, znb1, zB_some, zbr_t, zbr_f, not_true_eq_false, not_false_eq_true, true_imp_iff, false_imp_iff, true_and, and_true, Nat.reduceAdd, Nat.reduceLeDiff, Int.reduceAdd, Int.reduceSub, Int.reduceMul, Int.reduceNeg, zisC_inr, zget_inr, zsetf_inr, zldl_row, zald_row, zstl_row, zast_row, List.getElem?_cons_zero, List.getElem?_cons_succ, List.length_cons, List.length_nil, List.set_cons_zero, List.set_cons_succ, zcs_0, zcs_1, zcs_2, zcs_3, zcs_4, zcs_5, zcs_6, zcs_7, zcs_8, zcs_9, zcs_10, zcs_11, zcs_12, zcs_13, zcs_14, zcs_15, zcs_16, zcs_17, zcs_18, zcs_19, zcs_20, zcs_21, zcs_22, zcs_23, zcs_24, zcs_25, zcs_26, zcs_mir, zsk_s, zpk_, zck_, zlk_, zgk_, zmk_m, zsg_0, zsg_1, zsg_2, zsg_3, zsg_4, zsg_5, zsg_6, zsg_7, zsg_8, zsg_9, zsg_10, zss_6, zss_7, zss_8, zss_9, zss_10, zpg_0, zpg_1, zpg_2, zpg_3, zpg_4, zcg_0, zcg_1, zcg_2, zcg_3, zlg_0, zlg_1, zlg_2, zlg_3, zgg_0, zgg_1, zgg_2, zgg_3, zgg_4, zpp_4, zcp_3, zlp_3, zgp_4, zmg_0, zmg_1, zmg_2, zmg_3, zmg_4, zmg_5, zms_0, zms_1, zms_2, zms_3, zms_4, zms_5, zald_vc, zast_vc, zaln_vc, vsh_ap, zup_self, zup_two, zcw_2, zcw_3, zcw_4, zcw_5, zcw_6, zcw_7, zcw_8, zcw_9, zcw_10, zcw_11, zcw_13, zcw_14, zcw_15, zcw_16, zcw_17, zcw_18, zcw_19, zcw_20, zcw_21, zcw_22, zcw_12n, vr_3, vr_4, vr_5, vr_7, vr_8, vr_9, vr_12, vr_13, vr_15, vr_16, vr_17, vr_19, vr_20, vr_21, vr_22, zcw_s0, zcw_s1, zcw_s5, zcw_s6, zcw_s7, ↓zi_mn, e4, zst_zst, zst_ap, zset_ap, reduceIte, Nat.reduceEqDiff, Nat.zero_ne_one, Nat.one_ne_zero, Int.reduceEq, ec]
  | succ i ih =>
    intro hi
    have ih2 := ih (by omega)
    have ek : ((i + 1 : Nat) : Int) = (i : Int) + 1 := by omega
    have em : (i : Int) + 1 - 1 = i := by omega
    have em2 : (i : Int) + 1 + -1 = i := by omega
    have es := rshg_s (σ := τ) (i := i) (by omega) (by omega)
    have r0 := rshf_lo (σ := τ) (x := 190 + 4 * ((i : Int) + 1) + 3) (j := 190 + 4 * i) (by omega)
    have r1 := rshf_lo (σ := τ) (x := 190 + 4 * ((i : Int) + 1) + 3) (j := 190 + 4 * i + 1) (by omega)
    have r2 := rshf_lo (σ := τ) (x := 190 + 4 * ((i : Int) + 1) + 3) (j := 190 + 4 * i + 2) (by omega)
    have r3 := rshf_lo (σ := τ) (x := 190 + 4 * ((i : Int) + 1) + 3) (j := 190 + 4 * i + 3) (by omega)
    have n01 : ¬ (190 + 4 * (i : Int) + 1 = 190 + 4 * (↑i + 1)) := by omega
    have n02 : ¬ (190 + 4 * (i : Int) + 2 = 190 + 4 * (↑i + 1)) := by omega
    have n12 : ¬ (190 + 4 * (i : Int) + 2 = 190 + 4 * (↑i + 1) + 1) := by omega
    have n03 : ¬ (190 + 4 * (i : Int) + 3 = 190 + 4 * (↑i + 1)) := by omega
    have n13 : ¬ (190 + 4 * (i : Int) + 3 = 190 + 4 * (↑i + 1) + 1) := by omega
    have n23 : ¬ (190 + 4 * (i : Int) + 3 = 190 + 4 * (↑i + 1) + 2) := by omega
    rw [ek, e24_4]
    simp (disch := omega) only [e24_0, e24_2, e24_6, e24_9, e24_10, e24_13, e24_15, e24_16, e24_19, e24_21, e24_22, e24_23, e24_24, e24_25, e24_26, e24_29, e24_31, e24_32, e24_35, e24_37, e24_38, e24_39, e24_40, e24_41, e24_42, e24_45, e24_47, e24_48, e24_51, e24_53, e24_54, e24_55, e24_56, e24_57, e24_58, e24_61, e24_63, e24_64, e24_67, e24_69, e24_70, e24_71, e24_72, e24_73, e24_76, e24_79, e24_80, e24_83, e24_84, e24_85, e24_86, e24_87, e24_90, e24_91, e24_92, e24_93, e24_94, e24_97, e24_98, e24_99, e24_100, e24_101, e24_104, e24_105, e24_107, e24_110, e24_111, e24_114, e24_115, e24_116, e24_117, e24_118, e24_121, e24_122, e24_123, e24_125, e24_128, e24_131, zi_add, zi_sub, zi_mul, zl_add, zl_sub, zl_mul, zl_i, zi_l, zi_lt, zi_le, zi_eq, zl_lt, zl_le, zl_eq, zlc_lt, zlc_le, zlc_gt, zlc_ge, zlc_eq, zi_ne0, zl_ne0, zi_div, zl_div, zi_rem, zl_rem, zcat_nil, zcat_int, zcat_ref, zcat_long, zkill_int, zkill_ref, zkill_long, zkill_J, zkill2, zto_some, zto_none, znb0, znb1, zB_some, zbr_t, zbr_f, not_true_eq_false, not_false_eq_true, true_imp_iff, false_imp_iff, true_and, and_true, Nat.reduceAdd, Nat.reduceLeDiff, Int.reduceAdd, Int.reduceSub, Int.reduceMul, Int.reduceNeg, zisC_inr, zget_inr, zsetf_inr, zldl_row, zald_row, zstl_row, zast_row, List.getElem?_cons_zero, List.getElem?_cons_succ, List.length_cons, List.length_nil, List.set_cons_zero, List.set_cons_succ, zcs_0, zcs_1, zcs_2, zcs_3, zcs_4, zcs_5, zcs_6, zcs_7, zcs_8, zcs_9, zcs_10, zcs_11, zcs_12, zcs_13, zcs_14, zcs_15, zcs_16, zcs_17, zcs_18, zcs_19, zcs_20, zcs_21, zcs_22, zcs_23, zcs_24, zcs_25, zcs_26, zcs_mir, zsk_s, zpk_, zck_, zlk_, zgk_, zmk_m, zsg_0, zsg_1, zsg_2, zsg_3, zsg_4, zsg_5, zsg_6, zsg_7, zsg_8, zsg_9, zsg_10, zss_6, zss_7, zss_8, zss_9, zss_10, zpg_0, zpg_1, zpg_2, zpg_3, zpg_4, zcg_0, zcg_1, zcg_2, zcg_3, zlg_0, zlg_1, zlg_2, zlg_3, zgg_0, zgg_1, zgg_2, zgg_3, zgg_4, zpp_4, zcp_3, zlp_3, zgp_4, zmg_0, zmg_1, zmg_2, zmg_3, zmg_4, zmg_5, zms_0, zms_1, zms_2, zms_3, zms_4, zms_5, zald_vc, zast_vc, zaln_vc, vsh_ap, zup_self, zup_two, zcw_2, zcw_3, zcw_4, zcw_5, zcw_6, zcw_7, zcw_8, zcw_9, zcw_10, zcw_11, zcw_13, zcw_14, zcw_15, zcw_16, zcw_17, zcw_18, zcw_19, zcw_20, zcw_21, zcw_22, zcw_12n, vr_3, vr_4, vr_5, vr_7, vr_8, vr_9, vr_12, vr_13, vr_15, vr_16, vr_17, vr_19, vr_20, vr_21, vr_22, zcw_s0, zcw_s1, zcw_s5, zcw_s6, zcw_s7, em, em2, r0, r1, r2, r3, zst_zst, zst_ap, zset_ap, reduceIte, Nat.reduceEqDiff, Nat.zero_ne_one, Nat.one_ne_zero, Int.reduceEq, if_neg, n01, n02, n12, n03, n13, n23, es]
    exact ih2
theorem c_enter {m kd d dn : Int} (hdn : dn = 0 ∨ dn = 1) (hI : rI τ) : zG 24 0 [.ref (b + 18), .int (zi m), .int (zi kd), .int (zi d), .int (zi dn), zJ] [] z (zcs h b τ) K ↔ K none z (zcs h b (rent τ m kd d dn)) := by
  have h2 := hI.2.1
  have l0 := c_enter_l (z := z) (h := h) (K := K) (b := b) (τ := τ) (m := m) (kd := kd) (d := d) hdn (by omega) 11 (by omega)
  have e11 : (190 + 4 * ((11 : Nat) : Int) + 3) = 237 := rfl
  have f11 : ((11 : Nat) : Int) = 11 := rfl
  rw [e11, rshf_0, f11] at l0
  rw [← l0]
  simp (disch := omega) only [e24_0, e24_2, e24_6, e24_9, e24_10, e24_13, e24_15, e24_16, e24_19, e24_21, e24_22, e24_23, e24_24, e24_25, e24_26, e24_29, e24_31, e24_32, e24_35, e24_37, e24_38, e24_39, e24_40, e24_41, e24_42, e24_45, e24_47, e24_48, e24_51, e24_53, e24_54, e24_55, e24_56, e24_57, e24_58, e24_61, e24_63, e24_64, e24_67, e24_69, e24_70, e24_71, e24_72, e24_73, e24_76, e24_79, e24_80, e24_83, e24_84, e24_85, e24_86, e24_87, e24_90, e24_91, e24_92, e24_93, e24_94, e24_97, e24_98, e24_99, e24_100, e24_101, e24_104, e24_105, e24_107, e24_110, e24_111, e24_114, e24_115, e24_116, e24_117, e24_118, e24_121, e24_122, e24_123, e24_125, e24_128, e24_131, zi_add, zi_sub, zi_mul, zl_add, zl_sub, zl_mul, zl_i, zi_l, zi_lt, zi_le, zi_eq, zl_lt, zl_le, zl_eq, zlc_lt, zlc_le, zlc_gt, zlc_ge, zlc_eq, zi_ne0, zl_ne0, zi_div, zl_div, zi_rem, zl_rem, zcat_nil, zcat_int, zcat_ref, zcat_long, zkill_int, zkill_ref, zkill_long, zkill_J, zkill2, zto_some, zto_none, znb0, znb1, zB_some, zbr_t, zbr_f, not_true_eq_false, not_false_eq_true, true_imp_iff, false_imp_iff, true_and, and_true, Nat.reduceAdd, Nat.reduceLeDiff, Int.reduceAdd, Int.reduceSub, Int.reduceMul, Int.reduceNeg, zisC_inr, zget_inr, zsetf_inr, zldl_row, zald_row, zstl_row, zast_row, List.getElem?_cons_zero, List.getElem?_cons_succ, List.length_cons, List.length_nil, List.set_cons_zero, List.set_cons_succ, zcs_0, zcs_1, zcs_2, zcs_3, zcs_4, zcs_5, zcs_6, zcs_7, zcs_8, zcs_9, zcs_10, zcs_11, zcs_12, zcs_13, zcs_14, zcs_15, zcs_16, zcs_17, zcs_18, zcs_19, zcs_20, zcs_21, zcs_22, zcs_23, zcs_24, zcs_25, zcs_26, zcs_mir, zsk_s, zpk_, zck_, zlk_, zgk_, zmk_m, zsg_0, zsg_1, zsg_2, zsg_3, zsg_4, zsg_5, zsg_6, zsg_7, zsg_8, zsg_9, zsg_10, zss_6, zss_7, zss_8, zss_9, zss_10, zpg_0, zpg_1, zpg_2, zpg_3, zpg_4, zcg_0, zcg_1, zcg_2, zcg_3, zlg_0, zlg_1, zlg_2, zlg_3, zgg_0, zgg_1, zgg_2, zgg_3, zgg_4, zpp_4, zcp_3, zlp_3, zgp_4, zmg_0, zmg_1, zmg_2, zmg_3, zmg_4, zmg_5, zms_0, zms_1, zms_2, zms_3, zms_4, zms_5, zald_vc, zast_vc, zaln_vc, vsh_ap, zup_self, zup_two, zcw_2, zcw_3, zcw_4, zcw_5, zcw_6, zcw_7, zcw_8, zcw_9, zcw_10, zcw_11, zcw_13, zcw_14, zcw_15, zcw_16, zcw_17, zcw_18, zcw_19, zcw_20, zcw_21, zcw_22, zcw_12n, vr_3, vr_4, vr_5, vr_7, vr_8, vr_9, vr_12, vr_13, vr_15, vr_16, vr_17, vr_19, vr_20, vr_21, vr_22, zcw_s0, zcw_s1, zcw_s5, zcw_s6, zcw_s7]
end CM5
