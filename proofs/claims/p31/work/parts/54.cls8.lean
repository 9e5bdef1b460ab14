/-! the class: a night -/
theorem rI_fI {σ : Int → Int} (h : rI σ) {m : Int} (hm : 0 ≤ m ∧ m < 4) (hT : σ 0 ≤ 100000000) : fI (vw σ (10 + 6 * m) 1) := by
  have := h.2.2.1 m hm.1 hm.2
  have h2 := h.2.1
  unfold fI
  rw [vw_m, vw_m, vw_m, vw_m, Int.add_zero]
  omega
section CM7
variable {z : zZ} {h : zH} {K : Option Value → zZ → zH → Prop} {b : Nat} {τ : Int → Int}
theorem c_slossIn {m : Int} (hm : 0 ≤ m ∧ m < 4) (hI : rI τ) (hT : τ 0 ≤ 100000000) : zG 28 0 [.ref (b + 23 + m.toNat)] [] z (zcs h b τ) K ↔ K (some (.int (zi (rloss τ m)))) z (zcs h b τ) := by
  have h3 := hI.2.2.1 m hm.1 hm.2
  have h2 := hI.2.1
  have hp := zmul_b (x := τ (10 + 6 * m + 3)) (y := τ (10 + 6 * m + 1)) (X := 100000000) (Y := 20) (by omega) (by omega)
  rw [c_lossIn (zcs_mir (by omega) (by omega)) (by rw [vw_m]; omega) (by rw [vw_m, vw_m]; omega)]
  unfold floss rloss
  rw [vw_m, vw_m, vw_m]
theorem c_sclean {m k : Int} (hm : 0 ≤ m ∧ m < 4) (hk : 0 ≤ k ∧ k ≤ 2) (h3 : 0 ≤ τ (10 + 6 * m + 2) ∧ τ (10 + 6 * m + 2) ≤ 100000) : zG 29 0 [.ref (b + 23 + m.toNat), .int (zi k)] [] z (zcs h b τ) K ↔ K none z (zcs h b (rcl τ m k)) := by
  rw [c_clean (zcs_mir (by omega) (by omega)) (by rw [vw_m]; exact h3) (by omega), fcl, if_neg (by omega)]
  simp (disch := omega) only [zcw_mir, mput_zset, mput_self, vw_m]
  rfl
theorem c_sspend {m rate fac : Int} (hm : 0 ≤ m ∧ m < 4) (hI : fI (vw τ (10 + 6 * m) 1)) (hr : 0 ≤ rate ∧ rate ≤ 500) (hf : 0 ≤ fac ∧ fac ≤ 1000) : zG 30 0 [.ref (b + 23 + m.toNat), .int (zi rate), .int (zi fac), zJ, zJ] [] z (zcs h b τ) K ↔ K (some (.long (zl (rits τ rate fac m)))) z (zcs h b (rmir1 τ rate fac m)) := by
  rw [c_spend (zcs_mir (by omega) (by omega)) hI hr hf]
  unfold fsp rits rmir1
  simp (disch := omega) only [zcw_mir, mput_zset, mput_self, vw_m, Int.add_zero]
theorem c_sdo {m k : Int} (hm : 0 ≤ m ∧ m ≤ τ 1 - 1) (hk : 0 ≤ k ∧ k ≤ 2) (hI : rI τ) : zG 58 0 [.ref b, .int (zi m), .int (zi k)] [] z (zcs h b τ) K ↔ K none z (zcs h b (rdo τ m k)) := by
  have h2 := hI.2.1
  have h3 := hI.2.2.1 m hm.1 (by omega)
  have eF := rdo_c τ m k hm.1
  have hI1 : rI (zset (zset τ 5 (τ 5 + 1)) 7 (τ 7 + rtake k)) := (hI.set (by omega)).set (by omega)
  have g1 : zset (zset τ 5 (τ 5 + 1)) 7 (τ 7 + rtake k) 1 = τ 1 := rfl
  have g2 : zset (zset τ 5 (τ 5 + 1)) 7 (τ 7 + rtake k) (10 + 6 * m + 2) = τ (10 + 6 * m + 2) := by
    simp only [zset]
    rw [if_neg (by omega), if_neg (by omega)]
  have g4 : rcl (zset (zset τ 5 (τ 5 + 1)) 7 (τ 7 + rtake k)) m k (10 + 6 * m + 4) = τ (10 + 6 * m + 4) := by
    simp only [rcl, zset]
    rw [if_neg (by omega), if_neg (by omega), if_neg (by omega), if_neg (by omega)]
  have hh : ∀ K0 : Option Value → zZ → zH → Prop, zG 52 0 [.ref b, .int (zi m)] [] z (zcs h b (zset (zset τ 5 (τ 5 + 1)) 7 (τ 7 + rtake k))) K0 ↔ K0 (some (.int (zi 1))) z (zcs h b (zset (zset τ 5 (τ 5 + 1)) 7 (τ 7 + rtake k))) := fun K0 => by rw [c_shas ⟨by omega, by omega⟩ hI1, zbr_t (by rw [g1]; exact hm)]
  have hc : ∀ K0 : Option Value → zZ → zH → Prop, zG 29 0 [.ref (b + 23 + m.toNat), .int (zi k)] [] z (zcs h b (zset (zset τ 5 (τ 5 + 1)) 7 (τ 7 + rtake k))) K0 ↔ K0 none z (zcs h b (rcl (zset (zset τ 5 (τ 5 + 1)) 7 (τ 7 + rtake k)) m k)) := fun K0 => c_sclean (by omega) hk (by rw [g2]; omega)
  have g7 : zset τ 5 (τ 5 + 1) 7 = τ 7 := rfl
  simp (disch := omega) only [e58_0, e58_1, e58_2, e58_5, e58_6, e58_7, e58_10, e58_11, e58_12, e58_15, e58_16, e58_19, e58_20, e58_23, e58_24, e58_25, e58_28, e58_31, e58_32, e58_35, e58_36, e58_37, e58_38, e58_41, e58_42, e58_45, e58_46, e58_47, e58_48, e58_51, e58_52, e58_53, e58_56, zi_add, zi_sub, zi_mul, zl_add, zl_sub, zl_mul, zl_i, zi_l, zi_lt, zi_le, zi_eq, zl_lt, zl_le, zl_eq, zlc_lt, zlc_le, zlc_gt, zlc_ge, zlc_eq, zi_ne0, zl_ne0, zi_div, zl_div, zi_rem, zl_rem, zcat_nil, zcat_int, zcat_ref, zcat_long, zkill_int, zkill_ref, zkill_long, zkill_J, zkill2, zto_some, zto_none, znb0, znb1, zB_some, zbr_t, zbr_f, not_true_eq_false, not_false_eq_true, true_imp_iff, false_imp_iff, true_and, and_true, Nat.reduceAdd, Nat.reduceLeDiff, Int.reduceAdd, Int.reduceSub, Int.reduceMul, Int.reduceNeg, zisC_inr, zget_inr, zsetf_inr, zldl_row, zald_row, zstl_row, zast_row, List.getElem?_cons_zero, List.getElem?_cons_succ, List.length_cons, List.length_nil, List.set_cons_zero, List.set_cons_succ, zcs_0, zcs_1, zcs_2, zcs_3, zcs_4, zcs_5, zcs_6, zcs_7, zcs_8, zcs_9, zcs_10, zcs_11, zcs_12, zcs_13, zcs_14, zcs_15, zcs_16, zcs_17, zcs_18, zcs_19, zcs_20, zcs_21, zcs_22, zcs_23, zcs_24, zcs_25, zcs_26, zcs_mir, zsk_s, zpk_, zck_, zlk_, zgk_, zmk_m, zsg_0, zsg_1, zsg_2, zsg_3, zsg_4, zsg_5, zsg_6, zsg_7, zsg_8, zsg_9, zsg_10, zss_6, zss_7, zss_8, zss_9, zss_10, zpg_0, zpg_1, zpg_2, zpg_3, zpg_4, zcg_0, zcg_1, zcg_2, zcg_3, zlg_0, zlg_1, zlg_2, zlg_3, zgg_0, zgg_1, zgg_2, zgg_3, zgg_4, zpp_4, zcp_3, zlp_3, zgp_4, zmg_0, zmg_1, zmg_2, zmg_3, zmg_4, zmg_5, zms_0, zms_1, zms_2, zms_3, zms_4, zms_5, zald_vc, zast_vc, zldr_r1, zcw_mir, mput_zset, mput_self, vw_m, zaln_vc, vsh_ap, zup_self, zup_two, zcw_2, zcw_3, zcw_4, zcw_5, zcw_6, zcw_7, zcw_8, zcw_9, zcw_10, zcw_11, zcw_13, zcw_14, zcw_15, zcw_16, zcw_17, zcw_18, zcw_19, zcw_20, zcw_21, zcw_22, zcw_12n, vr_3, vr_4, vr_5, vr_7, vr_8, vr_9, vr_12, vr_13, vr_15, vr_16, vr_17, vr_19, vr_20, vr_21, vr_22, zcw_s0, zcw_s1, zcw_s5, zcw_s6, zcw_s7, g7, c_hoursFor, hh, hc, g4, eF]
theorem zset_ne {f : Int → Int} {i x j : Int} (h : j ≠ i) : zset f i x j = f j := if_neg h
theorem rdo_4 (σ : Int → Int) (m k : Int) (hm : 0 ≤ m) : rdo σ m k 4 = σ 4 := by
  simp only [rdo, zset]
  rw [if_neg (by omega), if_neg (by omega), if_neg (by omega), if_neg (by omega), if_neg (by omega)]
theorem rstp_a {σ : Int → Int} (hI : rI σ) {d ppl left : Int} (h3 : 0 < σ 3) (c : rneed (σ 151) ≤ ppl ∧ rtake (σ 151) ≤ left) : rent (rdo (rdrop σ 0) (σ 150) (σ 151)) (σ 150) (σ 151) d 1 = (rstp σ d ppl left).1 := by
  have hp := hI.2.2.2.1 0 (by omega) h3
  have h2 := hI.2.1
  simp only [Int.mul_zero, Int.add_zero] at hp
  unfold rstp
  rw [if_pos c]
  show rent (rdo (rdrop σ 0) (σ 150) (σ 151)) (σ 150) (σ 151) d 1 = rdo (rent (rdrop σ 0) (σ 150) (σ 151) d 1) (σ 150) (σ 151)
  generalize rdrop σ 0 = μ
  generalize σ 150 = m at *
  generalize σ 151 = k
  have q2 : rent μ m k d 1 (10 + 6 * m + 2) = μ (10 + 6 * m + 2) := rent_o (by omega) (by omega)
  have q3 : rent μ m k d 1 (10 + 6 * m + 3) = μ (10 + 6 * m + 3) := rent_o (by omega) (by omega)
  have q4 : rent μ m k d 1 (10 + 6 * m + 4) = μ (10 + 6 * m + 4) := rent_o (by omega) (by omega)
  have q5 : rent μ m k d 1 5 = μ 5 := rent_o (by omega) (by omega)
  have q7 : rent μ m k d 1 7 = μ 7 := rent_o (by omega) (by omega)
  funext j
  have eL : ∀ i, 34 ≤ i ∨ i = 4 → rdo μ m k i = μ i := fun i hi => by
    simp only [rdo, zset]
    rw [if_neg (by omega), if_neg (by omega), if_neg (by omega), if_neg (by omega), if_neg (by omega)]
  by_cases c4 : j = 4
  · subst c4
    rw [rent_4, eL 4 (Or.inr rfl), rdo_4 _ _ _ (by omega), rent_4]
  · by_cases c1 : j < 190
    · rw [rent_o c1 c4]
      simp only [rdo, q2, q3, q4, q5, q7]
      simp only [zset]
      rw [rent_o c1 c4]
    · have e1 : rdo (rent μ m k d 1) m k j = rent μ m k d 1 j := by
        simp only [rdo, zset]
        rw [if_neg (by omega), if_neg (by omega), if_neg (by omega), if_neg (by omega), if_neg (by omega)]
      rw [e1]
      simp only [rent, zset, rshf]
      by_cases c2 : 193 < j ∧ j ≤ 237
      · rw [if_pos c2, if_pos c2, eL (j - 4) (by omega), eL 4 (Or.inr rfl)]
      · rw [if_neg c2, if_neg c2, eL j (by omega), eL 4 (Or.inr rfl)]
theorem c_work_l {d ppl : Int} (hd : 0 ≤ d ∧ d ≤ 1000000000) (hp : 0 ≤ ppl ∧ ppl ≤ 5) : ∀ (n : Nat) (σ : Int → Int) (left i : Int) (l4 l5 l6 : Value), rI σ → σ 0 = d → σ 3 ≤ n → 0 ≤ i → i + σ 3 ≤ 12 → (0 ≤ left ∧ left ≤ 60) →
    (zG 57 26 [.ref b, .int (zi ppl), .int (zi left), .int (zi i), l4, l5, l6] [] z (zcs h b σ) K ↔ K none z (zcs h b (rclN d ppl n σ left))) := by
  have exit : ∀ (σ : Int → Int) (left i : Int) (l4 l5 l6 : Value), rI σ → σ 0 = d → 0 ≤ i → i + σ 3 ≤ 12 → ¬ (0 < σ 3 ∧ σ 152 = d) → (zG 57 26 [.ref b, .int (zi ppl), .int (zi left), .int (zi i), l4, l5, l6] [] z (zcs h b σ) K ↔ K none z (zcs h b σ)) := by
    intro σ left i l4 l5 l6 hI h0 hi h12 hc
    have h2 := hI.2.1
    have hs : ∀ K0 : Option Value → zZ → zH → Prop, zG 42 0 [.ref (b + 14), .int (zi d)] [] z (zcs h b σ) K0 ↔ K0 (some (.int (zi 0))) z (zcs h b σ) := fun K0 => by rw [c_starts hd hI, zbr_f hc]
    rw [e57_26]
    by_cases c : i < 12
    · simp (disch := omega) only [e57_0, e57_1, e57_4, e57_5, e57_8, e57_11, e57_12, e57_13, e57_16, e57_17, e57_20, e57_23, e57_24, e57_25, e57_27, e57_29, e57_32, e57_33, e57_36, e57_37, e57_40, e57_43, e57_46, e57_47, e57_50, e57_53, e57_54, e57_55, e57_57, e57_58, e57_61, e57_64, e57_65, e57_66, e57_68, e57_69, e57_72, e57_73, e57_76, e57_78, e57_79, e57_80, e57_83, e57_85, e57_87, e57_90, e57_91, e57_93, e57_96, e57_97, e57_98, e57_99, e57_101, e57_103, e57_106, e57_109, e57_110, e57_111, e57_114, e57_115, e57_116, e57_119, e57_120, e57_123, e57_125, e57_127, e57_128, e57_131, e57_133, e57_136, e57_139, e57_142, zi_add, zi_sub, zi_mul, zl_add, zl_sub, zl_mul, zl_i, zi_l, zi_lt, zi_le, zi_eq, zl_lt, zl_le, zl_eq, zlc_lt, zlc_le, zlc_gt, zlc_ge, zlc_eq, zi_ne0, zl_ne0, zi_div, zl_div, zi_rem, zl_rem, zcat_nil, zcat_int, zcat_ref, zcat_long, zkill_int, zkill_ref, zkill_long, zkill_J, zkill2, zto_some, zto_none, znb0, znb1, zB_some, zbr_t, zbr_f, not_true_eq_false, not_false_eq_true, true_imp_iff, false_imp_iff, true_and, and_true, Nat.reduceAdd, Nat.reduceLeDiff, Int.reduceAdd, Int.reduceSub, Int.reduceMul, Int.reduceNeg, zisC_inr, zget_inr, zsetf_inr, zldl_row, zald_row, zstl_row, zast_row, List.getElem?_cons_zero, List.getElem?_cons_succ, List.length_cons, List.length_nil, List.set_cons_zero, List.set_cons_succ, zcs_0, zcs_1, zcs_2, zcs_3, zcs_4, zcs_5, zcs_6, zcs_7, zcs_8, zcs_9, zcs_10, zcs_11, zcs_12, zcs_13, zcs_14, zcs_15, zcs_16, zcs_17, zcs_18, zcs_19, zcs_20, zcs_21, zcs_22, zcs_23, zcs_24, zcs_25, zcs_26, zcs_mir, zsk_s, zpk_, zck_, zlk_, zgk_, zmk_m, zsg_0, zsg_1, zsg_2, zsg_3, zsg_4, zsg_5, zsg_6, zsg_7, zsg_8, zsg_9, zsg_10, zss_6, zss_7, zss_8, zss_9, zss_10, zpg_0, zpg_1, zpg_2, zpg_3, zpg_4, zcg_0, zcg_1, zcg_2, zcg_3, zlg_0, zlg_1, zlg_2, zlg_3, zgg_0, zgg_1, zgg_2, zgg_3, zgg_4, zpp_4, zcp_3, zlp_3, zgp_4, zmg_0, zmg_1, zmg_2, zmg_3, zmg_4, zmg_5, zms_0, zms_1, zms_2, zms_3, zms_4, zms_5, zald_vc, zast_vc, zldr_r1, zcw_mir, mput_zset, mput_self, vw_m, zaln_vc, vsh_ap, zup_self, zup_two, zcw_2, zcw_3, zcw_4, zcw_5, zcw_6, zcw_7, zcw_8, zcw_9, zcw_10, zcw_11, zcw_13, zcw_14, zcw_15, zcw_16, zcw_17, zcw_18, zcw_19, zcw_20, zcw_21, zcw_22, zcw_12n, vr_3, vr_4, vr_5, vr_7, vr_8, vr_9, vr_12, vr_13, vr_15, vr_16, vr_17, vr_19, vr_20, vr_21, vr_22, zcw_s0, zcw_s1, zcw_s5, zcw_s6, zcw_s7, h0, hs]
    · simp (disch := omega) only [e57_0, e57_1, e57_4, e57_5, e57_8, e57_11, e57_12, e57_13, e57_16, e57_17, e57_20, e57_23, e57_24, e57_25, e57_27, e57_29, e57_32, e57_33, e57_36, e57_37, e57_40, e57_43, e57_46, e57_47, e57_50, e57_53, e57_54, e57_55, e57_57, e57_58, e57_61, e57_64, e57_65, e57_66, e57_68, e57_69, e57_72, e57_73, e57_76, e57_78, e57_79, e57_80, e57_83, e57_85, e57_87, e57_90, e57_91, e57_93, e57_96, e57_97, e57_98, e57_99, e57_101, e57_103, e57_106, e57_109, e57_110, e57_111, e57_114, e57_115, e57_116, e57_119, e57_120, e57_123, e57_125, e57_127, e57_128, e57_131, e57_133, e57_136, e57_139, e57_142, zi_add, zi_sub, zi_mul, zl_add, zl_sub, zl_mul, zl_i, zi_l, zi_lt, zi_le, zi_eq, zl_lt, zl_le, zl_eq, zlc_lt, zlc_le, zlc_gt, zlc_ge, zlc_eq, zi_ne0, zl_ne0, zi_div, zl_div, zi_rem, zl_rem, zcat_nil, zcat_int, zcat_ref, zcat_long, zkill_int, zkill_ref, zkill_long, zkill_J, zkill2, zto_some, zto_none, znb0, znb1, zB_some, zbr_t, zbr_f, not_true_eq_false, not_false_eq_true, true_imp_iff, false_imp_iff, true_and, and_true, Nat.reduceAdd, Nat.reduceLeDiff, Int.reduceAdd, Int.reduceSub, Int.reduceMul, Int.reduceNeg, zisC_inr, zget_inr, zsetf_inr, zldl_row, zald_row, zstl_row, zast_row, List.getElem?_cons_zero, List.getElem?_cons_succ, List.length_cons, List.length_nil, List.set_cons_zero, List.set_cons_succ, zcs_0, zcs_1, zcs_2, zcs_3, zcs_4, zcs_5, zcs_6, zcs_7, zcs_8, zcs_9, zcs_10, zcs_11, zcs_12, zcs_13, zcs_14, zcs_15, zcs_16, zcs_17, zcs_18, zcs_19, zcs_20, zcs_21, zcs_22, zcs_23, zcs_24, zcs_25, zcs_26, zcs_mir, zsk_s, zpk_, zck_, zlk_, zgk_, zmk_m, zsg_0, zsg_1, zsg_2, zsg_3, zsg_4, zsg_5, zsg_6, zsg_7, zsg_8, zsg_9, zsg_10, zss_6, zss_7, zss_8, zss_9, zss_10, zpg_0, zpg_1, zpg_2, zpg_3, zpg_4, zcg_0, zcg_1, zcg_2, zcg_3, zlg_0, zlg_1, zlg_2, zlg_3, zgg_0, zgg_1, zgg_2, zgg_3, zgg_4, zpp_4, zcp_3, zlp_3, zgp_4, zmg_0, zmg_1, zmg_2, zmg_3, zmg_4, zmg_5, zms_0, zms_1, zms_2, zms_3, zms_4, zms_5, zald_vc, zast_vc, zldr_r1, zcw_mir, mput_zset, mput_self, vw_m, zaln_vc, vsh_ap, zup_self, zup_two, zcw_2, zcw_3, zcw_4, zcw_5, zcw_6, zcw_7, zcw_8, zcw_9, zcw_10, zcw_11, zcw_13, zcw_14, zcw_15, zcw_16, zcw_17, zcw_18, zcw_19, zcw_20, zcw_21, zcw_22, zcw_12n, vr_3, vr_4, vr_5, vr_7, vr_8, vr_9, vr_12, vr_13, vr_15, vr_16, vr_17, vr_19, vr_20, vr_21, vr_22, zcw_s0, zcw_s1, zcw_s5, zcw_s6, zcw_s7, h0, hs]
  intro n
  induction n with
  | zero =>
    intro σ left i l4 l5 l6 hI h0 hn hi h12 hl
    exact exit σ left i l4 l5 l6 hI h0 hi h12 (by omega)
  | succ n ih =>
    intro σ left i l4 l5 l6 hI h0 hn hi h12 hl
    unfold rclN
    by_cases hc : 0 < σ 3 ∧ σ 152 = d
    · rw [if_pos hc]
      have h2 := hI.2.1
      have hq := hI.2.2.2.1 0 (by omega) hc.1
      simp only [Int.mul_zero, Int.add_zero, Int.reduceAdd] at hq
      have b5 := rtake_b (σ 151)
      have hs : ∀ K0 : Option Value → zZ → zH → Prop, zG 42 0 [.ref (b + 14), .int (zi d)] [] z (zcs h b σ) K0 ↔ K0 (some (.int (zi 1))) z (zcs h b σ) := fun K0 => by rw [c_starts hd hI, zbr_t hc]
      have hR : ∀ K0 : Option Value → zZ → zH → Prop, zG 41 0 [.ref (b + 14), .int (zi 0), zJ] [] z (zcs h b σ) K0 ↔ K0 none z (zcs h b (rdrop σ 0)) := fun K0 => c_remove (by omega) hI
      have hID := hI.drop (p := 0) (by omega)
      have d0 : rdrop σ 0 0 = d := by rw [rdrop_ap (by omega), if_neg (by omega), if_neg (by omega), h0]
      have d1 : rdrop σ 0 1 = σ 1 := by rw [rdrop_ap (by omega), if_neg (by omega), if_neg (by omega)]
      have d6 : rdrop σ 0 6 = σ 6 := by rw [rdrop_ap (by omega), if_neg (by omega), if_neg (by omega)]
      have hS := rstp_I hI d ppl left hc.1
      have hS3 := rstp_3 hI d ppl left hc.1
      have hS0 := rstp_o hI d ppl left hc.1 0 (Or.inl rfl)
      have v0 : σ (150 + 3 * 0) = σ 150 := rfl
      have v1 : σ (150 + 3 * 0 + 1) = σ 151 := rfl
      rw [e57_26]
      by_cases c2 : rneed (σ 151) ≤ ppl ∧ rtake (σ 151) ≤ left
      · have eS := rstp_a hI (d := d) hc.1 c2
        have e2 : (rstp σ d ppl left).2 = left - rtake (σ 151) := by unfold rstp; rw [if_pos c2]
        have hB : ∀ K0 : Option Value → zZ → zH → Prop, zG 92 0 [.int (zi (σ 151)), .int (zi ppl), .int (zi left)] [] z (zcs h b (rdrop σ 0)) K0 ↔ K0 (some (.int (zi 1))) z (zcs h b (rdrop σ 0)) := fun K0 => by rw [c_canBe (by omega) (by omega) (by omega), zbr_t c2]
        have hD : ∀ K0 : Option Value → zZ → zH → Prop, zG 58 0 [.ref b, .int (zi (σ 150)), .int (zi (σ 151))] [] z (zcs h b (rdrop σ 0)) K0 ↔ K0 none z (zcs h b (rdo (rdrop σ 0) (σ 150) (σ 151))) := fun K0 => c_sdo (by rw [d1]; omega) (by omega) hID
        have hDI : rI (rdo (rdrop σ 0) (σ 150) (σ 151)) := hID.do (by omega)
        have hD0 : rdo (rdrop σ 0) (σ 150) (σ 151) 0 = d := by
          simp only [rdo, zset]
          rw [if_neg (by omega), if_neg (by omega), if_neg (by omega), if_neg (by omega), if_neg (by omega), d0]
        have hE : ∀ K0 : Option Value → zZ → zH → Prop, zG 24 0 [.ref (b + 18), .int (zi (σ 150)), .int (zi (σ 151)), .int (zi d), .int (zi 1), zJ] [] z (zcs h b (rdo (rdrop σ 0) (σ 150) (σ 151))) K0 ↔ K0 none z (zcs h b (rstp σ d ppl left).1) := fun K0 => by rw [c_enter (Or.inr rfl) hDI, eS]
        have ih2 := ih (rstp σ d ppl left).1 (left - rtake (σ 151)) (i + 1) (.int (zi (σ 150))) (.int (zi (σ 151))) (.int (zi 1)) hS (by omega) (by omega) (by omega) (by omega) (by omega)
        rw [e2]
        simp (disch := omega) only [e57_0, e57_1, e57_4, e57_5, e57_8, e57_11, e57_12, e57_13, e57_16, e57_17, e57_20, e57_23, e57_24, e57_25, e57_27, e57_29, e57_32, e57_33, e57_36, e57_37, e57_40, e57_43, e57_46, e57_47, e57_50, e57_53, e57_54, e57_55, e57_57, e57_58, e57_61, e57_64, e57_65, e57_66, e57_68, e57_69, e57_72, e57_73, e57_76, e57_78, e57_79, e57_80, e57_83, e57_85, e57_87, e57_90, e57_91, e57_93, e57_96, e57_97, e57_98, e57_99, e57_101, e57_103, e57_106, e57_109, e57_110, e57_111, e57_114, e57_115, e57_116, e57_119, e57_120, e57_123, e57_125, e57_127, e57_128, e57_131, e57_133, e57_136, e57_139, e57_142, zi_add, zi_sub, zi_mul, zl_add, zl_sub, zl_mul, zl_i, zi_l, zi_lt, zi_le, zi_eq, zl_lt, zl_le, zl_eq, zlc_lt, zlc_le, zlc_gt, zlc_ge, zlc_eq, zi_ne0, zl_ne0, zi_div, zl_div, zi_rem, zl_rem, zcat_nil, zcat_int, zcat_ref, zcat_long, zkill_int, zkill_ref, zkill_long, zkill_J, zkill2, zto_some, zto_none, znb0, znb1, zB_some, zbr_t, zbr_f, not_true_eq_false, not_false_eq_true, true_imp_iff, false_imp_iff, true_and, and_true, Nat.reduceAdd, Nat.reduceLeDiff, Int.reduceAdd, Int.reduceSub, Int.reduceMul, Int.reduceNeg, zisC_inr, zget_inr, zsetf_inr, zldl_row, zald_row, zstl_row, zast_row, List.getElem?_cons_zero, List.getElem?_cons_succ, List.length_cons, List.length_nil, List.set_cons_zero, List.set_cons_succ, zcs_0, zcs_1, zcs_2, zcs_3, zcs_4, zcs_5, zcs_6, zcs_7, zcs_8, zcs_9, zcs_10, zcs_11, zcs_12, zcs_13, zcs_14, zcs_15, zcs_16, zcs_17, zcs_18, zcs_19, zcs_20, zcs_21, zcs_22, zcs_23, zcs_24, zcs_25, zcs_26, zcs_mir, zsk_s, zpk_, zck_, zlk_, zgk_, zmk_m, zsg_0, zsg_1, zsg_2, zsg_3, zsg_4, zsg_5, zsg_6, zsg_7, zsg_8, zsg_9, zsg_10, zss_6, zss_7, zss_8, zss_9, zss_10, zpg_0, zpg_1, zpg_2, zpg_3, zpg_4, zcg_0, zcg_1, zcg_2, zcg_3, zlg_0, zlg_1, zlg_2, zlg_3, zgg_0, zgg_1, zgg_2, zgg_3, zgg_4, zpp_4, zcp_3, zlp_3, zgp_4, zmg_0, zmg_1, zmg_2, zmg_3, zmg_4, zmg_5, zms_0, zms_1, zms_2, zms_3, zms_4, zms_5, zald_vc, zast_vc, zldr_r1, zcw_mir, mput_zset, mput_self, vw_m, zaln_vc, vsh_ap, zup_self, zup_two, zcw_2, zcw_3, zcw_4, zcw_5, zcw_6, zcw_7, zcw_8, zcw_9, zcw_10, zcw_11, zcw_13, zcw_14, zcw_15, zcw_16, zcw_17, zcw_18, zcw_19, zcw_20, zcw_21, zcw_22, zcw_12n, vr_3, vr_4, vr_5, vr_7, vr_8, vr_9, vr_12, vr_13, vr_15, vr_16, vr_17, vr_19, vr_20, vr_21, vr_22, zcw_s0, zcw_s1, zcw_s5, zcw_s6, zcw_s7, h0, hs, v0, v1, hR, hB, hD, c_hoursFor, hD0, hE]
        exact ih2
      · have eS : rent (zset (rdrop σ 0) 6 (rdrop σ 0 6 + 1)) (σ 150) (σ 151) d 0 = (rstp σ d ppl left).1 := by
          unfold rstp
          rw [if_neg c2]
          show rent (zset (rdrop σ 0) 6 (rdrop σ 0 6 + 1)) (σ 150) (σ 151) d 0 = zset (rent (rdrop σ 0) (σ 150) (σ 151) d 0) 6 (rent (rdrop σ 0) (σ 150) (σ 151) d 0 6 + 1)
          rw [rent_o (σ := rdrop σ 0) (j := 6) (by omega) (by omega)]
          funext j
          by_cases c4 : j = 4
          · subst c4
            rw [rent_4, zset_ne (by omega), zset_ne (by omega), rent_4]
          · by_cases c1 : j < 190
            · rw [rent_o c1 c4, zset_ap, zset_ap, rent_o c1 c4]
            · rw [zset_ap, if_neg (by omega)]
              simp only [rent, zset, rshf]
              rw [if_neg c4, if_neg c4, if_neg (show ¬ (j - 4 = 6) by omega), if_neg (show ¬ (j = 6) by omega)]
        have e2 : (rstp σ d ppl left).2 = left := by unfold rstp; rw [if_neg c2]
        have hB : ∀ K0 : Option Value → zZ → zH → Prop, zG 92 0 [.int (zi (σ 151)), .int (zi ppl), .int (zi left)] [] z (zcs h b (rdrop σ 0)) K0 ↔ K0 (some (.int (zi 0))) z (zcs h b (rdrop σ 0)) := fun K0 => by rw [c_canBe (by omega) (by omega) (by omega), zbr_f c2]
        have hDI : rI (zset (rdrop σ 0) 6 (rdrop σ 0 6 + 1)) := hID.set (by omega)
        have hD0 : zset (rdrop σ 0) 6 (rdrop σ 0 6 + 1) 0 = d := by rw [zset_ap, if_neg (by omega), d0]
        have hE : ∀ K0 : Option Value → zZ → zH → Prop, zG 24 0 [.ref (b + 18), .int (zi (σ 150)), .int (zi (σ 151)), .int (zi d), .int (zi 0), zJ] [] z (zcs h b (zset (rdrop σ 0) 6 (rdrop σ 0 6 + 1))) K0 ↔ K0 none z (zcs h b (rstp σ d ppl left).1) := fun K0 => by rw [c_enter (Or.inl rfl) hDI, eS]
        have ih2 := ih (rstp σ d ppl left).1 left (i + 1) (.int (zi (σ 150))) (.int (zi (σ 151))) (.int (zi 0)) hS (by omega) (by omega) (by omega) (by omega) (by omega)
        rw [e2]
        simp (disch := omega) only [e57_0, e57_1, e57_4, e57_5, e57_8, e57_11, e57_12, e57_13, e57_16, e57_17, e57_20, e57_23, e57_24, e57_25, e57_27, e57_29, e57_32, e57_33, e57_36, e57_37, e57_40, e57_43, e57_46, e57_47, e57_50, e57_53, e57_54, e57_55, e57_57, e57_58, e57_61, e57_64, e57_65, e57_66, e57_68, e57_69, e57_72, e57_73, e57_76, e57_78, e57_79, e57_80, e57_83, e57_85, e57_87, e57_90, e57_91, e57_93, e57_96, e57_97, e57_98, e57_99, e57_101, e57_103, e57_106, e57_109, e57_110, e57_111, e57_114, e57_115, e57_116, e57_119, e57_120, e57_123, e57_125, e57_127, e57_128, e57_131, e57_133, e57_136, e57_139, e57_142, zi_add, zi_sub, zi_mul, zl_add, zl_sub, zl_mul, zl_i, zi_l, zi_lt, zi_le, zi_eq, zl_lt, zl_le, zl_eq, zlc_lt, zlc_le, zlc_gt, zlc_ge, zlc_eq, zi_ne0, zl_ne0, zi_div, zl_div, zi_rem, zl_rem, zcat_nil, zcat_int, zcat_ref, zcat_long, zkill_int, zkill_ref, zkill_long, zkill_J, zkill2, zto_some, zto_none, znb0, znb1, zB_some, zbr_t, zbr_f, not_true_eq_false, not_false_eq_true, true_imp_iff, false_imp_iff, true_and, and_true, Nat.reduceAdd, Nat.reduceLeDiff, Int.reduceAdd, Int.reduceSub, Int.reduceMul, Int.reduceNeg, zisC_inr, zget_inr, zsetf_inr, zldl_row, zald_row, zstl_row, zast_row, List.getElem?_cons_zero, List.getElem?_cons_succ, List.length_cons, List.length_nil, List.set_cons_zero, List.set_cons_succ, zcs_0, zcs_1, zcs_2, zcs_3, zcs_4, zcs_5, zcs_6, zcs_7, zcs_8, zcs_9, zcs_10, zcs_11, zcs_12, zcs_13, zcs_14, zcs_15, zcs_16, zcs_17, zcs_18, zcs_19, zcs_20, zcs_21, zcs_22, zcs_23, zcs_24, zcs_25, zcs_26, zcs_mir, zsk_s, zpk_, zck_, zlk_, zgk_, zmk_m, zsg_0, zsg_1, zsg_2, zsg_3, zsg_4, zsg_5, zsg_6, zsg_7, zsg_8, zsg_9, zsg_10, zss_6, zss_7, zss_8, zss_9, zss_10, zpg_0, zpg_1, zpg_2, zpg_3, zpg_4, zcg_0, zcg_1, zcg_2, zcg_3, zlg_0, zlg_1, zlg_2, zlg_3, zgg_0, zgg_1, zgg_2, zgg_3, zgg_4, zpp_4, zcp_3, zlp_3, zgp_4, zmg_0, zmg_1, zmg_2, zmg_3, zmg_4, zmg_5, zms_0, zms_1, zms_2, zms_3, zms_4, zms_5, zald_vc, zast_vc, zldr_r1, zcw_mir, mput_zset, mput_self, vw_m, zaln_vc, vsh_ap, zup_self, zup_two, zcw_2, zcw_3, zcw_4, zcw_5, zcw_6, zcw_7, zcw_8, zcw_9, zcw_10, zcw_11, zcw_13, zcw_14, zcw_15, zcw_16, zcw_17, zcw_18, zcw_19, zcw_20, zcw_21, zcw_22, zcw_12n, vr_3, vr_4, vr_5, vr_7, vr_8, vr_9, vr_12, vr_13, vr_15, vr_16, vr_17, vr_19, vr_20, vr_21, vr_22, zcw_s0, zcw_s1, zcw_s5, zcw_s6, zcw_s7, h0, hs, v0, v1, hR, hB, hD0, hE]
        exact ih2
    · rw [if_neg hc]
      exact exit σ left i l4 l5 l6 hI h0 hi h12 hc
theorem c_work (hI : rI τ) (hO : rO τ) (hT : τ 0 ≤ 100000000) : zG 57 0 [.ref b, zJ, zJ, zJ, zJ, zJ, zJ] [] z (zcs h b τ) K ↔ K none z (zcs h b (rclean τ (τ 0))) := by
  have h2 := hI.2.1
  have b1 := rpeop_c hI (τ 0)
  have b2 := rhour_c hI (d := τ 0) (by omega)
  have l0 := c_work_l (z := z) (h := h) (K := K) (b := b) (d := τ 0) (by omega) b1 (τ 3).toNat τ (rhour τ (τ 0)) 0 zJ zJ zJ hI rfl (by omega) (by omega) (by omega) b2
  unfold rclean
  rw [← l0]
  simp (disch := omega) only [e57_0, e57_1, e57_4, e57_5, e57_8, e57_11, e57_12, e57_13, e57_16, e57_17, e57_20, e57_23, e57_24, e57_25, e57_27, e57_29, e57_32, e57_33, e57_36, e57_37, e57_40, e57_43, e57_46, e57_47, e57_50, e57_53, e57_54, e57_55, e57_57, e57_58, e57_61, e57_64, e57_65, e57_66, e57_68, e57_69, e57_72, e57_73, e57_76, e57_78, e57_79, e57_80, e57_83, e57_85, e57_87, e57_90, e57_91, e57_93, e57_96, e57_97, e57_98, e57_99, e57_101, e57_103, e57_106, e57_109, e57_110, e57_111, e57_114, e57_115, e57_116, e57_119, e57_120, e57_123, e57_125, e57_127, e57_128, e57_131, e57_133, e57_136, e57_139, e57_142, zi_add, zi_sub, zi_mul, zl_add, zl_sub, zl_mul, zl_i, zi_l, zi_lt, zi_le, zi_eq, zl_lt, zl_le, zl_eq, zlc_lt, zlc_le, zlc_gt, zlc_ge, zlc_eq, zi_ne0, zl_ne0, zi_div, zl_div, zi_rem, zl_rem, zcat_nil, zcat_int, zcat_ref, zcat_long, zkill_int, zkill_ref, zkill_long, zkill_J, zkill2, zto_some, zto_none, znb0, znb1, zB_some, zbr_t, zbr_f, not_true_eq_false, not_false_eq_true, true_imp_iff, false_imp_iff, true_and, and_true, Nat.reduceAdd, Nat.reduceLeDiff, Int.reduceAdd, Int.reduceSub, Int.reduceMul, Int.reduceNeg, zisC_inr, zget_inr, zsetf_inr, zldl_row, zald_row, zstl_row, zast_row, List.getElem?_cons_zero, List.getElem?_cons_succ, List.length_cons, List.length_nil, List.set_cons_zero, List.set_cons_succ, zcs_0, zcs_1, zcs_2, zcs_3, zcs_4, zcs_5, zcs_6, zcs_7, zcs_8, zcs_9, zcs_10, zcs_11, zcs_12, zcs_13, zcs_14, zcs_15, zcs_16, zcs_17, zcs_18, zcs_19, zcs_20, zcs_21, zcs_22, zcs_23, zcs_24, zcs_25, zcs_26, zcs_mir, zsk_s, zpk_, zck_, zlk_, zgk_, zmk_m, zsg_0, zsg_1, zsg_2, zsg_3, zsg_4, zsg_5, zsg_6, zsg_7, zsg_8, zsg_9, zsg_10, zss_6, zss_7, zss_8, zss_9, zss_10, zpg_0, zpg_1, zpg_2, zpg_3, zpg_4, zcg_0, zcg_1, zcg_2, zcg_3, zlg_0, zlg_1, zlg_2, zlg_3, zgg_0, zgg_1, zgg_2, zgg_3, zgg_4, zpp_4, zcp_3, zlp_3, zgp_4, zmg_0, zmg_1, zmg_2, zmg_3, zmg_4, zmg_5, zms_0, zms_1, zms_2, zms_3, zms_4, zms_5, zald_vc, zast_vc, zldr_r1, zcw_mir, mput_zset, mput_self, vw_m, zaln_vc, vsh_ap, zup_self, zup_two, zcw_2, zcw_3, zcw_4, zcw_5, zcw_6, zcw_7, zcw_8, zcw_9, zcw_10, zcw_11, zcw_13, zcw_14, zcw_15, zcw_16, zcw_17, zcw_18, zcw_19, zcw_20, zcw_21, zcw_22, zcw_12n, vr_3, vr_4, vr_5, vr_7, vr_8, vr_9, vr_12, vr_13, vr_15, vr_16, vr_17, vr_19, vr_20, vr_21, vr_22, zcw_s0, zcw_s1, zcw_s5, zcw_s6, zcw_s7, c_people, c_hours]
end CM7
