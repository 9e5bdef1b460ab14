/-! the class: a night passes; a State copied -/
theorem zow_cov {i : Int} (h : zow i < 27) : (0 ≤ i ∧ i < 34) ∨ zow i = 3 ∨ zow i = 4 ∨ zow i = 5 ∨ zow i = 7 ∨ zow i = 8 ∨ zow i = 9 ∨ zow i = 11 ∨ zow i = 12 ∨ zow i = 13 ∨ zow i = 15 ∨ zow i = 16 ∨ zow i = 17 ∨ zow i = 19 ∨ zow i = 20 ∨ zow i = 21 ∨ zow i = 22 := by
  by_cases c1 : 0 ≤ i ∧ i < 34
  · exact Or.inl c1
  · right
    unfold zow at h ⊢
    by_cases d0 : i < 0
    · rw [if_pos d0] at h; omega
    · rw [if_neg d0, if_neg (by omega), if_neg (by omega)] at h
      rw [if_neg d0, if_neg (by omega), if_neg (by omega)]
      by_cases d1 : i < 40
      · rw [if_pos d1] at h; omega
      · rw [if_neg d1] at h ⊢
        by_cases d2 : i < 85
        · rw [if_pos d2]
          by_cases g1 : (i - 40) % 9 < 7
          · rw [if_pos g1]; omega
          · rw [if_neg g1]
            by_cases g2 : (i - 40) % 9 = 7
            · rw [if_pos g2]; omega
            · rw [if_neg g2]; omega
        · rw [if_neg d2] at h ⊢
          by_cases d3 : i < 90
          · rw [if_pos d3] at h; omega
          · rw [if_neg d3] at h ⊢
            by_cases d4 : i < 120
            · rw [if_pos d4]; omega
            · rw [if_neg d4] at h ⊢
              by_cases d5 : i < 150
              · rw [if_pos d5]; omega
              · rw [if_neg d5] at h ⊢
                by_cases d6 : i < 186
                · rw [if_pos d6]; omega
                · rw [if_neg d6] at h ⊢
                  by_cases d7 : i < 190
                  · rw [if_pos d7] at h; omega
                  · rw [if_neg d7] at h ⊢
                    by_cases d8 : i < 238
                    · rw [if_pos d8]; omega
                    · rw [if_neg d8] at h; omega
theorem zow_lo {i : Int} (h0 : 0 ≤ i) (h : i < 34) : zow i = 10 ∨ zow i = 14 ∨ zow i = 18 ∨ zow i = 2 ∨ zow i = 6 ∨ zow i = 0 ∨ 23 ≤ zow i := by
  unfold zow
  rw [if_neg (by omega)]
  by_cases c : i < 10
  · rw [if_pos c]
    split
    · omega
    · split
      · omega
      · split
        · omega
        · split
          · omega
          · split <;> omega
  · rw [if_neg c, if_pos h]
    omega
theorem zcs_ext2 {h : zH} {b : Nat} {τ τ2 : Int → Int} (e : ∀ i, zow i < 27 → τ2 i = τ i) : zcs h b τ2 = zcs h b τ := by
  funext x
  unfold zcs
  by_cases hx : b ≤ x ∧ x < b + 27
  · rw [if_pos hx, if_pos hx]
    exact zbk_ext _ (by omega) fun i hi => e i (by omega)
  · rw [if_neg hx, if_neg hx]
theorem zset_q {f g : Int → Int} {k i : Int} (h : i ≠ k → f i = g i) : zset f k (g k) i = g i := by
  by_cases c : i = k
  · rw [zset_ap, if_pos c, c]
  · rw [zset_ne c, h c]
theorem mx_q {f g : Int → Int} {k : Nat} {i : Int} (h : zow i ≠ k → f i = g i) : mx k f g i = g i := by
  by_cases c : zow i = k
  · exact if_pos c
  · exact (if_neg c).trans (h c)
theorem mput_q {f g : Int → Int} {m o i : Int} (ho : o = 10 + 6 * m) (h : ¬ (o ≤ i ∧ i < o + 6) → f i = g i) : mput f m (vw g o 1) i = g i := by
  subst ho
  by_cases c : 10 + 6 * m ≤ i ∧ i < 16 + 6 * m
  · simp only [mput, vw]
    rw [if_pos c]
    congr 1
    omega
  · exact (if_neg c).trans (h (by omega))
section CM8
variable {z : zZ} {h : zH} {K : Option Value → zZ → zH → Prop} {b b2 : Nat} {τ τ2 : Int → Int}
theorem c_night_l {σ : Int → Int} {rate fac : Int} (hI : rI σ) (hT : σ 0 ≤ 100000000) (hr : 0 ≤ rate ∧ rate ≤ 500) (hf : 0 ≤ fac ∧ fac ≤ 1000) (r : Nat) : ∀ k : Nat, (k : Int) + r = σ 1 →
    (zG 56 36 [.ref b, .int (zi rate), .int (zi fac), .long (zl (rsumN σ rate fac k)), zJ, .int (zi k)] [] z (zcs h b (rmirN σ rate fac k)) K ↔ K (some (.long (zl (rsumN σ rate fac (σ 1).toNat)))) z (zcs h b (zset (rmirN σ rate fac (σ 1).toNat) 0 (σ 0 + 1)))) := by
  have h2 := hI.2.1
  induction r with
  | zero =>
    intro k hk
    have e1 := rmirN_o σ rate fac k 1 (by omega)
    have e0 := rmirN_o σ rate fac k 0 (by omega)
    rw [show (σ 1).toNat = k by omega, e56_36]
    simp (disch := omega) only [e56_0, e56_1, e56_4, e56_5, e56_8, e56_9, e56_12, e56_15, e56_16, e56_17, e56_20, e56_21, e56_24, e56_27, e56_30, e56_31, e56_32, e56_33, e56_34, e56_38, e56_39, e56_42, e56_45, e56_46, e56_47, e56_50, e56_52, e56_53, e56_54, e56_55, e56_58, e56_59, e56_60, e56_63, e56_66, e56_67, e56_68, e56_71, e56_72, e56_73, e56_76, e56_77, zi_add, zi_sub, zi_mul, zl_add, zl_sub, zl_mul, zl_i, zi_l, zi_lt, zi_le, zi_eq, zl_lt, zl_le, zl_eq, zlc_lt, zlc_le, zlc_gt, zlc_ge, zlc_eq, zi_ne0, zl_ne0, zi_div, zl_div, zi_rem, zl_rem, zcat_nil, zcat_int, zcat_ref, zcat_long, zkill_int, zkill_ref, zkill_long, zkill_J, zkill2, zto_some, zto_none, znb0, znb1, zB_some, zbr_t, zbr_f, not_true_eq_false, not_false_eq_true, true_imp_iff, false_imp_iff, true_and, and_true, Nat.reduceAdd, Nat.reduceLeDiff, Int.reduceAdd, Int.reduceSub, Int.reduceMul, Int.reduceNeg, zisC_inr, zget_inr, zsetf_inr, zldl_row, zald_row, zstl_row, zast_row, List.getElem?_cons_zero, List.getElem?_cons_succ, List.length_cons, List.length_nil, List.set_cons_zero, List.set_cons_succ, zcs_0, zcs_1, zcs_2, zcs_3, zcs_4, zcs_5, zcs_6, zcs_7, zcs_8, zcs_9, zcs_10, zcs_11, zcs_12, zcs_13, zcs_14, zcs_15, zcs_16, zcs_17, zcs_18, zcs_19, zcs_20, zcs_21, zcs_22, zcs_23, zcs_24, zcs_25, zcs_26, zcs_mir, zsk_s, zpk_, zck_, zlk_, zgk_, zmk_m, zsg_0, zsg_1, zsg_2, zsg_3, zsg_4, zsg_5, zsg_6, zsg_7, zsg_8, zsg_9, zsg_10, zss_6, zss_7, zss_8, zss_9, zss_10, zpg_0, zpg_1, zpg_2, zpg_3, zpg_4, zcg_0, zcg_1, zcg_2, zcg_3, zlg_0, zlg_1, zlg_2, zlg_3, zgg_0, zgg_1, zgg_2, zgg_3, zgg_4, zpp_4, zcp_3, zlp_3, zgp_4, zmg_0, zmg_1, zmg_2, zmg_3, zmg_4, zmg_5, zms_0, zms_1, zms_2, zms_3, zms_4, zms_5, zald_vc, zast_vc, zldr_r1, zcw_mir, mput_zset, mput_self, vw_m, zaln_vc, vsh_ap, zup_self, zup_two, zcw_2, zcw_3, zcw_4, zcw_5, zcw_6, zcw_7, zcw_8, zcw_9, zcw_10, zcw_11, zcw_13, zcw_14, zcw_15, zcw_16, zcw_17, zcw_18, zcw_19, zcw_20, zcw_21, zcw_22, zcw_12n, vr_3, vr_4, vr_5, vr_7, vr_8, vr_9, vr_12, vr_13, vr_15, vr_16, vr_17, vr_19, vr_20, vr_21, vr_22, zcw_s0, zcw_s1, zcw_s5, zcw_s6, zcw_s7, e1, e0]
  | succ r ih =>
    intro k hk
    have e1 := rmirN_o σ rate fac k 1 (by omega)
    have ek : zi ((k : Int) + 1) = zi ((k + 1 : Nat) : Int) := by rw [Int.natCast_add]; rfl
    have em : ∀ c : Int, 0 ≤ c → rmirN σ rate fac k (10 + 6 * (k : Int) + c) = σ (10 + 6 * (k : Int) + c) := fun c hc => rmirN_o σ rate fac k _ (by omega)
    have hfI : fI (vw (rmirN σ rate fac k) (10 + 6 * (k : Int)) 1) := by
      have := rI_fI hI (m := k) (by omega) hT
      unfold fI at this ⊢
      simp only [vw_m] at this ⊢
      rw [em 0 (by omega), em 1 (by omega), em 2 (by omega), em 3 (by omega)]
      exact this
    have es : rits (rmirN σ rate fac k) rate fac k = rits σ rate fac k := by
      unfold rits
      have e00 := em 0 (by omega)
      rw [Int.add_zero] at e00
      rw [e00, em 1 (by omega), em 2 (by omega), em 3 (by omega)]
    have hS : ∀ K0 : Option Value → zZ → zH → Prop, zG 30 0 [.ref (b + 23 + (k : Int).toNat), .int (zi rate), .int (zi fac), zJ, zJ] [] z (zcs h b (rmirN σ rate fac k)) K0 ↔ K0 (some (.long (zl (rits σ rate fac k)))) z (zcs h b (rmirN σ rate fac (k + 1))) := fun K0 => by
      rw [c_sspend (by omega) hfI hr hf, es]
      rfl
    have ih2 := ih (k + 1) (by omega)
    rw [e56_36]
    simp (disch := omega) only [e56_0, e56_1, e56_4, e56_5, e56_8, e56_9, e56_12, e56_15, e56_16, e56_17, e56_20, e56_21, e56_24, e56_27, e56_30, e56_31, e56_32, e56_33, e56_34, e56_38, e56_39, e56_42, e56_45, e56_46, e56_47, e56_50, e56_52, e56_53, e56_54, e56_55, e56_58, e56_59, e56_60, e56_63, e56_66, e56_67, e56_68, e56_71, e56_72, e56_73, e56_76, e56_77, zi_add, zi_sub, zi_mul, zl_add, zl_sub, zl_mul, zl_i, zi_l, zi_lt, zi_le, zi_eq, zl_lt, zl_le, zl_eq, zlc_lt, zlc_le, zlc_gt, zlc_ge, zlc_eq, zi_ne0, zl_ne0, zi_div, zl_div, zi_rem, zl_rem, zcat_nil, zcat_int, zcat_ref, zcat_long, zkill_int, zkill_ref, zkill_long, zkill_J, zkill2, zto_some, zto_none, znb0, znb1, zB_some, zbr_t, zbr_f, not_true_eq_false, not_false_eq_true, true_imp_iff, false_imp_iff, true_and, and_true, Nat.reduceAdd, Nat.reduceLeDiff, Int.reduceAdd, Int.reduceSub, Int.reduceMul, Int.reduceNeg, zisC_inr, zget_inr, zsetf_inr, zldl_row, zald_row, zstl_row, zast_row, List.getElem?_cons_zero, List.getElem?_cons_succ, List.length_cons, List.length_nil, List.set_cons_zero, List.set_cons_succ, zcs_0, zcs_1, zcs_2, zcs_3, zcs_4, zcs_5, zcs_6, zcs_7, zcs_8, zcs_9, zcs_10, zcs_11, zcs_12, zcs_13, zcs_14, zcs_15, zcs_16, zcs_17, zcs_18, zcs_19, zcs_20, zcs_21, zcs_22, zcs_23, zcs_24, zcs_25, zcs_26, zcs_mir, zsk_s, zpk_, zck_, zlk_, zgk_, zmk_m, zsg_0, zsg_1, zsg_2, zsg_3, zsg_4, zsg_5, zsg_6, zsg_7, zsg_8, zsg_9, zsg_10, zss_6, zss_7, zss_8, zss_9, zss_10, zpg_0, zpg_1, zpg_2, zpg_3, zpg_4, zcg_0, zcg_1, zcg_2, zcg_3, zlg_0, zlg_1, zlg_2, zlg_3, zgg_0, zgg_1, zgg_2, zgg_3, zgg_4, zpp_4, zcp_3, zlp_3, zgp_4, zmg_0, zmg_1, zmg_2, zmg_3, zmg_4, zmg_5, zms_0, zms_1, zms_2, zms_3, zms_4, zms_5, zald_vc, zast_vc, zldr_r1, zcw_mir, mput_zset, mput_self, vw_m, zaln_vc, vsh_ap, zup_self, zup_two, zcw_2, zcw_3, zcw_4, zcw_5, zcw_6, zcw_7, zcw_8, zcw_9, zcw_10, zcw_11, zcw_13, zcw_14, zcw_15, zcw_16, zcw_17, zcw_18, zcw_19, zcw_20, zcw_21, zcw_22, zcw_12n, vr_3, vr_4, vr_5, vr_7, vr_8, vr_9, vr_12, vr_13, vr_15, vr_16, vr_17, vr_19, vr_20, vr_21, vr_22, zcw_s0, zcw_s1, zcw_s5, zcw_s6, zcw_s7, e1, hS, ek]
    exact ih2
theorem c_night (hI : rI τ) (hO : rO τ) (hT : τ 0 ≤ 100000000) : zG 56 0 [.ref b, zJ, zJ, zJ, zJ, zJ] [] z (zcs h b τ) K ↔ K (some (.long (zl (rnsum τ)))) z (zcs h b (rnight τ)) := by
  have h2 := hI.2.1
  have hC := rclean_I hI (τ 0)
  have c0 := rclean_o hI (τ 0) 0 (by omega)
  have c1 := rclean_o hI (τ 0) 1 (by omega)
  have b1 := rrate_b hI
  have b2 := rfact_b hI
  have l0 := c_night_l (z := z) (h := h) (K := K) (b := b) (σ := rclean τ (τ 0)) (rate := rrate τ) (fac := rfact τ) hC (by omega) b1 (by omega) (τ 1).toNat 0 (by omega)
  have hV0 : ∀ K0 : Option Value → zZ → zH → Prop, zG 36 0 [.ref (b + 2), .int (zi (τ 0)), zJ] [] z (zcs h b (rclean τ (τ 0))) K0 ↔ K0 (some (.int (zi (rrate τ)))) z (zcs h b (rclean τ (τ 0))) := fun K0 => c_value0 (by omega) hC
  have hV1 : ∀ K0 : Option Value → zZ → zH → Prop, zG 36 0 [.ref (b + 6), .int (zi (τ 0)), zJ] [] z (zcs h b (rclean τ (τ 0))) K0 ↔ K0 (some (.int (zi (rtold (rclean τ (τ 0)) 1 (τ 0))))) z (zcs h b (rclean τ (τ 0))) := fun K0 => c_value1 (by omega) hC
  have eF : 100 + rtold (rclean τ (τ 0)) 1 (τ 0) * rtold (rclean τ (τ 0)) 1 (τ 0) = rfact τ := rfl
  unfold rnight rnsum
  rw [c1, c0] at l0
  rw [← l0]
  simp (disch := omega) only [e56_0, e56_1, e56_4, e56_5, e56_8, e56_9, e56_12, e56_15, e56_16, e56_17, e56_20, e56_21, e56_24, e56_27, e56_30, e56_31, e56_32, e56_33, e56_34, e56_38, e56_39, e56_42, e56_45, e56_46, e56_47, e56_50, e56_52, e56_53, e56_54, e56_55, e56_58, e56_59, e56_60, e56_63, e56_66, e56_67, e56_68, e56_71, e56_72, e56_73, e56_76, e56_77, zi_add, zi_sub, zi_mul, zl_add, zl_sub, zl_mul, zl_i, zi_l, zi_lt, zi_le, zi_eq, zl_lt, zl_le, zl_eq, zlc_lt, zlc_le, zlc_gt, zlc_ge, zlc_eq, zi_ne0, zl_ne0, zi_div, zl_div, zi_rem, zl_rem, zcat_nil, zcat_int, zcat_ref, zcat_long, zkill_int, zkill_ref, zkill_long, zkill_J, zkill2, zto_some, zto_none, znb0, znb1, zB_some, zbr_t, zbr_f, not_true_eq_false, not_false_eq_true, true_imp_iff, false_imp_iff, true_and, and_true, Nat.reduceAdd, Nat.reduceLeDiff, Int.reduceAdd, Int.reduceSub, Int.reduceMul, Int.reduceNeg, zisC_inr, zget_inr, zsetf_inr, zldl_row, zald_row, zstl_row, zast_row, List.getElem?_cons_zero, List.getElem?_cons_succ, List.length_cons, List.length_nil, List.set_cons_zero, List.set_cons_succ, zcs_0, zcs_1, zcs_2, zcs_3, zcs_4, zcs_5, zcs_6, zcs_7, zcs_8, zcs_9, zcs_10, zcs_11, zcs_12, zcs_13, zcs_14, zcs_15, zcs_16, zcs_17, zcs_18, zcs_19, zcs_20, zcs_21, zcs_22, zcs_23, zcs_24, zcs_25, zcs_26, zcs_mir, zsk_s, zpk_, zck_, zlk_, zgk_, zmk_m, zsg_0, zsg_1, zsg_2, zsg_3, zsg_4, zsg_5, zsg_6, zsg_7, zsg_8, zsg_9, zsg_10, zss_6, zss_7, zss_8, zss_9, zss_10, zpg_0, zpg_1, zpg_2, zpg_3, zpg_4, zcg_0, zcg_1, zcg_2, zcg_3, zlg_0, zlg_1, zlg_2, zlg_3, zgg_0, zgg_1, zgg_2, zgg_3, zgg_4, zpp_4, zcp_3, zlp_3, zgp_4, zmg_0, zmg_1, zmg_2, zmg_3, zmg_4, zmg_5, zms_0, zms_1, zms_2, zms_3, zms_4, zms_5, zald_vc, zast_vc, zldr_r1, zcw_mir, mput_zset, mput_self, vw_m, zaln_vc, vsh_ap, zup_self, zup_two, zcw_2, zcw_3, zcw_4, zcw_5, zcw_6, zcw_7, zcw_8, zcw_9, zcw_10, zcw_11, zcw_13, zcw_14, zcw_15, zcw_16, zcw_17, zcw_18, zcw_19, zcw_20, zcw_21, zcw_22, zcw_12n, vr_3, vr_4, vr_5, vr_7, vr_8, vr_9, vr_12, vr_13, vr_15, vr_16, vr_17, vr_19, vr_20, vr_21, vr_22, zcw_s0, zcw_s1, zcw_s5, zcw_s6, zcw_s7, c_work, c0, hV0, hV1, c_lightF, eF]
  rfl
theorem c_scopy (hd : b + 27 ≤ b2 ∨ b2 + 27 ≤ b) : zG 51 0 [.ref b, .ref b2, zJ] [] z (zcs (zcs h b2 τ2) b τ) K ↔ K none z (zcs (zcs h b2 τ2) b τ2) := by
  have hM : ∀ (k : Int) (μ : Int → Int) (K0 : Option Value → zZ → zH → Prop), 0 ≤ k → k < 4 → (zG 27 0 [.ref (b + 23 + k.toNat), .ref (b2 + 23 + k.toNat)] [] z (zcs (zcs h b2 τ2) b μ) K0 ↔ K0 none z (zcs (zcs h b2 τ2) b (mput μ k (vw τ2 (10 + 6 * k) 1)))) := fun k μ K0 k0 k4 => by
    rw [c_mcopy (zcs_mir k0 k4) (g := vw τ2 (10 + 6 * k) 1) (by rw [zcs_o (by omega), zcs_mir k0 k4]), zcw_mir k0 k4]
  simp (disch := omega) only [e51_0, e51_1, e51_3, e51_4, e51_7, e51_8, e51_11, e51_12, e51_13, e51_14, e51_17, e51_18, e51_19, e51_22, e51_25, e51_28, e51_29, e51_32, e51_33, e51_36, e51_39, e51_40, e51_43, e51_44, e51_47, e51_50, e51_51, e51_54, e51_55, e51_58, e51_61, e51_62, e51_65, e51_66, e51_69, e51_72, e51_73, e51_76, e51_77, e51_80, e51_83, e51_84, e51_85, e51_88, e51_91, e51_92, e51_93, e51_96, e51_99, e51_100, e51_101, e51_104, e51_107, e51_108, e51_109, e51_112, e51_115, e51_116, e51_117, e51_120, e51_123, zi_add, zi_sub, zi_mul, zl_add, zl_sub, zl_mul, zl_i, zi_l, zi_lt, zi_le, zi_eq, zl_lt, zl_le, zl_eq, zlc_lt, zlc_le, zlc_gt, zlc_ge, zlc_eq, zi_ne0, zl_ne0, zi_div, zl_div, zi_rem, zl_rem, zcat_nil, zcat_int, zcat_ref, zcat_long, zkill_int, zkill_ref, zkill_long, zkill_J, zkill2, zto_some, zto_none, znb0, znb1, zB_some, zbr_t, zbr_f, not_true_eq_false, not_false_eq_true, true_imp_iff, false_imp_iff, true_and, and_true, Nat.reduceAdd, Nat.reduceLeDiff, Int.reduceAdd, Int.reduceSub, Int.reduceMul, Int.reduceNeg, zisC_inr, zget_inr, zsetf_inr, zldl_row, zald_row, zstl_row, zast_row, List.getElem?_cons_zero, List.getElem?_cons_succ, List.length_cons, List.length_nil, List.set_cons_zero, List.set_cons_succ, zcs_0, zcs_1, zcs_2, zcs_3, zcs_4, zcs_5, zcs_6, zcs_7, zcs_8, zcs_9, zcs_10, zcs_11, zcs_12, zcs_13, zcs_14, zcs_15, zcs_16, zcs_17, zcs_18, zcs_19, zcs_20, zcs_21, zcs_22, zcs_23, zcs_24, zcs_25, zcs_26, zcs_mir, zsk_s, zpk_, zck_, zlk_, zgk_, zmk_m, zsg_0, zsg_1, zsg_2, zsg_3, zsg_4, zsg_5, zsg_6, zsg_7, zsg_8, zsg_9, zsg_10, zss_6, zss_7, zss_8, zss_9, zss_10, zpg_0, zpg_1, zpg_2, zpg_3, zpg_4, zcg_0, zcg_1, zcg_2, zcg_3, zlg_0, zlg_1, zlg_2, zlg_3, zgg_0, zgg_1, zgg_2, zgg_3, zgg_4, zpp_4, zcp_3, zlp_3, zgp_4, zmg_0, zmg_1, zmg_2, zmg_3, zmg_4, zmg_5, zms_0, zms_1, zms_2, zms_3, zms_4, zms_5, zald_vc, zast_vc, zldr_r1, zcw_mir, mput_zset, mput_self, vw_m, zaln_vc, vsh_ap, zup_self, zup_two, zcw_2, zcw_3, zcw_4, zcw_5, zcw_6, zcw_7, zcw_8, zcw_9, zcw_10, zcw_11, zcw_13, zcw_14, zcw_15, zcw_16, zcw_17, zcw_18, zcw_19, zcw_20, zcw_21, zcw_22, zcw_12n, vr_3, vr_4, vr_5, vr_7, vr_8, vr_9, vr_12, vr_13, vr_15, vr_16, vr_17, vr_19, vr_20, vr_21, vr_22, zcw_s0, zcw_s1, zcw_s5, zcw_s6, zcw_s7]
  rw [e51_2]
  simp (disch := omega) only [e51_0, e51_1, e51_3, e51_4, e51_7, e51_8, e51_11, e51_12, e51_13, e51_14, e51_17, e51_18, e51_19, e51_22, e51_25, e51_29, e51_32, e51_33, e51_36, e51_39, e51_40, e51_43, e51_44, e51_47, e51_50, e51_51, e51_54, e51_55, e51_58, e51_61, e51_62, e51_65, e51_66, e51_69, e51_72, e51_73, e51_76, e51_77, e51_80, e51_83, e51_84, e51_85, e51_88, e51_91, e51_92, e51_93, e51_96, e51_99, e51_100, e51_101, e51_104, e51_107, e51_108, e51_109, e51_112, e51_115, e51_116, e51_117, e51_120, e51_123, zi_add, zi_sub, zi_mul, zl_add, zl_sub, zl_mul, zl_i, zi_l, zi_lt, zi_le, zi_eq, zl_lt, zl_le, zl_eq, zlc_lt, zlc_le, zlc_gt, zlc_ge, zlc_eq, zi_ne0, zl_ne0, zi_div, zl_div, zi_rem, zl_rem, zcat_nil, zcat_int, zcat_ref, zcat_long, zkill_int, zkill_ref, zkill_long, zkill_J, zkill2, zto_some, zto_none, znb0, znb1, zB_some, zbr_t, zbr_f, not_true_eq_false, not_false_eq_true, true_imp_iff, false_imp_iff, true_and, and_true, Nat.reduceAdd, Nat.reduceLeDiff, Int.reduceAdd, Int.reduceSub, Int.reduceMul, Int.reduceNeg, zisC_inr, zget_inr, zsetf_inr, zldl_row, zald_row, zstl_row, zast_row, List.getElem?_cons_zero, List.getElem?_cons_succ, List.length_cons, List.length_nil, List.set_cons_zero, List.set_cons_succ, zcs_0, zcs_1, zcs_2, zcs_3, zcs_4, zcs_5, zcs_6, zcs_7, zcs_8, zcs_9, zcs_10, zcs_11, zcs_12, zcs_13, zcs_14, zcs_15, zcs_16, zcs_17, zcs_18, zcs_19, zcs_20, zcs_21, zcs_22, zcs_23, zcs_24, zcs_25, zcs_26, zcs_mir, zsk_s, zpk_, zck_, zlk_, zgk_, zmk_m, zsg_0, zsg_1, zsg_2, zsg_3, zsg_4, zsg_5, zsg_6, zsg_7, zsg_8, zsg_9, zsg_10, zss_6, zss_7, zss_8, zss_9, zss_10, zpg_0, zpg_1, zpg_2, zpg_3, zpg_4, zcg_0, zcg_1, zcg_2, zcg_3, zlg_0, zlg_1, zlg_2, zlg_3, zgg_0, zgg_1, zgg_2, zgg_3, zgg_4, zpp_4, zcp_3, zlp_3, zgp_4, zmg_0, zmg_1, zmg_2, zmg_3, zmg_4, zmg_5, zms_0, zms_1, zms_2, zms_3, zms_4, zms_5, zald_vc, zast_vc, zldr_r1, zcw_mir, mput_zset, mput_self, vw_m, zaln_vc, vsh_ap, zup_self, zup_two, zcw_2, zcw_3, zcw_4, zcw_5, zcw_6, zcw_7, zcw_8, zcw_9, zcw_10, zcw_11, zcw_13, zcw_14, zcw_15, zcw_16, zcw_17, zcw_18, zcw_19, zcw_20, zcw_21, zcw_22, zcw_12n, vr_3, vr_4, vr_5, vr_7, vr_8, vr_9, vr_12, vr_13, vr_15, vr_16, vr_17, vr_19, vr_20, vr_21, vr_22, zcw_s0, zcw_s1, zcw_s5, zcw_s6, zcw_s7, zcs_o, hM]
  rw [e51_2]
  simp (disch := omega) only [e51_0, e51_1, e51_3, e51_4, e51_7, e51_8, e51_11, e51_12, e51_13, e51_14, e51_17, e51_18, e51_19, e51_22, e51_25, e51_29, e51_32, e51_33, e51_36, e51_39, e51_40, e51_43, e51_44, e51_47, e51_50, e51_51, e51_54, e51_55, e51_58, e51_61, e51_62, e51_65, e51_66, e51_69, e51_72, e51_73, e51_76, e51_77, e51_80, e51_83, e51_84, e51_85, e51_88, e51_91, e51_92, e51_93, e51_96, e51_99, e51_100, e51_101, e51_104, e51_107, e51_108, e51_109, e51_112, e51_115, e51_116, e51_117, e51_120, e51_123, zi_add, zi_sub, zi_mul, zl_add, zl_sub, zl_mul, zl_i, zi_l, zi_lt, zi_le, zi_eq, zl_lt, zl_le, zl_eq, zlc_lt, zlc_le, zlc_gt, zlc_ge, zlc_eq, zi_ne0, zl_ne0, zi_div, zl_div, zi_rem, zl_rem, zcat_nil, zcat_int, zcat_ref, zcat_long, zkill_int, zkill_ref, zkill_long, zkill_J, zkill2, zto_some, zto_none, znb0, znb1, zB_some, zbr_t, zbr_f, not_true_eq_false, not_false_eq_true, true_imp_iff, false_imp_iff, true_and, and_true, Nat.reduceAdd, Nat.reduceLeDiff, Int.reduceAdd, Int.reduceSub, Int.reduceMul, Int.reduceNeg, zisC_inr, zget_inr, zsetf_inr, zldl_row, zald_row, zstl_row, zast_row, List.getElem?_cons_zero, List.getElem?_cons_succ, List.length_cons, List.length_nil, List.set_cons_zero, List.set_cons_succ, zcs_0, zcs_1, zcs_2, zcs_3, zcs_4, zcs_5, zcs_6, zcs_7, zcs_8, zcs_9, zcs_10, zcs_11, zcs_12, zcs_13, zcs_14, zcs_15, zcs_16, zcs_17, zcs_18, zcs_19, zcs_20, zcs_21, zcs_22, zcs_23, zcs_24, zcs_25, zcs_26, zcs_mir, zsk_s, zpk_, zck_, zlk_, zgk_, zmk_m, zsg_0, zsg_1, zsg_2, zsg_3, zsg_4, zsg_5, zsg_6, zsg_7, zsg_8, zsg_9, zsg_10, zss_6, zss_7, zss_8, zss_9, zss_10, zpg_0, zpg_1, zpg_2, zpg_3, zpg_4, zcg_0, zcg_1, zcg_2, zcg_3, zlg_0, zlg_1, zlg_2, zlg_3, zgg_0, zgg_1, zgg_2, zgg_3, zgg_4, zpp_4, zcp_3, zlp_3, zgp_4, zmg_0, zmg_1, zmg_2, zmg_3, zmg_4, zmg_5, zms_0, zms_1, zms_2, zms_3, zms_4, zms_5, zald_vc, zast_vc, zldr_r1, zcw_mir, mput_zset, mput_self, vw_m, zaln_vc, vsh_ap, zup_self, zup_two, zcw_2, zcw_3, zcw_4, zcw_5, zcw_6, zcw_7, zcw_8, zcw_9, zcw_10, zcw_11, zcw_13, zcw_14, zcw_15, zcw_16, zcw_17, zcw_18, zcw_19, zcw_20, zcw_21, zcw_22, zcw_12n, vr_3, vr_4, vr_5, vr_7, vr_8, vr_9, vr_12, vr_13, vr_15, vr_16, vr_17, vr_19, vr_20, vr_21, vr_22, zcw_s0, zcw_s1, zcw_s5, zcw_s6, zcw_s7, zcs_o, hM]
  rw [e51_2]
  simp (disch := omega) only [e51_0, e51_1, e51_3, e51_4, e51_7, e51_8, e51_11, e51_12, e51_13, e51_14, e51_17, e51_18, e51_19, e51_22, e51_25, e51_29, e51_32, e51_33, e51_36, e51_39, e51_40, e51_43, e51_44, e51_47, e51_50, e51_51, e51_54, e51_55, e51_58, e51_61, e51_62, e51_65, e51_66, e51_69, e51_72, e51_73, e51_76, e51_77, e51_80, e51_83, e51_84, e51_85, e51_88, e51_91, e51_92, e51_93, e51_96, e51_99, e51_100, e51_101, e51_104, e51_107, e51_108, e51_109, e51_112, e51_115, e51_116, e51_117, e51_120, e51_123, zi_add, zi_sub, zi_mul, zl_add, zl_sub, zl_mul, zl_i, zi_l, zi_lt, zi_le, zi_eq, zl_lt, zl_le, zl_eq, zlc_lt, zlc_le, zlc_gt, zlc_ge, zlc_eq, zi_ne0, zl_ne0, zi_div, zl_div, zi_rem, zl_rem, zcat_nil, zcat_int, zcat_ref, zcat_long, zkill_int, zkill_ref, zkill_long, zkill_J, zkill2, zto_some, zto_none, znb0, znb1, zB_some, zbr_t, zbr_f, not_true_eq_false, not_false_eq_true, true_imp_iff, false_imp_iff, true_and, and_true, Nat.reduceAdd, Nat.reduceLeDiff, Int.reduceAdd, Int.reduceSub, Int.reduceMul, Int.reduceNeg, zisC_inr, zget_inr, zsetf_inr, zldl_row, zald_row, zstl_row, zast_row, List.getElem?_cons_zero, List.getElem?_cons_succ, List.length_cons, List.length_nil, List.set_cons_zero, List.set_cons_succ, zcs_0, zcs_1, zcs_2, zcs_3, zcs_4, zcs_5, zcs_6, zcs_7, zcs_8, zcs_9, zcs_10, zcs_11, zcs_12, zcs_13, zcs_14, zcs_15, zcs_16, zcs_17, zcs_18, zcs_19, zcs_20, zcs_21, zcs_22, zcs_23, zcs_24, zcs_25, zcs_26, zcs_mir, zsk_s, zpk_, zck_, zlk_, zgk_, zmk_m, zsg_0, zsg_1, zsg_2, zsg_3, zsg_4, zsg_5, zsg_6, zsg_7, zsg_8, zsg_9, zsg_10, zss_6, zss_7, zss_8, zss_9, zss_10, zpg_0, zpg_1, zpg_2, zpg_3, zpg_4, zcg_0, zcg_1, zcg_2, zcg_3, zlg_0, zlg_1, zlg_2, zlg_3, zgg_0, zgg_1, zgg_2, zgg_3, zgg_4, zpp_4, zcp_3, zlp_3, zgp_4, zmg_0, zmg_1, zmg_2, zmg_3, zmg_4, zmg_5, zms_0, zms_1, zms_2, zms_3, zms_4, zms_5, zald_vc, zast_vc, zldr_r1, zcw_mir, mput_zset, mput_self, vw_m, zaln_vc, vsh_ap, zup_self, zup_two, zcw_2, zcw_3, zcw_4, zcw_5, zcw_6, zcw_7, zcw_8, zcw_9, zcw_10, zcw_11, zcw_13, zcw_14, zcw_15, zcw_16, zcw_17, zcw_18, zcw_19, zcw_20, zcw_21, zcw_22, zcw_12n, vr_3, vr_4, vr_5, vr_7, vr_8, vr_9, vr_12, vr_13, vr_15, vr_16, vr_17, vr_19, vr_20, vr_21, vr_22, zcw_s0, zcw_s1, zcw_s5, zcw_s6, zcw_s7, zcs_o, hM]
  rw [e51_2]
  simp (disch := omega) only [e51_0, e51_1, e51_3, e51_4, e51_7, e51_8, e51_11, e51_12, e51_13, e51_14, e51_17, e51_18, e51_19, e51_22, e51_25, e51_29, e51_32, e51_33, e51_36, e51_39, e51_40, e51_43, e51_44, e51_47, e51_50, e51_51, e51_54, e51_55, e51_58, e51_61, e51_62, e51_65, e51_66, e51_69, e51_72, e51_73, e51_76, e51_77, e51_80, e51_83, e51_84, e51_85, e51_88, e51_91, e51_92, e51_93, e51_96, e51_99, e51_100, e51_101, e51_104, e51_107, e51_108, e51_109, e51_112, e51_115, e51_116, e51_117, e51_120, e51_123, zi_add, zi_sub, zi_mul, zl_add, zl_sub, zl_mul, zl_i, zi_l, zi_lt, zi_le, zi_eq, zl_lt, zl_le, zl_eq, zlc_lt, zlc_le, zlc_gt, zlc_ge, zlc_eq, zi_ne0, zl_ne0, zi_div, zl_div, zi_rem, zl_rem, zcat_nil, zcat_int, zcat_ref, zcat_long, zkill_int, zkill_ref, zkill_long, zkill_J, zkill2, zto_some, zto_none, znb0, znb1, zB_some, zbr_t, zbr_f, not_true_eq_false, not_false_eq_true, true_imp_iff, false_imp_iff, true_and, and_true, Nat.reduceAdd, Nat.reduceLeDiff, Int.reduceAdd, Int.reduceSub, Int.reduceMul, Int.reduceNeg, zisC_inr, zget_inr, zsetf_inr, zldl_row, zald_row, zstl_row, zast_row, List.getElem?_cons_zero, List.getElem?_cons_succ, List.length_cons, List.length_nil, List.set_cons_zero, List.set_cons_succ, zcs_0, zcs_1, zcs_2, zcs_3, zcs_4, zcs_5, zcs_6, zcs_7, zcs_8, zcs_9, zcs_10, zcs_11, zcs_12, zcs_13, zcs_14, zcs_15, zcs_16, zcs_17, zcs_18, zcs_19, zcs_20, zcs_21, zcs_22, zcs_23, zcs_24, zcs_25, zcs_26, zcs_mir, zsk_s, zpk_, zck_, zlk_, zgk_, zmk_m, zsg_0, zsg_1, zsg_2, zsg_3, zsg_4, zsg_5, zsg_6, zsg_7, zsg_8, zsg_9, zsg_10, zss_6, zss_7, zss_8, zss_9, zss_10, zpg_0, zpg_1, zpg_2, zpg_3, zpg_4, zcg_0, zcg_1, zcg_2, zcg_3, zlg_0, zlg_1, zlg_2, zlg_3, zgg_0, zgg_1, zgg_2, zgg_3, zgg_4, zpp_4, zcp_3, zlp_3, zgp_4, zmg_0, zmg_1, zmg_2, zmg_3, zmg_4, zmg_5, zms_0, zms_1, zms_2, zms_3, zms_4, zms_5, zald_vc, zast_vc, zldr_r1, zcw_mir, mput_zset, mput_self, vw_m, zaln_vc, vsh_ap, zup_self, zup_two, zcw_2, zcw_3, zcw_4, zcw_5, zcw_6, zcw_7, zcw_8, zcw_9, zcw_10, zcw_11, zcw_13, zcw_14, zcw_15, zcw_16, zcw_17, zcw_18, zcw_19, zcw_20, zcw_21, zcw_22, zcw_12n, vr_3, vr_4, vr_5, vr_7, vr_8, vr_9, vr_12, vr_13, vr_15, vr_16, vr_17, vr_19, vr_20, vr_21, vr_22, zcw_s0, zcw_s1, zcw_s5, zcw_s6, zcw_s7, zcs_o, hM]
  rw [e51_2]
  simp (maxSteps := 4000000) (disch := omega) only [e51_0, e51_1, e51_3, e51_4, e51_7, e51_8, e51_11, e51_12, e51_13, e51_14, e51_17, e51_18, e51_19, e51_22, e51_25, e51_28, e51_29, e51_32, e51_33, e51_36, e51_39, e51_40, e51_43, e51_44, e51_47, e51_50, e51_51, e51_54, e51_55, e51_58, e51_61, e51_62, e51_65, e51_66, e51_69, e51_72, e51_73, e51_76, e51_77, e51_80, e51_83, e51_84, e51_85, e51_88, e51_91, e51_92, e51_93, e51_96, e51_99, e51_100, e51_101, e51_104, e51_107, e51_108, e51_109, e51_112, e51_115, e51_116, e51_117, e51_120, e51_123, e33_0, e33_1, e33_4, e33_5, e33_6, e33_9, e33_10, e33_12, e33_15, e33_16, e33_19, e33_20, e33_21, e33_24, e33_25, e33_27, e33_30, e33_31, e33_34, e33_35, e33_36, e33_39, e33_40, e33_42, e33_45, e33_46, e33_47, e33_50, e33_53, e1_0, e1_1, e1_4, e1_5, e1_6, e1_9, e1_10, e1_12, e1_15, e1_16, e1_19, e1_20, e1_21, e1_24, e1_25, e1_26, e1_29, e1_30, e1_33, e1_34, e1_35, e1_38, e1_39, e1_40, e1_43, e1_44, e1_45, e1_48, e1_51, e38_0, e38_1, e38_4, e38_5, e38_6, e38_9, e38_10, e38_12, e38_15, e38_16, e38_19, e38_20, e38_21, e38_24, e38_25, e38_27, e38_30, e38_31, e38_34, e38_35, e38_36, e38_39, e38_40, e38_42, e38_45, e38_46, e38_47, e38_50, e38_53, e22_0, e22_1, e22_4, e22_5, e22_6, e22_9, e22_10, e22_12, e22_15, e22_16, e22_19, e22_20, e22_21, e22_24, e22_25, e22_27, e22_30, e22_31, e22_34, e22_35, e22_36, e22_39, e22_40, e22_42, e22_45, e22_46, e22_49, e22_50, e22_51, e22_54, e22_55, e22_57, e22_60, e22_61, e22_62, e22_65, e22_68, zi_add, zi_sub, zi_mul, zl_add, zl_sub, zl_mul, zl_i, zi_l, zi_lt, zi_le, zi_eq, zl_lt, zl_le, zl_eq, zlc_lt, zlc_le, zlc_gt, zlc_ge, zlc_eq, zi_ne0, zl_ne0, zi_div, zl_div, zi_rem, zl_rem, zcat_nil, zcat_int, zcat_ref, zcat_long, zkill_int, zkill_ref, zkill_long, zkill_J, zkill2, zto_some, zto_none, znb0, znb1, zB_some, zbr_t, zbr_f, not_true_eq_false, not_false_eq_true, true_imp_iff, false_imp_iff, true_and, and_true, Nat.reduceAdd, Nat.reduceLeDiff, Int.reduceAdd, Int.reduceSub, Int.reduceMul, Int.reduceNeg, zisC_inr, zget_inr, zsetf_inr, zldl_row, zald_row, zstl_row, zast_row, List.getElem?_cons_zero, List.getElem?_cons_succ, List.length_cons, List.length_nil, List.set_cons_zero, List.set_cons_succ, zcs_0, zcs_1, zcs_2, zcs_3, zcs_4, zcs_5, zcs_6, zcs_7, zcs_8, zcs_9, zcs_10, zcs_11, zcs_12, zcs_13, zcs_14, zcs_15, zcs_16, zcs_17, zcs_18, zcs_19, zcs_20, zcs_21, zcs_22, zcs_23, zcs_24, zcs_25, zcs_26, zcs_mir, zsk_s, zpk_, zck_, zlk_, zgk_, zmk_m, zsg_0, zsg_1, zsg_2, zsg_3, zsg_4, zsg_5, zsg_6, zsg_7, zsg_8, zsg_9, zsg_10, zss_6, zss_7, zss_8, zss_9, zss_10, zpg_0, zpg_1, zpg_2, zpg_3, zpg_4, zcg_0, zcg_1, zcg_2, zcg_3, zlg_0, zlg_1, zlg_2, zlg_3, zgg_0, zgg_1, zgg_2, zgg_3, zgg_4, zpp_4, zcp_3, zlp_3, zgp_4, zmg_0, zmg_1, zmg_2, zmg_3, zmg_4, zmg_5, zms_0, zms_1, zms_2, zms_3, zms_4, zms_5, zald_vc, zast_vc, zldr_r1, zcw_mir, mput_zset, mput_self, vw_m, zaln_vc, vsh_ap, zup_self, zup_two, zcw_2, zcw_3, zcw_4, zcw_5, zcw_6, zcw_7, zcw_8, zcw_9, zcw_10, zcw_11, zcw_13, zcw_14, zcw_15, zcw_16, zcw_17, zcw_18, zcw_19, zcw_20, zcw_21, zcw_22, zcw_12n, vr_3, vr_4, vr_5, vr_7, vr_8, vr_9, vr_12, vr_13, vr_15, vr_16, vr_17, vr_19, vr_20, vr_21, vr_22, zcw_s0, zcw_s1, zcw_s5, zcw_s6, zcw_s7, zcpy_vc, zcy_3, zcy_4, zcy_5, zcy_7, zcy_8, zcy_9, zcy_11, zcy_12, zcy_13, zcy_15, zcy_16, zcy_17, zcy_19, zcy_20, zcy_21, zcy_22, zcs_o]
  refine iff_of_eq (congrArg (K none z) (zcs_ext2 fun i hi => ?_))
  refine zset_q fun a7 => zset_q fun a6 => zset_q fun a5 => zset_q fun a0 => zset_q fun a1 => zset_q fun a4 => mx_q fun b22 => mx_q fun b21 => mx_q fun b20 => mx_q fun b19 => zset_q fun a3 => mx_q fun b17 => mx_q fun b16 => mx_q fun b15 => zset_q fun a2 => mx_q fun b13 => mx_q fun b12 => mx_q fun b11 => zset_q fun a9 => mx_q fun b9 => mx_q fun b8 => mx_q fun b7 => zset_q fun a8 => mx_q fun b5 => mx_q fun b4 => mx_q fun b3 => mput_q rfl fun m3 => mput_q rfl fun m2 => mput_q rfl fun m1 => mput_q rfl fun m0 => ?_
  have hz := zow_cov hi
  omega
end CM8
