/-! the class: its history and its snapshots -/
theorem zldr_r27 {t n a : Nat} {i : Int} (ht : t = 4 ∨ t = 5) (h1 : 0 ≤ i) (h2 : i < n) (h3 : n < 2147483648) : zldr (zi i) (zra t n a 27) = some (.ref (a + 27 * i.toNat)) := zldr_ra ht h1 h2 h3
def kpush (κ : Nat → Int → Int) (τ : Int → Int) : Nat → Int → Int := zst (zst κ (1 + (κ 20 0).toNat) τ) 20 (zset (zset (κ 20) 0 ((κ 20 0 + 1) % 6)) 1 (if 6 < κ 20 1 + 1 then 6 else κ 20 1 + 1))
def kpop (κ : Nat → Int → Int) : Nat → Int → Int := zst κ 20 (zset (zset (κ 20) 0 ((κ 20 0 + 5) % 6)) 1 (κ 20 1 - 1))
/-- the history's numbers are in their ranges -/
def kH (κ : Nat → Int → Int) : Prop := (0 ≤ κ 20 0 ∧ κ 20 0 < 6) ∧ (0 ≤ κ 20 1 ∧ κ 20 1 ≤ 6) ∧ (κ 20 2 = 0 ∨ κ 20 2 = 1)
section PL1
variable {z : zZ} {h : zH} {K : Option Value → zZ → zH → Prop} {p : Nat} {κ : Nat → Int → Int} {τ : Int → Int}
theorem c_toRing {i : Nat} (hi : i < 6) : zG 51 0 [.ref (p + 30 + 27 * i), .ref (p + 1), zJ] [] z (zcs (zpr h p κ) (p + 1) τ) K ↔ K none z (zcs (zpr h p (zst κ (1 + i) τ)) (p + 1) τ) := by
  have e : zcs (zpr h p κ) (p + 1) τ = zcs (zcs (zpr h p κ) (p + 1) τ) (p + 30 + 27 * i) (κ (1 + i)) := by rw [zcs_comm (by omega), zpr_ring hi, zst_self]
  rw [e, c_scopy (by omega), zcs_comm (by omega), zpr_ring hi]
theorem c_ofRing {i : Nat} (hi : i < 6) : zG 51 0 [.ref (p + 1), .ref (p + 30 + 27 * i), zJ] [] z (zcs (zpr h p κ) (p + 1) τ) K ↔ K none z (zcs (zpr h p κ) (p + 1) (κ (1 + i))) := by
  have e : zcs (zpr h p κ) (p + 1) τ = zcs (zcs (zpr h p κ) (p + 30 + 27 * i) (κ (1 + i))) (p + 1) τ := by rw [zpr_ring hi, zst_self]
  rw [e, c_scopy (by omega), zpr_ring hi, zst_self]
theorem c_toSnap {i : Nat} (hi : i < 2) : zG 51 0 [.ref (p + 195 + 27 * i), .ref (p + 1), zJ] [] z (zcs (zpr h p κ) (p + 1) τ) K ↔ K none z (zcs (zpr h p (zst κ (7 + i) τ)) (p + 1) τ) := by
  have e : zcs (zpr h p κ) (p + 1) τ = zcs (zcs (zpr h p κ) (p + 1) τ) (p + 195 + 27 * i) (κ (7 + i)) := by rw [zcs_comm (by omega), zpr_snap hi, zst_self]
  rw [e, c_scopy (by omega), zcs_comm (by omega), zpr_snap hi]
theorem c_ofSnap {i : Nat} (hi : i < 2) : zG 51 0 [.ref (p + 1), .ref (p + 195 + 27 * i), zJ] [] z (zcs (zpr h p κ) (p + 1) τ) K ↔ K none z (zcs (zpr h p κ) (p + 1) (κ (7 + i))) := by
  have e : zcs (zpr h p κ) (p + 1) τ = zcs (zcs (zpr h p κ) (p + 195 + 27 * i) (κ (7 + i))) (p + 1) τ := by rw [zpr_snap hi, zst_self]
  rw [e, c_scopy (by omega), zpr_snap hi, zst_self]
theorem zpr_rs {i : Nat} (hi : i < 6) : zpr h p κ (p + 30 + 27 * i) = zsob (p + 30 + 27 * i) (κ (1 + i)) := by
  have e : zpr h p κ = zcs (zpr h p κ) (p + 30 + 27 * i) (κ (1 + i)) := by rw [zpr_ring hi, zst_self]
  rw [e, zcs_0]
theorem zpr_ns {i : Nat} (hi : i < 2) : zpr h p κ (p + 195 + 27 * i) = zsob (p + 195 + 27 * i) (κ (7 + i)) := by
  have e : zpr h p κ = zcs (zpr h p κ) (p + 195 + 27 * i) (κ (7 + i)) := by rw [zpr_snap hi, zst_self]
  rw [e, zcs_0]
theorem c_push (hk : kH κ) (hp : κ 20 2 = 0) : zG 19 0 [.ref (p + 28), .ref (p + 1)] [] z (zcs (zpr h p κ) (p + 1) τ) K ↔ K none z (zcs (zpr h p (kpush κ τ)) (p + 1) τ) := by
  obtain ⟨h0, h1, h2⟩ := hk
  have e6 : (κ 20 0 + 1) - (κ 20 0 + 1) / 6 * 6 = (κ 20 0 + 1) % 6 := by omega
  have hc : ∀ K0 : Option Value → zZ → zH → Prop, zG 51 0 [.ref (p + 30 + 27 * (κ 20 0).toNat), .ref (p + 1), zJ] [] z (zcs (zpr h p κ) (p + 1) τ) K0 ↔ K0 none z (zcs (zpr h p (zst κ (1 + (κ 20 0).toNat) τ)) (p + 1) τ) := fun K0 => c_toRing (by omega)
  have e20 : zst κ (1 + (κ 20 0).toNat) τ 20 = κ 20 := by rw [zst_ap, if_neg (by omega)]
  unfold kpush
  simp (disch := omega) only [e19_0, e19_1, e19_4, e19_7, e19_8, e19_9, e19_12, e19_13, e19_16, e19_17, e19_18, e19_21, e19_22, e19_23, e19_26, e19_27, e19_28, e19_30, e19_31, e19_34, e19_35, e19_36, e19_39, e19_40, e19_41, e19_43, e19_46, e19_49, zi_add, zi_sub, zi_mul, zl_add, zl_sub, zl_mul, zl_i, zi_l, zi_lt, zi_le, zi_eq, zl_lt, zl_le, zl_eq, zlc_lt, zlc_le, zlc_gt, zlc_ge, zlc_eq, zi_ne0, zl_ne0, zi_div, zl_div, zi_rem, zl_rem, zcat_nil, zcat_int, zcat_ref, zcat_long, zkill_int, zkill_ref, zkill_long, zkill_J, zkill2, zto_some, zto_none, znb0, znb1, zB_some, zbr_t, zbr_f, not_true_eq_false, not_false_eq_true, true_imp_iff, false_imp_iff, true_and, and_true, Nat.reduceAdd, Nat.reduceLeDiff, Int.reduceAdd, Int.reduceSub, Int.reduceMul, Int.reduceNeg, zisC_inr, zget_inr, zsetf_inr, zldl_row, zald_row, zstl_row, zast_row, List.getElem?_cons_zero, List.getElem?_cons_succ, List.length_cons, List.length_nil, List.set_cons_zero, List.set_cons_succ, zcs_0, zcs_1, zcs_2, zcs_3, zcs_4, zcs_5, zcs_6, zcs_7, zcs_8, zcs_9, zcs_10, zcs_11, zcs_12, zcs_13, zcs_14, zcs_15, zcs_16, zcs_17, zcs_18, zcs_19, zcs_20, zcs_21, zcs_22, zcs_23, zcs_24, zcs_25, zcs_26, zcs_mir, zsk_s, zpk_, zck_, zlk_, zgk_, zmk_m, zsg_0, zsg_1, zsg_2, zsg_3, zsg_4, zsg_5, zsg_6, zsg_7, zsg_8, zsg_9, zsg_10, zss_6, zss_7, zss_8, zss_9, zss_10, zpg_0, zpg_1, zpg_2, zpg_3, zpg_4, zcg_0, zcg_1, zcg_2, zcg_3, zlg_0, zlg_1, zlg_2, zlg_3, zgg_0, zgg_1, zgg_2, zgg_3, zgg_4, zpp_4, zcp_3, zlp_3, zgp_4, zmg_0, zmg_1, zmg_2, zmg_3, zmg_4, zmg_5, zms_0, zms_1, zms_2, zms_3, zms_4, zms_5, zald_vc, zast_vc, zldr_r1, zcw_mir, mput_zset, mput_self, vw_m, zaln_vc, vsh_ap, zup_self, zup_two, zcw_2, zcw_3, zcw_4, zcw_5, zcw_6, zcw_7, zcw_8, zcw_9, zcw_10, zcw_11, zcw_13, zcw_14, zcw_15, zcw_16, zcw_17, zcw_18, zcw_19, zcw_20, zcw_21, zcw_22, zcw_12n, vr_3, vr_4, vr_5, vr_7, vr_8, vr_9, vr_12, vr_13, vr_15, vr_16, vr_17, vr_19, vr_20, vr_21, vr_22, zcw_s0, zcw_s1, zcw_s5, zcw_s6, zcw_s7, zpr_0, zpr_28, zpr_29, zpr_192, zpr_193, zpr_194, zpr_249, zpr_250, zpr_251, zpr_252, zpr_253, zpr_254, zpr_255, zpr_256, zpr_257, zpr_258, zpr_259, zpw_0, zpw_28, zpw_194, zpw_249, zpw_250, zpw_251, zpw_252, zpw_253, zpw_254, zpw_255, zpw_256, zpw_257, zpw_258, zpw_259, zk_po, zk_ho, zk_oo, zk_fo, zk_so, zg_so0, zg_so1, zg_po0, zg_po1, zg_po2, zg_po3, zg_po4, zg_po5, zg_po6, zg_po7, zg_ho0, zg_ho1, zg_ho2, zg_ho3, zg_oo0, zg_oo1, zg_oo2, zg_oo3, zg_oo4, zg_oo5, zg_fo0, zg_fo1, zg_fo2, zg_fo3, zg_fo4, zg_fo5, zg_fo6, zg_fo7, zs_po5, zs_po6, zs_po7, zs_ho1, zs_ho2, zs_ho3_0, zs_ho3_1, zs_oo2, zs_oo3, zs_oo4, zs_oo5_0, zs_oo5_1, zs_fo7, zcs_o, zcs_up, zast_vcb, zast_vcc, zldr_r27, zpr_rs, hp, hc, e20, e6, ↓zi_mn, zst_zst, zst_zst, zst_ap, zset_ap, reduceIte, Nat.reduceEqDiff, Nat.zero_ne_one, Nat.one_ne_zero, Int.reduceEq]
theorem c_pushP (hk : kH κ) (hp : κ 20 2 = 1) : zG 19 0 [.ref (p + 28), .ref (p + 1)] [] z (zcs (zpr h p κ) (p + 1) τ) K ↔ K none z (zcs (zpr h p κ) (p + 1) τ) := by
  simp (disch := omega) only [e19_0, e19_1, e19_4, e19_7, e19_8, e19_9, e19_12, e19_13, e19_16, e19_17, e19_18, e19_21, e19_22, e19_23, e19_26, e19_27, e19_28, e19_30, e19_31, e19_34, e19_35, e19_36, e19_39, e19_40, e19_41, e19_43, e19_46, e19_49, zi_add, zi_sub, zi_mul, zl_add, zl_sub, zl_mul, zl_i, zi_l, zi_lt, zi_le, zi_eq, zl_lt, zl_le, zl_eq, zlc_lt, zlc_le, zlc_gt, zlc_ge, zlc_eq, zi_ne0, zl_ne0, zi_div, zl_div, zi_rem, zl_rem, zcat_nil, zcat_int, zcat_ref, zcat_long, zkill_int, zkill_ref, zkill_long, zkill_J, zkill2, zto_some, zto_none, znb0, znb1, zB_some, zbr_t, zbr_f, not_true_eq_false, not_false_eq_true, true_imp_iff, false_imp_iff, true_and, and_true, Nat.reduceAdd, Nat.reduceLeDiff, Int.reduceAdd, Int.reduceSub, Int.reduceMul, Int.reduceNeg, zisC_inr, zget_inr, zsetf_inr, zldl_row, zald_row, zstl_row, zast_row, List.getElem?_cons_zero, List.getElem?_cons_succ, List.length_cons, List.length_nil, List.set_cons_zero, List.set_cons_succ, zcs_0, zcs_1, zcs_2, zcs_3, zcs_4, zcs_5, zcs_6, zcs_7, zcs_8, zcs_9, zcs_10, zcs_11, zcs_12, zcs_13, zcs_14, zcs_15, zcs_16, zcs_17, zcs_18, zcs_19, zcs_20, zcs_21, zcs_22, zcs_23, zcs_24, zcs_25, zcs_26, zcs_mir, zsk_s, zpk_, zck_, zlk_, zgk_, zmk_m, zsg_0, zsg_1, zsg_2, zsg_3, zsg_4, zsg_5, zsg_6, zsg_7, zsg_8, zsg_9, zsg_10, zss_6, zss_7, zss_8, zss_9, zss_10, zpg_0, zpg_1, zpg_2, zpg_3, zpg_4, zcg_0, zcg_1, zcg_2, zcg_3, zlg_0, zlg_1, zlg_2, zlg_3, zgg_0, zgg_1, zgg_2, zgg_3, zgg_4, zpp_4, zcp_3, zlp_3, zgp_4, zmg_0, zmg_1, zmg_2, zmg_3, zmg_4, zmg_5, zms_0, zms_1, zms_2, zms_3, zms_4, zms_5, zald_vc, zast_vc, zldr_r1, zcw_mir, mput_zset, mput_self, vw_m, zaln_vc, vsh_ap, zup_self, zup_two, zcw_2, zcw_3, zcw_4, zcw_5, zcw_6, zcw_7, zcw_8, zcw_9, zcw_10, zcw_11, zcw_13, zcw_14, zcw_15, zcw_16, zcw_17, zcw_18, zcw_19, zcw_20, zcw_21, zcw_22, zcw_12n, vr_3, vr_4, vr_5, vr_7, vr_8, vr_9, vr_12, vr_13, vr_15, vr_16, vr_17, vr_19, vr_20, vr_21, vr_22, zcw_s0, zcw_s1, zcw_s5, zcw_s6, zcw_s7, zpr_0, zpr_28, zpr_29, zpr_192, zpr_193, zpr_194, zpr_249, zpr_250, zpr_251, zpr_252, zpr_253, zpr_254, zpr_255, zpr_256, zpr_257, zpr_258, zpr_259, zpw_0, zpw_28, zpw_194, zpw_249, zpw_250, zpw_251, zpw_252, zpw_253, zpw_254, zpw_255, zpw_256, zpw_257, zpw_258, zpw_259, zk_po, zk_ho, zk_oo, zk_fo, zk_so, zg_so0, zg_so1, zg_po0, zg_po1, zg_po2, zg_po3, zg_po4, zg_po5, zg_po6, zg_po7, zg_ho0, zg_ho1, zg_ho2, zg_ho3, zg_oo0, zg_oo1, zg_oo2, zg_oo3, zg_oo4, zg_oo5, zg_fo0, zg_fo1, zg_fo2, zg_fo3, zg_fo4, zg_fo5, zg_fo6, zg_fo7, zs_po5, zs_po6, zs_po7, zs_ho1, zs_ho2, zs_ho3_0, zs_ho3_1, zs_oo2, zs_oo3, zs_oo4, zs_oo5_0, zs_oo5_1, zs_fo7, zcs_o, zcs_up, zast_vcb, zast_vcc, zldr_r27, hp]
theorem c_latest (hk : kH κ) (hp : κ 20 1 ≠ 0) : zG 20 0 [.ref (p + 28), .ref (p + 1)] [] z (zcs (zpr h p κ) (p + 1) τ) K ↔ K none z (zcs (zpr h p (kpop κ)) (p + 1) (κ (1 + ((κ 20 0 + 5) % 6).toNat))) := by
  obtain ⟨h0, h1, h2⟩ := hk
  have e6 : (κ 20 0 + 6 - 1) - (κ 20 0 + 6 - 1) / 6 * 6 = (κ 20 0 + 5) % 6 := by omega
  have hb : 0 ≤ (κ 20 0 + 5) % 6 ∧ (κ 20 0 + 5) % 6 < 6 := by omega
  have hc : ∀ K0 : Option Value → zZ → zH → Prop, zG 51 0 [.ref (p + 1), .ref (p + 30 + 27 * ((κ 20 0 + 5) % 6).toNat), zJ] [] z (zcs (zpr h p (kpop κ)) (p + 1) τ) K0 ↔ K0 none z (zcs (zpr h p (kpop κ)) (p + 1) (κ (1 + ((κ 20 0 + 5) % 6).toNat))) := fun K0 => by
    rw [c_ofRing (by omega)]
    have : kpop κ (1 + ((κ 20 0 + 5) % 6).toNat) = κ (1 + ((κ 20 0 + 5) % 6).toNat) := by
      unfold kpop
      rw [zst_ap, if_neg (by omega)]
    rw [this]
  have eK : zst κ 20 (zset (zset (κ 20) 0 ((κ 20 0 + 5) % 6)) 1 (κ 20 1 - 1)) = kpop κ := rfl
  have eN : kpop κ 20 0 = (κ 20 0 + 5) % 6 := rfl
  simp (disch := omega) only [e20_0, e20_1, e20_4, e20_7, e20_8, e20_9, e20_10, e20_13, e20_15, e20_16, e20_17, e20_18, e20_20, e20_21, e20_24, e20_25, e20_26, e20_29, e20_30, e20_31, e20_34, e20_35, e20_36, e20_39, e20_40, e20_43, e20_44, e20_47, zi_add, zi_sub, zi_mul, zl_add, zl_sub, zl_mul, zl_i, zi_l, zi_lt, zi_le, zi_eq, zl_lt, zl_le, zl_eq, zlc_lt, zlc_le, zlc_gt, zlc_ge, zlc_eq, zi_ne0, zl_ne0, zi_div, zl_div, zi_rem, zl_rem, zcat_nil, zcat_int, zcat_ref, zcat_long, zkill_int, zkill_ref, zkill_long, zkill_J, zkill2, zto_some, zto_none, znb0, znb1, zB_some, zbr_t, zbr_f, not_true_eq_false, not_false_eq_true, true_imp_iff, false_imp_iff, true_and, and_true, Nat.reduceAdd, Nat.reduceLeDiff, Int.reduceAdd, Int.reduceSub, Int.reduceMul, Int.reduceNeg, zisC_inr, zget_inr, zsetf_inr, zldl_row, zald_row, zstl_row, zast_row, List.getElem?_cons_zero, List.getElem?_cons_succ, List.length_cons, List.length_nil, List.set_cons_zero, List.set_cons_succ, zcs_0, zcs_1, zcs_2, zcs_3, zcs_4, zcs_5, zcs_6, zcs_7, zcs_8, zcs_9, zcs_10, zcs_11, zcs_12, zcs_13, zcs_14, zcs_15, zcs_16, zcs_17, zcs_18, zcs_19, zcs_20, zcs_21, zcs_22, zcs_23, zcs_24, zcs_25, zcs_26, zcs_mir, zsk_s, zpk_, zck_, zlk_, zgk_, zmk_m, zsg_0, zsg_1, zsg_2, zsg_3, zsg_4, zsg_5, zsg_6, zsg_7, zsg_8, zsg_9, zsg_10, zss_6, zss_7, zss_8, zss_9, zss_10, zpg_0, zpg_1, zpg_2, zpg_3, zpg_4, zcg_0, zcg_1, zcg_2, zcg_3, zlg_0, zlg_1, zlg_2, zlg_3, zgg_0, zgg_1, zgg_2, zgg_3, zgg_4, zpp_4, zcp_3, zlp_3, zgp_4, zmg_0, zmg_1, zmg_2, zmg_3, zmg_4, zmg_5, zms_0, zms_1, zms_2, zms_3, zms_4, zms_5, zald_vc, zast_vc, zldr_r1, zcw_mir, mput_zset, mput_self, vw_m, zaln_vc, vsh_ap, zup_self, zup_two, zcw_2, zcw_3, zcw_4, zcw_5, zcw_6, zcw_7, zcw_8, zcw_9, zcw_10, zcw_11, zcw_13, zcw_14, zcw_15, zcw_16, zcw_17, zcw_18, zcw_19, zcw_20, zcw_21, zcw_22, zcw_12n, vr_3, vr_4, vr_5, vr_7, vr_8, vr_9, vr_12, vr_13, vr_15, vr_16, vr_17, vr_19, vr_20, vr_21, vr_22, zcw_s0, zcw_s1, zcw_s5, zcw_s6, zcw_s7, zpr_0, zpr_28, zpr_29, zpr_192, zpr_193, zpr_194, zpr_249, zpr_250, zpr_251, zpr_252, zpr_253, zpr_254, zpr_255, zpr_256, zpr_257, zpr_258, zpr_259, zpw_0, zpw_28, zpw_194, zpw_249, zpw_250, zpw_251, zpw_252, zpw_253, zpw_254, zpw_255, zpw_256, zpw_257, zpw_258, zpw_259, zk_po, zk_ho, zk_oo, zk_fo, zk_so, zg_so0, zg_so1, zg_po0, zg_po1, zg_po2, zg_po3, zg_po4, zg_po5, zg_po6, zg_po7, zg_ho0, zg_ho1, zg_ho2, zg_ho3, zg_oo0, zg_oo1, zg_oo2, zg_oo3, zg_oo4, zg_oo5, zg_fo0, zg_fo1, zg_fo2, zg_fo3, zg_fo4, zg_fo5, zg_fo6, zg_fo7, zs_po5, zs_po6, zs_po7, zs_ho1, zs_ho2, zs_ho3_0, zs_ho3_1, zs_oo2, zs_oo3, zs_oo4, zs_oo5_0, zs_oo5_1, zs_fo7, zcs_o, zcs_up, zast_vcb, zast_vcc, zldr_r27, e6, zst_zst, zst_zst, zst_ap, zset_ap, reduceIte, Nat.reduceEqDiff, Nat.zero_ne_one, Nat.one_ne_zero, Int.reduceEq, eK, eN, hc]
theorem c_nhas {s : Int} (hs : zI s) {H : zH} {a : Nat} : zG 46 0 [.ref a, .int (zi s)] [] z H K ↔ (0 ≤ s ∧ s ≤ 1 → K (some (.int (zi 1))) z H) ∧ (¬ (0 ≤ s ∧ s ≤ 1) → K (some (.int (zi 0))) z H) := by
  unfold zI at hs
  by_cases q1 : s < 0
  · rw [zbr_f (show ¬ (0 ≤ s ∧ s ≤ 1) by omega)]
    simp (disch := omega) only [e46_0, e46_1, e46_4, e46_5, e46_6, e46_9, e46_10, e46_13, e46_14, zi_add, zi_sub, zi_mul, zl_add, zl_sub, zl_mul, zl_i, zi_l, zi_lt, zi_le, zi_eq, zl_lt, zl_le, zl_eq, zlc_lt, zlc_le, zlc_gt, zlc_ge, zlc_eq, zi_ne0, zl_ne0, zi_div, zl_div, zi_rem, zl_rem, zcat_nil, zcat_int, zcat_ref, zcat_long, zkill_int, zkill_ref, zkill_long, zkill_J, zkill2, zto_some, zto_none, znb0, znb1, zB_some, zbr_t, zbr_f, not_true_eq_false, not_false_eq_true, true_imp_iff, false_imp_iff, true_and, and_true, Nat.reduceAdd, Nat.reduceLeDiff, Int.reduceAdd, Int.reduceSub, Int.reduceMul, Int.reduceNeg, zisC_inr, zget_inr, zsetf_inr, zldl_row, zald_row, zstl_row, zast_row, List.getElem?_cons_zero, List.getElem?_cons_succ, List.length_cons, List.length_nil, List.set_cons_zero, List.set_cons_succ]
  · by_cases q2 : 2 ≤ s
    · rw [zbr_f (show ¬ (0 ≤ s ∧ s ≤ 1) by omega)]
      simp (disch := omega) only [e46_0, e46_1, e46_4, e46_5, e46_6, e46_9, e46_10, e46_13, e46_14, zi_add, zi_sub, zi_mul, zl_add, zl_sub, zl_mul, zl_i, zi_l, zi_lt, zi_le, zi_eq, zl_lt, zl_le, zl_eq, zlc_lt, zlc_le, zlc_gt, zlc_ge, zlc_eq, zi_ne0, zl_ne0, zi_div, zl_div, zi_rem, zl_rem, zcat_nil, zcat_int, zcat_ref, zcat_long, zkill_int, zkill_ref, zkill_long, zkill_J, zkill2, zto_some, zto_none, znb0, znb1, zB_some, zbr_t, zbr_f, not_true_eq_false, not_false_eq_true, true_imp_iff, false_imp_iff, true_and, and_true, Nat.reduceAdd, Nat.reduceLeDiff, Int.reduceAdd, Int.reduceSub, Int.reduceMul, Int.reduceNeg, zisC_inr, zget_inr, zsetf_inr, zldl_row, zald_row, zstl_row, zast_row, List.getElem?_cons_zero, List.getElem?_cons_succ, List.length_cons, List.length_nil, List.set_cons_zero, List.set_cons_succ]
    · rw [zbr_t (show 0 ≤ s ∧ s ≤ 1 by omega)]
      simp (disch := omega) only [e46_0, e46_1, e46_4, e46_5, e46_6, e46_9, e46_10, e46_13, e46_14, zi_add, zi_sub, zi_mul, zl_add, zl_sub, zl_mul, zl_i, zi_l, zi_lt, zi_le, zi_eq, zl_lt, zl_le, zl_eq, zlc_lt, zlc_le, zlc_gt, zlc_ge, zlc_eq, zi_ne0, zl_ne0, zi_div, zl_div, zi_rem, zl_rem, zcat_nil, zcat_int, zcat_ref, zcat_long, zkill_int, zkill_ref, zkill_long, zkill_J, zkill2, zto_some, zto_none, znb0, znb1, zB_some, zbr_t, zbr_f, not_true_eq_false, not_false_eq_true, true_imp_iff, false_imp_iff, true_and, and_true, Nat.reduceAdd, Nat.reduceLeDiff, Int.reduceAdd, Int.reduceSub, Int.reduceMul, Int.reduceNeg, zisC_inr, zget_inr, zsetf_inr, zldl_row, zald_row, zstl_row, zast_row, List.getElem?_cons_zero, List.getElem?_cons_succ, List.length_cons, List.length_nil, List.set_cons_zero, List.set_cons_succ]
theorem c_nhas1 {s : Int} (hs : 0 ≤ s ∧ s ≤ 1) {H : zH} {a : Nat} : zG 46 0 [.ref a, .int (zi s)] [] z H K ↔ K (some (.int (zi 1))) z H := by rw [c_nhas ⟨by omega, by omega⟩, zbr_t hs]
theorem c_isEmpty {s : Int} (hs : 0 ≤ s ∧ s ≤ 1) (ht : 0 ≤ κ 10 s ∧ κ 10 s ≤ 1) : zG 47 0 [.ref (p + 192), .int (zi s)] [] z (zcs (zpr h p κ) (p + 1) τ) K ↔ (κ 10 s = 0 → K (some (.int (zi 1))) z (zcs (zpr h p κ) (p + 1) τ)) ∧ (¬ κ 10 s = 0 → K (some (.int (zi 0))) z (zcs (zpr h p κ) (p + 1) τ)) := by
  by_cases c : κ 10 s = 0
  · rw [zbr_t c]
    simp (disch := omega) only [e47_0, e47_1, e47_2, e47_5, e47_8, e47_9, e47_12, e47_13, e47_14, e47_17, e47_18, e47_21, e47_22, zi_add, zi_sub, zi_mul, zl_add, zl_sub, zl_mul, zl_i, zi_l, zi_lt, zi_le, zi_eq, zl_lt, zl_le, zl_eq, zlc_lt, zlc_le, zlc_gt, zlc_ge, zlc_eq, zi_ne0, zl_ne0, zi_div, zl_div, zi_rem, zl_rem, zcat_nil, zcat_int, zcat_ref, zcat_long, zkill_int, zkill_ref, zkill_long, zkill_J, zkill2, zto_some, zto_none, znb0, znb1, zB_some, zbr_t, zbr_f, not_true_eq_false, not_false_eq_true, true_imp_iff, false_imp_iff, true_and, and_true, Nat.reduceAdd, Nat.reduceLeDiff, Int.reduceAdd, Int.reduceSub, Int.reduceMul, Int.reduceNeg, zisC_inr, zget_inr, zsetf_inr, zldl_row, zald_row, zstl_row, zast_row, List.getElem?_cons_zero, List.getElem?_cons_succ, List.length_cons, List.length_nil, List.set_cons_zero, List.set_cons_succ, zcs_0, zcs_1, zcs_2, zcs_3, zcs_4, zcs_5, zcs_6, zcs_7, zcs_8, zcs_9, zcs_10, zcs_11, zcs_12, zcs_13, zcs_14, zcs_15, zcs_16, zcs_17, zcs_18, zcs_19, zcs_20, zcs_21, zcs_22, zcs_23, zcs_24, zcs_25, zcs_26, zcs_mir, zsk_s, zpk_, zck_, zlk_, zgk_, zmk_m, zsg_0, zsg_1, zsg_2, zsg_3, zsg_4, zsg_5, zsg_6, zsg_7, zsg_8, zsg_9, zsg_10, zss_6, zss_7, zss_8, zss_9, zss_10, zpg_0, zpg_1, zpg_2, zpg_3, zpg_4, zcg_0, zcg_1, zcg_2, zcg_3, zlg_0, zlg_1, zlg_2, zlg_3, zgg_0, zgg_1, zgg_2, zgg_3, zgg_4, zpp_4, zcp_3, zlp_3, zgp_4, zmg_0, zmg_1, zmg_2, zmg_3, zmg_4, zmg_5, zms_0, zms_1, zms_2, zms_3, zms_4, zms_5, zald_vc, zast_vc, zldr_r1, zcw_mir, mput_zset, mput_self, vw_m, zaln_vc, vsh_ap, zup_self, zup_two, zcw_2, zcw_3, zcw_4, zcw_5, zcw_6, zcw_7, zcw_8, zcw_9, zcw_10, zcw_11, zcw_13, zcw_14, zcw_15, zcw_16, zcw_17, zcw_18, zcw_19, zcw_20, zcw_21, zcw_22, zcw_12n, vr_3, vr_4, vr_5, vr_7, vr_8, vr_9, vr_12, vr_13, vr_15, vr_16, vr_17, vr_19, vr_20, vr_21, vr_22, zcw_s0, zcw_s1, zcw_s5, zcw_s6, zcw_s7, zpr_0, zpr_28, zpr_29, zpr_192, zpr_193, zpr_194, zpr_249, zpr_250, zpr_251, zpr_252, zpr_253, zpr_254, zpr_255, zpr_256, zpr_257, zpr_258, zpr_259, zpw_0, zpw_28, zpw_194, zpw_249, zpw_250, zpw_251, zpw_252, zpw_253, zpw_254, zpw_255, zpw_256, zpw_257, zpw_258, zpw_259, zk_po, zk_ho, zk_oo, zk_fo, zk_so, zg_so0, zg_so1, zg_po0, zg_po1, zg_po2, zg_po3, zg_po4, zg_po5, zg_po6, zg_po7, zg_ho0, zg_ho1, zg_ho2, zg_ho3, zg_oo0, zg_oo1, zg_oo2, zg_oo3, zg_oo4, zg_oo5, zg_fo0, zg_fo1, zg_fo2, zg_fo3, zg_fo4, zg_fo5, zg_fo6, zg_fo7, zs_po5, zs_po6, zs_po7, zs_ho1, zs_ho2, zs_ho3_0, zs_ho3_1, zs_oo2, zs_oo3, zs_oo4, zs_oo5_0, zs_oo5_1, zs_fo7, zcs_o, zcs_up, zast_vcb, zast_vcc, zldr_r27, c_nhas1, c]
  · rw [zbr_f c]
    simp (disch := omega) only [e47_0, e47_1, e47_2, e47_5, e47_8, e47_9, e47_12, e47_13, e47_14, e47_17, e47_18, e47_21, e47_22, zi_add, zi_sub, zi_mul, zl_add, zl_sub, zl_mul, zl_i, zi_l, zi_lt, zi_le, zi_eq, zl_lt, zl_le, zl_eq, zlc_lt, zlc_le, zlc_gt, zlc_ge, zlc_eq, zi_ne0, zl_ne0, zi_div, zl_div, zi_rem, zl_rem, zcat_nil, zcat_int, zcat_ref, zcat_long, zkill_int, zkill_ref, zkill_long, zkill_J, zkill2, zto_some, zto_none, znb0, znb1, zB_some, zbr_t, zbr_f, not_true_eq_false, not_false_eq_true, true_imp_iff, false_imp_iff, true_and, and_true, Nat.reduceAdd, Nat.reduceLeDiff, Int.reduceAdd, Int.reduceSub, Int.reduceMul, Int.reduceNeg, zisC_inr, zget_inr, zsetf_inr, zldl_row, zald_row, zstl_row, zast_row, List.getElem?_cons_zero, List.getElem?_cons_succ, List.length_cons, List.length_nil, List.set_cons_zero, List.set_cons_succ, zcs_0, zcs_1, zcs_2, zcs_3, zcs_4, zcs_5, zcs_6, zcs_7, zcs_8, zcs_9, zcs_10, zcs_11, zcs_12, zcs_13, zcs_14, zcs_15, zcs_16, zcs_17, zcs_18, zcs_19, zcs_20, zcs_21, zcs_22, zcs_23, zcs_24, zcs_25, zcs_26, zcs_mir, zsk_s, zpk_, zck_, zlk_, zgk_, zmk_m, zsg_0, zsg_1, zsg_2, zsg_3, zsg_4, zsg_5, zsg_6, zsg_7, zsg_8, zsg_9, zsg_10, zss_6, zss_7, zss_8, zss_9, zss_10, zpg_0, zpg_1, zpg_2, zpg_3, zpg_4, zcg_0, zcg_1, zcg_2, zcg_3, zlg_0, zlg_1, zlg_2, zlg_3, zgg_0, zgg_1, zgg_2, zgg_3, zgg_4, zpp_4, zcp_3, zlp_3, zgp_4, zmg_0, zmg_1, zmg_2, zmg_3, zmg_4, zmg_5, zms_0, zms_1, zms_2, zms_3, zms_4, zms_5, zald_vc, zast_vc, zldr_r1, zcw_mir, mput_zset, mput_self, vw_m, zaln_vc, vsh_ap, zup_self, zup_two, zcw_2, zcw_3, zcw_4, zcw_5, zcw_6, zcw_7, zcw_8, zcw_9, zcw_10, zcw_11, zcw_13, zcw_14, zcw_15, zcw_16, zcw_17, zcw_18, zcw_19, zcw_20, zcw_21, zcw_22, zcw_12n, vr_3, vr_4, vr_5, vr_7, vr_8, vr_9, vr_12, vr_13, vr_15, vr_16, vr_17, vr_19, vr_20, vr_21, vr_22, zcw_s0, zcw_s1, zcw_s5, zcw_s6, zcw_s7, zpr_0, zpr_28, zpr_29, zpr_192, zpr_193, zpr_194, zpr_249, zpr_250, zpr_251, zpr_252, zpr_253, zpr_254, zpr_255, zpr_256, zpr_257, zpr_258, zpr_259, zpw_0, zpw_28, zpw_194, zpw_249, zpw_250, zpw_251, zpw_252, zpw_253, zpw_254, zpw_255, zpw_256, zpw_257, zpw_258, zpw_259, zk_po, zk_ho, zk_oo, zk_fo, zk_so, zg_so0, zg_so1, zg_po0, zg_po1, zg_po2, zg_po3, zg_po4, zg_po5, zg_po6, zg_po7, zg_ho0, zg_ho1, zg_ho2, zg_ho3, zg_oo0, zg_oo1, zg_oo2, zg_oo3, zg_oo4, zg_oo5, zg_fo0, zg_fo1, zg_fo2, zg_fo3, zg_fo4, zg_fo5, zg_fo6, zg_fo7, zs_po5, zs_po6, zs_po7, zs_ho1, zs_ho2, zs_ho3_0, zs_ho3_1, zs_oo2, zs_oo3, zs_oo4, zs_oo5_0, zs_oo5_1, zs_fo7, zcs_o, zcs_up, zast_vcb, zast_vcc, zldr_r27, c_nhas1]
theorem c_store {s : Int} (hs : 0 ≤ s ∧ s ≤ 1) : zG 48 0 [.ref (p + 192), .int (zi s), .ref (p + 1)] [] z (zcs (zpr h p κ) (p + 1) τ) K ↔ K none z (zcs (zpr h p (zst (zst κ (7 + s.toNat) τ) 10 (zset (κ 10) s 1))) (p + 1) τ) := by
  have hc : ∀ K0 : Option Value → zZ → zH → Prop, zG 51 0 [.ref (p + 195 + 27 * s.toNat), .ref (p + 1), zJ] [] z (zcs (zpr h p κ) (p + 1) τ) K0 ↔ K0 none z (zcs (zpr h p (zst κ (7 + s.toNat) τ)) (p + 1) τ) := fun K0 => c_toSnap (by omega)
  have e10 : zst κ (7 + s.toNat) τ 10 = κ 10 := by rw [zst_ap, if_neg (by omega)]
  simp (disch := omega) only [e48_0, e48_1, e48_2, e48_5, e48_8, e48_9, e48_12, e48_13, e48_14, e48_15, e48_18, e48_19, e48_22, e48_23, e48_24, e48_25, zi_add, zi_sub, zi_mul, zl_add, zl_sub, zl_mul, zl_i, zi_l, zi_lt, zi_le, zi_eq, zl_lt, zl_le, zl_eq, zlc_lt, zlc_le, zlc_gt, zlc_ge, zlc_eq, zi_ne0, zl_ne0, zi_div, zl_div, zi_rem, zl_rem, zcat_nil, zcat_int, zcat_ref, zcat_long, zkill_int, zkill_ref, zkill_long, zkill_J, zkill2, zto_some, zto_none, znb0, znb1, zB_some, zbr_t, zbr_f, not_true_eq_false, not_false_eq_true, true_imp_iff, false_imp_iff, true_and, and_true, Nat.reduceAdd, Nat.reduceLeDiff, Int.reduceAdd, Int.reduceSub, Int.reduceMul, Int.reduceNeg, zisC_inr, zget_inr, zsetf_inr, zldl_row, zald_row, zstl_row, zast_row, List.getElem?_cons_zero, List.getElem?_cons_succ, List.length_cons, List.length_nil, List.set_cons_zero, List.set_cons_succ, zcs_0, zcs_1, zcs_2, zcs_3, zcs_4, zcs_5, zcs_6, zcs_7, zcs_8, zcs_9, zcs_10, zcs_11, zcs_12, zcs_13, zcs_14, zcs_15, zcs_16, zcs_17, zcs_18, zcs_19, zcs_20, zcs_21, zcs_22, zcs_23, zcs_24, zcs_25, zcs_26, zcs_mir, zsk_s, zpk_, zck_, zlk_, zgk_, zmk_m, zsg_0, zsg_1, zsg_2, zsg_3, zsg_4, zsg_5, zsg_6, zsg_7, zsg_8, zsg_9, zsg_10, zss_6, zss_7, zss_8, zss_9, zss_10, zpg_0, zpg_1, zpg_2, zpg_3, zpg_4, zcg_0, zcg_1, zcg_2, zcg_3, zlg_0, zlg_1, zlg_2, zlg_3, zgg_0, zgg_1, zgg_2, zgg_3, zgg_4, zpp_4, zcp_3, zlp_3, zgp_4, zmg_0, zmg_1, zmg_2, zmg_3, zmg_4, zmg_5, zms_0, zms_1, zms_2, zms_3, zms_4, zms_5, zald_vc, zast_vc, zldr_r1, zcw_mir, mput_zset, mput_self, vw_m, zaln_vc, vsh_ap, zup_self, zup_two, zcw_2, zcw_3, zcw_4, zcw_5, zcw_6, zcw_7, zcw_8, zcw_9, zcw_10, zcw_11, zcw_13, zcw_14, zcw_15, zcw_16, zcw_17, zcw_18, zcw_19, zcw_20, zcw_21, zcw_22, zcw_12n, vr_3, vr_4, vr_5, vr_7, vr_8, vr_9, vr_12, vr_13, vr_15, vr_16, vr_17, vr_19, vr_20, vr_21, vr_22, zcw_s0, zcw_s1, zcw_s5, zcw_s6, zcw_s7, zpr_0, zpr_28, zpr_29, zpr_192, zpr_193, zpr_194, zpr_249, zpr_250, zpr_251, zpr_252, zpr_253, zpr_254, zpr_255, zpr_256, zpr_257, zpr_258, zpr_259, zpw_0, zpw_28, zpw_194, zpw_249, zpw_250, zpw_251, zpw_252, zpw_253, zpw_254, zpw_255, zpw_256, zpw_257, zpw_258, zpw_259, zk_po, zk_ho, zk_oo, zk_fo, zk_so, zg_so0, zg_so1, zg_po0, zg_po1, zg_po2, zg_po3, zg_po4, zg_po5, zg_po6, zg_po7, zg_ho0, zg_ho1, zg_ho2, zg_ho3, zg_oo0, zg_oo1, zg_oo2, zg_oo3, zg_oo4, zg_oo5, zg_fo0, zg_fo1, zg_fo2, zg_fo3, zg_fo4, zg_fo5, zg_fo6, zg_fo7, zs_po5, zs_po6, zs_po7, zs_ho1, zs_ho2, zs_ho3_0, zs_ho3_1, zs_oo2, zs_oo3, zs_oo4, zs_oo5_0, zs_oo5_1, zs_fo7, zcs_o, zcs_up, zast_vcb, zast_vcc, zldr_r27, c_nhas1, zpr_ns, hc, e10]
theorem c_fetch {s : Int} (hs : 0 ≤ s ∧ s ≤ 1) (ht : κ 10 s = 1) : zG 49 0 [.ref (p + 192), .int (zi s), .ref (p + 1)] [] z (zcs (zpr h p κ) (p + 1) τ) K ↔ K none z (zcs (zpr h p κ) (p + 1) (κ (7 + s.toNat))) := by
  have hc : ∀ K0 : Option Value → zZ → zH → Prop, zG 51 0 [.ref (p + 1), .ref (p + 195 + 27 * s.toNat), zJ] [] z (zcs (zpr h p κ) (p + 1) τ) K0 ↔ K0 none z (zcs (zpr h p κ) (p + 1) (κ (7 + s.toNat))) := fun K0 => c_ofSnap (by omega)
  have hE : ∀ K0 : Option Value → zZ → zH → Prop, zG 47 0 [.ref (p + 192), .int (zi s)] [] z (zcs (zpr h p κ) (p + 1) τ) K0 ↔ K0 (some (.int (zi 0))) z (zcs (zpr h p κ) (p + 1) τ) := fun K0 => by rw [c_isEmpty hs (by omega), zbr_f (by omega)]
  simp (disch := omega) only [e49_0, e49_1, e49_2, e49_5, e49_8, e49_9, e49_10, e49_13, e49_14, e49_15, e49_18, zi_add, zi_sub, zi_mul, zl_add, zl_sub, zl_mul, zl_i, zi_l, zi_lt, zi_le, zi_eq, zl_lt, zl_le, zl_eq, zlc_lt, zlc_le, zlc_gt, zlc_ge, zlc_eq, zi_ne0, zl_ne0, zi_div, zl_div, zi_rem, zl_rem, zcat_nil, zcat_int, zcat_ref, zcat_long, zkill_int, zkill_ref, zkill_long, zkill_J, zkill2, zto_some, zto_none, znb0, znb1, zB_some, zbr_t, zbr_f, not_true_eq_false, not_false_eq_true, true_imp_iff, false_imp_iff, true_and, and_true, Nat.reduceAdd, Nat.reduceLeDiff, Int.reduceAdd, Int.reduceSub, Int.reduceMul, Int.reduceNeg, zisC_inr, zget_inr, zsetf_inr, zldl_row, zald_row, zstl_row, zast_row, List.getElem?_cons_zero, List.getElem?_cons_succ, List.length_cons, List.length_nil, List.set_cons_zero, List.set_cons_succ, zcs_0, zcs_1, zcs_2, zcs_3, zcs_4, zcs_5, zcs_6, zcs_7, zcs_8, zcs_9, zcs_10, zcs_11, zcs_12, zcs_13, zcs_14, zcs_15, zcs_16, zcs_17, zcs_18, zcs_19, zcs_20, zcs_21, zcs_22, zcs_23, zcs_24, zcs_25, zcs_26, zcs_mir, zsk_s, zpk_, zck_, zlk_, zgk_, zmk_m, zsg_0, zsg_1, zsg_2, zsg_3, zsg_4, zsg_5, zsg_6, zsg_7, zsg_8, zsg_9, zsg_10, zss_6, zss_7, zss_8, zss_9, zss_10, zpg_0, zpg_1, zpg_2, zpg_3, zpg_4, zcg_0, zcg_1, zcg_2, zcg_3, zlg_0, zlg_1, zlg_2, zlg_3, zgg_0, zgg_1, zgg_2, zgg_3, zgg_4, zpp_4, zcp_3, zlp_3, zgp_4, zmg_0, zmg_1, zmg_2, zmg_3, zmg_4, zmg_5, zms_0, zms_1, zms_2, zms_3, zms_4, zms_5, zald_vc, zast_vc, zldr_r1, zcw_mir, mput_zset, mput_self, vw_m, zaln_vc, vsh_ap, zup_self, zup_two, zcw_2, zcw_3, zcw_4, zcw_5, zcw_6, zcw_7, zcw_8, zcw_9, zcw_10, zcw_11, zcw_13, zcw_14, zcw_15, zcw_16, zcw_17, zcw_18, zcw_19, zcw_20, zcw_21, zcw_22, zcw_12n, vr_3, vr_4, vr_5, vr_7, vr_8, vr_9, vr_12, vr_13, vr_15, vr_16, vr_17, vr_19, vr_20, vr_21, vr_22, zcw_s0, zcw_s1, zcw_s5, zcw_s6, zcw_s7, zpr_0, zpr_28, zpr_29, zpr_192, zpr_193, zpr_194, zpr_249, zpr_250, zpr_251, zpr_252, zpr_253, zpr_254, zpr_255, zpr_256, zpr_257, zpr_258, zpr_259, zpw_0, zpw_28, zpw_194, zpw_249, zpw_250, zpw_251, zpw_252, zpw_253, zpw_254, zpw_255, zpw_256, zpw_257, zpw_258, zpw_259, zk_po, zk_ho, zk_oo, zk_fo, zk_so, zg_so0, zg_so1, zg_po0, zg_po1, zg_po2, zg_po3, zg_po4, zg_po5, zg_po6, zg_po7, zg_ho0, zg_ho1, zg_ho2, zg_ho3, zg_oo0, zg_oo1, zg_oo2, zg_oo3, zg_oo4, zg_oo5, zg_fo0, zg_fo1, zg_fo2, zg_fo3, zg_fo4, zg_fo5, zg_fo6, zg_fo7, zs_po5, zs_po6, zs_po7, zs_ho1, zs_ho2, zs_ho3_0, zs_ho3_1, zs_oo2, zs_oo3, zs_oo4, zs_oo5_0, zs_oo5_1, zs_fo7, zcs_o, zcs_up, zast_vcb, zast_vcc, zldr_r27, hE, hc]
end PL1
/-! what the class's cells have to do with the reference's -/
def rC (ρ κ : Nat → Int → Int) : Prop :=
  (κ 9 0 = ρ 7 1 ∧ κ 9 1 = ρ 7 7 ∧ κ 9 2 = ρ 7 8) ∧ (0 ≤ κ 20 0 ∧ κ 20 0 < 6 ∧ κ 20 1 = ρ 7 0 ∧ κ 20 2 = 0) ∧
  (∀ k, 0 ≤ k → k < ρ 7 0 → ∀ j, 0 ≤ j → j < 240 → κ (1 + ((κ 20 0 + 6 - ρ 7 0 + k) % 6).toNat) j = ρ 2 (240 * k + j)) ∧
  (∀ s, 0 ≤ s → s ≤ 1 → κ 10 s = ρ 4 s ∧ (ρ 4 s ≠ 0 → ∀ j, 0 ≤ j → j < 240 → κ (7 + s.toNat) j = ρ 3 (240 * s + j))) ∧
  (κ 21 0 = ρ 7 2 ∧ ∀ i, 0 ≤ i → i < 90 → κ 11 i = ρ 5 i)
theorem rC.same {ρ κ ρ2 κ2 : Nat → Int → Int} (hR : rC ρ κ) (e7 : ∀ j, (j = 0 ∨ j = 1 ∨ j = 2 ∨ j = 7 ∨ j = 8) → ρ2 7 j = ρ 7 j) (e2 : ρ2 2 = ρ 2) (e3 : ρ2 3 = ρ 3) (e4 : ρ2 4 = ρ 4) (e5 : ρ2 5 = ρ 5) (ek : ∀ c, c < 12 → κ2 c = κ c) (ek2 : κ2 20 = κ 20) (ek3 : κ2 21 0 = κ 21 0) : rC ρ2 κ2 := by
  unfold rC at hR ⊢
  rw [e7 0 (by omega), e7 1 (by omega), e7 2 (by omega), e7 7 (by omega), e7 8 (by omega), e2, e3, e4, e5, ek 9 (by omega), ek 10 (by omega), ek 11 (by omega), ek2, ek3]
  obtain ⟨h1, h2, h3, h4, h5⟩ := hR
  refine ⟨h1, h2, fun k a b j c d => ?_, fun s a b => ⟨(h4 s a b).1, fun c j d e => ?_⟩, h5⟩
  · rw [ek _ (by omega)]
    exact h3 k a b j c d
  · rw [ek _ (by omega)]
    exact (h4 s a b).2 c j d e
theorem rC.put {ρ κ : Nat → Int → Int} (hR : rC ρ κ) (f : Int → Int) : rC (zst ρ 0 f) κ := hR.same (fun _ _ => rfl) rfl rfl rfl rfl (fun _ _ => rfl) rfl rfl
theorem rC.sav {ρ κ : Nat → Int → Int} (hR : rC ρ κ) (f : Int → Int) : rC (zst ρ 1 f) κ := hR.same (fun _ _ => rfl) rfl rfl rfl rfl (fun _ _ => rfl) rfl rfl
theorem rC_kH {ρ κ : Nat → Int → Int} (hR : rC ρ κ) (hk : rK ρ) : kH κ := by
  unfold rK at hk
  unfold rC at hR
  unfold kH
  omega
theorem rC.push {ρ κ : Nat → Int → Int} (hR : rC ρ κ) (hk : rK ρ) : rC (rrec ρ) (kpush κ (ρ 0)) := by
  obtain ⟨h1, h2, h3, h4, h5⟩ := hR
  unfold rK at hk
  have k9 : kpush κ (ρ 0) 9 = κ 9 := by unfold kpush; rw [zst_ap, if_neg (by omega), zst_ap, if_neg (by omega)]
  have k10 : kpush κ (ρ 0) 10 = κ 10 := by unfold kpush; rw [zst_ap, if_neg (by omega), zst_ap, if_neg (by omega)]
  have k11 : kpush κ (ρ 0) 11 = κ 11 := by unfold kpush; rw [zst_ap, if_neg (by omega), zst_ap, if_neg (by omega)]
  have k21 : kpush κ (ρ 0) 21 = κ 21 := by unfold kpush; rw [zst_ap, if_neg (by omega), zst_ap, if_neg (by omega)]
  have k20 : kpush κ (ρ 0) 20 = zset (zset (κ 20) 0 ((κ 20 0 + 1) % 6)) 1 (if 6 < κ 20 1 + 1 then 6 else κ 20 1 + 1) := by unfold kpush; rw [zst_ap, if_pos rfl]
  have kn : ∀ c, c ≤ 8 → c ≠ 1 + (κ 20 0).toNat → kpush κ (ρ 0) c = κ c := fun c a b => by unfold kpush; rw [zst_ap, if_neg (by omega), zst_ap, if_neg b]
  have kt : kpush κ (ρ 0) (1 + (κ 20 0).toNat) = ρ 0 := by unfold kpush; rw [zst_ap, if_neg (by omega), zst_ap, if_pos rfl]
  have v0 : kpush κ (ρ 0) 20 0 = (κ 20 0 + 1) % 6 := by rw [k20]; rfl
  have v1 : kpush κ (ρ 0) 20 1 = if 6 < κ 20 1 + 1 then 6 else κ 20 1 + 1 := by rw [k20]; rfl
  have v2 : kpush κ (ρ 0) 20 2 = κ 20 2 := by rw [k20]; rfl
  have r7 : ∀ j, j ≠ 0 → rrec ρ 7 j = ρ 7 j := fun j hj => by rw [rrec_7, zset_ap, if_neg hj]
  have r70 : rrec ρ 7 0 = if ρ 7 0 = 6 then 6 else ρ 7 0 + 1 := by rw [rrec_7, zset_ap, if_pos rfl]
  have r5 : rrec ρ 5 = ρ 5 := rrec_c ρ (by decide) (by decide)
  unfold rC
  rw [k9, k10, k11, k21, v0, v1, v2, r7 1 (by omega), r7 7 (by omega), r7 8 (by omega), r7 2 (by omega), r70, rrec_3, rrec_4, r5]
  refine ⟨h1, ⟨by omega, by omega, ?_, h2.2.2.2⟩, ?_, fun s a b => ⟨(h4 s a b).1, fun c j d e => ?_⟩, h5⟩
  · rw [h2.2.2.1]
    split <;> split <;> omega
  · intro k a b j c d
    by_cases hk6 : ρ 7 0 = 6
    · rw [if_pos hk6] at b ⊢
      have er : rrec ρ 2 = rcpy (ρ 0) (rcpy (ρ 2) (ρ 2) 240 0 1200) 0 1200 240 := by unfold rrec; rw [if_pos hk6]; rfl
      rw [er]
      by_cases q : k = 5
      · rw [show ((κ 20 0 + 1) % 6 + 6 - 6 + k) % 6 = κ 20 0 by omega, kt]
        simp only [rcpy]
        rw [if_pos (by omega)]
        congr 1
        omega
      · rw [kn _ (by omega) (by omega)]
        have := h3 (k + 1) (by omega) (by omega) j c d
        rw [show (κ 20 0 + 6 - ρ 7 0 + (k + 1)) % 6 = ((κ 20 0 + 1) % 6 + 6 - 6 + k) % 6 by omega] at this
        rw [this]
        simp only [rcpy]
        rw [if_neg (by omega), if_pos (by omega)]
        congr 1
        omega
    · rw [if_neg hk6] at b ⊢
      have er : rrec ρ 2 = rcpy (ρ 0) (ρ 2) 0 (240 * ρ 7 0) 240 := by unfold rrec; rw [if_neg hk6]; rfl
      rw [er]
      by_cases q : k = ρ 7 0
      · rw [show ((κ 20 0 + 1) % 6 + 6 - (ρ 7 0 + 1) + k) % 6 = κ 20 0 by omega, kt]
        simp only [rcpy]
        rw [if_pos (by omega)]
        congr 1
        omega
      · rw [kn _ (by omega) (by omega)]
        have := h3 k (by omega) (by omega) j c d
        rw [show (κ 20 0 + 6 - ρ 7 0 + k) % 6 = ((κ 20 0 + 1) % 6 + 6 - (ρ 7 0 + 1) + k) % 6 by omega] at this
        rw [this]
        simp only [rcpy]
        rw [if_neg (by omega)]
  · rw [kn _ (by omega) (by omega)]
    exact (h4 s a b).2 c j d e
theorem rC.pop {ρ κ : Nat → Int → Int} (hR : rC ρ κ) (hk : rK ρ) (h0 : ρ 7 0 ≠ 0) : rC (rund ρ) (kpop κ) ∧ ∀ j, 0 ≤ j → j < 240 → κ (1 + ((κ 20 0 + 5) % 6).toNat) j = rund ρ 0 j := by
  obtain ⟨h1, h2, h3, h4, h5⟩ := hR
  unfold rK at hk
  have kn : ∀ c, c ≠ 20 → kpop κ c = κ c := fun c a => by unfold kpop; rw [zst_ap, if_neg a]
  have v0 : kpop κ 20 0 = (κ 20 0 + 5) % 6 := rfl
  have v1 : kpop κ 20 1 = κ 20 1 - 1 := rfl
  have v2 : kpop κ 20 2 = κ 20 2 := rfl
  have r7 : ∀ j, j ≠ 0 → rund ρ 7 j = ρ 7 j := fun j hj => by
    show zset (ρ 7) 0 (ρ 7 0 - 1) j = _
    rw [zset_ne hj]
  have r70 : rund ρ 7 0 = ρ 7 0 - 1 := rfl
  constructor
  · unfold rC
    rw [kn 9 (by omega), kn 10 (by omega), kn 11 (by omega), kn 21 (by omega), v0, v1, v2, r7 1 (by omega), r7 7 (by omega), r7 8 (by omega), r7 2 (by omega), r70]
    refine ⟨h1, ⟨by omega, by omega, by omega, h2.2.2.2⟩, ?_, fun s a b => ⟨(h4 s a b).1, fun c j d e => ?_⟩, h5⟩
    · intro k a b j c d
      rw [kn _ (by omega)]
      have := h3 k (by omega) (by omega) j c d
      rw [show (κ 20 0 + 6 - ρ 7 0 + k) % 6 = ((κ 20 0 + 5) % 6 + 6 - (ρ 7 0 - 1) + k) % 6 by omega] at this
      exact this
    · rw [kn _ (by omega)]
      exact (h4 s a b).2 c j d e
  · intro j c d
    have := h3 (ρ 7 0 - 1) (by omega) (by omega) j c d
    rw [show (κ 20 0 + 6 - ρ 7 0 + (ρ 7 0 - 1)) % 6 = (κ 20 0 + 5) % 6 by omega] at this
    rw [this]
    show _ = rcpy (ρ 2) (ρ 0) (240 * (ρ 7 0 - 1)) 0 240 j
    simp only [rcpy]
    rw [if_pos (by omega)]
    congr 1
    omega
