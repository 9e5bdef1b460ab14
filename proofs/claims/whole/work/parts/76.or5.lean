/-! the class: runOrders -/
theorem rC.sign {ρ κ : Nat → Int → Int} (hR : rC ρ κ) : rC ρ (zst κ 11 (ρ 5)) := by
  obtain ⟨h1, h2, h3, h4, h5, h6⟩ := hR
  refine ⟨h1, h2, fun k a b j c d => ?_, fun s a b => ⟨(h4 s a b).1, fun c j d e => ?_⟩, h5, fun i _ _ => rfl⟩
  · rw [zst_ap, if_neg (by omega)]
    exact h3 k a b j c d
  · rw [zst_ap, if_neg (by omega)]
    exact (h4 s a b).2 c j d e
theorem rC.kW' {ρ κ κ2 : Nat → Int → Int} (hR : rC ρ κ) (h : kW κ κ2) : rC ρ κ2 := hR.same (fun _ _ => rfl) rfl rfl rfl rfl (fun c hc => h.1 c (by omega) (by omega)) (h.1 20 (by decide) (by decide)) h.2
theorem rC.begin {ρ κ τ : Nat → Int → Int} (hR : rC (rrec ρ) κ) (hs : rSame (rrec ρ) (zst τ 7 (zset (zset (τ 7) 7 (ρ 7 7)) 8 (ρ 7 8)))) (h7 : τ 7 7 = -1000005) (h8 : τ 7 8 = -1000005) :
    rCp τ (zst (zst (zst κ 9 (zset (zset (κ 9) 1 (-1000005)) 2 (-1000005))) 20 (zset (κ 20) 2 1)) 21 (zset (zset (κ 21) 2 0) 3 1)) := by
  obtain ⟨s0, s2, s3, s4, s5, s7⟩ := hs
  have t0 : τ 7 0 = rrec ρ 7 0 := s7 0 (by omega)
  have t1 : τ 7 1 = rrec ρ 7 1 := s7 1 (by omega)
  have t2 : τ 7 2 = rrec ρ 7 2 := s7 2 (by omega)
  have u2 : τ 2 = rrec ρ 2 := s2
  have u3 : τ 3 = rrec ρ 3 := s3
  have u4 : τ 4 = rrec ρ 4 := s4
  have u5 : τ 5 = rrec ρ 5 := s5
  obtain ⟨h1, h2, h3, h4, h5⟩ := hR
  refine ⟨rfl, ?_⟩
  unfold rC
  rw [t0, t1, t2, u2, u3, u4, u5, h7, h8]
  refine ⟨⟨h1.1, rfl, rfl⟩, ⟨h2.1, h2.2.1, h2.2.2.1, rfl⟩, fun k a b j c d => ?_, fun s a b => ⟨(h4 s a b).1, fun c j d e => ?_⟩, h5⟩
  · rw [zst_ap, if_neg (by omega), zst_ap, if_neg (by omega), zst_ap, if_neg (by omega), zst_ap, if_neg (by omega)]
    exact h3 k a b j c d
  · rw [zst_ap, if_neg (by omega), zst_ap, if_neg (by omega), zst_ap, if_neg (by omega), zst_ap, if_neg (by omega)]
    exact (h4 s a b).2 c j d e
section OR5
variable {z : zZ} {h : zH} {K : Option Value → zZ → zH → Prop} {p : Nat} {κ ρ τ : Nat → Int → Int} {T : Int}
theorem p_run_f (hz : zS2 z h p) (hJ : rJ T ρ) (hR : rC ρ κ) (hs : rSame ρ τ) (hf : 0 ≤ (pAllN (ρ 5) (ρ 7 2) 91 0).1) (k : pK K z h p (.int (zi (-100 - (pAllN (ρ 5) (ρ 7 2) 91 0).1))) τ) : zG 87 0 [.ref p, zJ, zJ, zJ, zJ, zJ] [] z (zcs (zpr h p κ) (p + 1) (ρ 0)) K := by
  have hR1 := hR.sign
  have h11 := hR.2.2.2.2
  have eH : zpr h p κ = zpr h p (zst κ 11 (ρ 5)) := (zpr_11 h11.2).symm
  have hC := hJ.2.2.2.2.1
  have hn := hJ.2.2.2.2.2
  have e21 : zst κ 11 (ρ 5) 21 0 = ρ 7 2 := h11.1
  obtain ⟨s0, s2, s3, s4, s5, s7⟩ := hs
  have b91 : (pAllN (ρ 5) (ρ 7 2) 91 0).1 ≤ 90 := by
    have : ∀ (k : Nat) (s : Int), 0 ≤ s ∧ s ≤ ρ 7 2 → ρ 7 2 + 1 - s ≤ k → (pAllN (ρ 5) (ρ 7 2) k s).1 ≤ 90 := by
      intro k
      induction k with
      | zero => intro s a b; omega
      | succ k ih =>
        intro s a b
        have bo := pOrd_b (ρ 5) a
        unfold pAllN
        split
        · show (pOrd (ρ 5) (ρ 7 2) s).1 ≤ 90
          omega
        · split
          · split
            · exact ih _ (by omega) (by omega)
            · show (pOrd (ρ 5) (ρ 7 2) s).2.2 ≤ 90
              omega
          · show (-1000005 : Int) ≤ 90
            omega
    exact this 91 0 (by omega) (by omega)
  rw [eH]
  simp (disch := omega) only [e87_0, e87_1, e87_4, e87_7, e87_8, e87_9, e87_10, e87_13, e87_15, e87_16, e87_17, e87_18, e87_19, e87_22, e87_23, e87_26, e87_29, e87_30, e87_32, e87_35, e87_36, e87_38, e87_41, e87_42, e87_43, e87_44, e87_47, e87_48, e87_51, e87_52, e87_55, e87_58, e87_59, e87_61, e87_63, e87_66, e87_67, e87_70, e87_73, e87_76, e87_77, e87_80, e87_82, e87_85, e87_86, e87_89, e87_92, e87_93, e87_94, e87_97, e87_99, e87_101, e87_102, e87_103, e87_106, e87_107, e87_108, e87_111, e87_112, e87_113, e87_115, e87_118, e87_121, e87_124, e87_127, e87_130, e87_133, e87_134, e87_137, e87_138, e87_141, e87_142, zi_add, zi_sub, zi_mul, zl_add, zl_sub, zl_mul, zl_i, zi_l, zi_lt, zi_le, zi_eq, zl_lt, zl_le, zl_eq, zlc_lt, zlc_le, zlc_gt, zlc_ge, zlc_eq, zi_ne0, zl_ne0, zi_div, zl_div, zi_rem, zl_rem, zcat_nil, zcat_int, zcat_ref, zcat_long, zkill_int, zkill_ref, zkill_long, zkill_J, zkill2, zto_some, zto_none, znb0, znb1, zB_some, zbr_t, zbr_f, not_true_eq_false, not_false_eq_true, true_imp_iff, false_imp_iff, true_and, and_true, Nat.reduceAdd, Nat.reduceLeDiff, Int.reduceAdd, Int.reduceSub, Int.reduceMul, Int.reduceNeg, zisC_inr, zget_inr, zsetf_inr, zldl_row, zald_row, zstl_row, zast_row, List.getElem?_cons_zero, List.getElem?_cons_succ, List.length_cons, List.length_nil, List.set_cons_zero, List.set_cons_succ, zcs_0, zcs_1, zcs_2, zcs_3, zcs_4, zcs_5, zcs_6, zcs_7, zcs_8, zcs_9, zcs_10, zcs_11, zcs_12, zcs_13, zcs_14, zcs_15, zcs_16, zcs_17, zcs_18, zcs_19, zcs_20, zcs_21, zcs_22, zcs_23, zcs_24, zcs_25, zcs_26, zcs_mir, zsk_s, zpk_, zck_, zlk_, zgk_, zmk_m, zsg_0, zsg_1, zsg_2, zsg_3, zsg_4, zsg_5, zsg_6, zsg_7, zsg_8, zsg_9, zsg_10, zss_6, zss_7, zss_8, zss_9, zss_10, zpg_0, zpg_1, zpg_2, zpg_3, zpg_4, zcg_0, zcg_1, zcg_2, zcg_3, zlg_0, zlg_1, zlg_2, zlg_3, zgg_0, zgg_1, zgg_2, zgg_3, zgg_4, zpp_4, zcp_3, zlp_3, zgp_4, zmg_0, zmg_1, zmg_2, zmg_3, zmg_4, zmg_5, zms_0, zms_1, zms_2, zms_3, zms_4, zms_5, zald_vc, zast_vc, zldr_r1, zcw_mir, mput_zset, mput_self, vw_m, zaln_vc, vsh_ap, zup_self, zup_two, zcw_2, zcw_3, zcw_4, zcw_5, zcw_6, zcw_7, zcw_8, zcw_9, zcw_10, zcw_11, zcw_13, zcw_14, zcw_15, zcw_16, zcw_17, zcw_18, zcw_19, zcw_20, zcw_21, zcw_22, zcw_12n, vr_3, vr_4, vr_5, vr_7, vr_8, vr_9, vr_12, vr_13, vr_15, vr_16, vr_17, vr_19, vr_20, vr_21, vr_22, zcw_s0, zcw_s1, zcw_s5, zcw_s6, zcw_s7, zpr_0, zpr_28, zpr_29, zpr_192, zpr_193, zpr_194, zpr_249, zpr_250, zpr_251, zpr_252, zpr_253, zpr_254, zpr_255, zpr_256, zpr_257, zpr_258, zpr_259, zpw_0, zpw_28, zpw_194, zpw_249, zpw_250, zpw_251, zpw_252, zpw_253, zpw_254, zpw_255, zpw_256, zpw_257, zpw_258, zpw_259, zk_po, zk_ho, zk_oo, zk_fo, zk_so, zg_so0, zg_so1, zg_po0, zg_po1, zg_po2, zg_po3, zg_po4, zg_po5, zg_po6, zg_po7, zg_ho0, zg_ho1, zg_ho2, zg_ho3, zg_oo0, zg_oo1, zg_oo2, zg_oo3, zg_oo4, zg_oo5, zg_fo0, zg_fo1, zg_fo2, zg_fo3, zg_fo4, zg_fo5, zg_fo6, zg_fo7, zs_po5, zs_po6, zs_po7, zs_ho1, zs_ho2, zs_ho3_0, zs_ho3_1, zs_oo2, zs_oo3, zs_oo4, zs_oo5_0, zs_oo5_1, zs_fo7, zcs_o, zcs_up, zast_vcb, zast_vcc, zldr_r27]
  refine c_fault hz hC (by rw [e21]; exact hn) (fun κ2 g => ?_)
  rw [e21]
  have ek := k κ2 ((hR1.kW' g).same s7 s2 s3 s4 s5 (fun _ _ => rfl) rfl rfl)
  rw [s0] at ek
  show zG _ _ _ (((some (Value.int (zi (cF (pAllN (ρ 5) (ρ 7 2) 91 0).1)))) : Option Value).toList ++ []) z _ K
  have ef : cF (pAllN (ρ 5) (ρ 7 2) 91 0).1 = (pAllN (ρ 5) (ρ 7 2) 91 0).1 := by unfold cF; rw [if_neg (by omega)]
  rw [ef]
  simp (disch := omega) only [e87_0, e87_1, e87_4, e87_7, e87_8, e87_9, e87_10, e87_13, e87_15, e87_16, e87_17, e87_18, e87_19, e87_22, e87_23, e87_26, e87_29, e87_30, e87_32, e87_35, e87_36, e87_38, e87_41, e87_42, e87_43, e87_44, e87_47, e87_48, e87_51, e87_52, e87_55, e87_58, e87_59, e87_61, e87_63, e87_66, e87_67, e87_70, e87_73, e87_76, e87_77, e87_80, e87_82, e87_85, e87_86, e87_89, e87_92, e87_93, e87_94, e87_97, e87_99, e87_101, e87_102, e87_103, e87_106, e87_107, e87_108, e87_111, e87_112, e87_113, e87_115, e87_118, e87_121, e87_124, e87_127, e87_130, e87_133, e87_134, e87_137, e87_138, e87_141, e87_142, zi_add, zi_sub, zi_mul, zl_add, zl_sub, zl_mul, zl_i, zi_l, zi_lt, zi_le, zi_eq, zl_lt, zl_le, zl_eq, zlc_lt, zlc_le, zlc_gt, zlc_ge, zlc_eq, zi_ne0, zl_ne0, zi_div, zl_div, zi_rem, zl_rem, zcat_nil, zcat_int, zcat_ref, zcat_long, zkill_int, zkill_ref, zkill_long, zkill_J, zkill2, zto_some, zto_none, znb0, znb1, zB_some, zbr_t, zbr_f, not_true_eq_false, not_false_eq_true, true_imp_iff, false_imp_iff, true_and, and_true, Nat.reduceAdd, Nat.reduceLeDiff, Int.reduceAdd, Int.reduceSub, Int.reduceMul, Int.reduceNeg, zisC_inr, zget_inr, zsetf_inr, zldl_row, zald_row, zstl_row, zast_row, List.getElem?_cons_zero, List.getElem?_cons_succ, List.length_cons, List.length_nil, List.set_cons_zero, List.set_cons_succ, zcs_0, zcs_1, zcs_2, zcs_3, zcs_4, zcs_5, zcs_6, zcs_7, zcs_8, zcs_9, zcs_10, zcs_11, zcs_12, zcs_13, zcs_14, zcs_15, zcs_16, zcs_17, zcs_18, zcs_19, zcs_20, zcs_21, zcs_22, zcs_23, zcs_24, zcs_25, zcs_26, zcs_mir, zsk_s, zpk_, zck_, zlk_, zgk_, zmk_m, zsg_0, zsg_1, zsg_2, zsg_3, zsg_4, zsg_5, zsg_6, zsg_7, zsg_8, zsg_9, zsg_10, zss_6, zss_7, zss_8, zss_9, zss_10, zpg_0, zpg_1, zpg_2, zpg_3, zpg_4, zcg_0, zcg_1, zcg_2, zcg_3, zlg_0, zlg_1, zlg_2, zlg_3, zgg_0, zgg_1, zgg_2, zgg_3, zgg_4, zpp_4, zcp_3, zlp_3, zgp_4, zmg_0, zmg_1, zmg_2, zmg_3, zmg_4, zmg_5, zms_0, zms_1, zms_2, zms_3, zms_4, zms_5, zald_vc, zast_vc, zldr_r1, zcw_mir, mput_zset, mput_self, vw_m, zaln_vc, vsh_ap, zup_self, zup_two, zcw_2, zcw_3, zcw_4, zcw_5, zcw_6, zcw_7, zcw_8, zcw_9, zcw_10, zcw_11, zcw_13, zcw_14, zcw_15, zcw_16, zcw_17, zcw_18, zcw_19, zcw_20, zcw_21, zcw_22, zcw_12n, vr_3, vr_4, vr_5, vr_7, vr_8, vr_9, vr_12, vr_13, vr_15, vr_16, vr_17, vr_19, vr_20, vr_21, vr_22, zcw_s0, zcw_s1, zcw_s5, zcw_s6, zcw_s7, zpr_0, zpr_28, zpr_29, zpr_192, zpr_193, zpr_194, zpr_249, zpr_250, zpr_251, zpr_252, zpr_253, zpr_254, zpr_255, zpr_256, zpr_257, zpr_258, zpr_259, zpw_0, zpw_28, zpw_194, zpw_249, zpw_250, zpw_251, zpw_252, zpw_253, zpw_254, zpw_255, zpw_256, zpw_257, zpw_258, zpw_259, zk_po, zk_ho, zk_oo, zk_fo, zk_so, zg_so0, zg_so1, zg_po0, zg_po1, zg_po2, zg_po3, zg_po4, zg_po5, zg_po6, zg_po7, zg_ho0, zg_ho1, zg_ho2, zg_ho3, zg_oo0, zg_oo1, zg_oo2, zg_oo3, zg_oo4, zg_oo5, zg_fo0, zg_fo1, zg_fo2, zg_fo3, zg_fo4, zg_fo5, zg_fo6, zg_fo7, zs_po5, zs_po6, zs_po7, zs_ho1, zs_ho2, zs_ho3_0, zs_ho3_1, zs_oo2, zs_oo3, zs_oo4, zs_oo5_0, zs_oo5_1, zs_fo7, zcs_o, zcs_up, zast_vcb, zast_vcc, zldr_r27]
  exact ek
theorem p_run_o (hz : zS2 z h p) (hJ : rJ T ρ) (hT : T + 10000 ≤ 99990000) (hO : rO (ρ 0)) (hR : rC ρ κ) (hs : rSame (rrec ρ) (zst τ 7 (zset (zset (τ 7) 7 (ρ 7 7)) 8 (ρ 7 8)))) (h7 : τ 7 7 = -1000005) (h8 : τ 7 8 = -1000005) (hf : (pAllN (ρ 5) (ρ 7 2) 91 0).1 < 0) (k : pK K z h p (.int (zi (rrun (pAllN (ρ 5) (ρ 7 2) 91 0).2 τ 0).1)) (rrun (pAllN (ρ 5) (ρ 7 2) 91 0).2 τ 0).2) : zG 87 0 [.ref p, zJ, zJ, zJ, zJ, zJ] [] z (zcs (zpr h p κ) (p + 1) (ρ 0)) K := by
  have hR1 := hR.sign
  have h11 := hR.2.2.2.2
  have eH : zpr h p κ = zpr h p (zst κ 11 (ρ 5)) := (zpr_11 h11.2).symm
  have hC := hJ.2.2.2.2.1
  have hn := hJ.2.2.2.2.2
  have e21 : zst κ 11 (ρ 5) 21 0 = ρ 7 2 := h11.1
  have s0 : τ 0 = rrec ρ 0 := hs.1
  rw [rrec_0] at s0
  rw [eH]
  simp (disch := omega) only [e87_0, e87_1, e87_4, e87_7, e87_8, e87_9, e87_10, e87_13, e87_15, e87_16, e87_17, e87_18, e87_19, e87_22, e87_23, e87_26, e87_29, e87_30, e87_32, e87_35, e87_36, e87_38, e87_41, e87_42, e87_43, e87_44, e87_47, e87_48, e87_51, e87_52, e87_55, e87_58, e87_59, e87_61, e87_63, e87_66, e87_67, e87_70, e87_73, e87_76, e87_77, e87_80, e87_82, e87_85, e87_86, e87_89, e87_92, e87_93, e87_94, e87_97, e87_99, e87_101, e87_102, e87_103, e87_106, e87_107, e87_108, e87_111, e87_112, e87_113, e87_115, e87_118, e87_121, e87_124, e87_127, e87_130, e87_133, e87_134, e87_137, e87_138, e87_141, e87_142, zi_add, zi_sub, zi_mul, zl_add, zl_sub, zl_mul, zl_i, zi_l, zi_lt, zi_le, zi_eq, zl_lt, zl_le, zl_eq, zlc_lt, zlc_le, zlc_gt, zlc_ge, zlc_eq, zi_ne0, zl_ne0, zi_div, zl_div, zi_rem, zl_rem, zcat_nil, zcat_int, zcat_ref, zcat_long, zkill_int, zkill_ref, zkill_long, zkill_J, zkill2, zto_some, zto_none, znb0, znb1, zB_some, zbr_t, zbr_f, not_true_eq_false, not_false_eq_true, true_imp_iff, false_imp_iff, true_and, and_true, Nat.reduceAdd, Nat.reduceLeDiff, Int.reduceAdd, Int.reduceSub, Int.reduceMul, Int.reduceNeg, zisC_inr, zget_inr, zsetf_inr, zldl_row, zald_row, zstl_row, zast_row, List.getElem?_cons_zero, List.getElem?_cons_succ, List.length_cons, List.length_nil, List.set_cons_zero, List.set_cons_succ, zcs_0, zcs_1, zcs_2, zcs_3, zcs_4, zcs_5, zcs_6, zcs_7, zcs_8, zcs_9, zcs_10, zcs_11, zcs_12, zcs_13, zcs_14, zcs_15, zcs_16, zcs_17, zcs_18, zcs_19, zcs_20, zcs_21, zcs_22, zcs_23, zcs_24, zcs_25, zcs_26, zcs_mir, zsk_s, zpk_, zck_, zlk_, zgk_, zmk_m, zsg_0, zsg_1, zsg_2, zsg_3, zsg_4, zsg_5, zsg_6, zsg_7, zsg_8, zsg_9, zsg_10, zss_6, zss_7, zss_8, zss_9, zss_10, zpg_0, zpg_1, zpg_2, zpg_3, zpg_4, zcg_0, zcg_1, zcg_2, zcg_3, zlg_0, zlg_1, zlg_2, zlg_3, zgg_0, zgg_1, zgg_2, zgg_3, zgg_4, zpp_4, zcp_3, zlp_3, zgp_4, zmg_0, zmg_1, zmg_2, zmg_3, zmg_4, zmg_5, zms_0, zms_1, zms_2, zms_3, zms_4, zms_5, zald_vc, zast_vc, zldr_r1, zcw_mir, mput_zset, mput_self, vw_m, zaln_vc, vsh_ap, zup_self, zup_two, zcw_2, zcw_3, zcw_4, zcw_5, zcw_6, zcw_7, zcw_8, zcw_9, zcw_10, zcw_11, zcw_13, zcw_14, zcw_15, zcw_16, zcw_17, zcw_18, zcw_19, zcw_20, zcw_21, zcw_22, zcw_12n, vr_3, vr_4, vr_5, vr_7, vr_8, vr_9, vr_12, vr_13, vr_15, vr_16, vr_17, vr_19, vr_20, vr_21, vr_22, zcw_s0, zcw_s1, zcw_s5, zcw_s6, zcw_s7, zpr_0, zpr_28, zpr_29, zpr_192, zpr_193, zpr_194, zpr_249, zpr_250, zpr_251, zpr_252, zpr_253, zpr_254, zpr_255, zpr_256, zpr_257, zpr_258, zpr_259, zpw_0, zpw_28, zpw_194, zpw_249, zpw_250, zpw_251, zpw_252, zpw_253, zpw_254, zpw_255, zpw_256, zpw_257, zpw_258, zpw_259, zk_po, zk_ho, zk_oo, zk_fo, zk_so, zg_so0, zg_so1, zg_po0, zg_po1, zg_po2, zg_po3, zg_po4, zg_po5, zg_po6, zg_po7, zg_ho0, zg_ho1, zg_ho2, zg_ho3, zg_oo0, zg_oo1, zg_oo2, zg_oo3, zg_oo4, zg_oo5, zg_fo0, zg_fo1, zg_fo2, zg_fo3, zg_fo4, zg_fo5, zg_fo6, zg_fo7, zs_po5, zs_po6, zs_po7, zs_ho1, zs_ho2, zs_ho3_0, zs_ho3_1, zs_oo2, zs_oo3, zs_oo4, zs_oo5_0, zs_oo5_1, zs_fo7, zcs_o, zcs_up, zast_vcb, zast_vcc, zldr_r27]
  refine c_fault hz hC (by rw [e21]; exact hn) (fun κ1 g => ?_)
  rw [e21]
  have hR2 := hR1.kW' g
  have hP := p_push (p := p) (h := h) (z := z) hJ hR2 (ρ 0)
  have hB := (hR2.push hJ.2.1).begin hs h7 h8
  have hJr : rJ T (rrec ρ) := hJ.rec'
  have hJ' : rJ T (zst τ 7 (zset (zset (τ 7) 7 (ρ 7 7)) 8 (ρ 7 8))) := hJr.same hs
  have hJt : rJ T τ := hJ'
  have ef : cF (pAllN (ρ 5) (ρ 7 2) 91 0).1 = -1 := if_pos hf
  have k11 : kpush κ1 (ρ 0) 11 = ρ 5 := by
    unfold kpush
    have hH := rC_kH hR2 hJ.2.1
    have := hH.1
    rw [zst_ap, if_neg (by omega), zst_ap, if_neg (by omega), g.1 11 (by decide) (by decide)]
    rfl
  have k21 : kpush κ1 (ρ 0) 21 0 = ρ 7 2 := by
    unfold kpush
    have hH := rC_kH hR2 hJ.2.1
    have := hH.1
    rw [zst_ap, if_neg (by omega), zst_ap, if_neg (by omega), g.2]
    exact e21
  have l0 := c_run_l (K := K) (z := z) (h := h) (p := p) hz hC hn 91 0 0 0 T τ (zst (zst (zst (kpush κ1 (ρ 0)) 9 (zset (zset (kpush κ1 (ρ 0) 9) 1 (-1000005)) 2 (-1000005))) 20 (zset (kpush κ1 (ρ 0) 20) 2 1)) 21 (zset (zset (kpush κ1 (ρ 0) 21) 2 0) 3 1)) zJ zJ (by omega) k11 k21 rfl rfl rfl hB hJt (by rw [s0]; exact hO) (by omega) (by omega) (by omega) (by omega) (by omega) hf k
  rw [s0] at l0
  show zG _ _ _ (((some (Value.int (zi (cF (pAllN (ρ 5) (ρ 7 2) 91 0).1)))) : Option Value).toList ++ []) z _ K
  rw [ef]
  simp (disch := omega) only [e87_0, e87_1, e87_4, e87_7, e87_8, e87_9, e87_10, e87_13, e87_15, e87_16, e87_17, e87_18, e87_19, e87_22, e87_23, e87_26, e87_29, e87_30, e87_32, e87_35, e87_36, e87_38, e87_41, e87_42, e87_43, e87_44, e87_47, e87_48, e87_51, e87_52, e87_55, e87_58, e87_59, e87_61, e87_63, e87_66, e87_67, e87_70, e87_73, e87_76, e87_77, e87_80, e87_82, e87_85, e87_86, e87_89, e87_92, e87_93, e87_94, e87_97, e87_99, e87_101, e87_102, e87_103, e87_106, e87_107, e87_108, e87_111, e87_112, e87_113, e87_115, e87_118, e87_121, e87_124, e87_127, e87_130, e87_133, e87_134, e87_137, e87_138, e87_141, e87_142, zi_add, zi_sub, zi_mul, zl_add, zl_sub, zl_mul, zl_i, zi_l, zi_lt, zi_le, zi_eq, zl_lt, zl_le, zl_eq, zlc_lt, zlc_le, zlc_gt, zlc_ge, zlc_eq, zi_ne0, zl_ne0, zi_div, zl_div, zi_rem, zl_rem, zcat_nil, zcat_int, zcat_ref, zcat_long, zkill_int, zkill_ref, zkill_long, zkill_J, zkill2, zto_some, zto_none, znb0, znb1, zB_some, zbr_t, zbr_f, not_true_eq_false, not_false_eq_true, true_imp_iff, false_imp_iff, true_and, and_true, Nat.reduceAdd, Nat.reduceLeDiff, Int.reduceAdd, Int.reduceSub, Int.reduceMul, Int.reduceNeg, zisC_inr, zget_inr, zsetf_inr, zldl_row, zald_row, zstl_row, zast_row, List.getElem?_cons_zero, List.getElem?_cons_succ, List.length_cons, List.length_nil, List.set_cons_zero, List.set_cons_succ, zcs_0, zcs_1, zcs_2, zcs_3, zcs_4, zcs_5, zcs_6, zcs_7, zcs_8, zcs_9, zcs_10, zcs_11, zcs_12, zcs_13, zcs_14, zcs_15, zcs_16, zcs_17, zcs_18, zcs_19, zcs_20, zcs_21, zcs_22, zcs_23, zcs_24, zcs_25, zcs_26, zcs_mir, zsk_s, zpk_, zck_, zlk_, zgk_, zmk_m, zsg_0, zsg_1, zsg_2, zsg_3, zsg_4, zsg_5, zsg_6, zsg_7, zsg_8, zsg_9, zsg_10, zss_6, zss_7, zss_8, zss_9, zss_10, zpg_0, zpg_1, zpg_2, zpg_3, zpg_4, zcg_0, zcg_1, zcg_2, zcg_3, zlg_0, zlg_1, zlg_2, zlg_3, zgg_0, zgg_1, zgg_2, zgg_3, zgg_4, zpp_4, zcp_3, zlp_3, zgp_4, zmg_0, zmg_1, zmg_2, zmg_3, zmg_4, zmg_5, zms_0, zms_1, zms_2, zms_3, zms_4, zms_5, zald_vc, zast_vc, zldr_r1, zcw_mir, mput_zset, mput_self, vw_m, zaln_vc, vsh_ap, zup_self, zup_two, zcw_2, zcw_3, zcw_4, zcw_5, zcw_6, zcw_7, zcw_8, zcw_9, zcw_10, zcw_11, zcw_13, zcw_14, zcw_15, zcw_16, zcw_17, zcw_18, zcw_19, zcw_20, zcw_21, zcw_22, zcw_12n, vr_3, vr_4, vr_5, vr_7, vr_8, vr_9, vr_12, vr_13, vr_15, vr_16, vr_17, vr_19, vr_20, vr_21, vr_22, zcw_s0, zcw_s1, zcw_s5, zcw_s6, zcw_s7, zpr_0, zpr_28, zpr_29, zpr_192, zpr_193, zpr_194, zpr_249, zpr_250, zpr_251, zpr_252, zpr_253, zpr_254, zpr_255, zpr_256, zpr_257, zpr_258, zpr_259, zpw_0, zpw_28, zpw_194, zpw_249, zpw_250, zpw_251, zpw_252, zpw_253, zpw_254, zpw_255, zpw_256, zpw_257, zpw_258, zpw_259, zk_po, zk_ho, zk_oo, zk_fo, zk_so, zg_so0, zg_so1, zg_po0, zg_po1, zg_po2, zg_po3, zg_po4, zg_po5, zg_po6, zg_po7, zg_ho0, zg_ho1, zg_ho2, zg_ho3, zg_oo0, zg_oo1, zg_oo2, zg_oo3, zg_oo4, zg_oo5, zg_fo0, zg_fo1, zg_fo2, zg_fo3, zg_fo4, zg_fo5, zg_fo6, zg_fo7, zs_po5, zs_po6, zs_po7, zs_ho1, zs_ho2, zs_ho3_0, zs_ho3_1, zs_oo2, zs_oo3, zs_oo4, zs_oo5_0, zs_oo5_1, zs_fo7, zcs_o, zcs_up, zast_vcb, zast_vcc, zldr_r27, zst_zst, zst_ap, zset_ap, reduceIte, Nat.reduceEqDiff, Nat.zero_ne_one, Nat.one_ne_zero, Int.reduceEq, hP, c_goBegin]
  exact l0
end OR5
