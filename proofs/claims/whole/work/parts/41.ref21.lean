/-! the reference: runOrders as a whole; what of its cells says something -/
def rSame (ρ τ : Nat → Int → Int) : Prop := τ 0 = ρ 0 ∧ τ 2 = ρ 2 ∧ τ 3 = ρ 3 ∧ τ 4 = ρ 4 ∧ τ 5 = ρ 5 ∧ ∀ j, (j = 0 ∨ j = 1 ∨ j = 2 ∨ j = 7 ∨ j = 8) → τ 7 j = ρ 7 j
section RF21
variable {z : zZ} {h : zH} {K : Option Value → zZ → zH → Prop} {a : Nat}
/-- a faulty text: nothing that says something changes -/
theorem s_run_f {ρ : Nat → Int → Int} (hC : tC (ρ 5)) (hn : 0 ≤ ρ 7 2 ∧ ρ 7 2 ≤ 90) (hf : 0 ≤ (pAllN (ρ 5) (ρ 7 2) 91 0).1 ∧ (pAllN (ρ 5) (ρ 7 2) 91 0).1 ≤ 90) :
    ∃ τ, rSame ρ τ ∧ ∀ K, (zG 169 0 [.ref a, zJ, zJ, zJ] [] z (zmk h a ρ) K ↔ K (some (.int (zi (-100 - (pAllN (ρ 5) (ρ 7 2) 91 0).1)))) z (zmk h a τ)) := by
  obtain ⟨v, τ, r, E⟩ := s_readAll (z := z) (h := h) (a := a) hC hn
  obtain ⟨r1, r2, r3, r4⟩ := r
  refine ⟨zst (zst ρ 6 τ) 7 v, ⟨rfl, rfl, rfl, rfl, rfl, fun j hj => r1 j (by omega) (by omega) (by omega) (by omega)⟩, fun K => ?_⟩
  simp (disch := omega) only [e169_0, e169_1, e169_4, e169_5, e169_8, e169_11, e169_13, e169_14, e169_17, e169_18, e169_19, e169_20, e169_23, e169_24, e169_26, e169_29, e169_30, e169_32, e169_35, e169_36, e169_38, e169_41, e169_44, e169_45, e169_46, e169_49, e169_52, e169_53, e169_54, e169_55, e169_56, e169_57, e169_58, e169_61, e169_62, e169_63, e169_64, e169_67, e169_68, e169_69, e169_70, e169_71, e169_72, e169_75, e169_76, e169_77, e169_78, e169_79, e169_80, e169_83, e169_84, e169_85, e169_86, e169_87, e169_90, e169_91, e169_92, e169_95, e169_96, e169_97, e169_100, e169_101, e169_102, e169_104, e169_107, e169_108, e169_111, e169_114, e169_115, e169_117, e169_120, e169_122, e169_125, e169_127, e169_130, e169_133, e169_134, e169_135, e169_138, e169_139, e169_140, e169_141, e169_144, e169_145, e169_146, e169_147, e169_148, e169_149, e169_152, e169_153, e169_154, e169_155, e169_156, e169_157, e169_160, e169_161, e169_162, e169_163, e169_164, e169_167, e169_170, e169_173, e169_174, zi_add, zi_sub, zi_mul, zl_add, zl_sub, zl_mul, zl_i, zi_l, zi_lt, zi_le, zi_eq, zl_lt, zl_le, zl_eq, zlc_lt, zlc_le, zlc_gt, zlc_ge, zlc_eq, zi_ne0, zl_ne0, zi_div, zl_div, zi_rem, zl_rem, zcat_nil, zcat_int, zcat_ref, zcat_long, zkill_int, zkill_ref, zkill_long, zkill_J, zkill2, zto_some, zto_none, znb0, znb1, zB_some, zbr_t, zbr_f, not_true_eq_false, not_false_eq_true, true_imp_iff, false_imp_iff, true_and, and_true, Nat.reduceAdd, Nat.reduceLeDiff, Int.reduceAdd, Int.reduceSub, Int.reduceMul, Int.reduceNeg, zisC_inr, zget_inr, zsetf_inr, zldl_row, zald_row, zstl_row, zast_row, List.getElem?_cons_zero, List.getElem?_cons_succ, List.length_cons, List.length_nil, List.set_cons_zero, List.set_cons_succ, zmk_0, zmk_1, zmk_2, zmk_3, zmk_4, zmk_5, zmk_6, zmk_7, zrg_0, zrg_1, zrg_2, zrg_3, zrg_4, zrg_5, zrg_6, zrg_7, zrg_8, zrg_9, zrg_10, zrg_11, zrg_12, zrg_13, zrg_14, zrg_15, zrs_3, zrs_6, zrs_7, zrs_9, zrs_10, zrs_11, zrs_12, zrs_14, zrs_15, zmw_0, zmw_1, zmw_2, zmw_3, zmw_4, zmw_5, zmw_6, zmw_7, zisr, E, zst_ap, reduceIte, Nat.reduceEqDiff, r2]
/-- a text that can be read: recorded, then carried out -/
theorem s_run_o {ρ : Nat → Int → Int} (hC : tC (ρ 5)) (hn : 0 ≤ ρ 7 2 ∧ ρ 7 2 ≤ 90) (hk : rK ρ) (hI : rI (ρ 0)) (hT : ρ 0 0 ≤ 99990000) (hf : (pAllN (ρ 5) (ρ 7 2) 91 0).1 < 0) :
    ∃ τ, rSame (rrec ρ) (zst τ 7 (zset (zset (τ 7) 7 (ρ 7 7)) 8 (ρ 7 8))) ∧ τ 7 7 = -1000005 ∧ τ 7 8 = -1000005 ∧ ∀ K, (zG 169 0 [.ref a, zJ, zJ, zJ] [] z (zmk h a ρ) K ↔ K (some (.int (zi (rrun (pAllN (ρ 5) (ρ 7 2) 91 0).2 τ 0).1))) z (zmk h a (rrun (pAllN (ρ 5) (ρ 7 2) 91 0).2 τ 0).2)) := by
  obtain ⟨v, τ, r, E⟩ := s_readAll (z := z) (h := h) (a := a) hC hn
  obtain ⟨r1, r2, r3, r4⟩ := r
  obtain ⟨g1, g2⟩ := r4 hf
  obtain ⟨a1, a2, a3⟩ := pAllN_q (ρ 5) (ρ 7 2) 91 0 (by omega) hf
  have v0 : v 0 = ρ 7 0 := r1 0 (by omega) (by omega) (by omega) (by omega)
  have hb := hk
  unfold rK at hb
  have hR : ∀ K, zG 116 0 [.ref a, zJ] [] z (zmk h a (zst (zst ρ 6 τ) 7 v)) K ↔ K none z (zmk h a (rrec (zst (zst ρ 6 τ) 7 v))) := fun K => s_record (by show 0 ≤ v 0; omega) (by show v 0 ≤ 6; omega)
  have e6 : rrec (zst (zst ρ 6 τ) 7 v) 6 = τ := rrec_c _ (by decide) (by decide)
  have e7 : rrec (zst (zst ρ 6 τ) 7 v) 7 = zset v 0 (if v 0 = 6 then 6 else v 0 + 1) := rrec_7 _
  have e0 : rrec (zst (zst ρ 6 τ) 7 v) 0 = ρ 0 := rrec_0 _
  refine ⟨zst (rrec (zst (zst ρ 6 τ) 7 v)) 7 (zset (zset (rrec (zst (zst ρ 6 τ) 7 v) 7) 7 (-1000005)) 8 (-1000005)), ?_, ?_, ?_, fun K => ?_⟩
  · refine ⟨?_, ?_, ?_, ?_, ?_, fun j hj => ?_⟩
    · show rrec (zst (zst ρ 6 τ) 7 v) 0 = _
      rw [e0, rrec_0]
    · show rrec (zst (zst ρ 6 τ) 7 v) 2 = rrec ρ 2
      unfold rrec
      show (if v 0 = 6 then _ else _ : Nat → Int → Int) 2 = _
      rw [v0]
      by_cases c : ρ 7 0 = 6
      · rw [if_pos c, if_pos c]
        rfl
      · rw [if_neg c, if_neg c]
        show rcpy (ρ 0) (ρ 2) 0 (240 * v 0) 240 = rcpy (ρ 0) (ρ 2) 0 (240 * ρ 7 0) 240
        rw [v0]
    · show rrec (zst (zst ρ 6 τ) 7 v) 3 = _
      rw [rrec_3, rrec_3]
      rfl
    · show rrec (zst (zst ρ 6 τ) 7 v) 4 = _
      rw [rrec_4, rrec_4]
      rfl
    · show rrec (zst (zst ρ 6 τ) 7 v) 5 = _
      rw [rrec_c _ (by decide) (by decide), rrec_c _ (by decide) (by decide)]
      rfl
    · show zset (zset (zset (zset (rrec (zst (zst ρ 6 τ) 7 v) 7) 7 (-1000005)) 8 (-1000005)) 7 (ρ 7 7)) 8 (ρ 7 8) j = rrec ρ 7 j
      rw [e7, rrec_7, v0]
      simp only [zset]
      by_cases c8 : j = 8
      · rw [if_pos c8, if_neg (by omega), c8]
      · rw [if_neg c8]
        by_cases c7 : j = 7
        · rw [if_pos c7, if_neg (by omega), c7]
        · rw [if_neg c7, if_neg c8, if_neg c7]
          by_cases c0 : j = 0
          · rw [if_pos c0, if_pos c0]
          · rw [if_neg c0, if_neg c0]
            exact r1 j (by omega) (by omega) (by omega) (by omega)
  · show zset (zset (rrec (zst (zst ρ 6 τ) 7 v) 7) 7 (-1000005)) 8 (-1000005) 7 = (-1000005 : Int)
    rw [zset_ap, if_neg (by omega), zset_ap, if_pos rfl]
  · show zset (zset (rrec (zst (zst ρ 6 τ) 7 v) 7) 7 (-1000005)) 8 (-1000005) 8 = (-1000005 : Int)
    rw [zset_ap, if_pos rfl]
  · simp (disch := omega) only [e169_0, e169_1, e169_4, e169_5, e169_8, e169_11, e169_13, e169_14, e169_17, e169_18, e169_19, e169_20, e169_23, e169_24, e169_26, e169_29, e169_30, e169_32, e169_35, e169_36, e169_38, e169_41, e169_44, e169_45, e169_46, e169_49, e169_52, e169_53, e169_54, e169_55, e169_56, e169_57, e169_58, e169_61, e169_62, e169_63, e169_64, e169_67, e169_68, e169_69, e169_70, e169_71, e169_72, e169_75, e169_76, e169_77, e169_78, e169_79, e169_80, e169_83, e169_84, e169_85, e169_86, e169_87, e169_90, e169_91, e169_92, e169_95, e169_96, e169_97, e169_100, e169_101, e169_102, e169_104, e169_107, e169_108, e169_111, e169_114, e169_115, e169_117, e169_120, e169_122, e169_125, e169_127, e169_130, e169_133, e169_134, e169_135, e169_138, e169_139, e169_140, e169_141, e169_144, e169_145, e169_146, e169_147, e169_148, e169_149, e169_152, e169_153, e169_154, e169_155, e169_156, e169_157, e169_160, e169_161, e169_162, e169_163, e169_164, e169_167, e169_170, e169_173, e169_174, zi_add, zi_sub, zi_mul, zl_add, zl_sub, zl_mul, zl_i, zi_l, zi_lt, zi_le, zi_eq, zl_lt, zl_le, zl_eq, zlc_lt, zlc_le, zlc_gt, zlc_ge, zlc_eq, zi_ne0, zl_ne0, zi_div, zl_div, zi_rem, zl_rem, zcat_nil, zcat_int, zcat_ref, zcat_long, zkill_int, zkill_ref, zkill_long, zkill_J, zkill2, zto_some, zto_none, znb0, znb1, zB_some, zbr_t, zbr_f, not_true_eq_false, not_false_eq_true, true_imp_iff, false_imp_iff, true_and, and_true, Nat.reduceAdd, Nat.reduceLeDiff, Int.reduceAdd, Int.reduceSub, Int.reduceMul, Int.reduceNeg, zisC_inr, zget_inr, zsetf_inr, zldl_row, zald_row, zstl_row, zast_row, List.getElem?_cons_zero, List.getElem?_cons_succ, List.length_cons, List.length_nil, List.set_cons_zero, List.set_cons_succ, zmk_0, zmk_1, zmk_2, zmk_3, zmk_4, zmk_5, zmk_6, zmk_7, zrg_0, zrg_1, zrg_2, zrg_3, zrg_4, zrg_5, zrg_6, zrg_7, zrg_8, zrg_9, zrg_10, zrg_11, zrg_12, zrg_13, zrg_14, zrg_15, zrs_3, zrs_6, zrs_7, zrs_9, zrs_10, zrs_11, zrs_12, zrs_14, zrs_15, zmw_0, zmw_1, zmw_2, zmw_3, zmw_4, zmw_5, zmw_6, zmw_7, zisr, E, zst_ap, reduceIte, Nat.reduceEqDiff, r2, hR, if_true, zst_zst]
    refine s_run_l (pAllN (ρ 5) (ρ 7 2) 91 0).2 _ 0 zJ zJ ?_ ?_ ?_ ?_ ?_ ?_
    · show rI (rrec (zst (zst ρ 6 τ) 7 v) 0)
      rw [e0]
      exact hI
    · show rrec (zst (zst ρ 6 τ) 7 v) 0 0 + _ ≤ _
      rw [e0]
      omega
    · show zset (zset (rrec (zst (zst ρ 6 τ) 7 v) 7) 7 (-1000005)) 8 (-1000005) 7 = (-1000005 : Int)
      rw [zset_ap, if_neg (by omega), zset_ap, if_pos rfl]
    · omega
    · show zset (zset (rrec (zst (zst ρ 6 τ) 7 v) 7) 7 (-1000005)) 8 (-1000005) 6 = 0 + ((pAllN (ρ 5) (ρ 7 2) 91 0).2.length : Int)
      rw [e7]
      simp only [zset]
      rw [if_neg (by omega), if_neg (by omega), if_neg (by omega), g1]
    · intro i q hi
      refine ⟨?_, a1 i q hi⟩
      show rRow (rrec (zst (zst ρ 6 τ) 7 v) 6) _ q
      rw [e6]
      exact g2 i q hi
end RF21
