/-! the reference: orders carried out -/
def rchkO (ρ : Nat → Int → Int) (q : Int × Int × Int × Int) : Int × (Nat → Int → Int) :=
  if q.1 < 3 then rchk ρ q.2.1 q.1 q.2.2.1 else if q.1 = 3 then (if 0 ≤ q.2.1 ∧ q.2.1 ≤ ρ 0 3 - 1 then 0 else -1000001, ρ) else if q.1 = 4 then (0, ρ) else rchp ρ 0 (ρ 0 0 + q.2.1) (ρ 0 0 + q.2.2.1) q.2.2.2
def rdoesO (σ : Int → Int) (q : Int × Int × Int × Int) : Int → Int :=
  if q.1 < 3 then radd σ q.2.1 q.1 (σ 0 + q.2.2.1) else if q.1 = 3 then rdrop σ q.2.1 else if q.1 = 4 then rpasN q.2.1.toNat σ else rtel σ 0 (σ 0 + q.2.1) (σ 0 + q.2.2.1) q.2.2.2
/-- the numbers of an order are what its word allows -/
def rQ (q : Int × Int × Int × Int) : Prop := (0 ≤ q.1 ∧ q.1 ≤ 5) ∧ (0 ≤ q.2.1 ∧ q.2.1 ≤ 60) ∧ (q.1 = 4 → 1 ≤ q.2.1) ∧ (0 ≤ q.2.2.1 ∧ q.2.2.1 ≤ 59) ∧ (0 ≤ q.2.2.2 ∧ q.2.2.2 ≤ 500)
section RF19
variable {z : zZ} {h : zH} {K : Option Value → zZ → zH → Prop} {a : Nat} {ρ : Nat → Int → Int}
theorem s_checkO {q : Int × Int × Int × Int} {x2 x3 : Int} (hq : rQ q) (h2 : (q.1 < 3 ∨ q.1 = 5) → x2 = q.2.2.1) (h3 : q.1 = 5 → x3 = q.2.2.2) (hI : rI (ρ 0)) (hT : ρ 0 0 ≤ 100000000) :
    zG 167 0 [.ref a, .int (zi q.1), .int (zi q.2.1), .int (zi x2), .int (zi x3)] [] z (zmk h a ρ) K ↔ K (some (.int (zi (rchkO ρ q).1))) z (zmk h a (rchkO ρ q).2) := by
  have hb := hI.2.1
  obtain ⟨w, u, x, y⟩ := q
  unfold rQ at hq
  simp only at hq h2 h3
  unfold rchkO
  simp only
  rcases (by omega : (0 ≤ w ∧ w ≤ 2) ∨ w = 3 ∨ w = 4 ∨ w = 5) with c | c | c | c
  · rw [if_pos (show w < 3 by omega), h2 (by omega)]
    have hC : ∀ K, zG 143 0 [.ref a, .int (zi u), .int (zi w), .int (zi x), zJ] [] z (zmk h a ρ) K ↔ K (some (.int (zi (rchk ρ u w x).1))) z (zmk h a (rchk ρ u w x).2) := fun K => s_check (by omega) (by omega) (by omega) (by omega) (by omega) (by omega) (by omega) hI.bd
    simp (disch := omega) only [e167_0, e167_1, e167_2, e167_5, e167_6, e167_7, e167_8, e167_9, e167_12, e167_13, e167_14, e167_15, e167_18, e167_19, e167_20, e167_21, e167_22, e167_25, e167_26, e167_27, e167_28, e167_29, e167_32, e167_35, e167_36, e167_39, e167_41, e167_42, e167_43, e167_44, e167_47, e167_48, e167_51, e167_52, e167_53, e167_54, e167_55, e167_58, e167_59, e167_60, e167_61, e167_62, e167_65, e167_66, e167_67, e167_69, e167_72, zi_add, zi_sub, zi_mul, zl_add, zl_sub, zl_mul, zl_i, zi_l, zi_lt, zi_le, zi_eq, zl_lt, zl_le, zl_eq, zlc_lt, zlc_le, zlc_gt, zlc_ge, zlc_eq, zi_ne0, zl_ne0, zi_div, zl_div, zi_rem, zl_rem, zcat_nil, zcat_int, zcat_ref, zcat_long, zkill_int, zkill_ref, zkill_long, zkill_J, zkill2, zto_some, zto_none, znb0, znb1, zB_some, zbr_t, zbr_f, not_true_eq_false, not_false_eq_true, true_imp_iff, false_imp_iff, true_and, and_true, Nat.reduceAdd, Nat.reduceLeDiff, Int.reduceAdd, Int.reduceSub, Int.reduceMul, Int.reduceNeg, zisC_inr, zget_inr, zsetf_inr, zldl_row, zald_row, zstl_row, zast_row, List.getElem?_cons_zero, List.getElem?_cons_succ, List.length_cons, List.length_nil, List.set_cons_zero, List.set_cons_succ, zmk_0, zmk_1, zmk_2, zmk_3, zmk_4, zmk_5, zmk_6, zmk_7, zrg_0, zrg_1, zrg_2, zrg_3, zrg_4, zrg_5, zrg_6, zrg_7, zrg_8, zrg_9, zrg_10, zrg_11, zrg_12, zrg_13, zrg_14, zrg_15, zrs_3, zrs_6, zrs_7, zrs_9, zrs_10, zrs_11, zrs_12, zrs_14, zrs_15, zmw_0, zmw_1, zmw_2, zmw_3, zmw_4, zmw_5, zmw_6, zmw_7, zisr, hC]
  · subst c
    rw [if_neg (by omega), if_pos rfl]
    by_cases c2 : 0 ≤ u ∧ u ≤ ρ 0 3 - 1
    · rw [if_pos c2]
      simp (disch := omega) only [e167_0, e167_1, e167_2, e167_5, e167_6, e167_7, e167_8, e167_9, e167_12, e167_13, e167_14, e167_15, e167_18, e167_19, e167_20, e167_21, e167_22, e167_25, e167_26, e167_27, e167_28, e167_29, e167_32, e167_35, e167_36, e167_39, e167_41, e167_42, e167_43, e167_44, e167_47, e167_48, e167_51, e167_52, e167_53, e167_54, e167_55, e167_58, e167_59, e167_60, e167_61, e167_62, e167_65, e167_66, e167_67, e167_69, e167_72, zi_add, zi_sub, zi_mul, zl_add, zl_sub, zl_mul, zl_i, zi_l, zi_lt, zi_le, zi_eq, zl_lt, zl_le, zl_eq, zlc_lt, zlc_le, zlc_gt, zlc_ge, zlc_eq, zi_ne0, zl_ne0, zi_div, zl_div, zi_rem, zl_rem, zcat_nil, zcat_int, zcat_ref, zcat_long, zkill_int, zkill_ref, zkill_long, zkill_J, zkill2, zto_some, zto_none, znb0, znb1, zB_some, zbr_t, zbr_f, not_true_eq_false, not_false_eq_true, true_imp_iff, false_imp_iff, true_and, and_true, Nat.reduceAdd, Nat.reduceLeDiff, Int.reduceAdd, Int.reduceSub, Int.reduceMul, Int.reduceNeg, zisC_inr, zget_inr, zsetf_inr, zldl_row, zald_row, zstl_row, zast_row, List.getElem?_cons_zero, List.getElem?_cons_succ, List.length_cons, List.length_nil, List.set_cons_zero, List.set_cons_succ, zmk_0, zmk_1, zmk_2, zmk_3, zmk_4, zmk_5, zmk_6, zmk_7, zrg_0, zrg_1, zrg_2, zrg_3, zrg_4, zrg_5, zrg_6, zrg_7, zrg_8, zrg_9, zrg_10, zrg_11, zrg_12, zrg_13, zrg_14, zrg_15, zrs_3, zrs_6, zrs_7, zrs_9, zrs_10, zrs_11, zrs_12, zrs_14, zrs_15, zmw_0, zmw_1, zmw_2, zmw_3, zmw_4, zmw_5, zmw_6, zmw_7, zisr, s_in]
    · rw [if_neg c2]
      simp (disch := omega) only [e167_0, e167_1, e167_2, e167_5, e167_6, e167_7, e167_8, e167_9, e167_12, e167_13, e167_14, e167_15, e167_18, e167_19, e167_20, e167_21, e167_22, e167_25, e167_26, e167_27, e167_28, e167_29, e167_32, e167_35, e167_36, e167_39, e167_41, e167_42, e167_43, e167_44, e167_47, e167_48, e167_51, e167_52, e167_53, e167_54, e167_55, e167_58, e167_59, e167_60, e167_61, e167_62, e167_65, e167_66, e167_67, e167_69, e167_72, zi_add, zi_sub, zi_mul, zl_add, zl_sub, zl_mul, zl_i, zi_l, zi_lt, zi_le, zi_eq, zl_lt, zl_le, zl_eq, zlc_lt, zlc_le, zlc_gt, zlc_ge, zlc_eq, zi_ne0, zl_ne0, zi_div, zl_div, zi_rem, zl_rem, zcat_nil, zcat_int, zcat_ref, zcat_long, zkill_int, zkill_ref, zkill_long, zkill_J, zkill2, zto_some, zto_none, znb0, znb1, zB_some, zbr_t, zbr_f, not_true_eq_false, not_false_eq_true, true_imp_iff, false_imp_iff, true_and, and_true, Nat.reduceAdd, Nat.reduceLeDiff, Int.reduceAdd, Int.reduceSub, Int.reduceMul, Int.reduceNeg, zisC_inr, zget_inr, zsetf_inr, zldl_row, zald_row, zstl_row, zast_row, List.getElem?_cons_zero, List.getElem?_cons_succ, List.length_cons, List.length_nil, List.set_cons_zero, List.set_cons_succ, zmk_0, zmk_1, zmk_2, zmk_3, zmk_4, zmk_5, zmk_6, zmk_7, zrg_0, zrg_1, zrg_2, zrg_3, zrg_4, zrg_5, zrg_6, zrg_7, zrg_8, zrg_9, zrg_10, zrg_11, zrg_12, zrg_13, zrg_14, zrg_15, zrs_3, zrs_6, zrs_7, zrs_9, zrs_10, zrs_11, zrs_12, zrs_14, zrs_15, zmw_0, zmw_1, zmw_2, zmw_3, zmw_4, zmw_5, zmw_6, zmw_7, zisr, s_in]
  · subst c
    rw [if_neg (by omega), if_neg (by omega), if_pos rfl]
    simp (disch := omega) only [e167_0, e167_1, e167_2, e167_5, e167_6, e167_7, e167_8, e167_9, e167_12, e167_13, e167_14, e167_15, e167_18, e167_19, e167_20, e167_21, e167_22, e167_25, e167_26, e167_27, e167_28, e167_29, e167_32, e167_35, e167_36, e167_39, e167_41, e167_42, e167_43, e167_44, e167_47, e167_48, e167_51, e167_52, e167_53, e167_54, e167_55, e167_58, e167_59, e167_60, e167_61, e167_62, e167_65, e167_66, e167_67, e167_69, e167_72, zi_add, zi_sub, zi_mul, zl_add, zl_sub, zl_mul, zl_i, zi_l, zi_lt, zi_le, zi_eq, zl_lt, zl_le, zl_eq, zlc_lt, zlc_le, zlc_gt, zlc_ge, zlc_eq, zi_ne0, zl_ne0, zi_div, zl_div, zi_rem, zl_rem, zcat_nil, zcat_int, zcat_ref, zcat_long, zkill_int, zkill_ref, zkill_long, zkill_J, zkill2, zto_some, zto_none, znb0, znb1, zB_some, zbr_t, zbr_f, not_true_eq_false, not_false_eq_true, true_imp_iff, false_imp_iff, true_and, and_true, Nat.reduceAdd, Nat.reduceLeDiff, Int.reduceAdd, Int.reduceSub, Int.reduceMul, Int.reduceNeg, zisC_inr, zget_inr, zsetf_inr, zldl_row, zald_row, zstl_row, zast_row, List.getElem?_cons_zero, List.getElem?_cons_succ, List.length_cons, List.length_nil, List.set_cons_zero, List.set_cons_succ, zmk_0, zmk_1, zmk_2, zmk_3, zmk_4, zmk_5, zmk_6, zmk_7, zrg_0, zrg_1, zrg_2, zrg_3, zrg_4, zrg_5, zrg_6, zrg_7, zrg_8, zrg_9, zrg_10, zrg_11, zrg_12, zrg_13, zrg_14, zrg_15, zrs_3, zrs_6, zrs_7, zrs_9, zrs_10, zrs_11, zrs_12, zrs_14, zrs_15, zmw_0, zmw_1, zmw_2, zmw_3, zmw_4, zmw_5, zmw_6, zmw_7, zisr]
  · subst c
    rw [if_neg (by omega), if_neg (by omega), if_neg (by omega), h2 (by omega), h3 rfl]
    have hC : ∀ K, zG 125 0 [.ref a, .int (zi 0), .int (zi (ρ 0 0 + u)), .int (zi (ρ 0 0 + x)), .int (zi y)] [] z (zmk h a ρ) K ↔ K (some (.int (zi (rchp ρ 0 (ρ 0 0 + u) (ρ 0 0 + x) y).1))) z (zmk h a (rchp ρ 0 (ρ 0 0 + u) (ρ 0 0 + x) y).2) := fun K => s_chkP (Or.inl rfl) (by unfold zI; omega) (by unfold zI; omega) (by unfold zI; omega) hI
    simp (disch := omega) only [e167_0, e167_1, e167_2, e167_5, e167_6, e167_7, e167_8, e167_9, e167_12, e167_13, e167_14, e167_15, e167_18, e167_19, e167_20, e167_21, e167_22, e167_25, e167_26, e167_27, e167_28, e167_29, e167_32, e167_35, e167_36, e167_39, e167_41, e167_42, e167_43, e167_44, e167_47, e167_48, e167_51, e167_52, e167_53, e167_54, e167_55, e167_58, e167_59, e167_60, e167_61, e167_62, e167_65, e167_66, e167_67, e167_69, e167_72, zi_add, zi_sub, zi_mul, zl_add, zl_sub, zl_mul, zl_i, zi_l, zi_lt, zi_le, zi_eq, zl_lt, zl_le, zl_eq, zlc_lt, zlc_le, zlc_gt, zlc_ge, zlc_eq, zi_ne0, zl_ne0, zi_div, zl_div, zi_rem, zl_rem, zcat_nil, zcat_int, zcat_ref, zcat_long, zkill_int, zkill_ref, zkill_long, zkill_J, zkill2, zto_some, zto_none, znb0, znb1, zB_some, zbr_t, zbr_f, not_true_eq_false, not_false_eq_true, true_imp_iff, false_imp_iff, true_and, and_true, Nat.reduceAdd, Nat.reduceLeDiff, Int.reduceAdd, Int.reduceSub, Int.reduceMul, Int.reduceNeg, zisC_inr, zget_inr, zsetf_inr, zldl_row, zald_row, zstl_row, zast_row, List.getElem?_cons_zero, List.getElem?_cons_succ, List.length_cons, List.length_nil, List.set_cons_zero, List.set_cons_succ, zmk_0, zmk_1, zmk_2, zmk_3, zmk_4, zmk_5, zmk_6, zmk_7, zrg_0, zrg_1, zrg_2, zrg_3, zrg_4, zrg_5, zrg_6, zrg_7, zrg_8, zrg_9, zrg_10, zrg_11, zrg_12, zrg_13, zrg_14, zrg_15, zrs_3, zrs_6, zrs_7, zrs_9, zrs_10, zrs_11, zrs_12, zrs_14, zrs_15, zmw_0, zmw_1, zmw_2, zmw_3, zmw_4, zmw_5, zmw_6, zmw_7, zisr, s_number, hC]
theorem rchkO_b (ρ : Nat → Int → Int) (q : Int × Int × Int × Int) : -1000003 ≤ (rchkO ρ q).1 ∧ (rchkO ρ q).1 ≤ 0 := by
  unfold rchkO
  by_cases c1 : q.1 < 3
  · rw [if_pos c1]
    exact rchk_b _ _ _ _
  · rw [if_neg c1]
    by_cases c2 : q.1 = 3
    · rw [if_pos c2]
      by_cases c4 : 0 ≤ q.2.1 ∧ q.2.1 ≤ ρ 0 3 - 1
      · rw [if_pos c4]
        exact ⟨by show (-1000003 : Int) ≤ 0; decide, by show (0 : Int) ≤ 0; decide⟩
      · rw [if_neg c4]
        exact ⟨by show (-1000003 : Int) ≤ -1000001; decide, by show (-1000001 : Int) ≤ 0; decide⟩
    · rw [if_neg c2]
      by_cases c3 : q.1 = 4
      · rw [if_pos c3]
        exact ⟨by show (-1000003 : Int) ≤ 0; decide, by show (0 : Int) ≤ 0; decide⟩
      · rw [if_neg c3]
        exact rchp_b _ _ _ _ _
/-- what an order that nothing stands against needs -/
theorem rchkO_c {ρ : Nat → Int → Int} {q : Int × Int × Int × Int} (hq : rQ q) (h : ¬ (rchkO ρ q).1 < 0) : rchkO ρ q = (0, ρ) ∧ (q.1 < 3 → q.2.1 < ρ 0 1 ∧ ρ 0 3 ≠ 12) ∧ (q.1 = 3 → q.2.1 ≤ ρ 0 3 - 1) ∧ (q.1 = 5 → (0 ≤ ρ 0 0 + q.2.1 ∧ ρ 0 0 + q.2.1 ≤ 9999) ∧ (ρ 0 0 + q.2.1 ≤ ρ 0 0 + q.2.2.1 ∧ ρ 0 0 + q.2.2.1 ≤ 9999) ∧ ρ 0 8 ≠ 10) := by
  unfold rchkO at h ⊢
  unfold rQ at hq
  by_cases c1 : q.1 < 3
  · rw [if_pos c1] at h ⊢
    obtain ⟨b1, b2, b3, b4, b5⟩ := rchk_c h
    exact ⟨b5, fun _ => ⟨by omega, ragst_0 b4⟩, fun _ => by omega, fun _ => by omega⟩
  · rw [if_neg c1] at h ⊢
    by_cases c2 : q.1 = 3
    · rw [if_pos c2] at h ⊢
      by_cases c4 : 0 ≤ q.2.1 ∧ q.2.1 ≤ ρ 0 3 - 1
      · rw [if_pos c4]
        exact ⟨rfl, fun _ => by omega, fun _ => by omega, fun _ => by omega⟩
      · rw [if_neg c4] at h
        exact absurd (by show (-1000001 : Int) < 0; decide) h
    · rw [if_neg c2] at h ⊢
      by_cases c3 : q.1 = 4
      · rw [if_pos c3]
        exact ⟨rfl, fun _ => by omega, fun _ => by omega, fun _ => by omega⟩
      · rw [if_neg c3] at h ⊢
        obtain ⟨b1, b2, b3, b4, b5⟩ := rchp_c h
        rw [Int.add_zero] at b4
        exact ⟨b5, fun _ => by omega, fun _ => by omega, fun _ => ⟨b1, b2, b4⟩⟩
theorem s_doesO {q : Int × Int × Int × Int} {x2 x3 : Int} (hq : rQ q) (h2 : (q.1 < 3 ∨ q.1 = 5) → x2 = q.2.2.1) (h3 : q.1 = 5 → x3 = q.2.2.2) (hI : rI (ρ 0)) (hT : ρ 0 0 ≤ 100000000) (hc : ¬ (rchkO ρ q).1 < 0) :
    zG 168 0 [.ref a, .int (zi q.1), .int (zi q.2.1), .int (zi x2), .int (zi x3), zJ, zJ] [] z (zmk h a ρ) K ↔ K none z (zmk h a (zst ρ 0 (rdoesO (ρ 0) q))) := by
  have hb := hI.2.1
  obtain ⟨k0, k1, k2, k3⟩ := rchkO_c hq hc
  obtain ⟨w, u, x, y⟩ := q
  unfold rQ at hq
  simp only at hq h2 h3 k1 k2 k3
  unfold rdoesO
  simp only
  rcases (by omega : (0 ≤ w ∧ w ≤ 2) ∨ w = 3 ∨ w = 4 ∨ w = 5) with c | c | c | c
  · rw [if_pos (show w < 3 by omega), h2 (by omega)]
    have hp := rplc_le (ρ 0) (ρ 0 0 + x) (by omega)
    have hC : ∀ K, zG 144 0 [.ref a, .int (zi u), .int (zi w), .long (zl (ρ 0 0 + x)), zJ, zJ, zJ] [] z (zmk h a ρ) K ↔ K (some (.int (zi (rplc (ρ 0) (ρ 0 0 + x) : Int)))) z (zmk h a (zst ρ 0 (radd (ρ 0) u w (ρ 0 0 + x)))) := fun K => s_adds (by omega) (by omega) (by omega) (by omega) hI.bd
    simp (disch := omega) only [e168_0, e168_1, e168_3, e168_4, e168_5, e168_8, e168_9, e168_10, e168_11, e168_12, e168_15, e168_16, e168_17, e168_18, e168_19, e168_20, e168_23, e168_24, e168_26, e168_29, e168_30, e168_31, e168_34, e168_35, e168_36, e168_39, e168_40, e168_42, e168_45, e168_46, e168_47, e168_50, e168_51, e168_52, e168_55, e168_57, e168_60, e168_61, e168_62, e168_63, e168_64, e168_67, e168_68, e168_69, e168_70, e168_71, e168_74, e168_75, e168_76, e168_78, e168_81, e168_82, e168_84, zi_add, zi_sub, zi_mul, zl_add, zl_sub, zl_mul, zl_i, zi_l, zi_lt, zi_le, zi_eq, zl_lt, zl_le, zl_eq, zlc_lt, zlc_le, zlc_gt, zlc_ge, zlc_eq, zi_ne0, zl_ne0, zi_div, zl_div, zi_rem, zl_rem, zcat_nil, zcat_int, zcat_ref, zcat_long, zkill_int, zkill_ref, zkill_long, zkill_J, zkill2, zto_some, zto_none, znb0, znb1, zB_some, zbr_t, zbr_f, not_true_eq_false, not_false_eq_true, true_imp_iff, false_imp_iff, true_and, and_true, Nat.reduceAdd, Nat.reduceLeDiff, Int.reduceAdd, Int.reduceSub, Int.reduceMul, Int.reduceNeg, zisC_inr, zget_inr, zsetf_inr, zldl_row, zald_row, zstl_row, zast_row, List.getElem?_cons_zero, List.getElem?_cons_succ, List.length_cons, List.length_nil, List.set_cons_zero, List.set_cons_succ, zmk_0, zmk_1, zmk_2, zmk_3, zmk_4, zmk_5, zmk_6, zmk_7, zrg_0, zrg_1, zrg_2, zrg_3, zrg_4, zrg_5, zrg_6, zrg_7, zrg_8, zrg_9, zrg_10, zrg_11, zrg_12, zrg_13, zrg_14, zrg_15, zrs_3, zrs_6, zrs_7, zrs_9, zrs_10, zrs_11, zrs_12, zrs_14, zrs_15, zmw_0, zmw_1, zmw_2, zmw_3, zmw_4, zmw_5, zmw_6, zmw_7, zisr, hC]
  · subst c
    rw [if_neg (by omega), if_pos rfl]
    have hC : ∀ K, zG 146 0 [.ref a, .int (zi u), zJ] [] z (zmk h a ρ) K ↔ K (some (.int (zi (ρ 0 3 - 1)))) z (zmk h a (zst ρ 0 (rdrop (ρ 0) u))) := fun K => s_drops (by omega) (by omega)
    simp (disch := omega) only [e168_0, e168_1, e168_3, e168_4, e168_5, e168_8, e168_9, e168_10, e168_11, e168_12, e168_15, e168_16, e168_17, e168_18, e168_19, e168_20, e168_23, e168_24, e168_26, e168_29, e168_30, e168_31, e168_34, e168_35, e168_36, e168_39, e168_40, e168_42, e168_45, e168_46, e168_47, e168_50, e168_51, e168_52, e168_55, e168_57, e168_60, e168_61, e168_62, e168_63, e168_64, e168_67, e168_68, e168_69, e168_70, e168_71, e168_74, e168_75, e168_76, e168_78, e168_81, e168_82, e168_84, zi_add, zi_sub, zi_mul, zl_add, zl_sub, zl_mul, zl_i, zi_l, zi_lt, zi_le, zi_eq, zl_lt, zl_le, zl_eq, zlc_lt, zlc_le, zlc_gt, zlc_ge, zlc_eq, zi_ne0, zl_ne0, zi_div, zl_div, zi_rem, zl_rem, zcat_nil, zcat_int, zcat_ref, zcat_long, zkill_int, zkill_ref, zkill_long, zkill_J, zkill2, zto_some, zto_none, znb0, znb1, zB_some, zbr_t, zbr_f, not_true_eq_false, not_false_eq_true, true_imp_iff, false_imp_iff, true_and, and_true, Nat.reduceAdd, Nat.reduceLeDiff, Int.reduceAdd, Int.reduceSub, Int.reduceMul, Int.reduceNeg, zisC_inr, zget_inr, zsetf_inr, zldl_row, zald_row, zstl_row, zast_row, List.getElem?_cons_zero, List.getElem?_cons_succ, List.length_cons, List.length_nil, List.set_cons_zero, List.set_cons_succ, zmk_0, zmk_1, zmk_2, zmk_3, zmk_4, zmk_5, zmk_6, zmk_7, zrg_0, zrg_1, zrg_2, zrg_3, zrg_4, zrg_5, zrg_6, zrg_7, zrg_8, zrg_9, zrg_10, zrg_11, zrg_12, zrg_13, zrg_14, zrg_15, zrs_3, zrs_6, zrs_7, zrs_9, zrs_10, zrs_11, zrs_12, zrs_14, zrs_15, zmw_0, zmw_1, zmw_2, zmw_3, zmw_4, zmw_5, zmw_6, zmw_7, zisr, hC]
  · subst c
    rw [if_neg (by omega), if_neg (by omega), if_pos rfl]
    have hC : ∀ K, zG 151 0 [.ref a, .int (zi u), zJ, zJ, zJ, zJ, zJ, zJ, zJ, zJ, zJ, zJ, zJ, zJ, zJ, zJ, zJ] [] z (zmk h a ρ) K ↔ K (some (.long (zl (rpasS u.toNat (ρ 0))))) z (zmk h a (zst ρ 0 (rpasN u.toNat (ρ 0)))) := fun K => s_passes (by omega) hI hT
    simp (disch := omega) only [e168_0, e168_1, e168_3, e168_4, e168_5, e168_8, e168_9, e168_10, e168_11, e168_12, e168_15, e168_16, e168_17, e168_18, e168_19, e168_20, e168_23, e168_24, e168_26, e168_29, e168_30, e168_31, e168_34, e168_35, e168_36, e168_39, e168_40, e168_42, e168_45, e168_46, e168_47, e168_50, e168_51, e168_52, e168_55, e168_57, e168_60, e168_61, e168_62, e168_63, e168_64, e168_67, e168_68, e168_69, e168_70, e168_71, e168_74, e168_75, e168_76, e168_78, e168_81, e168_82, e168_84, zi_add, zi_sub, zi_mul, zl_add, zl_sub, zl_mul, zl_i, zi_l, zi_lt, zi_le, zi_eq, zl_lt, zl_le, zl_eq, zlc_lt, zlc_le, zlc_gt, zlc_ge, zlc_eq, zi_ne0, zl_ne0, zi_div, zl_div, zi_rem, zl_rem, zcat_nil, zcat_int, zcat_ref, zcat_long, zkill_int, zkill_ref, zkill_long, zkill_J, zkill2, zto_some, zto_none, znb0, znb1, zB_some, zbr_t, zbr_f, not_true_eq_false, not_false_eq_true, true_imp_iff, false_imp_iff, true_and, and_true, Nat.reduceAdd, Nat.reduceLeDiff, Int.reduceAdd, Int.reduceSub, Int.reduceMul, Int.reduceNeg, zisC_inr, zget_inr, zsetf_inr, zldl_row, zald_row, zstl_row, zast_row, List.getElem?_cons_zero, List.getElem?_cons_succ, List.length_cons, List.length_nil, List.set_cons_zero, List.set_cons_succ, zmk_0, zmk_1, zmk_2, zmk_3, zmk_4, zmk_5, zmk_6, zmk_7, zrg_0, zrg_1, zrg_2, zrg_3, zrg_4, zrg_5, zrg_6, zrg_7, zrg_8, zrg_9, zrg_10, zrg_11, zrg_12, zrg_13, zrg_14, zrg_15, zrs_3, zrs_6, zrs_7, zrs_9, zrs_10, zrs_11, zrs_12, zrs_14, zrs_15, zmw_0, zmw_1, zmw_2, zmw_3, zmw_4, zmw_5, zmw_6, zmw_7, zisr, hC]
  · subst c
    rw [if_neg (by omega), if_neg (by omega), if_neg (by omega), h2 (by omega), h3 rfl]
    have hC : ∀ K, zG 126 0 [.ref a, .int (zi 0), .int (zi (ρ 0 0 + u)), .int (zi (ρ 0 0 + x)), .int (zi y), zJ] [] z (zmk h a ρ) K ↔ K (some (.int (zi (ρ 0 (8 + 0) + 1)))) z (zmk h a (zst ρ 0 (rtel (ρ 0) 0 (ρ 0 0 + u) (ρ 0 0 + x) y))) := fun K => s_tells (Or.inl rfl) (by unfold zI; omega) (by unfold zI; omega) (by unfold zI; omega) (by rw [Int.add_zero]; omega)
    simp (disch := omega) only [e168_0, e168_1, e168_3, e168_4, e168_5, e168_8, e168_9, e168_10, e168_11, e168_12, e168_15, e168_16, e168_17, e168_18, e168_19, e168_20, e168_23, e168_24, e168_26, e168_29, e168_30, e168_31, e168_34, e168_35, e168_36, e168_39, e168_40, e168_42, e168_45, e168_46, e168_47, e168_50, e168_51, e168_52, e168_55, e168_57, e168_60, e168_61, e168_62, e168_63, e168_64, e168_67, e168_68, e168_69, e168_70, e168_71, e168_74, e168_75, e168_76, e168_78, e168_81, e168_82, e168_84, zi_add, zi_sub, zi_mul, zl_add, zl_sub, zl_mul, zl_i, zi_l, zi_lt, zi_le, zi_eq, zl_lt, zl_le, zl_eq, zlc_lt, zlc_le, zlc_gt, zlc_ge, zlc_eq, zi_ne0, zl_ne0, zi_div, zl_div, zi_rem, zl_rem, zcat_nil, zcat_int, zcat_ref, zcat_long, zkill_int, zkill_ref, zkill_long, zkill_J, zkill2, zto_some, zto_none, znb0, znb1, zB_some, zbr_t, zbr_f, not_true_eq_false, not_false_eq_true, true_imp_iff, false_imp_iff, true_and, and_true, Nat.reduceAdd, Nat.reduceLeDiff, Int.reduceAdd, Int.reduceSub, Int.reduceMul, Int.reduceNeg, zisC_inr, zget_inr, zsetf_inr, zldl_row, zald_row, zstl_row, zast_row, List.getElem?_cons_zero, List.getElem?_cons_succ, List.length_cons, List.length_nil, List.set_cons_zero, List.set_cons_succ, zmk_0, zmk_1, zmk_2, zmk_3, zmk_4, zmk_5, zmk_6, zmk_7, zrg_0, zrg_1, zrg_2, zrg_3, zrg_4, zrg_5, zrg_6, zrg_7, zrg_8, zrg_9, zrg_10, zrg_11, zrg_12, zrg_13, zrg_14, zrg_15, zrs_3, zrs_6, zrs_7, zrs_9, zrs_10, zrs_11, zrs_12, zrs_14, zrs_15, zmw_0, zmw_1, zmw_2, zmw_3, zmw_4, zmw_5, zmw_6, zmw_7, zisr, s_number, hC]
end RF19
