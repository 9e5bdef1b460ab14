/-! the reference's text: all orders -/
def pAllN (t : Int → Int) (n : Int) : Nat → Int → Int × List (Int × Int × Int × Int)
  | 0, s => (s, [])
  | k + 1, s => if 0 ≤ (pOrd t n s).1 then ((pOrd t n s).1, []) else
    if (pOrd t n s).2.2 < n then (if t (pOrd t n s).2.2 = 59 then ((pAllN t n k ((pOrd t n s).2.2 + 1)).1, (pOrd t n s).2.1 :: (pAllN t n k ((pOrd t n s).2.2 + 1)).2) else ((pOrd t n s).2.2, [])) else (-1000005, [(pOrd t n s).2.1])
def rRow (τ : Int → Int) (o : Int) (q : Int × Int × Int × Int) : Prop :=
  τ (4 * o) = q.1 ∧ τ (4 * o + 1) = q.2.1 ∧ ((q.1 < 3 ∨ q.1 = 5) → τ (4 * o + 2) = q.2.2.1) ∧ (q.1 = 5 → τ (4 * o + 3) = q.2.2.2)
def rAll (ρ : Nat → Int → Int) (o : Int) (P : Int × List (Int × Int × Int × Int)) (v τ : Int → Int) : Prop :=
  (∀ j, j ≠ 3 → j ≠ 4 → j ≠ 5 → j ≠ 6 → v j = ρ 7 j) ∧ v 5 = P.1 ∧ (∀ j, j < 4 * o → τ j = ρ 6 j) ∧
  (P.1 < 0 → v 6 = o + (P.2.length : Int) ∧ ∀ (i : Nat) (q : Int × Int × Int × Int), P.2[i]? = some q → rRow τ (o + (i : Int)) q)
section RF18
variable {z : zZ} {h : zH} {K : Option Value → zZ → zH → Prop} {a : Nat}
theorem s_readAll_l (k : Nat) : ∀ (s : Int) (ρ : Nat → Int → Int), 0 ≤ s ∧ s ≤ ρ 7 2 → tC (ρ 5) → 0 ≤ ρ 7 2 ∧ ρ 7 2 ≤ 90 → 0 ≤ ρ 7 6 ∧ 7 * ρ 7 6 ≤ s → ρ 7 2 + 1 - s ≤ k →
    ∃ v τ, rAll ρ (ρ 7 6) (pAllN (ρ 5) (ρ 7 2) k s) v τ ∧ ∀ K, (zG 165 0 [.ref a, .int (zi s), zJ, zJ] [] z (zmk h a ρ) (fun r z h => zG 166 10 [.ref a] (r.toList ++ []) z h K) ↔ K none z (zmk h a (zst (zst ρ 6 τ) 7 v))) := by
  induction k with
  | zero =>
    intro s ρ hs hC hn ho hk
    omega
  | succ k ih =>
    intro s ρ hs hC hn ho hk
    obtain ⟨v1, τ1, r1, E1⟩ := s_readOrder (z := z) (h := h) (a := a) (ρ := ρ) (s := s) hs hC (by omega) hn
    have hb := pOrd_b (ρ 5) hs
    obtain ⟨q1, q2, q3, q4, q5⟩ := r1
    simp only at q3 q5
    have eP : pAllN (ρ 5) (ρ 7 2) (k + 1) s = if 0 ≤ (pOrd (ρ 5) (ρ 7 2) s).1 then ((pOrd (ρ 5) (ρ 7 2) s).1, []) else
      if (pOrd (ρ 5) (ρ 7 2) s).2.2 < ρ 7 2 then (if ρ 5 (pOrd (ρ 5) (ρ 7 2) s).2.2 = 59 then ((pAllN (ρ 5) (ρ 7 2) k ((pOrd (ρ 5) (ρ 7 2) s).2.2 + 1)).1, (pOrd (ρ 5) (ρ 7 2) s).2.1 :: (pAllN (ρ 5) (ρ 7 2) k ((pOrd (ρ 5) (ρ 7 2) s).2.2 + 1)).2) else ((pOrd (ρ 5) (ρ 7 2) s).2.2, [])) else (-1000005, [(pOrd (ρ 5) (ρ 7 2) s).2.1]) := rfl
    rw [eP]
    have v2 : v1 2 = ρ 7 2 := q1 2 (by omega) (by omega) (by omega) (by omega)
    by_cases c1 : 0 ≤ (pOrd (ρ 5) (ρ 7 2) s).1
    · rw [if_pos c1]
      refine ⟨v1, τ1, ⟨q1, q3, fun j hj => q4 j (Or.inl hj), fun q => absurd c1 (Int.not_le.2 q)⟩, fun K => ?_⟩
      rw [E1, zto_none, e166_10]
      simp (disch := omega) only [e166_0, e166_1, e166_2, e166_5, e166_6, e166_7, e166_11, e166_14, e166_17, e166_18, e166_21, e166_22, e166_25, e166_28, e166_29, e166_32, e166_33, e166_36, e166_37, e166_39, e166_42, e166_43, e166_44, e166_47, e166_48, e166_49, e166_52, e166_55, e166_56, e166_57, e166_60, e166_63, e166_66, zi_add, zi_sub, zi_mul, zl_add, zl_sub, zl_mul, zl_i, zi_l, zi_lt, zi_le, zi_eq, zl_lt, zl_le, zl_eq, zlc_lt, zlc_le, zlc_gt, zlc_ge, zlc_eq, zi_ne0, zl_ne0, zi_div, zl_div, zi_rem, zl_rem, zcat_nil, zcat_int, zcat_ref, zcat_long, zkill_int, zkill_ref, zkill_long, zkill_J, zkill2, zto_some, zto_none, znb0, znb1, zB_some, zbr_t, zbr_f, not_true_eq_false, not_false_eq_true, true_imp_iff, false_imp_iff, true_and, and_true, Nat.reduceAdd, Nat.reduceLeDiff, Int.reduceAdd, Int.reduceSub, Int.reduceMul, Int.reduceNeg, zisC_inr, zget_inr, zsetf_inr, zldl_row, zald_row, zstl_row, zast_row, List.getElem?_cons_zero, List.getElem?_cons_succ, List.length_cons, List.length_nil, List.set_cons_zero, List.set_cons_succ, zmk_0, zmk_1, zmk_2, zmk_3, zmk_4, zmk_5, zmk_6, zmk_7, zrg_0, zrg_1, zrg_2, zrg_3, zrg_4, zrg_5, zrg_6, zrg_7, zrg_8, zrg_9, zrg_10, zrg_11, zrg_12, zrg_13, zrg_14, zrg_15, zrs_3, zrs_6, zrs_7, zrs_9, zrs_10, zrs_11, zrs_12, zrs_14, zrs_15, zmw_0, zmw_1, zmw_2, zmw_3, zmw_4, zmw_5, zmw_6, zmw_7, zisr, zst_ap, reduceIte, Nat.reduceEqDiff, q3]
    · rw [if_neg c1]
      have f1 : v1 5 = -1000005 := by omega
      obtain ⟨g4, g0, g1, g2, g3⟩ := q5 (by omega)
      have hc := hC (pOrd (ρ 5) (ρ 7 2) s).2.2
      by_cases c2 : (pOrd (ρ 5) (ρ 7 2) s).2.2 < ρ 7 2
      · rw [if_pos c2]
        by_cases c3 : ρ 5 (pOrd (ρ 5) (ρ 7 2) s).2.2 = 59
        · rw [if_pos c3]
          obtain ⟨v, τ, r2, E2⟩ := ih ((pOrd (ρ 5) (ρ 7 2) s).2.2 + 1) (zst (zst ρ 6 τ1) 7 v1) (by simp only [zst_zst, zst_ap, zset_ap, reduceIte, Nat.reduceEqDiff, Nat.zero_ne_one, Nat.one_ne_zero, Int.reduceEq]; rw [v2]; omega) (by simp only [zst_zst, zst_ap, zset_ap, reduceIte, Nat.reduceEqDiff, Nat.zero_ne_one, Nat.one_ne_zero, Int.reduceEq]; exact hC) (by simp only [zst_zst, zst_ap, zset_ap, reduceIte, Nat.reduceEqDiff, Nat.zero_ne_one, Nat.one_ne_zero, Int.reduceEq]; rw [v2]; exact hn) (by simp only [zst_zst, zst_ap, zset_ap, reduceIte, Nat.reduceEqDiff, Nat.zero_ne_one, Nat.one_ne_zero, Int.reduceEq]; rw [q2]; omega) (by simp only [zst_zst, zst_ap, zset_ap, reduceIte, Nat.reduceEqDiff, Nat.zero_ne_one, Nat.one_ne_zero, Int.reduceEq]; rw [v2]; omega)
          simp only [zst_ap, reduceIte, Nat.reduceEqDiff, v2, q2] at r2
          obtain ⟨w1, w2, w3, w4⟩ := r2
          simp only [zst_ap, reduceIte, Nat.reduceEqDiff] at w1 w3
          refine ⟨v, τ, ⟨fun j h3 h4 h5 h6 => (w1 j h3 h4 h5 h6).trans (q1 j h3 h4 h5 h6), w2, fun j hj => (w3 j (by omega)).trans (q4 j (Or.inl hj)), fun q => ⟨?_, fun i x hx => ?_⟩⟩, fun K => ?_⟩
          · rw [(w4 q).1]
            simp only [List.length_cons]
            omega
          · cases i with
            | zero =>
              simp only [List.getElem?_cons_zero, Option.some.injEq] at hx
              subst hx
              unfold rRow
              rw [show ρ 7 6 + ((0 : Nat) : Int) = ρ 7 6 by omega, w3 _ (by omega), w3 _ (by omega), w3 _ (by omega), w3 _ (by omega)]
              exact ⟨g0, g1, g2, g3⟩
            | succ i =>
              simp only [List.getElem?_cons_succ] at hx
              have := (w4 q).2 i x hx
              rw [show ρ 7 6 + 1 + (i : Int) = ρ 7 6 + ((i + 1 : Nat) : Int) by omega] at this
              exact this
          · rw [E1, zto_none, e166_10]
            simp (disch := omega) only [e166_0, e166_1, e166_2, e166_5, e166_6, e166_7, e166_11, e166_14, e166_17, e166_18, e166_21, e166_22, e166_25, e166_28, e166_29, e166_32, e166_33, e166_36, e166_37, e166_39, e166_42, e166_43, e166_44, e166_47, e166_48, e166_49, e166_52, e166_55, e166_56, e166_57, e166_60, e166_63, e166_66, zi_add, zi_sub, zi_mul, zl_add, zl_sub, zl_mul, zl_i, zi_l, zi_lt, zi_le, zi_eq, zl_lt, zl_le, zl_eq, zlc_lt, zlc_le, zlc_gt, zlc_ge, zlc_eq, zi_ne0, zl_ne0, zi_div, zl_div, zi_rem, zl_rem, zcat_nil, zcat_int, zcat_ref, zcat_long, zkill_int, zkill_ref, zkill_long, zkill_J, zkill2, zto_some, zto_none, znb0, znb1, zB_some, zbr_t, zbr_f, not_true_eq_false, not_false_eq_true, true_imp_iff, false_imp_iff, true_and, and_true, Nat.reduceAdd, Nat.reduceLeDiff, Int.reduceAdd, Int.reduceSub, Int.reduceMul, Int.reduceNeg, zisC_inr, zget_inr, zsetf_inr, zldl_row, zald_row, zstl_row, zast_row, List.getElem?_cons_zero, List.getElem?_cons_succ, List.length_cons, List.length_nil, List.set_cons_zero, List.set_cons_succ, zmk_0, zmk_1, zmk_2, zmk_3, zmk_4, zmk_5, zmk_6, zmk_7, zrg_0, zrg_1, zrg_2, zrg_3, zrg_4, zrg_5, zrg_6, zrg_7, zrg_8, zrg_9, zrg_10, zrg_11, zrg_12, zrg_13, zrg_14, zrg_15, zrs_3, zrs_6, zrs_7, zrs_9, zrs_10, zrs_11, zrs_12, zrs_14, zrs_15, zmw_0, zmw_1, zmw_2, zmw_3, zmw_4, zmw_5, zmw_6, zmw_7, zisr, zst_ap, reduceIte, Nat.reduceEqDiff, f1, g4, v2, c3]
            rw [E2 K, zst_67, zst_zst]
        · rw [if_neg c3]
          refine ⟨zset v1 5 (pOrd (ρ 5) (ρ 7 2) s).2.2, τ1, ⟨fun j h3 h4 h5 h6 => ?_, ?_, fun j hj => q4 j (Or.inl hj), fun q => absurd q (by show ¬ (pOrd (ρ 5) (ρ 7 2) s).2.2 < 0; omega)⟩, fun K => ?_⟩
          · rw [zset_ap, if_neg h5, q1 j h3 h4 h5 h6]
          · rw [zset_ap, if_pos rfl]
          · rw [E1, zto_none, e166_10]
            simp (disch := omega) only [e166_0, e166_1, e166_2, e166_5, e166_6, e166_7, e166_11, e166_14, e166_17, e166_18, e166_21, e166_22, e166_25, e166_28, e166_29, e166_32, e166_33, e166_36, e166_37, e166_39, e166_42, e166_43, e166_44, e166_47, e166_48, e166_49, e166_52, e166_55, e166_56, e166_57, e166_60, e166_63, e166_66, zi_add, zi_sub, zi_mul, zl_add, zl_sub, zl_mul, zl_i, zi_l, zi_lt, zi_le, zi_eq, zl_lt, zl_le, zl_eq, zlc_lt, zlc_le, zlc_gt, zlc_ge, zlc_eq, zi_ne0, zl_ne0, zi_div, zl_div, zi_rem, zl_rem, zcat_nil, zcat_int, zcat_ref, zcat_long, zkill_int, zkill_ref, zkill_long, zkill_J, zkill2, zto_some, zto_none, znb0, znb1, zB_some, zbr_t, zbr_f, not_true_eq_false, not_false_eq_true, true_imp_iff, false_imp_iff, true_and, and_true, Nat.reduceAdd, Nat.reduceLeDiff, Int.reduceAdd, Int.reduceSub, Int.reduceMul, Int.reduceNeg, zisC_inr, zget_inr, zsetf_inr, zldl_row, zald_row, zstl_row, zast_row, List.getElem?_cons_zero, List.getElem?_cons_succ, List.length_cons, List.length_nil, List.set_cons_zero, List.set_cons_succ, zmk_0, zmk_1, zmk_2, zmk_3, zmk_4, zmk_5, zmk_6, zmk_7, zrg_0, zrg_1, zrg_2, zrg_3, zrg_4, zrg_5, zrg_6, zrg_7, zrg_8, zrg_9, zrg_10, zrg_11, zrg_12, zrg_13, zrg_14, zrg_15, zrs_3, zrs_6, zrs_7, zrs_9, zrs_10, zrs_11, zrs_12, zrs_14, zrs_15, zmw_0, zmw_1, zmw_2, zmw_3, zmw_4, zmw_5, zmw_6, zmw_7, zisr, zst_ap, reduceIte, Nat.reduceEqDiff, f1, g4, v2, zst_zst]
            rw [e166_10]
            simp (disch := omega) only [e166_0, e166_1, e166_2, e166_5, e166_6, e166_7, e166_11, e166_14, e166_17, e166_18, e166_21, e166_22, e166_25, e166_28, e166_29, e166_32, e166_33, e166_36, e166_37, e166_39, e166_42, e166_43, e166_44, e166_47, e166_48, e166_49, e166_52, e166_55, e166_56, e166_57, e166_60, e166_63, e166_66, zi_add, zi_sub, zi_mul, zl_add, zl_sub, zl_mul, zl_i, zi_l, zi_lt, zi_le, zi_eq, zl_lt, zl_le, zl_eq, zlc_lt, zlc_le, zlc_gt, zlc_ge, zlc_eq, zi_ne0, zl_ne0, zi_div, zl_div, zi_rem, zl_rem, zcat_nil, zcat_int, zcat_ref, zcat_long, zkill_int, zkill_ref, zkill_long, zkill_J, zkill2, zto_some, zto_none, znb0, znb1, zB_some, zbr_t, zbr_f, not_true_eq_false, not_false_eq_true, true_imp_iff, false_imp_iff, true_and, and_true, Nat.reduceAdd, Nat.reduceLeDiff, Int.reduceAdd, Int.reduceSub, Int.reduceMul, Int.reduceNeg, zisC_inr, zget_inr, zsetf_inr, zldl_row, zald_row, zstl_row, zast_row, List.getElem?_cons_zero, List.getElem?_cons_succ, List.length_cons, List.length_nil, List.set_cons_zero, List.set_cons_succ, zmk_0, zmk_1, zmk_2, zmk_3, zmk_4, zmk_5, zmk_6, zmk_7, zrg_0, zrg_1, zrg_2, zrg_3, zrg_4, zrg_5, zrg_6, zrg_7, zrg_8, zrg_9, zrg_10, zrg_11, zrg_12, zrg_13, zrg_14, zrg_15, zrs_3, zrs_6, zrs_7, zrs_9, zrs_10, zrs_11, zrs_12, zrs_14, zrs_15, zmw_0, zmw_1, zmw_2, zmw_3, zmw_4, zmw_5, zmw_6, zmw_7, zisr, zst_ap, reduceIte, Nat.reduceEqDiff, f1, g4, v2, zset_ap]
      · rw [if_neg c2]
        refine ⟨v1, τ1, ⟨q1, f1, fun j hj => q4 j (Or.inl hj), fun q => ⟨q2, fun i x hx => ?_⟩⟩, fun K => ?_⟩
        · cases i with
          | zero =>
            simp only [List.getElem?_cons_zero, Option.some.injEq] at hx
            subst hx
            unfold rRow
            rw [show ρ 7 6 + ((0 : Nat) : Int) = ρ 7 6 by omega]
            exact ⟨g0, g1, g2, g3⟩
          | succ i =>
            simp only [List.getElem?_cons_succ, List.getElem?_nil] at hx
            exact absurd hx (by simp)
        · rw [E1, zto_none, e166_10]
          simp (disch := omega) only [e166_0, e166_1, e166_2, e166_5, e166_6, e166_7, e166_11, e166_14, e166_17, e166_18, e166_21, e166_22, e166_25, e166_28, e166_29, e166_32, e166_33, e166_36, e166_37, e166_39, e166_42, e166_43, e166_44, e166_47, e166_48, e166_49, e166_52, e166_55, e166_56, e166_57, e166_60, e166_63, e166_66, zi_add, zi_sub, zi_mul, zl_add, zl_sub, zl_mul, zl_i, zi_l, zi_lt, zi_le, zi_eq, zl_lt, zl_le, zl_eq, zlc_lt, zlc_le, zlc_gt, zlc_ge, zlc_eq, zi_ne0, zl_ne0, zi_div, zl_div, zi_rem, zl_rem, zcat_nil, zcat_int, zcat_ref, zcat_long, zkill_int, zkill_ref, zkill_long, zkill_J, zkill2, zto_some, zto_none, znb0, znb1, zB_some, zbr_t, zbr_f, not_true_eq_false, not_false_eq_true, true_imp_iff, false_imp_iff, true_and, and_true, Nat.reduceAdd, Nat.reduceLeDiff, Int.reduceAdd, Int.reduceSub, Int.reduceMul, Int.reduceNeg, zisC_inr, zget_inr, zsetf_inr, zldl_row, zald_row, zstl_row, zast_row, List.getElem?_cons_zero, List.getElem?_cons_succ, List.length_cons, List.length_nil, List.set_cons_zero, List.set_cons_succ, zmk_0, zmk_1, zmk_2, zmk_3, zmk_4, zmk_5, zmk_6, zmk_7, zrg_0, zrg_1, zrg_2, zrg_3, zrg_4, zrg_5, zrg_6, zrg_7, zrg_8, zrg_9, zrg_10, zrg_11, zrg_12, zrg_13, zrg_14, zrg_15, zrs_3, zrs_6, zrs_7, zrs_9, zrs_10, zrs_11, zrs_12, zrs_14, zrs_15, zmw_0, zmw_1, zmw_2, zmw_3, zmw_4, zmw_5, zmw_6, zmw_7, zisr, zst_ap, reduceIte, Nat.reduceEqDiff, f1, g4, v2]
theorem s_readAll {ρ : Nat → Int → Int} (hC : tC (ρ 5)) (hn : 0 ≤ ρ 7 2 ∧ ρ 7 2 ≤ 90) :
    ∃ v τ, rAll ρ 0 (pAllN (ρ 5) (ρ 7 2) 91 0) v τ ∧ ∀ K, (zG 166 0 [.ref a] [] z (zmk h a ρ) K ↔ K none z (zmk h a (zst (zst ρ 6 τ) 7 v))) := by
  obtain ⟨v, τ, r, E⟩ := s_readAll_l (z := z) (h := h) (a := a) 91 0 (zst ρ 7 (zset (ρ 7) 6 0)) (by simp only [zst_zst, zst_ap, zset_ap, reduceIte, Nat.reduceEqDiff, Nat.zero_ne_one, Nat.one_ne_zero, Int.reduceEq]; omega) (by simp only [zst_zst, zst_ap, zset_ap, reduceIte, Nat.reduceEqDiff, Nat.zero_ne_one, Nat.one_ne_zero, Int.reduceEq]; exact hC) (by simp only [zst_zst, zst_ap, zset_ap, reduceIte, Nat.reduceEqDiff, Nat.zero_ne_one, Nat.one_ne_zero, Int.reduceEq]; exact hn) (by simp only [zst_zst, zst_ap, zset_ap, reduceIte, Nat.reduceEqDiff, Nat.zero_ne_one, Nat.one_ne_zero, Int.reduceEq]; omega) (by simp only [zst_zst, zst_ap, zset_ap, reduceIte, Nat.reduceEqDiff, Nat.zero_ne_one, Nat.one_ne_zero, Int.reduceEq]; omega)
  simp only [zst_zst, zst_ap, zset_ap, reduceIte, Nat.reduceEqDiff, Nat.zero_ne_one, Nat.one_ne_zero, Int.reduceEq] at r
  refine ⟨v, τ, ⟨fun j h3 h4 h5 h6 => ?_, r.2⟩, fun K => ?_⟩
  · rw [r.1 j h3 h4 h5 h6]
    simp only [zst_ap, reduceIte, zset_ap]
    rw [if_neg h6]
  · simp (disch := omega) only [e166_0, e166_1, e166_2, e166_5, e166_6, e166_7, e166_11, e166_14, e166_17, e166_18, e166_21, e166_22, e166_25, e166_28, e166_29, e166_32, e166_33, e166_36, e166_37, e166_39, e166_42, e166_43, e166_44, e166_47, e166_48, e166_49, e166_52, e166_55, e166_56, e166_57, e166_60, e166_63, e166_66, zi_add, zi_sub, zi_mul, zl_add, zl_sub, zl_mul, zl_i, zi_l, zi_lt, zi_le, zi_eq, zl_lt, zl_le, zl_eq, zlc_lt, zlc_le, zlc_gt, zlc_ge, zlc_eq, zi_ne0, zl_ne0, zi_div, zl_div, zi_rem, zl_rem, zcat_nil, zcat_int, zcat_ref, zcat_long, zkill_int, zkill_ref, zkill_long, zkill_J, zkill2, zto_some, zto_none, znb0, znb1, zB_some, zbr_t, zbr_f, not_true_eq_false, not_false_eq_true, true_imp_iff, false_imp_iff, true_and, and_true, Nat.reduceAdd, Nat.reduceLeDiff, Int.reduceAdd, Int.reduceSub, Int.reduceMul, Int.reduceNeg, zisC_inr, zget_inr, zsetf_inr, zldl_row, zald_row, zstl_row, zast_row, List.getElem?_cons_zero, List.getElem?_cons_succ, List.length_cons, List.length_nil, List.set_cons_zero, List.set_cons_succ, zmk_0, zmk_1, zmk_2, zmk_3, zmk_4, zmk_5, zmk_6, zmk_7, zrg_0, zrg_1, zrg_2, zrg_3, zrg_4, zrg_5, zrg_6, zrg_7, zrg_8, zrg_9, zrg_10, zrg_11, zrg_12, zrg_13, zrg_14, zrg_15, zrs_3, zrs_6, zrs_7, zrs_9, zrs_10, zrs_11, zrs_12, zrs_14, zrs_15, zmw_0, zmw_1, zmw_2, zmw_3, zmw_4, zmw_5, zmw_6, zmw_7, zisr]
    rw [E K, zst_comm ρ (by decide), zst_zst]
end RF18
