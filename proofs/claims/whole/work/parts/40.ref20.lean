/-! the reference: runOrders -/
theorem pTail_q (t : Int → Int) {n e w : Int} (he : 0 ≤ e ∧ e ≤ n) (hw : 0 ≤ w ∧ w ≤ 5) (h : (pTail t n e w).1 < 0) : rQ (w, (pTail t n e w).2.1) := by
  have b0 := pArg_b t (n := n) (e := e) (lo := if w = 4 then 1 else 0) (hi := if w = 4 then 60 else if w = 3 then 11 else if w = 5 then 59 else 3) he (by split <;> omega)
  have b1 := pArg_b t (n := n) (e := e) (lo := 0) (hi := if w = 5 then 59 else 3) he (by omega)
  have b1' := pArg_b t (n := n) (e := e) (lo := 0) (hi := 59) he (by omega)
  unfold pTail at h ⊢
  unfold rQ
  by_cases c0 : 0 ≤ (pArg t n e (if w = 4 then 1 else 0) (if w = 4 then 60 else if w = 3 then 11 else if w = 5 then 59 else 3)).1
  · rw [if_pos c0] at h
    exact absurd c0 (Int.not_le.2 h)
  · rw [if_neg c0] at h ⊢
    by_cases c1 : w = 3 ∨ w = 4
    · rw [if_pos c1]
      show (0 ≤ w ∧ w ≤ 5) ∧ (0 ≤ (pArg t n e (if w = 4 then 1 else 0) (if w = 4 then 60 else if w = 3 then 11 else if w = 5 then 59 else 3)).2.1 ∧ (pArg t n e (if w = 4 then 1 else 0) (if w = 4 then 60 else if w = 3 then 11 else if w = 5 then 59 else 3)).2.1 ≤ 60) ∧ (w = 4 → 1 ≤ (pArg t n e (if w = 4 then 1 else 0) (if w = 4 then 60 else if w = 3 then 11 else if w = 5 then 59 else 3)).2.1) ∧ ((0 : Int) ≤ 0 ∧ (0 : Int) ≤ 59) ∧ ((0 : Int) ≤ 0 ∧ (0 : Int) ≤ 500)
      rcases c1 with c1 | c1
      · rw [if_neg (show ¬ w = 4 by omega), if_neg (show ¬ w = 4 by omega), if_pos c1] at b0 c0 ⊢
        omega
      · rw [if_pos c1, if_pos c1] at b0 c0 ⊢
        omega
    · rw [if_neg c1] at h ⊢
      rw [if_neg (show ¬ w = 4 by omega), if_neg (show ¬ w = 4 by omega), if_neg (show ¬ w = 3 by omega)] at c0
      have b2 := pArg_b t (n := n) (e := (pArg t n e 0 (if w = 5 then 59 else 3)).2.2) (lo := 0) (hi := 59) (by omega) (by omega)
      by_cases c2 : 0 ≤ (pArg t n (pArg t n e 0 (if w = 5 then 59 else 3)).2.2 0 59).1
      · rw [if_pos c2] at h
        exact absurd c2 (Int.not_le.2 h)
      · rw [if_neg c2] at h ⊢
        by_cases c3 : w ≠ 5
        · rw [if_pos c3]
          rw [if_neg c3] at c0 c2 b1 b2
          rw [if_neg c3]
          show (0 ≤ w ∧ w ≤ 5) ∧ (0 ≤ (pArg t n e 0 3).2.1 ∧ (pArg t n e 0 3).2.1 ≤ 60) ∧ (w = 4 → 1 ≤ (pArg t n e 0 3).2.1) ∧ (0 ≤ (pArg t n (pArg t n e 0 3).2.2 0 59).2.1 ∧ (pArg t n (pArg t n e 0 3).2.2 0 59).2.1 ≤ 59) ∧ ((0 : Int) ≤ 0 ∧ (0 : Int) ≤ 500)
          omega
        · rw [if_neg c3] at h ⊢
          have c5 : w = 5 := by omega
          rw [if_pos c5] at c0 c2 b1 b2
          have b3 := pArg_b t (n := n) (e := (pArg t n (pArg t n e 0 59).2.2 0 59).2.2) (lo := 0) (hi := 500) (by omega) (by omega)
          by_cases c4 : 0 ≤ (pArg t n (pArg t n (pArg t n e 0 59).2.2 0 59).2.2 0 500).1
          · rw [if_pos c4] at h
            exact absurd c4 (Int.not_le.2 h)
          · rw [if_neg c4]
            show (0 ≤ w ∧ w ≤ 5) ∧ (0 ≤ (pArg t n e 0 59).2.1 ∧ (pArg t n e 0 59).2.1 ≤ 60) ∧ (w = 4 → 1 ≤ (pArg t n e 0 59).2.1) ∧ (0 ≤ (pArg t n (pArg t n e 0 59).2.2 0 59).2.1 ∧ (pArg t n (pArg t n e 0 59).2.2 0 59).2.1 ≤ 59) ∧ (0 ≤ (pArg t n (pArg t n (pArg t n e 0 59).2.2 0 59).2.2 0 500).2.1 ∧ (pArg t n (pArg t n (pArg t n e 0 59).2.2 0 59).2.2 0 500).2.1 ≤ 500)
            omega
theorem pOrd_q (t : Int → Int) {n s : Int} (hs : 0 ≤ s ∧ s ≤ n) (h : (pOrd t n s).1 < 0) : rQ (pOrd t n s).2.1 := by
  have hq := pEnd_b t n s
  have hw := pWord_b t s (pEnd t n s)
  unfold pOrd at h ⊢
  by_cases c : pWord t s (pEnd t n s) < 0
  · rw [if_pos c] at h
    exact absurd hs.1 (Int.not_le.2 h)
  · rw [if_neg c] at h ⊢
    exact pTail_q t (by omega) (by omega) h
theorem pAllN_q (t : Int → Int) (n : Int) : ∀ (k : Nat) (s : Int), 0 ≤ s ∧ s ≤ n → (pAllN t n k s).1 < 0 → (∀ (i : Nat) (q : Int × Int × Int × Int), (pAllN t n k s).2[i]? = some q → rQ q) ∧ 7 * ((pAllN t n k s).2.length : Int) ≤ n + 1 - s ∧ (pAllN t n k s).1 = -1000005
  | 0, s, hs, h => absurd hs.1 (Int.not_le.2 h)
  | k + 1, s, hs, h => by
    have hb := pOrd_b t hs
    have eP : pAllN t n (k + 1) s = if 0 ≤ (pOrd t n s).1 then ((pOrd t n s).1, []) else
      if (pOrd t n s).2.2 < n then (if t (pOrd t n s).2.2 = 59 then ((pAllN t n k ((pOrd t n s).2.2 + 1)).1, (pOrd t n s).2.1 :: (pAllN t n k ((pOrd t n s).2.2 + 1)).2) else ((pOrd t n s).2.2, [])) else (-1000005, [(pOrd t n s).2.1]) := rfl
    rw [eP] at h ⊢
    by_cases c1 : 0 ≤ (pOrd t n s).1
    · rw [if_pos c1] at h
      exact absurd c1 (Int.not_le.2 h)
    · rw [if_neg c1] at h ⊢
      have hq := pOrd_q t hs (by omega)
      by_cases c2 : (pOrd t n s).2.2 < n
      · rw [if_pos c2] at h ⊢
        by_cases c3 : t (pOrd t n s).2.2 = 59
        · rw [if_pos c3] at h ⊢
          obtain ⟨i1, i2, i3⟩ := pAllN_q t n k ((pOrd t n s).2.2 + 1) (by omega) h
          refine ⟨fun i q hi => ?_, ?_, i3⟩
          · cases i with
            | zero =>
              simp only [List.getElem?_cons_zero, Option.some.injEq] at hi
              subst hi
              exact hq
            | succ i =>
              simp only [List.getElem?_cons_succ] at hi
              exact i1 i q hi
          · simp only [List.length_cons]
            omega
        · rw [if_neg c3] at h
          exact absurd h (by show ¬ (pOrd t n s).2.2 < 0; omega)
      · rw [if_neg c2] at h ⊢
        refine ⟨fun i q hi => ?_, ?_, rfl⟩
        · cases i with
          | zero =>
            simp only [List.getElem?_cons_zero, Option.some.injEq] at hi
            subst hi
            exact hq
          | succ i =>
            simp only [List.getElem?_cons_succ, List.getElem?_nil] at hi
            exact absurd hi (by simp)
        · simp only [List.length_cons, List.length_nil]
          omega
theorem rpasN_0 : ∀ (n : Nat) (σ : Int → Int), rpasN n σ 0 = σ 0 + n
  | 0, σ => by
    show σ 0 = σ 0 + ((0 : Nat) : Int)
    omega
  | n + 1, σ => by
    show rpasN n (rnight σ) 0 = _
    rw [rpasN_0 n, rnight_0]
    omega
/-- carrying out keeps what holds of rows -/
theorem rdoesO_I {ρ : Nat → Int → Int} {q : Int × Int × Int × Int} (hq : rQ q) (hI : rI (ρ 0)) (hT : ρ 0 0 ≤ 100000000) (hc : ¬ (rchkO ρ q).1 < 0) : rI (rdoesO (ρ 0) q) ∧ rdoesO (ρ 0) q 0 ≤ ρ 0 0 + 60 ∧ ρ 0 0 ≤ rdoesO (ρ 0) q 0 := by
  have hb := hI.2.1
  obtain ⟨k0, k1, k2, k3⟩ := rchkO_c hq hc
  unfold rQ at hq
  unfold rdoesO
  by_cases c1 : q.1 < 3
  · rw [if_pos c1, radd_o _ _ _ _ (by omega) _ (by omega) (by omega)]
    exact ⟨hI.add (by omega) (by omega) (by omega) (by omega), by omega, by omega⟩
  · rw [if_neg c1]
    by_cases c2 : q.1 = 3
    · rw [if_pos c2, rdrop_ap (by omega), if_neg (by omega), if_neg (by omega)]
      exact ⟨hI.drop (by omega), by omega, by omega⟩
    · rw [if_neg c2]
      by_cases c3 : q.1 = 4
      · rw [if_pos c3, rpasN_0]
        exact ⟨rpasN_I _ hI, by omega, by omega⟩
      · rw [if_neg c3]
        obtain ⟨a1, a2, a3⟩ := k3 (by omega)
        refine ⟨hI.tel (Or.inl rfl) a1 a2 (by rw [if_pos rfl]; omega) (by rw [Int.add_zero]; omega), ?_, ?_⟩
        · simp only [rtel, zset, Int.add_zero]
          rw [if_neg (by omega), if_neg (by omega), if_neg (by omega), if_neg (by omega)]
          omega
        · simp only [rtel, zset, Int.add_zero]
          rw [if_neg (by omega), if_neg (by omega), if_neg (by omega), if_neg (by omega)]
          omega
def rrun : List (Int × Int × Int × Int) → (Nat → Int → Int) → Int → Int × (Nat → Int → Int)
  | [], ρ, n => (n, ρ)
  | q :: qs, ρ, n => if (rchkO ρ q).1 < 0 then (n, zst (rchkO ρ q).2 7 (zset (zset ((rchkO ρ q).2 7) 7 n) 8 (if (rchkO ρ q).1 = -1000003 then (rchkO ρ q).2 7 1 else if (rchkO ρ q).1 = -1000001 then 11 else 12)))
    else rrun qs (zst ρ 0 (rdoesO (ρ 0) q)) (n + 1)
section RF20
variable {z : zZ} {h : zH} {K : Option Value → zZ → zH → Prop} {a : Nat}
theorem s_run_l : ∀ (qs : List (Int × Int × Int × Int)) (ρ : Nat → Int → Int) (n : Int) (l2 l3 : Value), rI (ρ 0) → ρ 0 0 + 60 * (qs.length : Int) ≤ 100000000 → ρ 7 7 = -1000005 → 0 ≤ n ∧ n + (qs.length : Int) ≤ 40 → ρ 7 6 = n + (qs.length : Int) → (∀ (i : Nat) (q : Int × Int × Int × Int), qs[i]? = some q → rRow (ρ 6) (n + (i : Int)) q ∧ rQ q) →
    (zG 169 37 [.ref a, .int (zi n), l2, l3] [] z (zmk h a ρ) K ↔ K (some (.int (zi (rrun qs ρ n).1))) z (zmk h a (rrun qs ρ n).2))
  | [], ρ, n, l2, l3, hI, hT, h7, hn, h6, hr => by
    simp only [List.length_nil] at h6 hn
    rw [e169_37]
    simp (disch := omega) only [e169_0, e169_1, e169_4, e169_5, e169_8, e169_11, e169_13, e169_14, e169_17, e169_18, e169_19, e169_20, e169_23, e169_24, e169_26, e169_29, e169_30, e169_32, e169_35, e169_36, e169_38, e169_41, e169_44, e169_45, e169_46, e169_49, e169_52, e169_53, e169_54, e169_55, e169_56, e169_57, e169_58, e169_61, e169_62, e169_63, e169_64, e169_67, e169_68, e169_69, e169_70, e169_71, e169_72, e169_75, e169_76, e169_77, e169_78, e169_79, e169_80, e169_83, e169_84, e169_85, e169_86, e169_87, e169_90, e169_91, e169_92, e169_95, e169_96, e169_97, e169_100, e169_101, e169_102, e169_104, e169_107, e169_108, e169_111, e169_114, e169_115, e169_117, e169_120, e169_122, e169_125, e169_127, e169_130, e169_133, e169_134, e169_135, e169_138, e169_139, e169_140, e169_141, e169_144, e169_145, e169_146, e169_147, e169_148, e169_149, e169_152, e169_153, e169_154, e169_155, e169_156, e169_157, e169_160, e169_161, e169_162, e169_163, e169_164, e169_167, e169_170, e169_173, e169_174, zi_add, zi_sub, zi_mul, zl_add, zl_sub, zl_mul, zl_i, zi_l, zi_lt, zi_le, zi_eq, zl_lt, zl_le, zl_eq, zlc_lt, zlc_le, zlc_gt, zlc_ge, zlc_eq, zi_ne0, zl_ne0, zi_div, zl_div, zi_rem, zl_rem, zcat_nil, zcat_int, zcat_ref, zcat_long, zkill_int, zkill_ref, zkill_long, zkill_J, zkill2, zto_some, zto_none, znb0, znb1, zB_some, zbr_t, zbr_f, not_true_eq_false, not_false_eq_true, true_imp_iff, false_imp_iff, true_and, and_true, Nat.reduceAdd, Nat.reduceLeDiff, Int.reduceAdd, Int.reduceSub, Int.reduceMul, Int.reduceNeg, zisC_inr, zget_inr, zsetf_inr, zldl_row, zald_row, zstl_row, zast_row, List.getElem?_cons_zero, List.getElem?_cons_succ, List.length_cons, List.length_nil, List.set_cons_zero, List.set_cons_succ, zmk_0, zmk_1, zmk_2, zmk_3, zmk_4, zmk_5, zmk_6, zmk_7, zrg_0, zrg_1, zrg_2, zrg_3, zrg_4, zrg_5, zrg_6, zrg_7, zrg_8, zrg_9, zrg_10, zrg_11, zrg_12, zrg_13, zrg_14, zrg_15, zrs_3, zrs_6, zrs_7, zrs_9, zrs_10, zrs_11, zrs_12, zrs_14, zrs_15, zmw_0, zmw_1, zmw_2, zmw_3, zmw_4, zmw_5, zmw_6, zmw_7, zisr, h7, rrun]
  | q :: qs, ρ, n, l2, l3, hI, hT, h7, hn, h6, hr => by
    simp only [List.length_cons] at h6 hn hT
    obtain ⟨⟨r0, r1, r2, r3⟩, hq⟩ := hr 0 q rfl
    rw [show n + ((0 : Nat) : Int) = n by omega] at r0 r1 r2 r3
    have hC : ∀ K, zG 167 0 [.ref a, .int (zi q.1), .int (zi q.2.1), .int (zi (ρ 6 (4 * n + 2))), .int (zi (ρ 6 (4 * n + 3)))] [] z (zmk h a ρ) K ↔ K (some (.int (zi (rchkO ρ q).1))) z (zmk h a (rchkO ρ q).2) := fun K => s_checkO hq r2 r3 hI (by omega)
    have cb := rchkO_b ρ q
    rw [e169_37]
    by_cases c : (rchkO ρ q).1 < 0
    · have eR : rrun (q :: qs) ρ n = (n, zst (rchkO ρ q).2 7 (zset (zset ((rchkO ρ q).2 7) 7 n) 8 (if (rchkO ρ q).1 = -1000003 then (rchkO ρ q).2 7 1 else if (rchkO ρ q).1 = -1000001 then 11 else 12))) := if_pos c
      rw [eR]
      by_cases c2 : (rchkO ρ q).1 = -1000003
      · rw [if_pos c2]
        simp (disch := omega) only [e169_0, e169_1, e169_4, e169_5, e169_8, e169_11, e169_13, e169_14, e169_17, e169_18, e169_19, e169_20, e169_23, e169_24, e169_26, e169_29, e169_30, e169_32, e169_35, e169_36, e169_38, e169_41, e169_44, e169_45, e169_46, e169_49, e169_52, e169_53, e169_54, e169_55, e169_56, e169_57, e169_58, e169_61, e169_62, e169_63, e169_64, e169_67, e169_68, e169_69, e169_70, e169_71, e169_72, e169_75, e169_76, e169_77, e169_78, e169_79, e169_80, e169_83, e169_84, e169_85, e169_86, e169_87, e169_90, e169_91, e169_92, e169_95, e169_96, e169_97, e169_100, e169_101, e169_102, e169_104, e169_107, e169_108, e169_111, e169_114, e169_115, e169_117, e169_120, e169_122, e169_125, e169_127, e169_130, e169_133, e169_134, e169_135, e169_138, e169_139, e169_140, e169_141, e169_144, e169_145, e169_146, e169_147, e169_148, e169_149, e169_152, e169_153, e169_154, e169_155, e169_156, e169_157, e169_160, e169_161, e169_162, e169_163, e169_164, e169_167, e169_170, e169_173, e169_174, zi_add, zi_sub, zi_mul, zl_add, zl_sub, zl_mul, zl_i, zi_l, zi_lt, zi_le, zi_eq, zl_lt, zl_le, zl_eq, zlc_lt, zlc_le, zlc_gt, zlc_ge, zlc_eq, zi_ne0, zl_ne0, zi_div, zl_div, zi_rem, zl_rem, zcat_nil, zcat_int, zcat_ref, zcat_long, zkill_int, zkill_ref, zkill_long, zkill_J, zkill2, zto_some, zto_none, znb0, znb1, zB_some, zbr_t, zbr_f, not_true_eq_false, not_false_eq_true, true_imp_iff, false_imp_iff, true_and, and_true, Nat.reduceAdd, Nat.reduceLeDiff, Int.reduceAdd, Int.reduceSub, Int.reduceMul, Int.reduceNeg, zisC_inr, zget_inr, zsetf_inr, zldl_row, zald_row, zstl_row, zast_row, List.getElem?_cons_zero, List.getElem?_cons_succ, List.length_cons, List.length_nil, List.set_cons_zero, List.set_cons_succ, zmk_0, zmk_1, zmk_2, zmk_3, zmk_4, zmk_5, zmk_6, zmk_7, zrg_0, zrg_1, zrg_2, zrg_3, zrg_4, zrg_5, zrg_6, zrg_7, zrg_8, zrg_9, zrg_10, zrg_11, zrg_12, zrg_13, zrg_14, zrg_15, zrs_3, zrs_6, zrs_7, zrs_9, zrs_10, zrs_11, zrs_12, zrs_14, zrs_15, zmw_0, zmw_1, zmw_2, zmw_3, zmw_4, zmw_5, zmw_6, zmw_7, zisr, h7, r0, r1, hC, zst_ap, if_true, zst_zst, zset_ap, if_neg, Nat.reduceEqDiff, reduceIte, Int.reduceEq]
        rw [e169_37]
        simp (disch := omega) only [e169_0, e169_1, e169_4, e169_5, e169_8, e169_11, e169_13, e169_14, e169_17, e169_18, e169_19, e169_20, e169_23, e169_24, e169_26, e169_29, e169_30, e169_32, e169_35, e169_36, e169_38, e169_41, e169_44, e169_45, e169_46, e169_49, e169_52, e169_53, e169_54, e169_55, e169_56, e169_57, e169_58, e169_61, e169_62, e169_63, e169_64, e169_67, e169_68, e169_69, e169_70, e169_71, e169_72, e169_75, e169_76, e169_77, e169_78, e169_79, e169_80, e169_83, e169_84, e169_85, e169_86, e169_87, e169_90, e169_91, e169_92, e169_95, e169_96, e169_97, e169_100, e169_101, e169_102, e169_104, e169_107, e169_108, e169_111, e169_114, e169_115, e169_117, e169_120, e169_122, e169_125, e169_127, e169_130, e169_133, e169_134, e169_135, e169_138, e169_139, e169_140, e169_141, e169_144, e169_145, e169_146, e169_147, e169_148, e169_149, e169_152, e169_153, e169_154, e169_155, e169_156, e169_157, e169_160, e169_161, e169_162, e169_163, e169_164, e169_167, e169_170, e169_173, e169_174, zi_add, zi_sub, zi_mul, zl_add, zl_sub, zl_mul, zl_i, zi_l, zi_lt, zi_le, zi_eq, zl_lt, zl_le, zl_eq, zlc_lt, zlc_le, zlc_gt, zlc_ge, zlc_eq, zi_ne0, zl_ne0, zi_div, zl_div, zi_rem, zl_rem, zcat_nil, zcat_int, zcat_ref, zcat_long, zkill_int, zkill_ref, zkill_long, zkill_J, zkill2, zto_some, zto_none, znb0, znb1, zB_some, zbr_t, zbr_f, not_true_eq_false, not_false_eq_true, true_imp_iff, false_imp_iff, true_and, and_true, Nat.reduceAdd, Nat.reduceLeDiff, Int.reduceAdd, Int.reduceSub, Int.reduceMul, Int.reduceNeg, zisC_inr, zget_inr, zsetf_inr, zldl_row, zald_row, zstl_row, zast_row, List.getElem?_cons_zero, List.getElem?_cons_succ, List.length_cons, List.length_nil, List.set_cons_zero, List.set_cons_succ, zmk_0, zmk_1, zmk_2, zmk_3, zmk_4, zmk_5, zmk_6, zmk_7, zrg_0, zrg_1, zrg_2, zrg_3, zrg_4, zrg_5, zrg_6, zrg_7, zrg_8, zrg_9, zrg_10, zrg_11, zrg_12, zrg_13, zrg_14, zrg_15, zrs_3, zrs_6, zrs_7, zrs_9, zrs_10, zrs_11, zrs_12, zrs_14, zrs_15, zmw_0, zmw_1, zmw_2, zmw_3, zmw_4, zmw_5, zmw_6, zmw_7, zisr, zst_ap, if_true, zset_ap, if_neg, Int.reduceEq, reduceIte]
      · rw [if_neg c2]
        by_cases c3 : (rchkO ρ q).1 = -1000001
        · rw [if_pos c3]
          simp (disch := omega) only [e169_0, e169_1, e169_4, e169_5, e169_8, e169_11, e169_13, e169_14, e169_17, e169_18, e169_19, e169_20, e169_23, e169_24, e169_26, e169_29, e169_30, e169_32, e169_35, e169_36, e169_38, e169_41, e169_44, e169_45, e169_46, e169_49, e169_52, e169_53, e169_54, e169_55, e169_56, e169_57, e169_58, e169_61, e169_62, e169_63, e169_64, e169_67, e169_68, e169_69, e169_70, e169_71, e169_72, e169_75, e169_76, e169_77, e169_78, e169_79, e169_80, e169_83, e169_84, e169_85, e169_86, e169_87, e169_90, e169_91, e169_92, e169_95, e169_96, e169_97, e169_100, e169_101, e169_102, e169_104, e169_107, e169_108, e169_111, e169_114, e169_115, e169_117, e169_120, e169_122, e169_125, e169_127, e169_130, e169_133, e169_134, e169_135, e169_138, e169_139, e169_140, e169_141, e169_144, e169_145, e169_146, e169_147, e169_148, e169_149, e169_152, e169_153, e169_154, e169_155, e169_156, e169_157, e169_160, e169_161, e169_162, e169_163, e169_164, e169_167, e169_170, e169_173, e169_174, zi_add, zi_sub, zi_mul, zl_add, zl_sub, zl_mul, zl_i, zi_l, zi_lt, zi_le, zi_eq, zl_lt, zl_le, zl_eq, zlc_lt, zlc_le, zlc_gt, zlc_ge, zlc_eq, zi_ne0, zl_ne0, zi_div, zl_div, zi_rem, zl_rem, zcat_nil, zcat_int, zcat_ref, zcat_long, zkill_int, zkill_ref, zkill_long, zkill_J, zkill2, zto_some, zto_none, znb0, znb1, zB_some, zbr_t, zbr_f, not_true_eq_false, not_false_eq_true, true_imp_iff, false_imp_iff, true_and, and_true, Nat.reduceAdd, Nat.reduceLeDiff, Int.reduceAdd, Int.reduceSub, Int.reduceMul, Int.reduceNeg, zisC_inr, zget_inr, zsetf_inr, zldl_row, zald_row, zstl_row, zast_row, List.getElem?_cons_zero, List.getElem?_cons_succ, List.length_cons, List.length_nil, List.set_cons_zero, List.set_cons_succ, zmk_0, zmk_1, zmk_2, zmk_3, zmk_4, zmk_5, zmk_6, zmk_7, zrg_0, zrg_1, zrg_2, zrg_3, zrg_4, zrg_5, zrg_6, zrg_7, zrg_8, zrg_9, zrg_10, zrg_11, zrg_12, zrg_13, zrg_14, zrg_15, zrs_3, zrs_6, zrs_7, zrs_9, zrs_10, zrs_11, zrs_12, zrs_14, zrs_15, zmw_0, zmw_1, zmw_2, zmw_3, zmw_4, zmw_5, zmw_6, zmw_7, zisr, h7, r0, r1, hC, zst_ap, if_true, zst_zst]
          rw [e169_37]
          simp (disch := omega) only [e169_0, e169_1, e169_4, e169_5, e169_8, e169_11, e169_13, e169_14, e169_17, e169_18, e169_19, e169_20, e169_23, e169_24, e169_26, e169_29, e169_30, e169_32, e169_35, e169_36, e169_38, e169_41, e169_44, e169_45, e169_46, e169_49, e169_52, e169_53, e169_54, e169_55, e169_56, e169_57, e169_58, e169_61, e169_62, e169_63, e169_64, e169_67, e169_68, e169_69, e169_70, e169_71, e169_72, e169_75, e169_76, e169_77, e169_78, e169_79, e169_80, e169_83, e169_84, e169_85, e169_86, e169_87, e169_90, e169_91, e169_92, e169_95, e169_96, e169_97, e169_100, e169_101, e169_102, e169_104, e169_107, e169_108, e169_111, e169_114, e169_115, e169_117, e169_120, e169_122, e169_125, e169_127, e169_130, e169_133, e169_134, e169_135, e169_138, e169_139, e169_140, e169_141, e169_144, e169_145, e169_146, e169_147, e169_148, e169_149, e169_152, e169_153, e169_154, e169_155, e169_156, e169_157, e169_160, e169_161, e169_162, e169_163, e169_164, e169_167, e169_170, e169_173, e169_174, zi_add, zi_sub, zi_mul, zl_add, zl_sub, zl_mul, zl_i, zi_l, zi_lt, zi_le, zi_eq, zl_lt, zl_le, zl_eq, zlc_lt, zlc_le, zlc_gt, zlc_ge, zlc_eq, zi_ne0, zl_ne0, zi_div, zl_div, zi_rem, zl_rem, zcat_nil, zcat_int, zcat_ref, zcat_long, zkill_int, zkill_ref, zkill_long, zkill_J, zkill2, zto_some, zto_none, znb0, znb1, zB_some, zbr_t, zbr_f, not_true_eq_false, not_false_eq_true, true_imp_iff, false_imp_iff, true_and, and_true, Nat.reduceAdd, Nat.reduceLeDiff, Int.reduceAdd, Int.reduceSub, Int.reduceMul, Int.reduceNeg, zisC_inr, zget_inr, zsetf_inr, zldl_row, zald_row, zstl_row, zast_row, List.getElem?_cons_zero, List.getElem?_cons_succ, List.length_cons, List.length_nil, List.set_cons_zero, List.set_cons_succ, zmk_0, zmk_1, zmk_2, zmk_3, zmk_4, zmk_5, zmk_6, zmk_7, zrg_0, zrg_1, zrg_2, zrg_3, zrg_4, zrg_5, zrg_6, zrg_7, zrg_8, zrg_9, zrg_10, zrg_11, zrg_12, zrg_13, zrg_14, zrg_15, zrs_3, zrs_6, zrs_7, zrs_9, zrs_10, zrs_11, zrs_12, zrs_14, zrs_15, zmw_0, zmw_1, zmw_2, zmw_3, zmw_4, zmw_5, zmw_6, zmw_7, zisr, zst_ap, if_true, zset_ap, if_neg, Int.reduceEq, reduceIte]
        · rw [if_neg c3]
          simp (disch := omega) only [e169_0, e169_1, e169_4, e169_5, e169_8, e169_11, e169_13, e169_14, e169_17, e169_18, e169_19, e169_20, e169_23, e169_24, e169_26, e169_29, e169_30, e169_32, e169_35, e169_36, e169_38, e169_41, e169_44, e169_45, e169_46, e169_49, e169_52, e169_53, e169_54, e169_55, e169_56, e169_57, e169_58, e169_61, e169_62, e169_63, e169_64, e169_67, e169_68, e169_69, e169_70, e169_71, e169_72, e169_75, e169_76, e169_77, e169_78, e169_79, e169_80, e169_83, e169_84, e169_85, e169_86, e169_87, e169_90, e169_91, e169_92, e169_95, e169_96, e169_97, e169_100, e169_101, e169_102, e169_104, e169_107, e169_108, e169_111, e169_114, e169_115, e169_117, e169_120, e169_122, e169_125, e169_127, e169_130, e169_133, e169_134, e169_135, e169_138, e169_139, e169_140, e169_141, e169_144, e169_145, e169_146, e169_147, e169_148, e169_149, e169_152, e169_153, e169_154, e169_155, e169_156, e169_157, e169_160, e169_161, e169_162, e169_163, e169_164, e169_167, e169_170, e169_173, e169_174, zi_add, zi_sub, zi_mul, zl_add, zl_sub, zl_mul, zl_i, zi_l, zi_lt, zi_le, zi_eq, zl_lt, zl_le, zl_eq, zlc_lt, zlc_le, zlc_gt, zlc_ge, zlc_eq, zi_ne0, zl_ne0, zi_div, zl_div, zi_rem, zl_rem, zcat_nil, zcat_int, zcat_ref, zcat_long, zkill_int, zkill_ref, zkill_long, zkill_J, zkill2, zto_some, zto_none, znb0, znb1, zB_some, zbr_t, zbr_f, not_true_eq_false, not_false_eq_true, true_imp_iff, false_imp_iff, true_and, and_true, Nat.reduceAdd, Nat.reduceLeDiff, Int.reduceAdd, Int.reduceSub, Int.reduceMul, Int.reduceNeg, zisC_inr, zget_inr, zsetf_inr, zldl_row, zald_row, zstl_row, zast_row, List.getElem?_cons_zero, List.getElem?_cons_succ, List.length_cons, List.length_nil, List.set_cons_zero, List.set_cons_succ, zmk_0, zmk_1, zmk_2, zmk_3, zmk_4, zmk_5, zmk_6, zmk_7, zrg_0, zrg_1, zrg_2, zrg_3, zrg_4, zrg_5, zrg_6, zrg_7, zrg_8, zrg_9, zrg_10, zrg_11, zrg_12, zrg_13, zrg_14, zrg_15, zrs_3, zrs_6, zrs_7, zrs_9, zrs_10, zrs_11, zrs_12, zrs_14, zrs_15, zmw_0, zmw_1, zmw_2, zmw_3, zmw_4, zmw_5, zmw_6, zmw_7, zisr, h7, r0, r1, hC, zst_ap, if_true, zst_zst]
          rw [e169_37]
          simp (disch := omega) only [e169_0, e169_1, e169_4, e169_5, e169_8, e169_11, e169_13, e169_14, e169_17, e169_18, e169_19, e169_20, e169_23, e169_24, e169_26, e169_29, e169_30, e169_32, e169_35, e169_36, e169_38, e169_41, e169_44, e169_45, e169_46, e169_49, e169_52, e169_53, e169_54, e169_55, e169_56, e169_57, e169_58, e169_61, e169_62, e169_63, e169_64, e169_67, e169_68, e169_69, e169_70, e169_71, e169_72, e169_75, e169_76, e169_77, e169_78, e169_79, e169_80, e169_83, e169_84, e169_85, e169_86, e169_87, e169_90, e169_91, e169_92, e169_95, e169_96, e169_97, e169_100, e169_101, e169_102, e169_104, e169_107, e169_108, e169_111, e169_114, e169_115, e169_117, e169_120, e169_122, e169_125, e169_127, e169_130, e169_133, e169_134, e169_135, e169_138, e169_139, e169_140, e169_141, e169_144, e169_145, e169_146, e169_147, e169_148, e169_149, e169_152, e169_153, e169_154, e169_155, e169_156, e169_157, e169_160, e169_161, e169_162, e169_163, e169_164, e169_167, e169_170, e169_173, e169_174, zi_add, zi_sub, zi_mul, zl_add, zl_sub, zl_mul, zl_i, zi_l, zi_lt, zi_le, zi_eq, zl_lt, zl_le, zl_eq, zlc_lt, zlc_le, zlc_gt, zlc_ge, zlc_eq, zi_ne0, zl_ne0, zi_div, zl_div, zi_rem, zl_rem, zcat_nil, zcat_int, zcat_ref, zcat_long, zkill_int, zkill_ref, zkill_long, zkill_J, zkill2, zto_some, zto_none, znb0, znb1, zB_some, zbr_t, zbr_f, not_true_eq_false, not_false_eq_true, true_imp_iff, false_imp_iff, true_and, and_true, Nat.reduceAdd, Nat.reduceLeDiff, Int.reduceAdd, Int.reduceSub, Int.reduceMul, Int.reduceNeg, zisC_inr, zget_inr, zsetf_inr, zldl_row, zald_row, zstl_row, zast_row, List.getElem?_cons_zero, List.getElem?_cons_succ, List.length_cons, List.length_nil, List.set_cons_zero, List.set_cons_succ, zmk_0, zmk_1, zmk_2, zmk_3, zmk_4, zmk_5, zmk_6, zmk_7, zrg_0, zrg_1, zrg_2, zrg_3, zrg_4, zrg_5, zrg_6, zrg_7, zrg_8, zrg_9, zrg_10, zrg_11, zrg_12, zrg_13, zrg_14, zrg_15, zrs_3, zrs_6, zrs_7, zrs_9, zrs_10, zrs_11, zrs_12, zrs_14, zrs_15, zmw_0, zmw_1, zmw_2, zmw_3, zmw_4, zmw_5, zmw_6, zmw_7, zisr, zst_ap, if_true, zset_ap, if_neg, Int.reduceEq, reduceIte]
    · have eR : rrun (q :: qs) ρ n = rrun qs (zst ρ 0 (rdoesO (ρ 0) q)) (n + 1) := if_neg c
      obtain ⟨i1, i2, i3⟩ := rdoesO_I hq hI (by omega) c
      have hD : ∀ K, zG 168 0 [.ref a, .int (zi q.1), .int (zi q.2.1), .int (zi (ρ 6 (4 * n + 2))), .int (zi (ρ 6 (4 * n + 3))), zJ, zJ] [] z (zmk h a ρ) K ↔ K none z (zmk h a (zst ρ 0 (rdoesO (ρ 0) q))) := fun K => s_doesO hq r2 r3 hI (by omega) c
      have k0 := (rchkO_c hq c).1
      rw [k0] at hC
      rw [eR]
      simp (disch := omega) only [e169_0, e169_1, e169_4, e169_5, e169_8, e169_11, e169_13, e169_14, e169_17, e169_18, e169_19, e169_20, e169_23, e169_24, e169_26, e169_29, e169_30, e169_32, e169_35, e169_36, e169_38, e169_41, e169_44, e169_45, e169_46, e169_49, e169_52, e169_53, e169_54, e169_55, e169_56, e169_57, e169_58, e169_61, e169_62, e169_63, e169_64, e169_67, e169_68, e169_69, e169_70, e169_71, e169_72, e169_75, e169_76, e169_77, e169_78, e169_79, e169_80, e169_83, e169_84, e169_85, e169_86, e169_87, e169_90, e169_91, e169_92, e169_95, e169_96, e169_97, e169_100, e169_101, e169_102, e169_104, e169_107, e169_108, e169_111, e169_114, e169_115, e169_117, e169_120, e169_122, e169_125, e169_127, e169_130, e169_133, e169_134, e169_135, e169_138, e169_139, e169_140, e169_141, e169_144, e169_145, e169_146, e169_147, e169_148, e169_149, e169_152, e169_153, e169_154, e169_155, e169_156, e169_157, e169_160, e169_161, e169_162, e169_163, e169_164, e169_167, e169_170, e169_173, e169_174, zi_add, zi_sub, zi_mul, zl_add, zl_sub, zl_mul, zl_i, zi_l, zi_lt, zi_le, zi_eq, zl_lt, zl_le, zl_eq, zlc_lt, zlc_le, zlc_gt, zlc_ge, zlc_eq, zi_ne0, zl_ne0, zi_div, zl_div, zi_rem, zl_rem, zcat_nil, zcat_int, zcat_ref, zcat_long, zkill_int, zkill_ref, zkill_long, zkill_J, zkill2, zto_some, zto_none, znb0, znb1, zB_some, zbr_t, zbr_f, not_true_eq_false, not_false_eq_true, true_imp_iff, false_imp_iff, true_and, and_true, Nat.reduceAdd, Nat.reduceLeDiff, Int.reduceAdd, Int.reduceSub, Int.reduceMul, Int.reduceNeg, zisC_inr, zget_inr, zsetf_inr, zldl_row, zald_row, zstl_row, zast_row, List.getElem?_cons_zero, List.getElem?_cons_succ, List.length_cons, List.length_nil, List.set_cons_zero, List.set_cons_succ, zmk_0, zmk_1, zmk_2, zmk_3, zmk_4, zmk_5, zmk_6, zmk_7, zrg_0, zrg_1, zrg_2, zrg_3, zrg_4, zrg_5, zrg_6, zrg_7, zrg_8, zrg_9, zrg_10, zrg_11, zrg_12, zrg_13, zrg_14, zrg_15, zrs_3, zrs_6, zrs_7, zrs_9, zrs_10, zrs_11, zrs_12, zrs_14, zrs_15, zmw_0, zmw_1, zmw_2, zmw_3, zmw_4, zmw_5, zmw_6, zmw_7, zisr, h7, r0, r1, hC, hD]
      exact s_run_l qs (zst ρ 0 (rdoesO (ρ 0) q)) (n + 1) _ _ i1 (by show rdoesO (ρ 0) q 0 + _ ≤ _; omega) h7 (by omega) (by show ρ 7 6 = _; omega) (fun i x hx => by
        have := hr (i + 1) x hx
        rw [show n + ((i + 1 : Nat) : Int) = n + 1 + (i : Int) by omega] at this
        exact this)
end RF20
