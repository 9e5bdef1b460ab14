/-! the reference: the best pair -/
def rbpS (σ : Int → Int) (m k : Int) (n : Nat) (d e : Int) (b : Int × Int) : Int × Int :=
  if ragst (radd σ m k (σ 0 + d)) m k (σ 0 + e) = 0 then
    (if b.1 < 0 ∨ rpasS n (radd (radd σ m k (σ 0 + d)) m k (σ 0 + e)) < b.2 then (100 * d + e, rpasS n (radd (radd σ m k (σ 0 + d)) m k (σ 0 + e))) else b)
  else b
def rbpI (σ : Int → Int) (m k : Int) (n : Nat) (d : Int) (b : Int × Int) : Nat → Int × Int
  | 0 => b
  | j + 1 => rbpS σ m k n d (d + 1 + j) (rbpI σ m k n d b j)
def rbpN (σ : Int → Int) (m k : Int) (n : Nat) : Nat → Int × Int
  | 0 => (-1000005, 0)
  | d + 1 => if ragst σ m k (σ 0 + d) = 0 then rbpI σ m k n d (rbpN σ m k n d) (n - (d + 1)) else rbpN σ m k n d
def abpair (ρ : Nat → Int → Int) (m k n : Int) : Int × (Nat → Int → Int) :=
  if ¬ (0 ≤ m ∧ m ≤ ρ 0 1 - 1) then (-1000001, ρ) else if ¬ (0 ≤ k ∧ k ≤ 2) ∨ ¬ (1 ≤ n ∧ n ≤ 60) then (-1000002, ρ) else ((rbpN (ρ 0) m k n.toNat n.toNat).1, rsav ρ)
def rbpB (x : Int) (b : Int × Int) : Prop := (-1000005 ≤ b.1 ∧ b.1 < x) ∧ (0 ≤ b.2 ∧ b.2 ≤ 240000000)
theorem rbpS_b {σ : Int → Int} (hI : rI σ) (hT : σ 0 ≤ 100000000) {m k : Int} (hm : 0 ≤ m ∧ m < σ 1) (hk : 0 ≤ k ∧ k ≤ 2) {N : Nat} (hN : N ≤ 60) {d e : Int} (hd : 0 ≤ d ∧ d ≤ 60) (he : 0 ≤ e ∧ e ≤ 60) (h12 : σ 3 ≠ 12) {b : Int × Int} (hb : rbpB (100 * d + e) b) : rbpB (100 * d + e + 1) (rbpS σ m k N d e b) := by
  have h2 := hI.2.1
  have hA := hI.add hm hk (d := σ 0 + d) (by omega) (by omega)
  have a0 : radd σ m k (σ 0 + d) 0 = σ 0 := radd_o _ _ _ _ (by omega) _ (by omega) (by omega)
  have a1 : radd σ m k (σ 0 + d) 1 = σ 1 := radd_o _ _ _ _ (by omega) _ (by omega) (by omega)
  have h2A := hA.2.1
  unfold rbpS
  unfold rbpB at hb ⊢
  by_cases c : ragst (radd σ m k (σ 0 + d)) m k (σ 0 + e) = 0
  · rw [if_pos c]
    have h3 := ragst_0 c
    have hL := rpasS_b N (hA.add (m := m) (k := k) (d := σ 0 + e) (by omega) hk (by omega) (by omega))
    split
    · refine ⟨⟨?_, ?_⟩, ?_, ?_⟩
      · show (-1000005 : Int) ≤ 100 * d + e
        omega
      · show 100 * d + e < 100 * d + e + 1
        omega
      · exact hL.1
      · show rpasS N (radd (radd σ m k (σ 0 + d)) m k (σ 0 + e)) ≤ 240000000
        omega
    · omega
  · rw [if_neg c]
    omega
theorem rbpI_b {σ : Int → Int} (hI : rI σ) (hT : σ 0 ≤ 100000000) {m k : Int} (hm : 0 ≤ m ∧ m < σ 1) (hk : 0 ≤ k ∧ k ≤ 2) {N : Nat} (hN : N ≤ 60) {d : Nat} (hd : d < N) (h12 : σ 3 ≠ 12) {b : Int × Int} (hb : rbpB (101 * (d : Int) + 1) b) : ∀ j : Nat, d + 1 + j ≤ N → rbpB (101 * (d : Int) + 1 + j) (rbpI σ m k N d b j)
  | 0, _ => by
    rw [show 101 * (d : Int) + 1 + ((0 : Nat) : Int) = 101 * (d : Int) + 1 by omega]
    exact hb
  | j + 1, hj => by
    have ih := rbpI_b hI hT hm hk hN hd h12 hb j (by omega)
    have := rbpS_b hI hT hm hk hN (d := d) (e := (d : Int) + 1 + j) (by omega) (by omega) h12 (b := rbpI σ m k N d b j) (by rw [show 100 * (d : Int) + ((d : Int) + 1 + j) = 101 * (d : Int) + 1 + j by omega]; exact ih)
    rw [show 100 * (d : Int) + ((d : Int) + 1 + j) + 1 = 101 * (d : Int) + 1 + ((j + 1 : Nat) : Int) by omega] at this
    exact this
theorem rbpN_b {σ : Int → Int} (hI : rI σ) (hT : σ 0 ≤ 100000000) {m k : Int} (hm : 0 ≤ m ∧ m < σ 1) (hk : 0 ≤ k ∧ k ≤ 2) {N : Nat} (hN : N ≤ 60) : ∀ d : Nat, d ≤ N → rbpB (101 * (d : Int) + 1) (rbpN σ m k N d)
  | 0, _ => ⟨⟨by show (-1000005 : Int) ≤ -1000005; omega, by show (-1000005 : Int) < _; omega⟩, by show (0 : Int) ≤ 0; omega, by show (0 : Int) ≤ 240000000; omega⟩
  | d + 1, hd => by
    have ih := rbpN_b hI hT hm hk hN d (by omega)
    have eS : rbpN σ m k N (d + 1) = if ragst σ m k (σ 0 + d) = 0 then rbpI σ m k N d (rbpN σ m k N d) (N - (d + 1)) else rbpN σ m k N d := rfl
    rw [eS]
    by_cases c : ragst σ m k (σ 0 + d) = 0
    · rw [if_pos c]
      have := rbpI_b hI hT hm hk hN (d := d) (by omega) (ragst_0 c) ih (N - (d + 1)) (by omega)
      unfold rbpB at this ⊢
      omega
    · rw [if_neg c]
      unfold rbpB at ih ⊢
      omega
section RF12
variable {z : zZ} {h : zH} {K : Option Value → zZ → zH → Prop} {a : Nat} {ρ : Nat → Int → Int}
/-- one pair -/
theorem s_bpair_s {m k : Int} {N d : Nat} {ζ : Int → Int} (hm : 0 ≤ m ∧ m < ρ 0 1) (hk : 0 ≤ k ∧ k ≤ 2) (hN : N ≤ 60) (hI : rI (ρ 0)) (hT : ρ 0 0 ≤ 100000000) (h1 : ρ 1 = rcpy (ρ 0) ζ 0 0 240) (hd : d < N) (hc : ρ 0 3 ≠ 12) (e : Nat) (he : d < e ∧ e < N) {b : Int × Int} (hbb : rbpB (100 * (d : Int) + e) b) (l10 l11 l12 l13 l14 : Value) :
    ∃ m10 m11 m12 m13 m14, (zG 158 90 [.ref a, .int (zi m), .int (zi k), .int (zi (N : Int)), .int (zi b.1), .long (zl b.2), zJ, .int (zi (d : Int)), .int (zi 1), .int (zi (e : Int)), l10, l11, l12, l13, l14] [] z (zmk h a ρ) K ↔
      zG 158 90 [.ref a, .int (zi m), .int (zi k), .int (zi (N : Int)), .int (zi (rbpS (ρ 0) m k N d e b).1), .long (zl (rbpS (ρ 0) m k N d e b).2), zJ, .int (zi (d : Int)), .int (zi 1), .int (zi ((e + 1 : Nat) : Int)), m10, m11, m12, m13, m14] [] z (zmk h a ρ) K) := by
  have h2 := hI.2.1
  unfold rbpB at hbb
  have hA := hI.add hm hk (d := ρ 0 0 + (d : Int)) (by omega) (by omega)
  have h2A := hA.2.1
  have a0 : radd (ρ 0) m k (ρ 0 0 + (d : Int)) 0 = ρ 0 0 := radd_o _ _ _ _ (by omega) _ (by omega) (by omega)
  have a1 : radd (ρ 0) m k (ρ 0 0 + (d : Int)) 1 = ρ 0 1 := radd_o _ _ _ _ (by omega) _ (by omega) (by omega)
  have e1 : zi ((e : Int) + 1) = zi ((e + 1 : Nat) : Int) := by rw [Int.natCast_add]; rfl
  have hp := rplc_le (ρ 0) (ρ 0 0 + (d : Int)) (by omega)
  have hD : ∀ K, zG 144 0 [.ref a, .int (zi m), .int (zi k), .long (zl (ρ 0 0 + (d : Int))), zJ, zJ, zJ] [] z (zmk h a ρ) K ↔ K (some (.int (zi (rplc (ρ 0) (ρ 0 0 + (d : Int)) : Int)))) z (zmk h a (zst ρ 0 (radd (ρ 0) m k (ρ 0 0 + (d : Int))))) := fun K => s_adds (by omega) (by omega) (by omega) (by omega) hI.bd
  have hG : ∀ K, zG 142 0 [.ref a, .int (zi m), .int (zi k), .long (zl (ρ 0 0 + (e : Int))), zJ, zJ] [] z (zmk h a (zst ρ 0 (radd (ρ 0) m k (ρ 0 0 + (d : Int))))) K ↔ K (some (.int (zi (ragst (radd (ρ 0) m k (ρ 0 0 + (d : Int))) m k (ρ 0 0 + (e : Int)))))) z (zmk h a (zst ρ 0 (radd (ρ 0) m k (ρ 0 0 + (d : Int))))) := fun K => by
    rw [s_against (by omega) (by omega) (by omega) (by simp only [zst_ap, if_true]; omega) (by simp only [zst_ap, if_true]; omega) (by simp only [zst_ap, if_true]; exact hA.bd)]
    simp only [zst_ap, if_true]
  have gb := ragst_b (radd (ρ 0) m k (ρ 0 0 + (d : Int))) m k (ρ 0 0 + (e : Int))
  unfold rbpS
  by_cases c : ragst (radd (ρ 0) m k (ρ 0 0 + (d : Int))) m k (ρ 0 0 + (e : Int)) = 0
  · rw [if_pos c]
    have h3 := ragst_0 c
    have hB := hA.add (m := m) (k := k) (d := ρ 0 0 + (e : Int)) (by omega) hk (by omega) (by omega)
    have hL := rpasS_b N hB
    have hp2 := rplc_le (radd (ρ 0) m k (ρ 0 0 + (d : Int))) (ρ 0 0 + (e : Int)) (by omega)
    have hD2 : ∀ K, zG 144 0 [.ref a, .int (zi m), .int (zi k), .long (zl (ρ 0 0 + (e : Int))), zJ, zJ, zJ] [] z (zmk h a (zst ρ 0 (radd (ρ 0) m k (ρ 0 0 + (d : Int))))) K ↔ K (some (.int (zi (rplc (radd (ρ 0) m k (ρ 0 0 + (d : Int))) (ρ 0 0 + (e : Int)) : Int)))) z (zmk h a (zst ρ 0 (radd (radd (ρ 0) m k (ρ 0 0 + (d : Int))) m k (ρ 0 0 + (e : Int))))) := fun K => by
      rw [s_adds (by omega) (by omega) (by omega) (by simp only [zst_ap, if_true]; omega) (by simp only [zst_ap, if_true]; exact hA.bd)]
      simp only [zst_ap, if_true, zst_zst]
    have hH : ∀ K, zG 155 0 [.ref a, .int (zi (N : Int)), zJ, zJ] [] z (zmk h a (zst ρ 0 (radd (radd (ρ 0) m k (ρ 0 0 + (d : Int))) m k (ρ 0 0 + (e : Int))))) K ↔ K (some (.long (zl (rpasS N (radd (radd (ρ 0) m k (ρ 0 0 + (d : Int))) m k (ρ 0 0 + (e : Int))))))) z (zmk h a ρ) := by
      intro K
      rw [s_ahead (by omega) (by simp only [zst_ap, if_true]; exact hB) (by simp only [zst_ap, if_true]; rw [radd_o _ _ _ _ (by omega) _ (by omega) (by omega), a0]; exact hT)]
      simp only [zst_ap, if_true, zst_zst, if_neg (show ¬ (1 : Nat) = 0 by decide), Int.toNat_natCast]
      rw [h1, rput (fun j hj => (rpasN_x j hj _ hB).trans ((radd_x hA _ _ _ (by omega) j hj).trans (radd_x hI _ _ _ (by omega) j hj))), zst_self]
    refine ⟨.long (zl (rplc (radd (ρ 0) m k (ρ 0 0 + (d : Int))) (ρ 0 0 + (e : Int)) : Int)), zJ, .long (zl (rpasS N (radd (radd (ρ 0) m k (ρ 0 0 + (d : Int))) m k (ρ 0 0 + (e : Int))))), zJ, .int (zi (100 * (d : Int) + (e : Int))), ?_⟩
    rw [e158_90]
    by_cases c1 : b.1 < 0
    · rw [if_pos (Or.inl c1)]
      simp (disch := omega) only [e158_0, e158_1, e158_2, e158_5, e158_8, e158_10, e158_11, e158_12, e158_13, e158_14, e158_17, e158_20, e158_23, e158_24, e158_25, e158_26, e158_29, e158_32, e158_35, e158_37, e158_38, e158_39, e158_42, e158_44, e158_46, e158_47, e158_49, e158_50, e158_54, e158_55, e158_58, e158_59, e158_60, e158_61, e158_62, e158_65, e158_66, e158_67, e158_69, e158_70, e158_71, e158_74, e158_77, e158_78, e158_81, e158_82, e158_84, e158_86, e158_87, e158_88, e158_92, e158_93, e158_96, e158_98, e158_101, e158_102, e158_103, e158_104, e158_105, e158_108, e158_109, e158_110, e158_112, e158_113, e158_114, e158_117, e158_118, e158_120, e158_121, e158_122, e158_123, e158_124, e158_127, e158_128, e158_129, e158_131, e158_132, e158_133, e158_136, e158_139, e158_140, e158_141, e158_142, e158_143, e158_146, e158_147, e158_148, e158_150, e158_151, e158_152, e158_155, e158_156, e158_158, e158_159, e158_160, e158_163, e158_165, e158_167, e158_169, e158_170, e158_172, e158_173, e158_175, e158_177, e158_180, e158_182, e158_184, e158_185, e158_188, e158_190, e158_193, e158_195, e158_197, e158_199, e158_201, e158_204, e158_206, e158_209, e158_211, e158_213, e158_216, e158_217, e158_220, e158_223, e158_226, e158_229, e158_232, e158_234, zi_add, zi_sub, zi_mul, zl_add, zl_sub, zl_mul, zl_i, zi_l, zi_lt, zi_le, zi_eq, zl_lt, zl_le, zl_eq, zlc_lt, zlc_le, zlc_gt, zlc_ge, zlc_eq, zi_ne0, zl_ne0, zi_div, zl_div, zi_rem, zl_rem, zcat_nil, zcat_int, zcat_ref, zcat_long, zkill_int, zkill_ref, zkill_long, zkill_J, zkill2, zto_some, zto_none, znb0, znb1, zB_some, zbr_t, zbr_f, not_true_eq_false, not_false_eq_true, true_imp_iff, false_imp_iff, true_and, and_true, Nat.reduceAdd, Nat.reduceLeDiff, Int.reduceAdd, Int.reduceSub, Int.reduceMul, Int.reduceNeg, zisC_inr, zget_inr, zsetf_inr, zldl_row, zald_row, zstl_row, zast_row, List.getElem?_cons_zero, List.getElem?_cons_succ, List.length_cons, List.length_nil, List.set_cons_zero, List.set_cons_succ, zmk_0, zmk_1, zmk_2, zmk_3, zmk_4, zmk_5, zmk_6, zmk_7, zrg_0, zrg_1, zrg_2, zrg_3, zrg_4, zrg_5, zrg_6, zrg_7, zrg_8, zrg_9, zrg_10, zrg_11, zrg_12, zrg_13, zrg_14, zrg_15, zrs_3, zrs_6, zrs_7, zrs_9, zrs_10, zrs_11, zrs_12, zrs_14, zrs_15, zmw_0, zmw_1, zmw_2, zmw_3, zmw_4, zmw_5, zmw_6, zmw_7, zisr, hD, hG, hD2, hH, zst_ap, if_true, a0, e1]
    · by_cases c2 : rpasS N (radd (radd (ρ 0) m k (ρ 0 0 + (d : Int))) m k (ρ 0 0 + (e : Int))) < b.2
      · rw [if_pos (Or.inr c2)]
        simp (disch := omega) only [e158_0, e158_1, e158_2, e158_5, e158_8, e158_10, e158_11, e158_12, e158_13, e158_14, e158_17, e158_20, e158_23, e158_24, e158_25, e158_26, e158_29, e158_32, e158_35, e158_37, e158_38, e158_39, e158_42, e158_44, e158_46, e158_47, e158_49, e158_50, e158_54, e158_55, e158_58, e158_59, e158_60, e158_61, e158_62, e158_65, e158_66, e158_67, e158_69, e158_70, e158_71, e158_74, e158_77, e158_78, e158_81, e158_82, e158_84, e158_86, e158_87, e158_88, e158_92, e158_93, e158_96, e158_98, e158_101, e158_102, e158_103, e158_104, e158_105, e158_108, e158_109, e158_110, e158_112, e158_113, e158_114, e158_117, e158_118, e158_120, e158_121, e158_122, e158_123, e158_124, e158_127, e158_128, e158_129, e158_131, e158_132, e158_133, e158_136, e158_139, e158_140, e158_141, e158_142, e158_143, e158_146, e158_147, e158_148, e158_150, e158_151, e158_152, e158_155, e158_156, e158_158, e158_159, e158_160, e158_163, e158_165, e158_167, e158_169, e158_170, e158_172, e158_173, e158_175, e158_177, e158_180, e158_182, e158_184, e158_185, e158_188, e158_190, e158_193, e158_195, e158_197, e158_199, e158_201, e158_204, e158_206, e158_209, e158_211, e158_213, e158_216, e158_217, e158_220, e158_223, e158_226, e158_229, e158_232, e158_234, zi_add, zi_sub, zi_mul, zl_add, zl_sub, zl_mul, zl_i, zi_l, zi_lt, zi_le, zi_eq, zl_lt, zl_le, zl_eq, zlc_lt, zlc_le, zlc_gt, zlc_ge, zlc_eq, zi_ne0, zl_ne0, zi_div, zl_div, zi_rem, zl_rem, zcat_nil, zcat_int, zcat_ref, zcat_long, zkill_int, zkill_ref, zkill_long, zkill_J, zkill2, zto_some, zto_none, znb0, znb1, zB_some, zbr_t, zbr_f, not_true_eq_false, not_false_eq_true, true_imp_iff, false_imp_iff, true_and, and_true, Nat.reduceAdd, Nat.reduceLeDiff, Int.reduceAdd, Int.reduceSub, Int.reduceMul, Int.reduceNeg, zisC_inr, zget_inr, zsetf_inr, zldl_row, zald_row, zstl_row, zast_row, List.getElem?_cons_zero, List.getElem?_cons_succ, List.length_cons, List.length_nil, List.set_cons_zero, List.set_cons_succ, zmk_0, zmk_1, zmk_2, zmk_3, zmk_4, zmk_5, zmk_6, zmk_7, zrg_0, zrg_1, zrg_2, zrg_3, zrg_4, zrg_5, zrg_6, zrg_7, zrg_8, zrg_9, zrg_10, zrg_11, zrg_12, zrg_13, zrg_14, zrg_15, zrs_3, zrs_6, zrs_7, zrs_9, zrs_10, zrs_11, zrs_12, zrs_14, zrs_15, zmw_0, zmw_1, zmw_2, zmw_3, zmw_4, zmw_5, zmw_6, zmw_7, zisr, hD, hG, hD2, hH, zst_ap, if_true, a0, e1]
      · rw [if_neg (by omega)]
        simp (disch := omega) only [e158_0, e158_1, e158_2, e158_5, e158_8, e158_10, e158_11, e158_12, e158_13, e158_14, e158_17, e158_20, e158_23, e158_24, e158_25, e158_26, e158_29, e158_32, e158_35, e158_37, e158_38, e158_39, e158_42, e158_44, e158_46, e158_47, e158_49, e158_50, e158_54, e158_55, e158_58, e158_59, e158_60, e158_61, e158_62, e158_65, e158_66, e158_67, e158_69, e158_70, e158_71, e158_74, e158_77, e158_78, e158_81, e158_82, e158_84, e158_86, e158_87, e158_88, e158_92, e158_93, e158_96, e158_98, e158_101, e158_102, e158_103, e158_104, e158_105, e158_108, e158_109, e158_110, e158_112, e158_113, e158_114, e158_117, e158_118, e158_120, e158_121, e158_122, e158_123, e158_124, e158_127, e158_128, e158_129, e158_131, e158_132, e158_133, e158_136, e158_139, e158_140, e158_141, e158_142, e158_143, e158_146, e158_147, e158_148, e158_150, e158_151, e158_152, e158_155, e158_156, e158_158, e158_159, e158_160, e158_163, e158_165, e158_167, e158_169, e158_170, e158_172, e158_173, e158_175, e158_177, e158_180, e158_182, e158_184, e158_185, e158_188, e158_190, e158_193, e158_195, e158_197, e158_199, e158_201, e158_204, e158_206, e158_209, e158_211, e158_213, e158_216, e158_217, e158_220, e158_223, e158_226, e158_229, e158_232, e158_234, zi_add, zi_sub, zi_mul, zl_add, zl_sub, zl_mul, zl_i, zi_l, zi_lt, zi_le, zi_eq, zl_lt, zl_le, zl_eq, zlc_lt, zlc_le, zlc_gt, zlc_ge, zlc_eq, zi_ne0, zl_ne0, zi_div, zl_div, zi_rem, zl_rem, zcat_nil, zcat_int, zcat_ref, zcat_long, zkill_int, zkill_ref, zkill_long, zkill_J, zkill2, zto_some, zto_none, znb0, znb1, zB_some, zbr_t, zbr_f, not_true_eq_false, not_false_eq_true, true_imp_iff, false_imp_iff, true_and, and_true, Nat.reduceAdd, Nat.reduceLeDiff, Int.reduceAdd, Int.reduceSub, Int.reduceMul, Int.reduceNeg, zisC_inr, zget_inr, zsetf_inr, zldl_row, zald_row, zstl_row, zast_row, List.getElem?_cons_zero, List.getElem?_cons_succ, List.length_cons, List.length_nil, List.set_cons_zero, List.set_cons_succ, zmk_0, zmk_1, zmk_2, zmk_3, zmk_4, zmk_5, zmk_6, zmk_7, zrg_0, zrg_1, zrg_2, zrg_3, zrg_4, zrg_5, zrg_6, zrg_7, zrg_8, zrg_9, zrg_10, zrg_11, zrg_12, zrg_13, zrg_14, zrg_15, zrs_3, zrs_6, zrs_7, zrs_9, zrs_10, zrs_11, zrs_12, zrs_14, zrs_15, zmw_0, zmw_1, zmw_2, zmw_3, zmw_4, zmw_5, zmw_6, zmw_7, zisr, hD, hG, hD2, hH, zst_ap, if_true, a0, e1]
  · rw [if_neg c]
    refine ⟨.long (zl (rplc (ρ 0) (ρ 0 0 + (d : Int)) : Int)), zJ, zkill l12, l13, l14, ?_⟩
    have hQ : ∀ K, zG 154 0 [.ref a, zJ] [] z (zmk h a (zst ρ 0 (radd (ρ 0) m k (ρ 0 0 + (d : Int))))) K ↔ K none z (zmk h a ρ) := by
      intro K
      rw [s_putBack]
      simp only [zst_ap, if_true, zst_zst, if_neg (show ¬ (1 : Nat) = 0 by decide)]
      rw [h1, rput (fun j hj => radd_x hI _ _ _ (by omega) j hj), zst_self]
    rw [e158_90]
    simp (disch := omega) only [e158_0, e158_1, e158_2, e158_5, e158_8, e158_10, e158_11, e158_12, e158_13, e158_14, e158_17, e158_20, e158_23, e158_24, e158_25, e158_26, e158_29, e158_32, e158_35, e158_37, e158_38, e158_39, e158_42, e158_44, e158_46, e158_47, e158_49, e158_50, e158_54, e158_55, e158_58, e158_59, e158_60, e158_61, e158_62, e158_65, e158_66, e158_67, e158_69, e158_70, e158_71, e158_74, e158_77, e158_78, e158_81, e158_82, e158_84, e158_86, e158_87, e158_88, e158_92, e158_93, e158_96, e158_98, e158_101, e158_102, e158_103, e158_104, e158_105, e158_108, e158_109, e158_110, e158_112, e158_113, e158_114, e158_117, e158_118, e158_120, e158_121, e158_122, e158_123, e158_124, e158_127, e158_128, e158_129, e158_131, e158_132, e158_133, e158_136, e158_139, e158_140, e158_141, e158_142, e158_143, e158_146, e158_147, e158_148, e158_150, e158_151, e158_152, e158_155, e158_156, e158_158, e158_159, e158_160, e158_163, e158_165, e158_167, e158_169, e158_170, e158_172, e158_173, e158_175, e158_177, e158_180, e158_182, e158_184, e158_185, e158_188, e158_190, e158_193, e158_195, e158_197, e158_199, e158_201, e158_204, e158_206, e158_209, e158_211, e158_213, e158_216, e158_217, e158_220, e158_223, e158_226, e158_229, e158_232, e158_234, zi_add, zi_sub, zi_mul, zl_add, zl_sub, zl_mul, zl_i, zi_l, zi_lt, zi_le, zi_eq, zl_lt, zl_le, zl_eq, zlc_lt, zlc_le, zlc_gt, zlc_ge, zlc_eq, zi_ne0, zl_ne0, zi_div, zl_div, zi_rem, zl_rem, zcat_nil, zcat_int, zcat_ref, zcat_long, zkill_int, zkill_ref, zkill_long, zkill_J, zkill2, zto_some, zto_none, znb0, znb1, zB_some, zbr_t, zbr_f, not_true_eq_false, not_false_eq_true, true_imp_iff, false_imp_iff, true_and, and_true, Nat.reduceAdd, Nat.reduceLeDiff, Int.reduceAdd, Int.reduceSub, Int.reduceMul, Int.reduceNeg, zisC_inr, zget_inr, zsetf_inr, zldl_row, zald_row, zstl_row, zast_row, List.getElem?_cons_zero, List.getElem?_cons_succ, List.length_cons, List.length_nil, List.set_cons_zero, List.set_cons_succ, zmk_0, zmk_1, zmk_2, zmk_3, zmk_4, zmk_5, zmk_6, zmk_7, zrg_0, zrg_1, zrg_2, zrg_3, zrg_4, zrg_5, zrg_6, zrg_7, zrg_8, zrg_9, zrg_10, zrg_11, zrg_12, zrg_13, zrg_14, zrg_15, zrs_3, zrs_6, zrs_7, zrs_9, zrs_10, zrs_11, zrs_12, zrs_14, zrs_15, zmw_0, zmw_1, zmw_2, zmw_3, zmw_4, zmw_5, zmw_6, zmw_7, zisr, hD, hG, hQ, zst_ap, if_true, a0, e1]
end RF12
