/-! the reference: nights -/
theorem rtoldN_b {σ : Int → Int} (hI : rI σ) (n : Int) : ∀ k : Nat, k ≤ 10 → (0 ≤ rtoldN σ 0 n k ∧ rtoldN σ 0 n k ≤ 500) ∧ (0 ≤ rtoldN σ 1 n k ∧ rtoldN σ 1 n k ≤ 30)
  | 0, _ => by simp [rtoldN]
  | k + 1, hk => by
    obtain ⟨i1, i2⟩ := rtoldN_b hI n k (by omega)
    have h := hI.2.2.2.2.2.1 k (by omega) (by omega)
    have e1 : (90 : Int) + 30 * 0 + 3 * k + 2 = 90 + 3 * k + 2 := by omega
    have e2 : (90 : Int) + 30 * 1 + 3 * k + 2 = 120 + 3 * k + 2 := by omega
    refine ⟨?_, ?_⟩
    · unfold rtoldN
      split
      · rw [e1]; omega
      · exact i1
    · unfold rtoldN
      split
      · rw [e2]; omega
      · exact i2
theorem rtold_b {σ : Int → Int} (hI : rI σ) (n : Int) : (0 ≤ rtold σ 0 n ∧ rtold σ 0 n ≤ 500) ∧ (0 ≤ rtold σ 1 n ∧ rtold σ 1 n ≤ 30) := by
  have h2 := hI.2.1
  exact ⟨(rtoldN_b hI n (σ (8 + 0)).toNat (by simp only [Int.add_zero]; omega)).1, (rtoldN_b hI n (σ (8 + 1)).toNat (by simp only [Int.reduceAdd]; omega)).2⟩
theorem zmul_b {x y X Y : Int} (hx : 0 ≤ x ∧ x ≤ X) (hy : 0 ≤ y ∧ y ≤ Y) : 0 ≤ x * y ∧ x * y ≤ X * Y := ⟨Int.mul_nonneg hx.1 hy.1, Int.mul_le_mul hx.2 hy.2 hy.1 (by omega)⟩
/-- dust after the night's rate; the loss by it and the age a night older; what is lost -/
def ndst (du rate : Int) : Int := if 100000 < du + rate then 100000 else du + rate
def nlos (du rate ag we : Int) : Int := if 10000 < ndst du rate / 10 + (ag + 1) * we then 10000 else ndst du rate / 10 + (ag + 1) * we
def nits (w du rate ag we f : Int) : Int := w * nlos du rate ag we * f / 1000
theorem ndst_b {du rate : Int} (h1 : 0 ≤ du) (h2 : 0 ≤ rate) : 0 ≤ ndst du rate ∧ ndst du rate ≤ 100000 := by
  unfold ndst
  split <;> omega
theorem nlos_b {du rate ag we : Int} (h1 : 0 ≤ du) (h2 : 0 ≤ rate) (h3 : 0 ≤ ag) (h4 : 0 ≤ we) : 0 ≤ nlos du rate ag we ∧ nlos du rate ag we ≤ 10000 := by
  have hd := ndst_b h1 h2
  have hm := Int.mul_nonneg (show 0 ≤ ag + 1 by omega) h4
  unfold nlos
  split <;> omega
theorem nprd_b {w du rate ag we f : Int} (hw : 0 ≤ w ∧ w ≤ 100) (h1 : 0 ≤ du) (h2 : 0 ≤ rate) (h3 : 0 ≤ ag) (h4 : 0 ≤ we) (hf : 0 ≤ f ∧ f ≤ 1000) : 0 ≤ w * nlos du rate ag we * f ∧ w * nlos du rate ag we * f ≤ 1000000000 := by
  have a1 := zmul_b hw (nlos_b h1 h2 h3 h4)
  have a2 := zmul_b (x := w * nlos du rate ag we) (X := 1000000) (by omega) hf
  omega
theorem nits_b {w du rate ag we f : Int} (hw : 0 ≤ w ∧ w ≤ 100) (h1 : 0 ≤ du) (h2 : 0 ≤ rate) (h3 : 0 ≤ ag) (h4 : 0 ≤ we) (hf : 0 ≤ f ∧ f ≤ 1000) : 0 ≤ nits w du rate ag we f ∧ nits w du rate ag we f ≤ 1000000 := by
  have := nprd_b hw h1 h2 h3 h4 hf
  unfold nits
  omega
/-- a night of mirror m, on a row -/
def rmir1 (σ : Int → Int) (rate f m : Int) : Int → Int :=
  zset (zset (zset σ (10 + 6 * m + 2) (ndst (σ (10 + 6 * m + 2)) rate)) (10 + 6 * m + 3) (σ (10 + 6 * m + 3) + 1)) (10 + 6 * m + 5) (σ (10 + 6 * m + 5) + nits (σ (10 + 6 * m)) (σ (10 + 6 * m + 2)) rate (σ (10 + 6 * m + 3)) (σ (10 + 6 * m + 1)) f)
def rmirN (σ : Int → Int) (rate f : Int) : Nat → (Int → Int)
  | 0 => σ
  | k + 1 => rmir1 (rmirN σ rate f k) rate f k
def rits (σ : Int → Int) (rate f m : Int) : Int := nits (σ (10 + 6 * m)) (σ (10 + 6 * m + 2)) rate (σ (10 + 6 * m + 3)) (σ (10 + 6 * m + 1)) f
def rsumN (σ : Int → Int) (rate f : Int) : Nat → Int
  | 0 => 0
  | k + 1 => rsumN σ rate f k + rits σ rate f k
theorem rmirN_o (σ : Int → Int) (rate f : Int) : ∀ (k : Nat) (j : Int), (j < 10 ∨ 10 + 6 * (k : Int) ≤ j) → rmirN σ rate f k j = σ j
  | 0, j, _ => rfl
  | k + 1, j, hj => by
    show rmir1 (rmirN σ rate f k) rate f k j = _
    simp only [rmir1, zset]
    rw [if_neg (by omega), if_neg (by omega), if_neg (by omega), rmirN_o σ rate f k j (by omega)]
section RF7
variable {z : zZ} {h : zH} {K : Option Value → zZ → zH → Prop} {a : Nat} {ρ : Nat → Int → Int}
theorem s_mir_s {nt sum nn ng rate f w we du ag lo : Int} {k : Nat} (l12 l13 l14 l15 l16 : Value) (hk : (k : Int) < ρ 0 1) (h1 : ρ 0 1 ≤ 4) (hr : 0 ≤ rate ∧ rate ≤ 500) (hf : 0 ≤ f ∧ f ≤ 1000)
    (r0 : ρ 0 (10 + 6 * (k : Int)) = w) (r1 : ρ 0 (10 + 6 * (k : Int) + 1) = we) (r2 : ρ 0 (10 + 6 * (k : Int) + 2) = du) (r3 : ρ 0 (10 + 6 * (k : Int) + 3) = ag) (r5 : ρ 0 (10 + 6 * (k : Int) + 5) = lo)
    (hw : 0 ≤ w ∧ w ≤ 100) (hwe : 0 ≤ we ∧ we ≤ 20) (hdu : 0 ≤ du ∧ du ≤ 100000) (hag : 0 ≤ ag ∧ ag ≤ 1000000000) :
    ∃ m12 m13 m14 m15 m16, zG 151 58 [.ref a, .int (zi nt), .long (zl sum), zJ, .int (zi nn), .long (zl ng), zJ, .long (zl rate), zJ, .long (zl f), zJ, .int (zi k), l12, l13, l14, l15, l16] [] z (zmk h a ρ) K ↔
      zG 151 58 [.ref a, .int (zi nt), .long (zl (sum + nits w du rate ag we f)), zJ, .int (zi nn), .long (zl ng), zJ, .long (zl rate), zJ, .long (zl f), zJ, .int (zi ((k + 1 : Nat) : Int)), m12, m13, m14, m15, m16] [] z (zmk h a (zst ρ 0 (rmir1 (ρ 0) rate f k))) K := by
  have hd := ndst_b hdu.1 hr.1
  have hm := zmul_b (x := ag + 1) (X := 1000000001) (by omega) hwe
  have hp := nprd_b (du := du) (rate := rate) (ag := ag) (we := we) hw hdu.1 hr.1 hag.1 hwe.1 hf
  have E3 : ∀ K, zG 150 0 [.ref a, .int (zi (k : Int)), zJ, zJ, zJ] [] z (zmk h a (zst ρ 0 (zset (zset (ρ 0) (10 + 6 * (k : Int) + 2) (ndst du rate)) (10 + 6 * (k : Int) + 3) (ag + 1)))) K ↔ K (some (.long (zl (nlos du rate ag we)))) z (zmk h a (zst ρ 0 (zset (zset (ρ 0) (10 + 6 * (k : Int) + 2) (ndst du rate)) (10 + 6 * (k : Int) + 3) (ag + 1)))) := by
    intro K
    have q1 : (zset (zset (ρ 0) (10 + 6 * (k : Int) + 2) (ndst du rate)) (10 + 6 * (k : Int) + 3) (ag + 1)) (10 + 6 * (k : Int) + 1) = we := by simp only [zset]; rw [if_neg (by omega), if_neg (by omega), r1]
    have q2 : (zset (zset (ρ 0) (10 + 6 * (k : Int) + 2) (ndst du rate)) (10 + 6 * (k : Int) + 3) (ag + 1)) (10 + 6 * (k : Int) + 2) = ndst du rate := by simp only [zset]; rw [if_neg (by omega), if_pos trivial]
    have q3 : (zset (zset (ρ 0) (10 + 6 * (k : Int) + 2) (ndst du rate)) (10 + 6 * (k : Int) + 3) (ag + 1)) (10 + 6 * (k : Int) + 3) = ag + 1 := by simp only [zset]; rw [if_pos trivial]
    rw [s_lossOf (by omega) (by simp only [zst_ap, if_true]; rw [q2]; exact hd) (by simp only [zst_ap, if_true]; rw [q1, q3]; omega)]
    simp only [zst_ap, if_true]
    rw [rloss, q1, q2, q3]
    rfl
  have e1 : zi ((k : Int) + 1) = zi ((k + 1 : Nat) : Int) := by rw [Int.natCast_add]; rfl
  refine ⟨.int (zi (10 + 6 * (k : Int))), .long (zl (du + rate)), zJ, .long (zl (nits w du rate ag we f)), zJ, ?_⟩
  rw [e151_58]
  by_cases c : 100000 < du + rate
  · have eD : ndst du rate = 100000 := if_pos c
    rw [eD] at E3
    simp (disch := omega) only [e151_0, e151_1, e151_2, e151_3, e151_5, e151_7, e151_8, e151_11, e151_12, e151_15, e151_16, e151_17, e151_19, e151_20, e151_22, e151_25, e151_26, e151_27, e151_29, e151_32, e151_34, e151_37, e151_38, e151_39, e151_41, e151_44, e151_45, e151_46, e151_48, e151_51, e151_52, e151_53, e151_55, e151_56, e151_60, e151_61, e151_62, e151_65, e151_66, e151_67, e151_68, e151_71, e151_73, e151_76, e151_78, e151_79, e151_82, e151_84, e151_85, e151_86, e151_87, e151_89, e151_90, e151_92, e151_93, e151_96, e151_98, e151_99, e151_100, e151_102, e151_105, e151_106, e151_109, e151_112, e151_115, e151_117, e151_118, e151_119, e151_122, e151_124, e151_125, e151_126, e151_127, e151_128, e151_129, e151_130, e151_131, e151_132, e151_135, e151_137, e151_138, e151_139, e151_141, e151_144, e151_145, e151_147, e151_148, e151_151, e151_152, e151_154, e151_155, e151_158, e151_160, e151_161, e151_162, e151_163, e151_164, e151_166, e151_167, e151_168, e151_169, e151_171, e151_172, e151_173, e151_176, e151_179, e151_180, e151_183, e151_184, e151_185, e151_186, e151_187, e151_188, e151_189, e151_192, e151_195, e151_196, zi_add, zi_sub, zi_mul, zl_add, zl_sub, zl_mul, zl_i, zi_l, zi_lt, zi_le, zi_eq, zl_lt, zl_le, zl_eq, zlc_lt, zlc_le, zlc_gt, zlc_ge, zlc_eq, zi_ne0, zl_ne0, zi_div, zl_div, zi_rem, zl_rem, zcat_nil, zcat_int, zcat_ref, zcat_long, zkill_int, zkill_ref, zkill_long, zkill_J, zkill2, zto_some, zto_none, znb0, znb1, zB_some, zbr_t, zbr_f, not_true_eq_false, not_false_eq_true, true_imp_iff, false_imp_iff, true_and, and_true, Nat.reduceAdd, Nat.reduceLeDiff, Int.reduceAdd, Int.reduceSub, Int.reduceMul, Int.reduceNeg, zisC_inr, zget_inr, zsetf_inr, zldl_row, zald_row, zstl_row, zast_row, List.getElem?_cons_zero, List.getElem?_cons_succ, List.length_cons, List.length_nil, List.set_cons_zero, List.set_cons_succ, zmk_0, zmk_1, zmk_2, zmk_3, zmk_4, zmk_5, zmk_6, zmk_7, zrg_0, zrg_1, zrg_2, zrg_3, zrg_4, zrg_5, zrg_6, zrg_7, zrg_8, zrg_9, zrg_10, zrg_11, zrg_12, zrg_13, zrg_14, zrg_15, zrs_3, zrs_6, zrs_7, zrs_9, zrs_10, zrs_11, zrs_12, zrs_14, zrs_15, zmw_0, zmw_1, zmw_2, zmw_3, zmw_4, zmw_5, zmw_6, zmw_7, zisr, s_mirrorAt, r0, r1, r2, r3, r5, E3, zst_zst, zst_ap, if_true, zset_ap, if_neg, if_pos, e1]
    simp only [rmir1, r0, r1, r2, r3, r5, eD, nits]
  · have eD : ndst du rate = du + rate := if_neg c
    rw [eD] at E3
    simp (disch := omega) only [e151_0, e151_1, e151_2, e151_3, e151_5, e151_7, e151_8, e151_11, e151_12, e151_15, e151_16, e151_17, e151_19, e151_20, e151_22, e151_25, e151_26, e151_27, e151_29, e151_32, e151_34, e151_37, e151_38, e151_39, e151_41, e151_44, e151_45, e151_46, e151_48, e151_51, e151_52, e151_53, e151_55, e151_56, e151_60, e151_61, e151_62, e151_65, e151_66, e151_67, e151_68, e151_71, e151_73, e151_76, e151_78, e151_79, e151_82, e151_84, e151_85, e151_86, e151_87, e151_89, e151_90, e151_92, e151_93, e151_96, e151_98, e151_99, e151_100, e151_102, e151_105, e151_106, e151_109, e151_112, e151_115, e151_117, e151_118, e151_119, e151_122, e151_124, e151_125, e151_126, e151_127, e151_128, e151_129, e151_130, e151_131, e151_132, e151_135, e151_137, e151_138, e151_139, e151_141, e151_144, e151_145, e151_147, e151_148, e151_151, e151_152, e151_154, e151_155, e151_158, e151_160, e151_161, e151_162, e151_163, e151_164, e151_166, e151_167, e151_168, e151_169, e151_171, e151_172, e151_173, e151_176, e151_179, e151_180, e151_183, e151_184, e151_185, e151_186, e151_187, e151_188, e151_189, e151_192, e151_195, e151_196, zi_add, zi_sub, zi_mul, zl_add, zl_sub, zl_mul, zl_i, zi_l, zi_lt, zi_le, zi_eq, zl_lt, zl_le, zl_eq, zlc_lt, zlc_le, zlc_gt, zlc_ge, zlc_eq, zi_ne0, zl_ne0, zi_div, zl_div, zi_rem, zl_rem, zcat_nil, zcat_int, zcat_ref, zcat_long, zkill_int, zkill_ref, zkill_long, zkill_J, zkill2, zto_some, zto_none, znb0, znb1, zB_some, zbr_t, zbr_f, not_true_eq_false, not_false_eq_true, true_imp_iff, false_imp_iff, true_and, and_true, Nat.reduceAdd, Nat.reduceLeDiff, Int.reduceAdd, Int.reduceSub, Int.reduceMul, Int.reduceNeg, zisC_inr, zget_inr, zsetf_inr, zldl_row, zald_row, zstl_row, zast_row, List.getElem?_cons_zero, List.getElem?_cons_succ, List.length_cons, List.length_nil, List.set_cons_zero, List.set_cons_succ, zmk_0, zmk_1, zmk_2, zmk_3, zmk_4, zmk_5, zmk_6, zmk_7, zrg_0, zrg_1, zrg_2, zrg_3, zrg_4, zrg_5, zrg_6, zrg_7, zrg_8, zrg_9, zrg_10, zrg_11, zrg_12, zrg_13, zrg_14, zrg_15, zrs_3, zrs_6, zrs_7, zrs_9, zrs_10, zrs_11, zrs_12, zrs_14, zrs_15, zmw_0, zmw_1, zmw_2, zmw_3, zmw_4, zmw_5, zmw_6, zmw_7, zisr, s_mirrorAt, r0, r1, r2, r3, r5, E3, zst_zst, zst_ap, if_true, zset_ap, if_neg, if_pos, e1]
    simp only [rmir1, r0, r1, r2, r3, r5, eD, nits]
theorem s_mir_l {nt nn ng rate f : Int} {σ : Int → Int} (hI : rI σ) (hT : σ 0 ≤ 100000100) (hr : 0 ≤ rate ∧ rate ≤ 500) (hf : 0 ≤ f ∧ f ≤ 1000) (r : Nat) : ∀ (k : Nat) (ρ : Nat → Int → Int) (l12 l13 l14 l15 l16 : Value) (s0 : Int), (k : Int) + r = σ 1 → ρ 0 = rmirN σ rate f k →
    ∃ m12 m13 m14 m15 m16, (zG 151 58 [.ref a, .int (zi nt), .long (zl (s0 + rsumN σ rate f k)), zJ, .int (zi nn), .long (zl ng), zJ, .long (zl rate), zJ, .long (zl f), zJ, .int (zi k), l12, l13, l14, l15, l16] [] z (zmk h a ρ) K ↔
      zG 151 5 [.ref a, .int (zi nt), .long (zl (s0 + rsumN σ rate f (σ 1).toNat)), zJ, .int (zi (nn + 1)), .long (zl ng), zJ, .long (zl rate), zJ, .long (zl f), zJ, .int (zi (σ 1)), m12, m13, m14, m15, m16] [] z (zmk h a (zst ρ 0 (zset (rmirN σ rate f (σ 1).toNat) 0 (σ 0 + 1)))) K) := by
  have h2 := hI.2.1
  induction r with
  | zero =>
    intro k ρ l12 l13 l14 l15 l16 s0 hk he
    refine ⟨l12, l13, l14, l15, l16, ?_⟩
    have r1 : ρ 0 1 = σ 1 := by rw [he, rmirN_o _ _ _ _ _ (by omega)]
    have r0 : ρ 0 0 = σ 0 := by rw [he, rmirN_o _ _ _ _ _ (by omega)]
    rw [show (σ 1).toNat = k by omega, show σ 1 = (k : Int) by omega, ← he, e151_58]
    simp (disch := omega) only [e151_0, e151_1, e151_2, e151_3, e151_7, e151_8, e151_11, e151_12, e151_15, e151_16, e151_17, e151_19, e151_20, e151_22, e151_25, e151_26, e151_27, e151_29, e151_32, e151_34, e151_37, e151_38, e151_39, e151_41, e151_44, e151_45, e151_46, e151_48, e151_51, e151_52, e151_53, e151_55, e151_56, e151_60, e151_61, e151_62, e151_65, e151_66, e151_67, e151_68, e151_71, e151_73, e151_76, e151_78, e151_79, e151_82, e151_84, e151_85, e151_86, e151_87, e151_89, e151_90, e151_92, e151_93, e151_96, e151_98, e151_99, e151_100, e151_102, e151_105, e151_106, e151_109, e151_112, e151_115, e151_117, e151_118, e151_119, e151_122, e151_124, e151_125, e151_126, e151_127, e151_128, e151_129, e151_130, e151_131, e151_132, e151_135, e151_137, e151_138, e151_139, e151_141, e151_144, e151_145, e151_147, e151_148, e151_151, e151_152, e151_154, e151_155, e151_158, e151_160, e151_161, e151_162, e151_163, e151_164, e151_166, e151_167, e151_168, e151_169, e151_171, e151_172, e151_173, e151_176, e151_179, e151_180, e151_183, e151_184, e151_185, e151_186, e151_187, e151_188, e151_189, e151_192, e151_195, e151_196, zi_add, zi_sub, zi_mul, zl_add, zl_sub, zl_mul, zl_i, zi_l, zi_lt, zi_le, zi_eq, zl_lt, zl_le, zl_eq, zlc_lt, zlc_le, zlc_gt, zlc_ge, zlc_eq, zi_ne0, zl_ne0, zi_div, zl_div, zi_rem, zl_rem, zcat_nil, zcat_int, zcat_ref, zcat_long, zkill_int, zkill_ref, zkill_long, zkill_J, zkill2, zto_some, zto_none, znb0, znb1, zB_some, zbr_t, zbr_f, not_true_eq_false, not_false_eq_true, true_imp_iff, false_imp_iff, true_and, and_true, Nat.reduceAdd, Nat.reduceLeDiff, Int.reduceAdd, Int.reduceSub, Int.reduceMul, Int.reduceNeg, zisC_inr, zget_inr, zsetf_inr, zldl_row, zald_row, zstl_row, zast_row, List.getElem?_cons_zero, List.getElem?_cons_succ, List.length_cons, List.length_nil, List.set_cons_zero, List.set_cons_succ, zmk_0, zmk_1, zmk_2, zmk_3, zmk_4, zmk_5, zmk_6, zmk_7, zrg_0, zrg_1, zrg_2, zrg_3, zrg_4, zrg_5, zrg_6, zrg_7, zrg_8, zrg_9, zrg_10, zrg_11, zrg_12, zrg_13, zrg_14, zrg_15, zrs_3, zrs_6, zrs_7, zrs_9, zrs_10, zrs_11, zrs_12, zrs_14, zrs_15, zmw_0, zmw_1, zmw_2, zmw_3, zmw_4, zmw_5, zmw_6, zmw_7, zisr, r1, r0]
  | succ r ih =>
    intro k ρ l12 l13 l14 l15 l16 s0 hk he
    have r1 : ρ 0 1 = σ 1 := by rw [he, rmirN_o _ _ _ _ _ (by omega)]
    have q : ∀ c, 0 ≤ c → c < 6 → ρ 0 (10 + 6 * (k : Int) + c) = σ (10 + 6 * (k : Int) + c) := fun c c1 c2 => by rw [he, rmirN_o _ _ _ _ _ (by omega)]
    have q0 : ρ 0 (10 + 6 * (k : Int)) = σ (10 + 6 * (k : Int)) := by rw [he, rmirN_o _ _ _ _ _ (by omega)]
    have hm := hI.2.2.1 k (by omega) (by omega)
    obtain ⟨m12, m13, m14, m15, m16, E⟩ := s_mir_s (z := z) (h := h) (K := K) (a := a) (nt := nt) (sum := s0 + rsumN σ rate f k) (nn := nn) (ng := ng) l12 l13 l14 l15 l16 (k := k) (by omega) (by omega) hr hf q0 (q 1 (by omega) (by omega)) (q 2 (by omega) (by omega)) (q 3 (by omega) (by omega)) (q 5 (by omega) (by omega)) (by omega) (by omega) (by omega) (by omega)
    obtain ⟨n12, n13, n14, n15, n16, E2⟩ := ih (k + 1) (zst ρ 0 (rmir1 (ρ 0) rate f k)) m12 m13 m14 m15 m16 s0 (by omega) (by
      simp only [zst_ap, if_true]
      rw [he]
      rfl)
    refine ⟨n12, n13, n14, n15, n16, ?_⟩
    rw [E, show s0 + rsumN σ rate f k + nits (σ (10 + 6 * (k : Int))) (σ (10 + 6 * (k : Int) + 2)) rate (σ (10 + 6 * (k : Int) + 3)) (σ (10 + 6 * (k : Int) + 1)) f = s0 + rsumN σ rate f (k + 1) by rw [rsumN, rits]; omega, E2]
    simp only [zst_zst]
/-- a night; nights -/
def rrate (σ : Int → Int) : Int := rtold (rclean σ (σ 0)) 0 (σ 0)
def rfact (σ : Int → Int) : Int := 100 + rtold (rclean σ (σ 0)) 1 (σ 0) * rtold (rclean σ (σ 0)) 1 (σ 0)
def rnight (σ : Int → Int) : Int → Int := zset (rmirN (rclean σ (σ 0)) (rrate σ) (rfact σ) (σ 1).toNat) 0 (σ 0 + 1)
def rnsum (σ : Int → Int) : Int := rsumN (rclean σ (σ 0)) (rrate σ) (rfact σ) (σ 1).toNat
def rpasN : Nat → (Int → Int) → (Int → Int)
  | 0, σ => σ
  | n + 1, σ => rpasN n (rnight σ)
def rpasS : Nat → (Int → Int) → Int
  | 0, _ => 0
  | n + 1, σ => rnsum σ + rpasS n (rnight σ)
theorem rfact_b {σ : Int → Int} (hI : rI σ) : 100 ≤ rfact σ ∧ rfact σ ≤ 1000 := by
  have hb := (rtold_b (rclean_I hI (σ 0)) (σ 0)).2
  have := zmul_b hb hb
  unfold rfact
  omega
theorem rrate_b {σ : Int → Int} (hI : rI σ) : 0 ≤ rrate σ ∧ rrate σ ≤ 500 := (rtold_b (rclean_I hI (σ 0)) (σ 0)).1
theorem rmirN_m {σ : Int → Int} (rate f : Int) (m : Int) (c : Int) (hc : c = 0 ∨ c = 1) (hm : 0 ≤ m) : ∀ k : Nat, rmirN σ rate f k (10 + 6 * m + c) = σ (10 + 6 * m + c)
  | 0 => rfl
  | k + 1 => by
    show rmir1 (rmirN σ rate f k) rate f k _ = _
    simp only [rmir1, zset]
    rw [if_neg (by omega), if_neg (by omega), if_neg (by omega), rmirN_m rate f m c hc hm k]
theorem rmirN_2 {σ : Int → Int} (rate f : Int) (m : Int) (hm : 0 ≤ m) : ∀ k : Nat, (rmirN σ rate f k (10 + 6 * m + 2) = if m < k then ndst (σ (10 + 6 * m + 2)) rate else σ (10 + 6 * m + 2)) ∧ (rmirN σ rate f k (10 + 6 * m + 3) = if m < k then σ (10 + 6 * m + 3) + 1 else σ (10 + 6 * m + 3))
  | 0 => ⟨by rw [if_neg (by omega)]; rfl, by rw [if_neg (by omega)]; rfl⟩
  | k + 1 => by
    obtain ⟨i2, i3⟩ := rmirN_2 (σ := σ) rate f m hm k
    refine ⟨?_, ?_⟩
    · show rmir1 (rmirN σ rate f k) rate f k _ = _
      simp only [rmir1, zset]
      rw [if_neg (by omega), if_neg (by omega)]
      by_cases c : m = k
      · subst c
        rw [if_pos rfl, i2, if_neg (by omega), if_pos (by omega)]
      · rw [if_neg (by omega), i2]
        by_cases c2 : m < k
        · rw [if_pos c2, if_pos (by omega)]
        · rw [if_neg c2, if_neg (by omega)]
    · show rmir1 (rmirN σ rate f k) rate f k _ = _
      simp only [rmir1, zset]
      rw [if_neg (by omega)]
      by_cases c : m = k
      · subst c
        rw [if_pos rfl, i3, if_neg (by omega), if_pos (by omega)]
      · rw [if_neg (by omega), if_neg (by omega), i3]
        by_cases c2 : m < k
        · rw [if_pos c2, if_pos (by omega)]
        · rw [if_neg c2, if_neg (by omega)]
/-- sorted days: the first is the least -/
theorem rI.le {σ : Int → Int} (h : rI σ) (k : Nat) (hk : (k : Int) < σ 3) : σ 152 ≤ σ (150 + 3 * (k : Int) + 2) := by
  induction k with
  | zero => simp
  | succ k ih =>
    have a1 := ih (by omega)
    have a2 := h.2.2.2.2.1 k (by omega) (by omega)
    rw [show 150 + 3 * ((k + 1 : Nat) : Int) + 2 = 150 + 3 * (k : Int) + 5 by omega]
    omega
theorem rI.night {σ : Int → Int} (h : rI σ) : rI (rnight σ) := by
  have hc := rclean_I h (σ 0)
  have he := rclean_e h (σ 0)
  have hb := rrate_b h
  have o0 := rclean_o h (σ 0) 0 (by omega)
  have o1 := rclean_o h (σ 0) 1 (by omega)
  have hs := hc.le
  obtain ⟨h1, h2, h3, h4, h5, h6, h7⟩ := hc
  have eo : ∀ j, j ≠ 0 → (j < 10 ∨ 34 ≤ j) → rnight σ j = rclean σ (σ 0) j := fun j a b => by
    unfold rnight
    rw [zset_ap, if_neg a, rmirN_o _ _ _ _ _ (by omega)]
  have e0 : rnight σ 0 = σ 0 + 1 := by unfold rnight; rw [zset_ap, if_pos rfl]
  have e1 := eo 1 (by omega) (by omega)
  have e2 := eo 2 (by omega) (by omega)
  have e3 := eo 3 (by omega) (by omega)
  have e4 := eo 4 (by omega) (by omega)
  have e8 := eo 8 (by omega) (by omega)
  have e9 := eo 9 (by omega) (by omega)
  refine ⟨fun i a b => by rw [eo i (by omega) (by omega)]; exact h1 i a b, by rw [e0, e1, e2, e3, e4, e8, e9]; omega, fun m a b => ?_, fun k a b => ?_, fun k a b => ?_, fun k a b => ?_, fun p w a b c d => ?_⟩
  · have q0 : rnight σ (10 + 6 * m) = rclean σ (σ 0) (10 + 6 * m) := by
      have := rmirN_m (σ := rclean σ (σ 0)) (rrate σ) (rfact σ) m 0 (by omega) a (σ 1).toNat
      unfold rnight
      rw [zset_ap, if_neg (by omega)]
      simpa only [Int.add_zero] using this
    have q1 : rnight σ (10 + 6 * m + 1) = rclean σ (σ 0) (10 + 6 * m + 1) := by
      unfold rnight
      rw [zset_ap, if_neg (by omega), rmirN_m _ _ _ _ (by omega) a]
    have q2 : rnight σ (10 + 6 * m + 2) = if m < ((σ 1).toNat : Int) then ndst (rclean σ (σ 0) (10 + 6 * m + 2)) (rrate σ) else rclean σ (σ 0) (10 + 6 * m + 2) := by
      unfold rnight
      rw [zset_ap, if_neg (by omega), (rmirN_2 _ _ _ a _).1]
    have q3 : rnight σ (10 + 6 * m + 3) = if m < ((σ 1).toNat : Int) then rclean σ (σ 0) (10 + 6 * m + 3) + 1 else rclean σ (σ 0) (10 + 6 * m + 3) := by
      unfold rnight
      rw [zset_ap, if_neg (by omega), (rmirN_2 _ _ _ a _).2]
    have hm := h3 m a b
    have hd := ndst_b (du := rclean σ (σ 0) (10 + 6 * m + 2)) (rate := rrate σ) (by omega) hb.1
    rw [q0, q1, q2, q3, e0]
    rw [o0] at hm
    by_cases c : m < ((σ 1).toNat : Int)
    · rw [if_pos c, if_pos c]
      omega
    · rw [if_neg c, if_neg c]
      omega
  · rw [e3] at b
    have a1 := h4 k a b
    have a2 := hs k.toNat (by omega)
    have a3 := h4 0 (by omega) (by omega)
    simp only [Int.mul_zero, Int.add_zero, Int.reduceAdd] at a3
    rw [show ((k.toNat : Nat) : Int) = k by omega] at a2
    rw [eo _ (by omega) (by omega), eo (150 + 3 * k + 1) (by omega) (by omega), eo (150 + 3 * k + 2) (by omega) (by omega), e0, e1]
    omega
  · rw [e3] at b
    rw [eo (150 + 3 * k + 2) (by omega) (by omega), eo (150 + 3 * k + 5) (by omega) (by omega)]
    exact h5 k a b
  · rw [eo (90 + 3 * k + 2) (by omega) (by omega), eo (120 + 3 * k + 2) (by omega) (by omega)]
    exact h6 k a b
  · rw [eo (40 + 9 * p + w) (by omega) (by omega)]
    exact h7 p w a b c d
theorem rnight_0 (σ : Int → Int) : rnight σ 0 = σ 0 + 1 := by unfold rnight; rw [zset_ap, if_pos rfl]
theorem rpasN_I : ∀ (n : Nat) {σ : Int → Int}, rI σ → rI (rpasN n σ)
  | 0, _, h => h
  | n + 1, _, h => rpasN_I n h.night
theorem s_passes_l {nt : Int} (hn : 0 ≤ nt ∧ nt ≤ 100) (r : Nat) : ∀ (nn s0 : Int) (ρ : Nat → Int → Int) (l5 l6 l7 l8 l9 l10 l11 l12 l13 l14 l15 l16 : Value), 0 ≤ nn → nn + r = nt → rI (ρ 0) → ρ 0 0 + r ≤ 100000100 →
    (zG 151 5 [.ref a, .int (zi nt), .long (zl s0), zJ, .int (zi nn), l5, l6, l7, l8, l9, l10, l11, l12, l13, l14, l15, l16] [] z (zmk h a ρ) K ↔ K (some (.long (zl (s0 + rpasS r (ρ 0))))) z (zmk h a (zst ρ 0 (rpasN r (ρ 0))))) := by
  induction r with
  | zero =>
    intro nn s0 ρ l5 l6 l7 l8 l9 l10 l11 l12 l13 l14 l15 l16 h1 h2 hI hT
    rw [e151_5]
    simp (disch := omega) only [e151_0, e151_1, e151_2, e151_3, e151_7, e151_8, e151_11, e151_12, e151_15, e151_16, e151_17, e151_19, e151_20, e151_22, e151_25, e151_26, e151_27, e151_29, e151_32, e151_34, e151_37, e151_38, e151_39, e151_41, e151_44, e151_45, e151_46, e151_48, e151_51, e151_52, e151_53, e151_55, e151_56, e151_60, e151_61, e151_62, e151_65, e151_66, e151_67, e151_68, e151_71, e151_73, e151_76, e151_78, e151_79, e151_82, e151_84, e151_85, e151_86, e151_87, e151_89, e151_90, e151_92, e151_93, e151_96, e151_98, e151_99, e151_100, e151_102, e151_105, e151_106, e151_109, e151_112, e151_115, e151_117, e151_118, e151_119, e151_122, e151_124, e151_125, e151_126, e151_127, e151_128, e151_129, e151_130, e151_131, e151_132, e151_135, e151_137, e151_138, e151_139, e151_141, e151_144, e151_145, e151_147, e151_148, e151_151, e151_152, e151_154, e151_155, e151_158, e151_160, e151_161, e151_162, e151_163, e151_164, e151_166, e151_167, e151_168, e151_169, e151_171, e151_172, e151_173, e151_176, e151_179, e151_180, e151_183, e151_184, e151_185, e151_186, e151_187, e151_188, e151_189, e151_192, e151_195, e151_196, zi_add, zi_sub, zi_mul, zl_add, zl_sub, zl_mul, zl_i, zi_l, zi_lt, zi_le, zi_eq, zl_lt, zl_le, zl_eq, zlc_lt, zlc_le, zlc_gt, zlc_ge, zlc_eq, zi_ne0, zl_ne0, zi_div, zl_div, zi_rem, zl_rem, zcat_nil, zcat_int, zcat_ref, zcat_long, zkill_int, zkill_ref, zkill_long, zkill_J, zkill2, zto_some, zto_none, znb0, znb1, zB_some, zbr_t, zbr_f, not_true_eq_false, not_false_eq_true, true_imp_iff, false_imp_iff, true_and, and_true, Nat.reduceAdd, Nat.reduceLeDiff, Int.reduceAdd, Int.reduceSub, Int.reduceMul, Int.reduceNeg, zisC_inr, zget_inr, zsetf_inr, zldl_row, zald_row, zstl_row, zast_row, List.getElem?_cons_zero, List.getElem?_cons_succ, List.length_cons, List.length_nil, List.set_cons_zero, List.set_cons_succ, zmk_0, zmk_1, zmk_2, zmk_3, zmk_4, zmk_5, zmk_6, zmk_7, zrg_0, zrg_1, zrg_2, zrg_3, zrg_4, zrg_5, zrg_6, zrg_7, zrg_8, zrg_9, zrg_10, zrg_11, zrg_12, zrg_13, zrg_14, zrg_15, zrs_3, zrs_6, zrs_7, zrs_9, zrs_10, zrs_11, zrs_12, zrs_14, zrs_15, zmw_0, zmw_1, zmw_2, zmw_3, zmw_4, zmw_5, zmw_6, zmw_7, zisr]
    rw [rpasS, rpasN, zst_self, Int.add_zero]
  | succ r ih =>
    intro nn s0 ρ l5 l6 l7 l8 l9 l10 l11 l12 l13 l14 l15 l16 h1 h2 hI hT
    have h21 := hI.2.1
    have hc := rclean_I hI (ρ 0 0)
    have hc2 := hc.2.1
    have o0 := rclean_o hI (ρ 0 0) 0 (by omega)
    have o1 := rclean_o hI (ρ 0 0) 1 (by omega)
    have hb := rrate_b hI
    have hf := rfact_b hI
    have C : ∀ K, zG 149 0 [.ref a, .long (zl (ρ 0 0)), zJ, zJ, zJ, zJ, zJ, zJ, zJ, zJ, zJ, zJ] [] z (zmk h a ρ) K ↔ K none z (zmk h a (zst ρ 0 (rclean (ρ 0) (ρ 0 0)))) := fun K => s_clean (by omega) hI
    have T0 : ∀ K, zG 130 0 [.ref a, .int (zi 0), .long (zl (ρ 0 0)), zJ, zJ, zJ, zJ, zJ] [] z (zmk h a (zst ρ 0 (rclean (ρ 0) (ρ 0 0)))) K ↔ K (some (.long (zl (rrate (ρ 0))))) z (zmk h a (zst ρ 0 (rclean (ρ 0) (ρ 0 0)))) := fun K => by
      rw [s_told (Or.inl rfl) (by omega) (by simp only [zst_ap, if_true, Int.add_zero]; omega) (by simp only [zst_ap, if_true]; exact hc.bd)]
      simp only [zst_ap, if_true]
      rfl
    have T1 : ∀ K, zG 130 0 [.ref a, .int (zi 1), .long (zl (ρ 0 0)), zJ, zJ, zJ, zJ, zJ] [] z (zmk h a (zst ρ 0 (rclean (ρ 0) (ρ 0 0)))) K ↔ K (some (.long (zl (rtold (rclean (ρ 0) (ρ 0 0)) 1 (ρ 0 0))))) z (zmk h a (zst ρ 0 (rclean (ρ 0) (ρ 0 0)))) := fun K => by
      rw [s_told (Or.inr rfl) (by omega) (by simp only [zst_ap, if_true, Int.reduceAdd]; omega) (by simp only [zst_ap, if_true]; exact hc.bd)]
      simp only [zst_ap, if_true]
    rw [e151_5]
    simp (disch := omega) only [e151_0, e151_1, e151_2, e151_3, e151_7, e151_8, e151_11, e151_12, e151_15, e151_16, e151_17, e151_19, e151_20, e151_22, e151_25, e151_26, e151_27, e151_29, e151_32, e151_34, e151_37, e151_38, e151_39, e151_41, e151_44, e151_45, e151_46, e151_48, e151_51, e151_52, e151_53, e151_55, e151_56, e151_60, e151_61, e151_62, e151_65, e151_66, e151_67, e151_68, e151_71, e151_73, e151_76, e151_78, e151_79, e151_82, e151_84, e151_85, e151_86, e151_87, e151_89, e151_90, e151_92, e151_93, e151_96, e151_98, e151_99, e151_100, e151_102, e151_105, e151_106, e151_109, e151_112, e151_115, e151_117, e151_118, e151_119, e151_122, e151_124, e151_125, e151_126, e151_127, e151_128, e151_129, e151_130, e151_131, e151_132, e151_135, e151_137, e151_138, e151_139, e151_141, e151_144, e151_145, e151_147, e151_148, e151_151, e151_152, e151_154, e151_155, e151_158, e151_160, e151_161, e151_162, e151_163, e151_164, e151_166, e151_167, e151_168, e151_169, e151_171, e151_172, e151_173, e151_176, e151_179, e151_180, e151_183, e151_184, e151_185, e151_186, e151_187, e151_188, e151_189, e151_192, e151_195, e151_196, zi_add, zi_sub, zi_mul, zl_add, zl_sub, zl_mul, zl_i, zi_l, zi_lt, zi_le, zi_eq, zl_lt, zl_le, zl_eq, zlc_lt, zlc_le, zlc_gt, zlc_ge, zlc_eq, zi_ne0, zl_ne0, zi_div, zl_div, zi_rem, zl_rem, zcat_nil, zcat_int, zcat_ref, zcat_long, zkill_int, zkill_ref, zkill_long, zkill_J, zkill2, zto_some, zto_none, znb0, znb1, zB_some, zbr_t, zbr_f, not_true_eq_false, not_false_eq_true, true_imp_iff, false_imp_iff, true_and, and_true, Nat.reduceAdd, Nat.reduceLeDiff, Int.reduceAdd, Int.reduceSub, Int.reduceMul, Int.reduceNeg, zisC_inr, zget_inr, zsetf_inr, zldl_row, zald_row, zstl_row, zast_row, List.getElem?_cons_zero, List.getElem?_cons_succ, List.length_cons, List.length_nil, List.set_cons_zero, List.set_cons_succ, zmk_0, zmk_1, zmk_2, zmk_3, zmk_4, zmk_5, zmk_6, zmk_7, zrg_0, zrg_1, zrg_2, zrg_3, zrg_4, zrg_5, zrg_6, zrg_7, zrg_8, zrg_9, zrg_10, zrg_11, zrg_12, zrg_13, zrg_14, zrg_15, zrs_3, zrs_6, zrs_7, zrs_9, zrs_10, zrs_11, zrs_12, zrs_14, zrs_15, zmw_0, zmw_1, zmw_2, zmw_3, zmw_4, zmw_5, zmw_6, zmw_7, zisr, C, T0, T1]
    rw [show (100 + rtold (rclean (ρ 0) (ρ 0 0)) 1 (ρ 0 0) * rtold (rclean (ρ 0) (ρ 0 0)) 1 (ρ 0 0)) = rfact (ρ 0) from rfl]
    obtain ⟨m12, m13, m14, m15, m16, E⟩ := s_mir_l (z := z) (h := h) (K := K) (a := a) (nt := nt) (nn := nn) (ng := ρ 0 0) (rate := rrate (ρ 0)) (f := rfact (ρ 0)) hc (by omega) hb (by omega) (ρ 0 1).toNat 0 (zst ρ 0 (rclean (ρ 0) (ρ 0 0))) l12 l13 l14 l15 l16 s0 (by omega) (by simp only [zst_ap, if_true]; rfl)
    rw [rsumN, Int.add_zero] at E
    refine E.trans ?_
    rw [o0, o1, zst_zst, ih (nn + 1) _ _ _ _ _ _ _ _ _ _ _ _ _ _ (by omega) (by omega) (by simp only [zst_ap, if_true]; exact hI.night) (by simp only [zst_ap, if_true]; rw [zset_ap, if_pos rfl]; omega)]
    simp only [zst_ap, if_true, zst_zst]
    rw [rpasS, rpasN, ← Int.add_assoc]
    rfl
theorem s_passes {nt : Int} (hn : 0 ≤ nt ∧ nt ≤ 100) (hI : rI (ρ 0)) (hT : ρ 0 0 ≤ 100000000) :
    zG 151 0 [.ref a, .int (zi nt), zJ, zJ, zJ, zJ, zJ, zJ, zJ, zJ, zJ, zJ, zJ, zJ, zJ, zJ, zJ] [] z (zmk h a ρ) K ↔ K (some (.long (zl (rpasS nt.toNat (ρ 0))))) z (zmk h a (zst ρ 0 (rpasN nt.toNat (ρ 0)))) := by
  simp (disch := omega) only [e151_0, e151_1, e151_2, e151_3, e151_7, e151_8, e151_11, e151_12, e151_15, e151_16, e151_17, e151_19, e151_20, e151_22, e151_25, e151_26, e151_27, e151_29, e151_32, e151_34, e151_37, e151_38, e151_39, e151_41, e151_44, e151_45, e151_46, e151_48, e151_51, e151_52, e151_53, e151_55, e151_56, e151_60, e151_61, e151_62, e151_65, e151_66, e151_67, e151_68, e151_71, e151_73, e151_76, e151_78, e151_79, e151_82, e151_84, e151_85, e151_86, e151_87, e151_89, e151_90, e151_92, e151_93, e151_96, e151_98, e151_99, e151_100, e151_102, e151_105, e151_106, e151_109, e151_112, e151_115, e151_117, e151_118, e151_119, e151_122, e151_124, e151_125, e151_126, e151_127, e151_128, e151_129, e151_130, e151_131, e151_132, e151_135, e151_137, e151_138, e151_139, e151_141, e151_144, e151_145, e151_147, e151_148, e151_151, e151_152, e151_154, e151_155, e151_158, e151_160, e151_161, e151_162, e151_163, e151_164, e151_166, e151_167, e151_168, e151_169, e151_171, e151_172, e151_173, e151_176, e151_179, e151_180, e151_183, e151_184, e151_185, e151_186, e151_187, e151_188, e151_189, e151_192, e151_195, e151_196, zi_add, zi_sub, zi_mul, zl_add, zl_sub, zl_mul, zl_i, zi_l, zi_lt, zi_le, zi_eq, zl_lt, zl_le, zl_eq, zlc_lt, zlc_le, zlc_gt, zlc_ge, zlc_eq, zi_ne0, zl_ne0, zi_div, zl_div, zi_rem, zl_rem, zcat_nil, zcat_int, zcat_ref, zcat_long, zkill_int, zkill_ref, zkill_long, zkill_J, zkill2, zto_some, zto_none, znb0, znb1, zB_some, zbr_t, zbr_f, not_true_eq_false, not_false_eq_true, true_imp_iff, false_imp_iff, true_and, and_true, Nat.reduceAdd, Nat.reduceLeDiff, Int.reduceAdd, Int.reduceSub, Int.reduceMul, Int.reduceNeg, zisC_inr, zget_inr, zsetf_inr, zldl_row, zald_row, zstl_row, zast_row, List.getElem?_cons_zero, List.getElem?_cons_succ, List.length_cons, List.length_nil, List.set_cons_zero, List.set_cons_succ, zmk_0, zmk_1, zmk_2, zmk_3, zmk_4, zmk_5, zmk_6, zmk_7, zrg_0, zrg_1, zrg_2, zrg_3, zrg_4, zrg_5, zrg_6, zrg_7, zrg_8, zrg_9, zrg_10, zrg_11, zrg_12, zrg_13, zrg_14, zrg_15, zrs_3, zrs_6, zrs_7, zrs_9, zrs_10, zrs_11, zrs_12, zrs_14, zrs_15, zmw_0, zmw_1, zmw_2, zmw_3, zmw_4, zmw_5, zmw_6, zmw_7, zisr]
  rw [s_passes_l hn nt.toNat 0 0 ρ zJ zJ zJ zJ zJ zJ zJ zJ zJ zJ zJ zJ (by omega) (by omega) hI (by omega), Int.zero_add]
end RF7
