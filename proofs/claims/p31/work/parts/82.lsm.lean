/-! p31: the law's small methods, what the queries answer -/
theorem zisP {h : zH} {p : Nat} {κ : Nat → Int → Int} (τ : Int → Int) : zisC (zcs (zpr h p κ) (p + 1) τ p) 10 = true := by
  rw [zcs_o (by omega), zpr_0]
  exact zk_po _ _
theorem zald_9 {s : Int → Int} {i : Int} {n : Nat} (h1 : 0 ≤ i) (h2 : i < n) (h3 : n < 2147483648) : zald 0 (zi i) (.inl (9, n, .inl (zrwi s))) = some (zi (s i)) := by
  show (if (9 = 0 ∨ (0 = 0 ∧ 9 = 9)) ∧ zidx (zi i) n = true then some (zrwi s (zi i).toNatClampNeg) else none) = _
  rw [if_pos ⟨Or.inr ⟨rfl, rfl⟩, zidx_zi h1 h2 h3⟩, zrwi, zclampI h1 (by omega)]
theorem zaln_9 {n : Nat} {f : Nat → Int32} : zaln (.inl (9, n, .inl f)) = some (zi n) := rfl
/-- a number below n out of any -/
def lw (v : Int32) (n : Int) : Int := (v &&& zi 2147483647).toInt % n
theorem land_nn (v : Int32) : 0 ≤ (v &&& zi 2147483647).toInt := by
  have h2 : (zi 2147483647).toBitVec.msb = false := by decide +kernel
  have h : (v &&& zi 2147483647).toBitVec.msb = false := by rw [Int32.toBitVec_and, BitVec.msb_and, h2, Bool.and_false]
  show 0 ≤ (v &&& zi 2147483647).toBitVec.toInt
  rw [BitVec.toInt_eq_toNat_of_msb h]
  exact Int.natCast_nonneg _
theorem lw_b (v : Int32) {n : Int} (hn : 0 < n) : 0 ≤ lw v n ∧ lw v n < n := ⟨Int.emod_nonneg _ (by omega), Int.emod_lt_of_pos _ hn⟩
section LS
variable {z : zZ} {h : zH} {K : Option Value → zZ → zH → Prop}
theorem t_low {v : Int32} {n : Int} (h1 : 0 < n) (h2 : n < 2147483648) : zG 95 0 [.int v, .int (zi n)] [] z h K ↔ K (some (.int (zi (lw v n)))) z h := by
  unfold lw
  have b := land_nn v
  simp only [e95_0, e95_1, e95_3]
  generalize v &&& zi 2147483647 = x at b ⊢
  obtain ⟨m, rfl, m1, m2⟩ := zi_of x
  rw [zi_toInt m1 m2] at b ⊢
  simp (disch := omega) only [e95_0, e95_1, e95_3, e95_4, e95_5, e95_6, zi_add, zi_sub, zi_mul, zl_add, zl_sub, zl_mul, zl_i, zi_l, zi_lt, zi_le, zi_eq, zl_lt, zl_le, zl_eq, zlc_lt, zlc_le, zlc_gt, zlc_ge, zlc_eq, zi_ne0, zl_ne0, zi_div, zl_div, zi_rem, zl_rem, zcat_nil, zcat_int, zcat_ref, zcat_long, zkill_int, zkill_ref, zkill_long, zkill_J, zkill2, zto_some, zto_none, znb0, znb1, zB_some, zbr_t, zbr_f, not_true_eq_false, not_false_eq_true, true_imp_iff, false_imp_iff, true_and, and_true, Nat.reduceAdd, Nat.reduceLeDiff, Int.reduceAdd, Int.reduceSub, Int.reduceMul, Int.reduceNeg, zisC_inr, zget_inr, zsetf_inr, zldl_row, zald_row, zstl_row, zast_row, List.getElem?_cons_zero, List.getElem?_cons_succ, List.length_cons, List.length_nil, List.set_cons_zero, List.set_cons_succ]
  rw [Int.emod_def, Int.mul_comm n (m / n)]
theorem t_cell {b L : Nat} {s : Int → Int} {k : Int} (hb : h b = .inl (9, L, .inl (zrwi s))) (hL : L ≤ 260) (hk : 0 ≤ k ∧ k < 1000) : ∃ v : Int32, ∀ K : Option Value → zZ → zH → Prop, zG 94 0 [.ref b, .int (zi k)] [] z h K ↔ K (some (.int v)) z h := by
  by_cases c : k < L
  · refine ⟨zi (s k), fun K => ?_⟩
    simp (disch := omega) only [e94_0, e94_1, e94_2, e94_3, e94_6, e94_7, e94_8, e94_9, e94_12, e94_14, e94_15, e94_16, e94_19, e94_20, zi_add, zi_sub, zi_mul, zl_add, zl_sub, zl_mul, zl_i, zi_l, zi_lt, zi_le, zi_eq, zl_lt, zl_le, zl_eq, zlc_lt, zlc_le, zlc_gt, zlc_ge, zlc_eq, zi_ne0, zl_ne0, zi_div, zl_div, zi_rem, zl_rem, zcat_nil, zcat_int, zcat_ref, zcat_long, zkill_int, zkill_ref, zkill_long, zkill_J, zkill2, zto_some, zto_none, znb0, znb1, zB_some, zbr_t, zbr_f, not_true_eq_false, not_false_eq_true, true_imp_iff, false_imp_iff, true_and, and_true, Nat.reduceAdd, Nat.reduceLeDiff, Int.reduceAdd, Int.reduceSub, Int.reduceMul, Int.reduceNeg, zisC_inr, zget_inr, zsetf_inr, zldl_row, zald_row, zstl_row, zast_row, List.getElem?_cons_zero, List.getElem?_cons_succ, List.length_cons, List.length_nil, List.set_cons_zero, List.set_cons_succ, hb, zald_9, zaln_9]
  · refine ⟨zi (2180009 * k + 971), fun K => ?_⟩
    simp (disch := omega) only [e94_0, e94_1, e94_2, e94_3, e94_6, e94_7, e94_8, e94_9, e94_12, e94_14, e94_15, e94_16, e94_19, e94_20, zi_add, zi_sub, zi_mul, zl_add, zl_sub, zl_mul, zl_i, zi_l, zi_lt, zi_le, zi_eq, zl_lt, zl_le, zl_eq, zlc_lt, zlc_le, zlc_gt, zlc_ge, zlc_eq, zi_ne0, zl_ne0, zi_div, zl_div, zi_rem, zl_rem, zcat_nil, zcat_int, zcat_ref, zcat_long, zkill_int, zkill_ref, zkill_long, zkill_J, zkill2, zto_some, zto_none, znb0, znb1, zB_some, zbr_t, zbr_f, not_true_eq_false, not_false_eq_true, true_imp_iff, false_imp_iff, true_and, and_true, Nat.reduceAdd, Nat.reduceLeDiff, Int.reduceAdd, Int.reduceSub, Int.reduceMul, Int.reduceNeg, zisC_inr, zget_inr, zsetf_inr, zldl_row, zald_row, zstl_row, zast_row, List.getElem?_cons_zero, List.getElem?_cons_succ, List.length_cons, List.length_nil, List.set_cons_zero, List.set_cons_succ, hb, zald_9, zaln_9]
theorem t_takes {k : Int} (hk : 0 ≤ k ∧ k ≤ 2) : zG 97 0 [.int (zi k)] [] z h K ↔ K (some (.int (zi (rtake k)))) z h := by
  unfold rtake
  by_cases c0 : k = 0
  · rw [if_pos c0]
    simp (disch := omega) only [e97_0, e97_1, e97_4, e97_5, e97_8, e97_9, e97_10, e97_13, e97_14, e97_17, e97_19, zi_add, zi_sub, zi_mul, zl_add, zl_sub, zl_mul, zl_i, zi_l, zi_lt, zi_le, zi_eq, zl_lt, zl_le, zl_eq, zlc_lt, zlc_le, zlc_gt, zlc_ge, zlc_eq, zi_ne0, zl_ne0, zi_div, zl_div, zi_rem, zl_rem, zcat_nil, zcat_int, zcat_ref, zcat_long, zkill_int, zkill_ref, zkill_long, zkill_J, zkill2, zto_some, zto_none, znb0, znb1, zB_some, zbr_t, zbr_f, not_true_eq_false, not_false_eq_true, true_imp_iff, false_imp_iff, true_and, and_true, Nat.reduceAdd, Nat.reduceLeDiff, Int.reduceAdd, Int.reduceSub, Int.reduceMul, Int.reduceNeg, zisC_inr, zget_inr, zsetf_inr, zldl_row, zald_row, zstl_row, zast_row, List.getElem?_cons_zero, List.getElem?_cons_succ, List.length_cons, List.length_nil, List.set_cons_zero, List.set_cons_succ]
  · rw [if_neg c0]
    by_cases c1 : k = 1
    · rw [if_pos c1]
      simp (disch := omega) only [e97_0, e97_1, e97_4, e97_5, e97_8, e97_9, e97_10, e97_13, e97_14, e97_17, e97_19, zi_add, zi_sub, zi_mul, zl_add, zl_sub, zl_mul, zl_i, zi_l, zi_lt, zi_le, zi_eq, zl_lt, zl_le, zl_eq, zlc_lt, zlc_le, zlc_gt, zlc_ge, zlc_eq, zi_ne0, zl_ne0, zi_div, zl_div, zi_rem, zl_rem, zcat_nil, zcat_int, zcat_ref, zcat_long, zkill_int, zkill_ref, zkill_long, zkill_J, zkill2, zto_some, zto_none, znb0, znb1, zB_some, zbr_t, zbr_f, not_true_eq_false, not_false_eq_true, true_imp_iff, false_imp_iff, true_and, and_true, Nat.reduceAdd, Nat.reduceLeDiff, Int.reduceAdd, Int.reduceSub, Int.reduceMul, Int.reduceNeg, zisC_inr, zget_inr, zsetf_inr, zldl_row, zald_row, zstl_row, zast_row, List.getElem?_cons_zero, List.getElem?_cons_succ, List.length_cons, List.length_nil, List.set_cons_zero, List.set_cons_succ]
    · rw [if_neg c1]
      simp (disch := omega) only [e97_0, e97_1, e97_4, e97_5, e97_8, e97_9, e97_10, e97_13, e97_14, e97_17, e97_19, zi_add, zi_sub, zi_mul, zl_add, zl_sub, zl_mul, zl_i, zi_l, zi_lt, zi_le, zi_eq, zl_lt, zl_le, zl_eq, zlc_lt, zlc_le, zlc_gt, zlc_ge, zlc_eq, zi_ne0, zl_ne0, zi_div, zl_div, zi_rem, zl_rem, zcat_nil, zcat_int, zcat_ref, zcat_long, zkill_int, zkill_ref, zkill_long, zkill_J, zkill2, zto_some, zto_none, znb0, znb1, zB_some, zbr_t, zbr_f, not_true_eq_false, not_false_eq_true, true_imp_iff, false_imp_iff, true_and, and_true, Nat.reduceAdd, Nat.reduceLeDiff, Int.reduceAdd, Int.reduceSub, Int.reduceMul, Int.reduceNeg, zisC_inr, zget_inr, zsetf_inr, zldl_row, zald_row, zstl_row, zast_row, List.getElem?_cons_zero, List.getElem?_cons_succ, List.length_cons, List.length_nil, List.set_cons_zero, List.set_cons_succ]
end LS
theorem qcnt_0 (ρ : Nat → Int → Int) : qcnt ρ 0 = ρ 0 0 := rfl
theorem qcnt_1 (ρ : Nat → Int → Int) : qcnt ρ 1 = ρ 0 1 := rfl
theorem qcnt_2 (ρ : Nat → Int → Int) : qcnt ρ 2 = ρ 0 2 := rfl
theorem qcnt_3 (ρ : Nat → Int → Int) : qcnt ρ 3 = ρ 0 3 := rfl
theorem qcnt_4 (ρ : Nat → Int → Int) : qcnt ρ 4 = ρ 0 4 := rfl
theorem qcnt_5 (ρ : Nat → Int → Int) : qcnt ρ 5 = ρ 7 1 := rfl
theorem qcnt_6 (ρ : Nat → Int → Int) : qcnt ρ 6 = ρ 7 0 := rfl
theorem qcnt_7 (ρ : Nat → Int → Int) : qcnt ρ 7 = ρ 0 5 := rfl
theorem qcnt_8 (ρ : Nat → Int → Int) : qcnt ρ 8 = ρ 0 6 := rfl
theorem qcnt_9 (ρ : Nat → Int → Int) : qcnt ρ 9 = ρ 0 7 := rfl
theorem qcnt_10 (ρ : Nat → Int → Int) : qcnt ρ 10 = -1000002 := rfl
theorem qm_0 {σ : Int → Int} {m : Int} (h1 : 0 ≤ m) (h2 : m ≤ σ 1 - 1) : qmir σ m 0 = σ (10 + 6 * m + 0) := by
  unfold qmir
  rw [if_neg (by omega), if_neg (by omega), if_pos (by omega)]
theorem qm_1 {σ : Int → Int} {m : Int} (h1 : 0 ≤ m) (h2 : m ≤ σ 1 - 1) : qmir σ m 1 = σ (10 + 6 * m + 1) := by
  unfold qmir
  rw [if_neg (by omega), if_neg (by omega), if_pos (by omega)]
theorem qm_2 {σ : Int → Int} {m : Int} (h1 : 0 ≤ m) (h2 : m ≤ σ 1 - 1) : qmir σ m 2 = σ (10 + 6 * m + 2) := by
  unfold qmir
  rw [if_neg (by omega), if_neg (by omega), if_pos (by omega)]
theorem qm_3 {σ : Int → Int} {m : Int} (h1 : 0 ≤ m) (h2 : m ≤ σ 1 - 1) : qmir σ m 3 = σ (10 + 6 * m + 3) := by
  unfold qmir
  rw [if_neg (by omega), if_neg (by omega), if_pos (by omega)]
theorem qm_4 {σ : Int → Int} {m : Int} (h1 : 0 ≤ m) (h2 : m ≤ σ 1 - 1) : qmir σ m 4 = σ (10 + 6 * m + 4) := by
  unfold qmir
  rw [if_neg (by omega), if_neg (by omega), if_pos (by omega)]
theorem qm_5 {σ : Int → Int} {m : Int} (h1 : 0 ≤ m) (h2 : m ≤ σ 1 - 1) : qmir σ m 5 = rloss σ m := by
  unfold qmir
  rw [if_neg (by omega), if_pos rfl]
theorem qm_6 {σ : Int → Int} {m : Int} (h1 : 0 ≤ m) (h2 : m ≤ σ 1 - 1) : qmir σ m 6 = -1000002 := by
  unfold qmir
  rw [if_neg (by omega), if_neg (by omega), if_neg (by omega)]
theorem ql_in {σ : Int → Int} {m : Int} (h1 : 0 ≤ m) (h2 : m ≤ σ 1 - 1) : qlost σ m = σ (10 + 6 * m + 5) := if_pos ⟨h1, h2⟩
theorem ql_out {σ : Int → Int} {m : Int} (h2 : σ 1 - 1 < m) : qlost σ m = -1000001 := if_neg (by omega)
theorem qn_0 {σ : Int → Int} {n : Int} (h1 : 0 ≤ n) (h2 : n ≤ 9999) : qnight σ n 0 = rtold σ 0 n := if_pos (by omega)
theorem qn_1 {σ : Int → Int} {n : Int} (h1 : 0 ≤ n) (h2 : n ≤ 9999) : qnight σ n 1 = rtold σ 1 n := if_pos (by omega)
theorem qn_out {σ : Int → Int} {n w : Int} (h1 : 9999 < n) : qnight σ n w = -1000002 := if_neg (by omega)
theorem qd_0 {σ : Int → Int} {d : Int} (h1 : 0 ≤ d) (h2 : d ≤ 9999) : qday σ d 0 = rpeop σ d := by
  unfold qday
  rw [if_neg (by omega), if_pos rfl]
theorem qd_1 {σ : Int → Int} {d : Int} (h1 : 0 ≤ d) (h2 : d ≤ 9999) : qday σ d 1 = rhour σ d := by
  unfold qday
  rw [if_neg (by omega), if_neg (by omega), if_pos rfl]
theorem qd_2 {σ : Int → Int} {d : Int} (h1 : 0 ≤ d) (h2 : d ≤ 9999) : qday σ d 2 = rhour σ d - rplan σ d := by
  unfold qday
  rw [if_neg (by omega), if_neg (by omega), if_neg (by omega)]
theorem qd_3 {σ : Int → Int} {d : Int} : qday σ d 3 = -1000002 := if_pos (by omega)
theorem qh_in {σ : Int → Int} {q w : Int} (h1 : 0 ≤ q) (h2 : q ≤ σ 2 - 1) (h3 : 0 ≤ w) (h4 : w ≤ 6) : qhours σ q w = σ (40 + 9 * q + w) := by
  unfold qhours
  rw [if_neg (by omega), if_pos (by omega)]
theorem qh_neg {σ : Int → Int} {q w : Int} (h1 : 0 ≤ q) (h2 : q ≤ σ 2 - 1) (h3 : w < 0) : qhours σ q w = -1000002 := by
  unfold qhours
  rw [if_neg (by omega), if_neg (by omega)]
theorem qp_0 {σ : Int → Int} {k : Int} (h1 : 0 ≤ k) (h2 : k < σ 3) : qplan σ k 0 = σ (150 + 3 * k) := by
  unfold qplan
  rw [if_neg (by omega), if_pos h2, Int.add_zero]
theorem qp_1 {σ : Int → Int} {k : Int} (h1 : 0 ≤ k) (h2 : k < σ 3) : qplan σ k 1 = σ (150 + 3 * k + 1) := by
  unfold qplan
  rw [if_neg (by omega), if_pos h2]
theorem qp_2 {σ : Int → Int} {k : Int} (h1 : 0 ≤ k) (h2 : k < σ 3) : qplan σ k 2 = σ (150 + 3 * k + 2) := by
  unfold qplan
  rw [if_neg (by omega), if_pos h2]
theorem qp_no {σ : Int → Int} {k : Int} (h1 : 0 ≤ k) (h2 : σ 3 ≤ k) : qplan σ k 0 = -1000005 := by
  unfold qplan
  rw [if_neg (by omega), if_neg (by omega)]
theorem qp_3 {σ : Int → Int} {k : Int} : qplan σ k 3 = -1000002 := if_pos (by omega)
theorem qg_no {σ : Int → Int} {k : Int} (h1 : 0 ≤ k) (h2 : σ 4 ≤ k) : qlog σ k 0 = -1000005 := by
  unfold qlog
  rw [if_neg (by omega), if_neg (by omega)]
theorem qg_neg {σ : Int → Int} {k w : Int} (h1 : k < 0) : qlog σ k w = -1000002 := if_pos (by omega)
section LQ
variable {z : zZ} {h : zH} {p : Nat} {κ ρ : Nat → Int → Int} {T : Int}
theorem Q_mir (hP : pR T ρ) (hT : T ≤ 100000000) (hR : rC ρ κ) (m : Int) (w : Int) (l3 : Value) (K : Option Value → zZ → zH → Prop) (h0a : -2147483648 ≤ m) (h0b : m < 2147483648) (h1a : -2147483648 ≤ w) (h1b : w < 2147483648) : zG 76 0 [.ref p, .int (zi m), .int (zi w), l3] [] z (zcs (zpr h p κ) (p + 1) (ρ 0)) K ↔ K (some (.int (zi (qmir (ρ 0) m w)))) z (zcs (zpr h p κ) (p + 1) (ρ 0)) := p_mirror ⟨h0a, h0b⟩ ⟨h1a, h1b⟩ hP.1 hT l3
theorem Q_lost (hP : pR T ρ) (hT : T ≤ 100000000) (hR : rC ρ κ) (m : Int) (K : Option Value → zZ → zH → Prop) (h0a : -2147483648 ≤ m) (h0b : m < 2147483648) : zG 77 0 [.ref p, .int (zi m)] [] z (zcs (zpr h p κ) (p + 1) (ρ 0)) K ↔ K (some (.long (zl (qlost (ρ 0) m)))) z (zcs (zpr h p κ) (p + 1) (ρ 0)) := p_lost ⟨h0a, h0b⟩ hP.1
theorem Q_night (hP : pR T ρ) (hT : T ≤ 100000000) (hR : rC ρ κ) (n : Int) (w : Int) (K : Option Value → zZ → zH → Prop) (h0a : -2147483648 ≤ n) (h0b : n < 2147483648) (h1a : -2147483648 ≤ w) (h1b : w < 2147483648) : zG 79 0 [.ref p, .int (zi n), .int (zi w)] [] z (zcs (zpr h p κ) (p + 1) (ρ 0)) K ↔ K (some (.int (zi (qnight (ρ 0) n w)))) z (zcs (zpr h p κ) (p + 1) (ρ 0)) := p_night ⟨h0a, h0b⟩ ⟨h1a, h1b⟩ hP.1
theorem Q_day (hP : pR T ρ) (hT : T ≤ 100000000) (hR : rC ρ κ) (d : Int) (w : Int) (K : Option Value → zZ → zH → Prop) (h0a : -2147483648 ≤ d) (h0b : d < 2147483648) (h1a : -2147483648 ≤ w) (h1b : w < 2147483648) : zG 80 0 [.ref p, .int (zi d), .int (zi w)] [] z (zcs (zpr h p κ) (p + 1) (ρ 0)) K ↔ K (some (.int (zi (qday (ρ 0) d w)))) z (zcs (zpr h p κ) (p + 1) (ρ 0)) := p_day ⟨h0a, h0b⟩ ⟨h1a, h1b⟩ hP.1 hP.2.1.1.1
theorem Q_hours (hP : pR T ρ) (hT : T ≤ 100000000) (hR : rC ρ κ) (q : Int) (w : Int) (K : Option Value → zZ → zH → Prop) (h0a : -2147483648 ≤ q) (h0b : q < 2147483648) (h1a : -2147483648 ≤ w) (h1b : w < 2147483648) : zG 81 0 [.ref p, .int (zi q), .int (zi w)] [] z (zcs (zpr h p κ) (p + 1) (ρ 0)) K ↔ K (some (.int (zi (qhours (ρ 0) q w)))) z (zcs (zpr h p κ) (p + 1) (ρ 0)) := p_hours ⟨h0a, h0b⟩ ⟨h1a, h1b⟩ hP.1
theorem Q_plan (hP : pR T ρ) (hT : T ≤ 100000000) (hR : rC ρ κ) (q : Int) (w : Int) (K : Option Value → zZ → zH → Prop) (h0a : -2147483648 ≤ q) (h0b : q < 2147483648) (h1a : -2147483648 ≤ w) (h1b : w < 2147483648) : zG 82 0 [.ref p, .int (zi q), .int (zi w)] [] z (zcs (zpr h p κ) (p + 1) (ρ 0)) K ↔ K (some (.int (zi (qplan (ρ 0) q w)))) z (zcs (zpr h p κ) (p + 1) (ρ 0)) := p_planned ⟨h0a, h0b⟩ ⟨h1a, h1b⟩ hP.1
theorem Q_log (hP : pR T ρ) (hT : T ≤ 100000000) (hR : rC ρ κ) (q : Int) (w : Int) (K : Option Value → zZ → zH → Prop) (h0a : -2147483648 ≤ q) (h0b : q < 2147483648) (h1a : -2147483648 ≤ w) (h1b : w < 2147483648) : zG 83 0 [.ref p, .int (zi q), .int (zi w)] [] z (zcs (zpr h p κ) (p + 1) (ρ 0)) K ↔ K (some (.int (zi (qlog (ρ 0) q w)))) z (zcs (zpr h p κ) (p + 1) (ρ 0)) := p_log ⟨h0a, h0b⟩ ⟨h1a, h1b⟩ hP.1
theorem Q_cnt (hP : pR T ρ) (hT : T ≤ 100000000) (hR : rC ρ κ) (w : Int) (K : Option Value → zZ → zH → Prop) (h0a : -2147483648 ≤ w) (h0b : w < 2147483648) : zG 84 0 [.ref p, .int (zi w)] [] z (zcs (zpr h p κ) (p + 1) (ρ 0)) K ↔ K (some (.int (zi (qcnt ρ w)))) z (zcs (zpr h p κ) (p + 1) (ρ 0)) := p_count ⟨h0a, h0b⟩ hR
end LQ
