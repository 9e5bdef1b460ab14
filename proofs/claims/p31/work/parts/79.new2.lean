/-! THE CLASS: made anew, the whole -/
/-- k new States from s on -/
def zhb (B : zH) (s : Nat) : Nat → zH
  | 0 => B
  | k + 1 => zcs (zhb B s k) (s + 27 * k) z0
theorem zhb_o {B : zH} {s x : Nat} (hx : x < s) : ∀ k : Nat, zhb B s k x = B x
  | 0 => rfl
  | k + 1 => by
    show zcs (zhb B s k) (s + 27 * k) z0 x = _
    rw [zcs_o (by omega), zhb_o hx k]
theorem zhb_h {B : zH} {s x k : Nat} (hx : s + 27 * k ≤ x) : zhb B s k x = B x := by
  induction k with
  | zero => rfl
  | succ k ih =>
    show zcs (zhb B s k) (s + 27 * k) z0 x = _
    rw [zcs_o (by omega), ih (by omega)]
theorem zhb_up {B : zH} {s x : Nat} {c : va_E} (hx : x < s) : ∀ k : Nat, zup (zhb B s k) x c = zhb (zup B x c) s k
  | 0 => rfl
  | k + 1 => by
    show zup (zcs (zhb B s k) (s + 27 * k) z0) x c = zcs (zhb (zup B x c) s k) (s + 27 * k) z0
    rw [zcs_up (by omega), zhb_up hx k]
theorem zhb_in {B : zH} {s x : Nat} : ∀ k : Nat, s ≤ x → x < s + 27 * k → zhb B s k x = zbk (s + 27 * ((x - s) / 27)) z0 ((x - s) % 27)
  | 0, h1, h2 => absurd h2 (by omega)
  | k + 1, h1, h2 => by
    show zcs (zhb B s k) (s + 27 * k) z0 x = _
    unfold zcs
    by_cases c : s + 27 * k ≤ x ∧ x < s + 27 * k + 27
    · rw [if_pos c, show (x - s) / 27 = k by omega, show (x - s) % 27 = x - (s + 27 * k) by omega]
    · rw [if_neg c]
      exact zhb_in k h1 (by omega)
def k0 : Nat → Int → Int := fun c => if c = 9 then (fun j => if j = 1 ∨ j = 2 then -1000005 else 0) else z0
section NW2
variable {L S : List Value} {z : zZ} {h : zH} {Q K : Option Value → zZ → zH → Prop} {p q n : Nat} {w : Nat → Nat}
theorem t_h0 : zG 18 0 [.ref q, zJ] [] (q + 1, n, w) (zup h q (.inr (2, [.null, .int 0, .int 0, .int 0]))) K ↔ zG 18 15 [.ref q, .int (zi ((0 : Nat) : Int))] [] (q + 2, n + 6, w) (zhb (zup (zup h q (.inr (2, [.ref (q + 1), .int 0, .int 0, .int 0]))) (q + 1) (zrp 5 6 (q + 2) 27 0)) (q + 2) 0) K := by
  have hr := zrp_0 5 6 (q + 2) 27
  have hb : ∀ (H : zH) (x : Nat) (c u : va_E), x ≠ q → zup (zup H x c) q u = zup (zup H q u) x c := fun H x c u hx => zup_dn hx
  simp (disch := omega) only [e18_0, e18_1, e18_4, e18_5, n18_7, e18_10, e18_13, e18_14, zf2_0, zf2_1, zf2_2, zf2_3, zi_add, zi_sub, zi_mul, zl_add, zl_sub, zl_mul, zl_i, zi_l, zi_lt, zi_le, zi_eq, zl_lt, zl_le, zl_eq, zlc_lt, zlc_le, zlc_gt, zlc_ge, zlc_eq, zi_ne0, zl_ne0, zi_div, zl_div, zi_rem, zl_rem, zcat_nil, zcat_int, zcat_ref, zcat_long, zkill_int, zkill_ref, zkill_long, zkill_J, zkill2, zto_some, zto_none, znb0, znb1, zB_some, zbr_t, zbr_f, not_true_eq_false, not_false_eq_true, true_imp_iff, false_imp_iff, true_and, and_true, Nat.reduceAdd, Nat.reduceLeDiff, Int.reduceAdd, Int.reduceSub, Int.reduceMul, Int.reduceNeg, zisC_inr, zget_inr, zsetf_inr, zldl_row, zald_row, zstl_row, zast_row, List.getElem?_cons_zero, List.getElem?_cons_succ, List.length_cons, List.length_nil, List.set_cons_zero, List.set_cons_succ, zup_self, zup_two, zcs_0, zsk_s, t_state, zup_ne, hb, hr]
  rfl
theorem t_h1 {i : Nat} (hi : i < 6) : zG 18 15 [.ref q, .int (zi (i : Int))] [] (q + 2 + 27 * i, n, w) (zhb (zup (zup h q (.inr (2, [.ref (q + 1), .int 0, .int 0, .int 0]))) (q + 1) (zrp 5 6 (q + 2) 27 i)) (q + 2) i) K ↔ zG 18 15 [.ref q, .int (zi ((i + 1 : Nat) : Int))] [] (q + 2 + 27 * (i + 1), n + 251, w) (zhb (zup (zup h q (.inr (2, [.ref (q + 1), .int 0, .int 0, .int 0]))) (q + 1) (zrp 5 6 (q + 2) 27 (i + 1))) (q + 2) (i + 1)) K := by
  have hs : ∀ (b : Nat), zstr (zi (i : Int)) (q + 2 + 27 * i) (zsob b z0) (zrp 5 6 (q + 2) 27 i) = some (zrp 5 6 (q + 2) 27 (i + 1)) := fun b => zstr_rp (Or.inr rfl) hi (by omega) rfl rfl
  have e1 : zi ((i : Int) + 1) = zi ((i + 1 : Nat) : Int) := by rw [Int.natCast_add]; rfl
  have eo : ∀ B : zH, zhb B (q + 2) i q = B q := fun B => zhb_o (by omega) i
  have em : ∀ B : zH, zhb B (q + 2) i (q + 1) = B (q + 1) := fun B => zhb_o (by omega) i
  have eu : ∀ (B : zH) (c : va_E), zup (zhb B (q + 2) i) (q + 1) c = zhb (zup B (q + 1) c) (q + 2) i := fun B c => zhb_up (by omega) i
  have ek : ∀ B : zH, zcs (zhb B (q + 2) i) (q + 2 + 27 * i) z0 = zhb B (q + 2) (i + 1) := fun B => rfl
  have ef : (.inr (9, [.null, .null, .null, .null, .null, .null, .int 0, .int 0, .int 0, .int 0, .int 0]) : va_E) = ofr9 := rfl
  rw [e18_15]
  simp (disch := omega) only [e18_16, e18_18, e18_21, e18_22, e18_25, e18_26, e18_29, e18_30, e18_33, e18_34, e18_37, e18_40, zi_add, zi_sub, zi_mul, zl_add, zl_sub, zl_mul, zl_i, zi_l, zi_lt, zi_le, zi_eq, zl_lt, zl_le, zl_eq, zlc_lt, zlc_le, zlc_gt, zlc_ge, zlc_eq, zi_ne0, zl_ne0, zi_div, zl_div, zi_rem, zl_rem, zcat_nil, zcat_int, zcat_ref, zcat_long, zkill_int, zkill_ref, zkill_long, zkill_J, zkill2, zto_some, zto_none, znb0, znb1, zB_some, zbr_t, zbr_f, not_true_eq_false, not_false_eq_true, true_imp_iff, false_imp_iff, true_and, and_true, Nat.reduceAdd, Nat.reduceLeDiff, Int.reduceAdd, Int.reduceSub, Int.reduceMul, Int.reduceNeg, zisC_inr, zget_inr, zsetf_inr, zldl_row, zald_row, zstl_row, zast_row, List.getElem?_cons_zero, List.getElem?_cons_succ, List.length_cons, List.length_nil, List.set_cons_zero, List.set_cons_succ, zup_self, zup_two, zcs_0, zsk_s, t_state, zup_ne, zcs_o, zcs_up, ef, eo, em, eu, hs, e1]
  rw [ek]
  rfl
theorem t_hist : zG 18 0 [.ref q, zJ] [] (q + 1, n, w) (zup h q (.inr (2, [.null, .int 0, .int 0, .int 0]))) K ↔ K none (q + 164, n + 1512, w) (zhb (zup (zup h q (.inr (2, [.ref (q + 1), .int 0, .int 0, .int 0]))) (q + 1) (zra 5 6 (q + 2) 27)) (q + 2) 6) := by
  rw [t_h0]
  have a0 := t_h1 (h := h) (K := K) (q := q) (n := n + 6) (w := w) (i := 0) (by omega)
  have a1 := t_h1 (h := h) (K := K) (q := q) (n := n + 6 + 251) (w := w) (i := 1) (by omega)
  have a2 := t_h1 (h := h) (K := K) (q := q) (n := n + 6 + 251 + 251) (w := w) (i := 2) (by omega)
  have a3 := t_h1 (h := h) (K := K) (q := q) (n := n + 6 + 251 + 251 + 251) (w := w) (i := 3) (by omega)
  have a4 := t_h1 (h := h) (K := K) (q := q) (n := n + 6 + 251 + 251 + 251 + 251) (w := w) (i := 4) (by omega)
  have a5 := t_h1 (h := h) (K := K) (q := q) (n := n + 6 + 251 + 251 + 251 + 251 + 251) (w := w) (i := 5) (by omega)
  refine (((((a0.trans a1).trans a2).trans a3).trans a4).trans a5).trans ?_
  rw [e18_15]
  have e6 : zi ((5 + 1 : Nat) : Int) = zi 6 := rfl
  rw [e6]
  simp (disch := omega) only [e18_16, e18_18, e18_21, e18_22, e18_25, e18_26, e18_29, e18_30, e18_33, e18_34, e18_37, e18_40, zi_add, zi_sub, zi_mul, zl_add, zl_sub, zl_mul, zl_i, zi_l, zi_lt, zi_le, zi_eq, zl_lt, zl_le, zl_eq, zlc_lt, zlc_le, zlc_gt, zlc_ge, zlc_eq, zi_ne0, zl_ne0, zi_div, zl_div, zi_rem, zl_rem, zcat_nil, zcat_int, zcat_ref, zcat_long, zkill_int, zkill_ref, zkill_long, zkill_J, zkill2, zto_some, zto_none, znb0, znb1, zB_some, zbr_t, zbr_f, not_true_eq_false, not_false_eq_true, true_imp_iff, false_imp_iff, true_and, and_true, Nat.reduceAdd, Nat.reduceLeDiff, Int.reduceAdd, Int.reduceSub, Int.reduceMul, Int.reduceNeg, zisC_inr, zget_inr, zsetf_inr, zldl_row, zald_row, zstl_row, zast_row, List.getElem?_cons_zero, List.getElem?_cons_succ, List.length_cons, List.length_nil, List.set_cons_zero, List.set_cons_succ]
  rfl
theorem t_n0 : zG 45 0 [.ref q, zJ] [] (q + 1, n, w) (zup h q (.inr (8, [.null, .null]))) K ↔ zG 45 21 [.ref q, .int (zi ((0 : Nat) : Int))] [] (q + 3, n + 4, w) (zhb (zup (zup (zup h q (.inr (8, [.ref (q + 1), .ref (q + 2)]))) (q + 1) (zrp 5 2 (q + 3) 27 0)) (q + 2) (zvc 3 2 z0)) (q + 3) 0) K := by
  have hr := zrp_0 5 2 (q + 3) 27
  have hb : ∀ (H : zH) (x : Nat) (c u : va_E), x ≠ q → zup (zup H x c) q u = zup (zup H q u) x c := fun H x c u hx => zup_dn hx
  simp (disch := omega) only [e45_0, e45_1, e45_4, e45_5, n45_6, e45_9, e45_12, e45_13, n45_14, e45_16, e45_19, e45_20, zf8_0, zf8_1, zi_add, zi_sub, zi_mul, zl_add, zl_sub, zl_mul, zl_i, zi_l, zi_lt, zi_le, zi_eq, zl_lt, zl_le, zl_eq, zlc_lt, zlc_le, zlc_gt, zlc_ge, zlc_eq, zi_ne0, zl_ne0, zi_div, zl_div, zi_rem, zl_rem, zcat_nil, zcat_int, zcat_ref, zcat_long, zkill_int, zkill_ref, zkill_long, zkill_J, zkill2, zto_some, zto_none, znb0, znb1, zB_some, zbr_t, zbr_f, not_true_eq_false, not_false_eq_true, true_imp_iff, false_imp_iff, true_and, and_true, Nat.reduceAdd, Nat.reduceLeDiff, Int.reduceAdd, Int.reduceSub, Int.reduceMul, Int.reduceNeg, zisC_inr, zget_inr, zsetf_inr, zldl_row, zald_row, zstl_row, zast_row, List.getElem?_cons_zero, List.getElem?_cons_succ, List.length_cons, List.length_nil, List.set_cons_zero, List.set_cons_succ, zup_self, zup_two, zcs_0, zsk_s, t_state, zup_ne, hb, hr, znew_v3]
  rfl
theorem t_n1 {i : Nat} (hi : i < 2) : zG 45 21 [.ref q, .int (zi (i : Int))] [] (q + 3 + 27 * i, n, w) (zhb (zup (zup (zup h q (.inr (8, [.ref (q + 1), .ref (q + 2)]))) (q + 1) (zrp 5 2 (q + 3) 27 i)) (q + 2) (zvc 3 2 z0)) (q + 3) i) K ↔ zG 45 21 [.ref q, .int (zi ((i + 1 : Nat) : Int))] [] (q + 3 + 27 * (i + 1), n + 251, w) (zhb (zup (zup (zup h q (.inr (8, [.ref (q + 1), .ref (q + 2)]))) (q + 1) (zrp 5 2 (q + 3) 27 (i + 1))) (q + 2) (zvc 3 2 z0)) (q + 3) (i + 1)) K := by
  have hs : ∀ (b : Nat), zstr (zi (i : Int)) (q + 3 + 27 * i) (zsob b z0) (zrp 5 2 (q + 3) 27 i) = some (zrp 5 2 (q + 3) 27 (i + 1)) := fun b => zstr_rp (Or.inr rfl) hi (by omega) rfl rfl
  have e1 : zi ((i : Int) + 1) = zi ((i + 1 : Nat) : Int) := by rw [Int.natCast_add]; rfl
  have eo : ∀ B : zH, zhb B (q + 3) i q = B q := fun B => zhb_o (by omega) i
  have em : ∀ B : zH, zhb B (q + 3) i (q + 1) = B (q + 1) := fun B => zhb_o (by omega) i
  have eu : ∀ (B : zH) (c : va_E), zup (zhb B (q + 3) i) (q + 1) c = zhb (zup B (q + 1) c) (q + 3) i := fun B c => zhb_up (by omega) i
  have ed : ∀ (B : zH) (c u : va_E), zup (zup B (q + 2) c) (q + 1) u = zup (zup B (q + 1) u) (q + 2) c := fun B c u => zup_dn (by omega)
  have ek : ∀ B : zH, zcs (zhb B (q + 3) i) (q + 3 + 27 * i) z0 = zhb B (q + 3) (i + 1) := fun B => rfl
  have ef : (.inr (9, [.null, .null, .null, .null, .null, .null, .int 0, .int 0, .int 0, .int 0, .int 0]) : va_E) = ofr9 := rfl
  rw [e45_21]
  simp (disch := omega) only [e45_22, e45_23, e45_26, e45_27, e45_30, e45_31, e45_34, e45_35, e45_38, e45_39, e45_42, e45_45, zi_add, zi_sub, zi_mul, zl_add, zl_sub, zl_mul, zl_i, zi_l, zi_lt, zi_le, zi_eq, zl_lt, zl_le, zl_eq, zlc_lt, zlc_le, zlc_gt, zlc_ge, zlc_eq, zi_ne0, zl_ne0, zi_div, zl_div, zi_rem, zl_rem, zcat_nil, zcat_int, zcat_ref, zcat_long, zkill_int, zkill_ref, zkill_long, zkill_J, zkill2, zto_some, zto_none, znb0, znb1, zB_some, zbr_t, zbr_f, not_true_eq_false, not_false_eq_true, true_imp_iff, false_imp_iff, true_and, and_true, Nat.reduceAdd, Nat.reduceLeDiff, Int.reduceAdd, Int.reduceSub, Int.reduceMul, Int.reduceNeg, zisC_inr, zget_inr, zsetf_inr, zldl_row, zald_row, zstl_row, zast_row, List.getElem?_cons_zero, List.getElem?_cons_succ, List.length_cons, List.length_nil, List.set_cons_zero, List.set_cons_succ, zup_self, zup_two, zcs_0, zsk_s, t_state, zup_ne, zcs_o, zcs_up, ef, eo, em, eu, ed, hs, e1]
  rw [ek]
  rfl
theorem t_snap : zG 45 0 [.ref q, zJ] [] (q + 1, n, w) (zup h q (.inr (8, [.null, .null]))) K ↔ K none (q + 57, n + 506, w) (zhb (zup (zup (zup h q (.inr (8, [.ref (q + 1), .ref (q + 2)]))) (q + 1) (zra 5 2 (q + 3) 27)) (q + 2) (zvc 3 2 z0)) (q + 3) 2) := by
  rw [t_n0]
  have a0 := t_n1 (h := h) (K := K) (q := q) (n := n + 4) (w := w) (i := 0) (by omega)
  have a1 := t_n1 (h := h) (K := K) (q := q) (n := n + 4 + 251) (w := w) (i := 1) (by omega)
  refine (a0.trans a1).trans ?_
  rw [e45_21]
  have e6 : zi ((1 + 1 : Nat) : Int) = zi 2 := rfl
  rw [e6]
  simp (disch := omega) only [e45_22, e45_23, e45_26, e45_27, e45_30, e45_31, e45_34, e45_35, e45_38, e45_39, e45_42, e45_45, zi_add, zi_sub, zi_mul, zl_add, zl_sub, zl_mul, zl_i, zi_l, zi_lt, zi_le, zi_eq, zl_lt, zl_le, zl_eq, zlc_lt, zlc_le, zlc_gt, zlc_ge, zlc_eq, zi_ne0, zl_ne0, zi_div, zl_div, zi_rem, zl_rem, zcat_nil, zcat_int, zcat_ref, zcat_long, zkill_int, zkill_ref, zkill_long, zkill_J, zkill2, zto_some, zto_none, znb0, znb1, zB_some, zbr_t, zbr_f, not_true_eq_false, not_false_eq_true, true_imp_iff, false_imp_iff, true_and, and_true, Nat.reduceAdd, Nat.reduceLeDiff, Int.reduceAdd, Int.reduceSub, Int.reduceMul, Int.reduceNeg, zisC_inr, zget_inr, zsetf_inr, zldl_row, zald_row, zstl_row, zast_row, List.getElem?_cons_zero, List.getElem?_cons_succ, List.length_cons, List.length_nil, List.set_cons_zero, List.set_cons_succ]
  rfl
theorem t_plan0 : zG 59 0 [.ref p] [] (p + 1, n, w) (zup h p (.inr (10, [.null, .null, .null, .null, .null, .int 0, .int 0, .int 0]))) K ↔ K none (p + 260, n + 2640, w) (zcs (zpr h p k0) (p + 1) z0) := by
  have ef : (.inr (9, [.null, .null, .null, .null, .null, .null, .int 0, .int 0, .int 0, .int 0, .int 0]) : va_E) = ofr9 := rfl
  have hb : ∀ (H : zH) (x : Nat) (c u : va_E), x ≠ p → zup (zup H x c) p u = zup (zup H p u) x c := fun H x c u hx => zup_dn hx
  have hcu : ∀ (H : zH) (b : Nat) (τ : Int → Int) (c : va_E), p < b → zup (zcs H b τ) p c = zcs (zup H p c) b τ := fun H b τ c hx => zcs_up (Or.inl hx)
  have ho : ∀ (B : zH) (s k : Nat), p < s → zhb B s k p = B p := fun B s k hs => zhb_o hs k
  have hu : ∀ (B : zH) (s k : Nat) (c : va_E), p < s → zup (zhb B s k) p c = zhb (zup B p c) s k := fun B s k c hs => zhb_up hs k
  simp (maxSteps := 4000000) (disch := omega) only [e59_0, e59_1, e59_4, e59_5, e59_8, e59_9, e59_12, e59_15, e59_16, e59_19, e59_20, e59_23, e59_26, e59_27, e59_30, e59_31, e59_34, e59_37, e59_38, e59_41, e59_42, e59_45, e59_48, e59_49, e59_52, e59_53, e59_56, e59_59, e59_60, e59_62, e59_65, e59_66, e59_68, e59_71, zf10_0, zf10_1, zf10_2, zf10_3, zf10_4, zf10_5, zf10_6, zf10_7, zi_add, zi_sub, zi_mul, zl_add, zl_sub, zl_mul, zl_i, zi_l, zi_lt, zi_le, zi_eq, zl_lt, zl_le, zl_eq, zlc_lt, zlc_le, zlc_gt, zlc_ge, zlc_eq, zi_ne0, zl_ne0, zi_div, zl_div, zi_rem, zl_rem, zcat_nil, zcat_int, zcat_ref, zcat_long, zkill_int, zkill_ref, zkill_long, zkill_J, zkill2, zto_some, zto_none, znb0, znb1, zB_some, zbr_t, zbr_f, not_true_eq_false, not_false_eq_true, true_imp_iff, false_imp_iff, true_and, and_true, Nat.reduceAdd, Nat.reduceLeDiff, Int.reduceAdd, Int.reduceSub, Int.reduceMul, Int.reduceNeg, zisC_inr, zget_inr, zsetf_inr, zldl_row, zald_row, zstl_row, zast_row, List.getElem?_cons_zero, List.getElem?_cons_succ, List.length_cons, List.length_nil, List.set_cons_zero, List.set_cons_succ, zup_self, zup_two, zcs_0, zsk_s, t_state, zup_ne, zcs_o, hcu, ef, hb, ho, hu, t_hist, t_snap, t_sign, t_fore]
  refine iff_of_eq (congr (congrArg (K none) ?_) ?_)
  · rfl
  · funext x
    by_cases c8 : x < p ∨ p + 260 ≤ x
    · rw [zcs_o (by omega), zpr_o (by omega)]
      rcases c8 with c8 | c8
      · simp (disch := omega) only [zup_ne, zcs_o, zhb_o]
      · simp (disch := omega) only [zup_ne, zcs_o, zhb_h]
    · by_cases c1 : p + 1 ≤ x ∧ x < p + 28
      · simp (disch := omega) only [zup_ne, zhb_o]
        unfold zcs
        rw [if_pos (by omega), if_pos (by omega)]
      · rw [zcs_o (by omega)]
        by_cases c2 : p + 30 ≤ x ∧ x < p + 192
        · simp (disch := omega) only [zup_ne, zhb_o]
          rw [zhb_in 6 (by omega) (by omega)]
          unfold zpr
          rw [if_pos c2]
          have e : k0 (1 + (x - (p + 30)) / 27) = z0 := if_neg (by omega)
          rw [e]
        · by_cases c3 : p + 195 ≤ x ∧ x < p + 249
          · simp (disch := omega) only [zup_ne]
            rw [zhb_in 2 (by omega) (by omega)]
            unfold zpr
            rw [if_neg c2, if_pos c3]
            have e : k0 (7 + (x - (p + 195)) / 27) = z0 := if_neg (by omega)
            rw [e]
          · rcases (by omega : x = p ∨ x = p + 28 ∨ x = p + 29 ∨ x = p + 192 ∨ x = p + 193 ∨ x = p + 194 ∨ x = p + 249 ∨ x = p + 250 ∨ x = p + 251 ∨ x = p + 252 ∨ x = p + 253 ∨ x = p + 254 ∨ x = p + 255 ∨ x = p + 256 ∨ x = p + 257 ∨ x = p + 258 ∨ x = p + 259) with c | c | c | c | c | c | c | c | c | c | c | c | c | c | c | c | c
            all_goals
              subst c
              simp (disch := omega) only [zup_self, zup_ne, zcs_o, zhb_o, zhb_h, zpr_0, zpr_28, zpr_29, zpr_192, zpr_193, zpr_194, zpr_249, zpr_250, zpr_251, zpr_252, zpr_253, zpr_254, zpr_255, zpr_256, zpr_257, zpr_258, zpr_259]
              try rfl
end NW2
theorem rC_0 : rC r0 k0 := ⟨⟨rfl, rfl, rfl⟩, ⟨Int.le_refl _, by show (0 : Int) < 6; omega, rfl, rfl⟩, fun k a b => absurd b (by show ¬ k < (0 : Int); omega), fun s a b => ⟨rfl, fun c => absurd rfl c⟩, rfl, fun i a b => rfl⟩
