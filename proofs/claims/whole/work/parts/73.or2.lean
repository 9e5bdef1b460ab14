/-! the class: an order read, all orders read -/
/-- only the order read latest is another -/
def kW (κ κ2 : Nat → Int → Int) : Prop := (∀ c, c ≠ 12 → c ≠ 21 → κ2 c = κ c) ∧ κ2 21 0 = κ 21 0
theorem kW.rfl' (κ : Nat → Int → Int) : kW κ κ := ⟨fun _ _ _ => rfl, rfl⟩
theorem kW.trans {κ κ2 κ3 : Nat → Int → Int} (h1 : kW κ κ2) (h2 : kW κ2 κ3) : kW κ κ3 := ⟨fun c a b => (h2.1 c a b).trans (h1.1 c a b), h2.2.trans h1.2⟩
theorem kW.st12 {κ : Nat → Int → Int} {f : Int → Int} : kW κ (zst κ 12 f) := ⟨fun c a _ => if_neg a, rfl⟩
theorem kW.st21 {κ : Nat → Int → Int} {f : Int → Int} (h : f 0 = κ 21 0) : kW κ (zst κ 21 f) := ⟨fun c _ b => if_neg b, h⟩
theorem pTail_3 {t : Int → Int} {n e : Int} : pTail t n e 3 = if 0 ≤ (pArg t n e 0 11).1 then ((pArg t n e 0 11).1, (0, 0, 0), 0) else (-1000005, ((pArg t n e 0 11).2.1, 0, 0), (pArg t n e 0 11).2.2) := rfl
theorem pTail_4 {t : Int → Int} {n e : Int} : pTail t n e 4 = if 0 ≤ (pArg t n e 1 60).1 then ((pArg t n e 1 60).1, (0, 0, 0), 0) else (-1000005, ((pArg t n e 1 60).2.1, 0, 0), (pArg t n e 1 60).2.2) := rfl
theorem pTail_5 {t : Int → Int} {n e : Int} : pTail t n e 5 = if 0 ≤ (pArg t n e 0 59).1 then ((pArg t n e 0 59).1, (0, 0, 0), 0) else if 0 ≤ (pArg t n (pArg t n e 0 59).2.2 0 59).1 then ((pArg t n (pArg t n e 0 59).2.2 0 59).1, (0, 0, 0), 0)
  else if 0 ≤ (pArg t n (pArg t n (pArg t n e 0 59).2.2 0 59).2.2 0 500).1 then ((pArg t n (pArg t n (pArg t n e 0 59).2.2 0 59).2.2 0 500).1, (0, 0, 0), 0)
  else (-1000005, ((pArg t n e 0 59).2.1, (pArg t n (pArg t n e 0 59).2.2 0 59).2.1, (pArg t n (pArg t n (pArg t n e 0 59).2.2 0 59).2.2 0 500).2.1), (pArg t n (pArg t n (pArg t n e 0 59).2.2 0 59).2.2 0 500).2.2) := rfl
theorem pTail_2 {t : Int → Int} {n e x : Int} (hx : 0 ≤ x ∧ x ≤ 2) : pTail t n e x = if 0 ≤ (pArg t n e 0 3).1 then ((pArg t n e 0 3).1, (0, 0, 0), 0) else if 0 ≤ (pArg t n (pArg t n e 0 3).2.2 0 59).1 then ((pArg t n (pArg t n e 0 3).2.2 0 59).1, (0, 0, 0), 0)
  else (-1000005, ((pArg t n e 0 3).2.1, (pArg t n (pArg t n e 0 3).2.2 0 59).2.1, 0), (pArg t n (pArg t n e 0 3).2.2 0 59).2.2) := by
  have hc : x = 0 ∨ x = 1 ∨ x = 2 := by omega
  rcases hc with rfl | rfl | rfl <;> rfl
/-- what is answered and left behind the numbers T of a word x -/
def cTl (t : Int → Int) (n x : Int) (T : Int × (Int × Int × Int) × Int) (κ2 : Nat → Int → Int) (r : Int) : Prop :=
  (0 ≤ T.1 → r = T.1) ∧ (T.1 < 0 → (T.2.2 < n ∧ t T.2.2 ≠ 59 → r = T.2.2) ∧ (¬ (T.2.2 < n ∧ t T.2.2 ≠ 59) → r = -1 ∧ κ2 21 1 = x ∧ κ2 21 2 = T.2.2 + 1 ∧ κ2 21 3 = (if T.2.2 < n then 1 else 0) ∧ κ2 12 0 = T.2.1.1 ∧ (x < 3 ∨ x = 5 → κ2 12 1 = T.2.1.2.1) ∧ (x = 5 → κ2 12 2 = T.2.1.2.2)))
section OR2
variable {z : zZ} {h : zH} {K : Option Value → zZ → zH → Prop} {p : Nat} {κ : Nat → Int → Int} {τ : Int → Int}
theorem c_fin {κ1 : Nat → Int → Int} {x e i x1 x2 x3 : Int} {l3 l4 : Value} (hS : kW κ κ1) (hC : tC (κ 11)) (hn : 0 ≤ κ 21 0 ∧ κ 21 0 ≤ 90) (hx : 0 ≤ x ∧ x ≤ 5) (hw : κ1 21 1 = x) (he : 0 ≤ e ∧ e ≤ κ 21 0) (hi : i = if x = 3 ∨ x = 4 then 1 else if x = 5 then 3 else 2) (hg : 0 ≤ κ1 21 3 ∧ κ1 21 3 ≤ 1) (h0 : κ1 12 0 = x1) (h1 : x < 3 ∨ x = 5 → κ1 12 1 = x2) (h2 : x = 5 → κ1 12 2 = x3)
    (hK : ∀ κ2 r, kW κ κ2 → cTl (κ 11) (κ 21 0) x (-1000005, (x1, x2, x3), e) κ2 r → K (some (.int (zi r))) z (zcs (zpr h p κ2) (p + 1) τ)) : zG 35 37 [.ref (p + 249), .int (zi e), .int (zi i), l3, l4] [] z (zcs (zpr h p κ1) (p + 1) τ) K := by
  have e11 : κ1 11 = κ 11 := hS.1 11 (by decide) (by decide)
  have e21 := hS.2
  rw [c_ro_x (κ := κ1) (x := x) (by rw [e11]; exact hC) (by rw [e21]; exact hn) hx hw (by rw [e21]; exact he) hi hg, e11, e21]
  have nf : ¬ ((0 : Int) ≤ (-1000005, (x1, x2, x3), e).1) := by
    show ¬ ((0 : Int) ≤ -1000005)
    omega
  refine ⟨fun c => ?_, fun c => ⟨fun c2 => ?_, fun c2 => ?_⟩⟩
  · refine hK _ _ (hS.trans (kW.st21 rfl)) ⟨fun q => absurd q nf, fun _ => ⟨fun q => absurd c.2 q.2, fun _ => ⟨rfl, hw, rfl, ?_, h0, h1, h2⟩⟩⟩
    rw [if_pos c.1]
    rfl
  · refine hK _ _ (hS.trans (kW.st21 rfl)) ⟨fun q => absurd q nf, fun _ => ⟨fun q => rfl, fun q => absurd ⟨c2, fun d => c ⟨c2, d⟩⟩ q⟩⟩
  · refine hK _ _ (hS.trans (kW.st21 rfl)) ⟨fun q => absurd q nf, fun _ => ⟨fun q => absurd q.1 c2, fun _ => ⟨rfl, hw, rfl, ?_, h0, h1, h2⟩⟩⟩
    rw [if_neg c2]
    rfl

theorem c_tl3 {e : Int} {κ0 : Nat → Int → Int} (hS : kW κ κ0) (hC : tC (κ 11)) (hn : 0 ≤ κ 21 0 ∧ κ 21 0 ≤ 90) (hw : κ0 21 1 = 3) (he : 0 ≤ e ∧ e ≤ κ 21 0) (hg : 0 ≤ κ0 21 3 ∧ κ0 21 3 ≤ 1) (hK : ∀ κ2 r, kW κ κ2 → cTl (κ 11) (κ 21 0) 3 (pTail (κ 11) (κ 21 0) e 3) κ2 r → K (some (.int (zi r))) z (zcs (zpr h p κ2) (p + 1) τ)) : zG 35 37 [.ref (p + 249), .int (zi e), .int (zi 0), zJ, zJ] [] z (zcs (zpr h p κ0) (p + 1) τ) K := by
  have e11 : κ0 11 = κ 11 := hS.1 11 (by decide) (by decide)
  have e21 := hS.2
  have hC0 : tC (κ0 11) := by rw [e11]; exact hC
  have hn0 : 0 ≤ κ0 21 0 ∧ κ0 21 0 ≤ 90 := by rw [e21]; exact hn
  rw [pTail_3] at hK
  have g0 : (if (3 : Int) = 4 then 1 else 0 : Int) = 0 := by rw [if_neg (by omega)]
  have f0 : hiO 3 0 = 11 := by
    unfold hiO
    rfl
  have b0 := pArg_b (κ 11) (n := κ 21 0) (e := e) (lo := 0) (hi := 11) (by omega) (by omega)
  rw [c_arg (κ := κ0) (x := 3) (i := 0) (Or.inl rfl) hC0 hn0 (by omega) hw (by show 0 ≤ e ∧ e ≤ κ0 21 0; omega) (by first | (rw [if_pos (by omega)]; omega) | (rw [if_pos (by omega)])), g0, f0]
  rw [show κ0 11 = κ 11 from e11, show κ0 21 0 = κ 21 0 from e21]
  refine ⟨fun c0 => ?_, fun c0 => ?_⟩
  · refine hK _ _ (hS) ⟨fun _ => ?_, fun q => ?_⟩
    · rw [if_pos c0]
    · exfalso
      rw [if_pos c0] at q
      exact absurd c0 (by simp only at q; omega)
  · skip
    rw [if_neg c0] at hK
    refine c_fin (κ := κ) (x := 3) (hS.trans (kW.st12)) hC hn (by omega) hw (by omega) (by first | (rw [if_pos (by omega)]; omega) | (rw [if_pos (by omega)])) hg ?_ ?_ ?_ hK
    · rfl
    · intro q; omega
    · intro q; omega

theorem c_tl4 {e : Int} {κ0 : Nat → Int → Int} (hS : kW κ κ0) (hC : tC (κ 11)) (hn : 0 ≤ κ 21 0 ∧ κ 21 0 ≤ 90) (hw : κ0 21 1 = 4) (he : 0 ≤ e ∧ e ≤ κ 21 0) (hg : 0 ≤ κ0 21 3 ∧ κ0 21 3 ≤ 1) (hK : ∀ κ2 r, kW κ κ2 → cTl (κ 11) (κ 21 0) 4 (pTail (κ 11) (κ 21 0) e 4) κ2 r → K (some (.int (zi r))) z (zcs (zpr h p κ2) (p + 1) τ)) : zG 35 37 [.ref (p + 249), .int (zi e), .int (zi 0), zJ, zJ] [] z (zcs (zpr h p κ0) (p + 1) τ) K := by
  have e11 : κ0 11 = κ 11 := hS.1 11 (by decide) (by decide)
  have e21 := hS.2
  have hC0 : tC (κ0 11) := by rw [e11]; exact hC
  have hn0 : 0 ≤ κ0 21 0 ∧ κ0 21 0 ≤ 90 := by rw [e21]; exact hn
  rw [pTail_4] at hK
  have g0 : (if (4 : Int) = 4 then 1 else 0 : Int) = 1 := rfl
  have f0 : hiO 4 0 = 60 := by
    unfold hiO
    rfl
  have b0 := pArg_b (κ 11) (n := κ 21 0) (e := e) (lo := 1) (hi := 60) (by omega) (by omega)
  rw [c_arg (κ := κ0) (x := 4) (i := 0) (Or.inl rfl) hC0 hn0 (by omega) hw (by show 0 ≤ e ∧ e ≤ κ0 21 0; omega) (by first | (rw [if_pos (by omega)]; omega) | (rw [if_pos (by omega)])), g0, f0]
  rw [show κ0 11 = κ 11 from e11, show κ0 21 0 = κ 21 0 from e21]
  refine ⟨fun c0 => ?_, fun c0 => ?_⟩
  · refine hK _ _ (hS) ⟨fun _ => ?_, fun q => ?_⟩
    · rw [if_pos c0]
    · exfalso
      rw [if_pos c0] at q
      exact absurd c0 (by simp only at q; omega)
  · skip
    rw [if_neg c0] at hK
    refine c_fin (κ := κ) (x := 4) (hS.trans (kW.st12)) hC hn (by omega) hw (by omega) (by first | (rw [if_pos (by omega)]; omega) | (rw [if_pos (by omega)])) hg ?_ ?_ ?_ hK
    · rfl
    · intro q; omega
    · intro q; omega

theorem c_tl5 {e : Int} {κ0 : Nat → Int → Int} (hS : kW κ κ0) (hC : tC (κ 11)) (hn : 0 ≤ κ 21 0 ∧ κ 21 0 ≤ 90) (hw : κ0 21 1 = 5) (he : 0 ≤ e ∧ e ≤ κ 21 0) (hg : 0 ≤ κ0 21 3 ∧ κ0 21 3 ≤ 1) (hK : ∀ κ2 r, kW κ κ2 → cTl (κ 11) (κ 21 0) 5 (pTail (κ 11) (κ 21 0) e 5) κ2 r → K (some (.int (zi r))) z (zcs (zpr h p κ2) (p + 1) τ)) : zG 35 37 [.ref (p + 249), .int (zi e), .int (zi 0), zJ, zJ] [] z (zcs (zpr h p κ0) (p + 1) τ) K := by
  have e11 : κ0 11 = κ 11 := hS.1 11 (by decide) (by decide)
  have e21 := hS.2
  have hC0 : tC (κ0 11) := by rw [e11]; exact hC
  have hn0 : 0 ≤ κ0 21 0 ∧ κ0 21 0 ≤ 90 := by rw [e21]; exact hn
  rw [pTail_5] at hK
  have g0 : (if (5 : Int) = 4 then 1 else 0 : Int) = 0 := by rw [if_neg (by omega)]
  have f0 : hiO 5 0 = 59 := by
    unfold hiO
    rfl
  have b0 := pArg_b (κ 11) (n := κ 21 0) (e := e) (lo := 0) (hi := 59) (by omega) (by omega)
  rw [c_arg (κ := κ0) (x := 5) (i := 0) (Or.inl rfl) hC0 hn0 (by omega) hw (by show 0 ≤ e ∧ e ≤ κ0 21 0; omega) (by first | (rw [if_neg (by omega), if_pos (by omega)]; omega) | (rw [if_neg (by omega), if_pos (by omega)])), g0, f0]
  rw [show κ0 11 = κ 11 from e11, show κ0 21 0 = κ 21 0 from e21]
  refine ⟨fun c0 => ?_, fun c0 => ?_⟩
  · refine hK _ _ (hS) ⟨fun _ => ?_, fun q => ?_⟩
    · rw [if_pos c0]
    · exfalso
      rw [if_pos c0] at q
      exact absurd c0 (by simp only at q; omega)
  · skip
    have g1 : (if (5 : Int) = 4 then 1 else 0 : Int) = 0 := by rw [if_neg (by omega)]
    have f1 : hiO 5 1 = 59 := by
      unfold hiO
      rfl
    have b1 := pArg_b (κ 11) (n := κ 21 0) (e := (pArg (κ 11) (κ 21 0) e 0 59).2.2) (lo := 0) (hi := 59) (by omega) (by omega)
    rw [show (0 : Int) + 1 = 1 from rfl]
    rw [c_arg (κ := (zst κ0 12 (zset (κ0 12) 0 (pArg (κ 11) (κ 21 0) e 0 59).2.1))) (x := 5) (i := 1) (Or.inr ⟨_, rfl⟩) hC0 hn0 (by omega) hw (by show 0 ≤ (pArg (κ 11) (κ 21 0) e 0 59).2.2 ∧ (pArg (κ 11) (κ 21 0) e 0 59).2.2 ≤ κ0 21 0; omega) (by first | (rw [if_neg (by omega), if_pos (by omega)]; omega) | (rw [if_neg (by omega), if_pos (by omega)])), g1, f1]
    rw [show (zst κ0 12 (zset (κ0 12) 0 (pArg (κ 11) (κ 21 0) e 0 59).2.1)) 11 = κ 11 from e11, show (zst κ0 12 (zset (κ0 12) 0 (pArg (κ 11) (κ 21 0) e 0 59).2.1)) 21 0 = κ 21 0 from e21]
    refine ⟨fun c1 => ?_, fun c1 => ?_⟩
    · refine hK _ _ (hS.trans (kW.st12)) ⟨fun _ => ?_, fun q => ?_⟩
      · rw [if_neg c0, if_pos c1]
      · exfalso
        rw [if_neg c0, if_pos c1] at q
        exact absurd c1 (by simp only at q; omega)
    · skip
      have g2 : (if (5 : Int) = 4 then 1 else 0 : Int) = 0 := by rw [if_neg (by omega)]
      have f2 : hiO 5 2 = 500 := by
        unfold hiO
        rfl
      have b2 := pArg_b (κ 11) (n := κ 21 0) (e := (pArg (κ 11) (κ 21 0) (pArg (κ 11) (κ 21 0) e 0 59).2.2 0 59).2.2) (lo := 0) (hi := 500) (by omega) (by omega)
      rw [show (1 : Int) + 1 = 2 from rfl]
      rw [c_arg (κ := (zst (zst κ0 12 (zset (κ0 12) 0 (pArg (κ 11) (κ 21 0) e 0 59).2.1)) 12 (zset ((zst κ0 12 (zset (κ0 12) 0 (pArg (κ 11) (κ 21 0) e 0 59).2.1)) 12) 1 (pArg (κ 11) (κ 21 0) (pArg (κ 11) (κ 21 0) e 0 59).2.2 0 59).2.1))) (x := 5) (i := 2) (Or.inr ⟨_, rfl⟩) hC0 hn0 (by omega) hw (by show 0 ≤ (pArg (κ 11) (κ 21 0) (pArg (κ 11) (κ 21 0) e 0 59).2.2 0 59).2.2 ∧ (pArg (κ 11) (κ 21 0) (pArg (κ 11) (κ 21 0) e 0 59).2.2 0 59).2.2 ≤ κ0 21 0; omega) (by first | (rw [if_neg (by omega), if_pos (by omega)]; omega) | (rw [if_neg (by omega), if_pos (by omega)])), g2, f2]
      rw [show (zst (zst κ0 12 (zset (κ0 12) 0 (pArg (κ 11) (κ 21 0) e 0 59).2.1)) 12 (zset ((zst κ0 12 (zset (κ0 12) 0 (pArg (κ 11) (κ 21 0) e 0 59).2.1)) 12) 1 (pArg (κ 11) (κ 21 0) (pArg (κ 11) (κ 21 0) e 0 59).2.2 0 59).2.1)) 11 = κ 11 from e11, show (zst (zst κ0 12 (zset (κ0 12) 0 (pArg (κ 11) (κ 21 0) e 0 59).2.1)) 12 (zset ((zst κ0 12 (zset (κ0 12) 0 (pArg (κ 11) (κ 21 0) e 0 59).2.1)) 12) 1 (pArg (κ 11) (κ 21 0) (pArg (κ 11) (κ 21 0) e 0 59).2.2 0 59).2.1)) 21 0 = κ 21 0 from e21]
      refine ⟨fun c2 => ?_, fun c2 => ?_⟩
      · refine hK _ _ (hS.trans (kW.st12.trans kW.st12)) ⟨fun _ => ?_, fun q => ?_⟩
        · rw [if_neg c0, if_neg c1, if_pos c2]
        · exfalso
          rw [if_neg c0, if_neg c1, if_pos c2] at q
          exact absurd c2 (by simp only at q; omega)
      · skip
        rw [if_neg c0, if_neg c1, if_neg c2] at hK
        refine c_fin (κ := κ) (x := 5) (hS.trans ((kW.st12.trans kW.st12).trans kW.st12)) hC hn (by omega) hw (by omega) (by first | (rw [if_neg (by omega), if_pos (by omega)]; omega) | (rw [if_neg (by omega), if_pos (by omega)])) hg ?_ ?_ ?_ hK
        · rfl
        · intro _; rfl
        · intro _; rfl

theorem c_tl2 {e : Int} {κ0 : Nat → Int → Int} {x : Int} (hx : 0 ≤ x ∧ x ≤ 2) (hS : kW κ κ0) (hC : tC (κ 11)) (hn : 0 ≤ κ 21 0 ∧ κ 21 0 ≤ 90) (hw : κ0 21 1 = x) (he : 0 ≤ e ∧ e ≤ κ 21 0) (hg : 0 ≤ κ0 21 3 ∧ κ0 21 3 ≤ 1) (hK : ∀ κ2 r, kW κ κ2 → cTl (κ 11) (κ 21 0) x (pTail (κ 11) (κ 21 0) e x) κ2 r → K (some (.int (zi r))) z (zcs (zpr h p κ2) (p + 1) τ)) : zG 35 37 [.ref (p + 249), .int (zi e), .int (zi 0), zJ, zJ] [] z (zcs (zpr h p κ0) (p + 1) τ) K := by
  have e11 : κ0 11 = κ 11 := hS.1 11 (by decide) (by decide)
  have e21 := hS.2
  have hC0 : tC (κ0 11) := by rw [e11]; exact hC
  have hn0 : 0 ≤ κ0 21 0 ∧ κ0 21 0 ≤ 90 := by rw [e21]; exact hn
  rw [pTail_2 hx] at hK
  have g0 : (if (x : Int) = 4 then 1 else 0 : Int) = 0 := by rw [if_neg (by omega)]
  have f0 : hiO x 0 = 3 := by
    unfold hiO
    rw [if_neg (by omega), if_neg (by omega), if_neg (by omega), if_pos rfl]
  have b0 := pArg_b (κ 11) (n := κ 21 0) (e := e) (lo := 0) (hi := 3) (by omega) (by omega)
  rw [c_arg (κ := κ0) (x := x) (i := 0) (Or.inl rfl) hC0 hn0 (by omega) hw (by show 0 ≤ e ∧ e ≤ κ0 21 0; omega) (by first | (rw [if_neg (by omega), if_neg (by omega)]; omega) | (rw [if_neg (by omega), if_neg (by omega)])), g0, f0]
  rw [show κ0 11 = κ 11 from e11, show κ0 21 0 = κ 21 0 from e21]
  refine ⟨fun c0 => ?_, fun c0 => ?_⟩
  · refine hK _ _ (hS) ⟨fun _ => ?_, fun q => ?_⟩
    · rw [if_pos c0]
    · exfalso
      rw [if_pos c0] at q
      exact absurd c0 (by simp only at q; omega)
  · skip
    have g1 : (if (x : Int) = 4 then 1 else 0 : Int) = 0 := by rw [if_neg (by omega)]
    have f1 : hiO x 1 = 59 := by
      unfold hiO
      rw [if_neg (by omega), if_neg (by omega), if_neg (by omega), if_neg (by omega)]
    have b1 := pArg_b (κ 11) (n := κ 21 0) (e := (pArg (κ 11) (κ 21 0) e 0 3).2.2) (lo := 0) (hi := 59) (by omega) (by omega)
    rw [show (0 : Int) + 1 = 1 from rfl]
    rw [c_arg (κ := (zst κ0 12 (zset (κ0 12) 0 (pArg (κ 11) (κ 21 0) e 0 3).2.1))) (x := x) (i := 1) (Or.inr ⟨_, rfl⟩) hC0 hn0 (by omega) hw (by show 0 ≤ (pArg (κ 11) (κ 21 0) e 0 3).2.2 ∧ (pArg (κ 11) (κ 21 0) e 0 3).2.2 ≤ κ0 21 0; omega) (by first | (rw [if_neg (by omega), if_neg (by omega)]; omega) | (rw [if_neg (by omega), if_neg (by omega)])), g1, f1]
    rw [show (zst κ0 12 (zset (κ0 12) 0 (pArg (κ 11) (κ 21 0) e 0 3).2.1)) 11 = κ 11 from e11, show (zst κ0 12 (zset (κ0 12) 0 (pArg (κ 11) (κ 21 0) e 0 3).2.1)) 21 0 = κ 21 0 from e21]
    refine ⟨fun c1 => ?_, fun c1 => ?_⟩
    · refine hK _ _ (hS.trans (kW.st12)) ⟨fun _ => ?_, fun q => ?_⟩
      · rw [if_neg c0, if_pos c1]
      · exfalso
        rw [if_neg c0, if_pos c1] at q
        exact absurd c1 (by simp only at q; omega)
    · skip
      rw [if_neg c0, if_neg c1] at hK
      refine c_fin (κ := κ) (x := x) (hS.trans (kW.st12.trans kW.st12)) hC hn (by omega) hw (by omega) (by first | (rw [if_neg (by omega), if_neg (by omega)]; omega) | (rw [if_neg (by omega), if_neg (by omega)])) hg ?_ ?_ ?_ hK
      · rfl
      · intro _; rfl
      · intro q; omega

theorem c_tl {e x : Int} {κ0 : Nat → Int → Int} (hx : 0 ≤ x ∧ x ≤ 5) (hS : kW κ κ0) (hC : tC (κ 11)) (hn : 0 ≤ κ 21 0 ∧ κ 21 0 ≤ 90) (hw : κ0 21 1 = x) (he : 0 ≤ e ∧ e ≤ κ 21 0) (hg : 0 ≤ κ0 21 3 ∧ κ0 21 3 ≤ 1) (hK : ∀ κ2 r, kW κ κ2 → cTl (κ 11) (κ 21 0) x (pTail (κ 11) (κ 21 0) e x) κ2 r → K (some (.int (zi r))) z (zcs (zpr h p κ2) (p + 1) τ)) : zG 35 37 [.ref (p + 249), .int (zi e), .int (zi 0), zJ, zJ] [] z (zcs (zpr h p κ0) (p + 1) τ) K := by
  by_cases c3 : x = 3
  · subst c3
    exact c_tl3 hS hC hn hw he hg hK
  · by_cases c4 : x = 4
    · subst c4
      exact c_tl4 hS hC hn hw he hg hK
    · by_cases c5 : x = 5
      · subst c5
        exact c_tl5 hS hC hn hw he hg hK
      · exact c_tl2 (by omega) hS hC hn hw he hg hK
/-- what readOrder answers and leaves at the position s -/
def cOrd (t : Int → Int) (n s : Int) (κ2 : Nat → Int → Int) (r : Int) : Prop :=
  (0 ≤ (pOrd t n s).1 → r = (pOrd t n s).1) ∧ ((pOrd t n s).1 < 0 → ((pOrd t n s).2.2 < n ∧ t (pOrd t n s).2.2 ≠ 59 → r = (pOrd t n s).2.2) ∧ (¬ ((pOrd t n s).2.2 < n ∧ t (pOrd t n s).2.2 ≠ 59) → r = -1 ∧ κ2 21 1 = (pOrd t n s).2.1.1 ∧ κ2 21 2 = (pOrd t n s).2.2 + 1 ∧ κ2 21 3 = (if (pOrd t n s).2.2 < n then 1 else 0) ∧ κ2 12 0 = (pOrd t n s).2.1.2.1 ∧ ((pOrd t n s).2.1.1 < 3 ∨ (pOrd t n s).2.1.1 = 5 → κ2 12 1 = (pOrd t n s).2.1.2.2.1) ∧ ((pOrd t n s).2.1.1 = 5 → κ2 12 2 = (pOrd t n s).2.1.2.2.2)))
theorem c_readO {s : Int} (hz : zS2 z h p) (hC : tC (κ 11)) (hn : 0 ≤ κ 21 0 ∧ κ 21 0 ≤ 90) (hs : 0 ≤ s ∧ s ≤ κ 21 0) (hp : κ 21 2 = s) (hg : 0 ≤ κ 21 3 ∧ κ 21 3 ≤ 1) (hK : ∀ κ2 r, kW κ κ2 → cOrd (κ 11) (κ 21 0) s κ2 r → K (some (.int (zi r))) z (zcs (zpr h p κ2) (p + 1) τ)) : zG 35 0 [.ref (p + 249), zJ, zJ, zJ, zJ] [] z (zcs (zpr h p κ) (p + 1) τ) K := by
  have be := pEnd_b (κ 11) (κ 21 0) s
  have bw := pWord_b (κ 11) s (pEnd (κ 11) (κ 21 0) s)
  have hE : ∀ K0 : Option Value → zZ → zH → Prop, zG 37 0 [.ref (p + 249), .int (zi s), zJ] [] z (zcs (zpr h p κ) (p + 1) τ) K0 ↔ K0 (some (.int (zi (pEnd (κ 11) (κ 21 0) s)))) z (zcs (zpr h p κ) (p + 1) τ) := fun K0 => c_end hC hn hs
  have hW : ∀ K0 : Option Value → zZ → zH → Prop, zG 38 0 [.ref (p + 249), .int (zi s), .int (zi (pEnd (κ 11) (κ 21 0) s)), zJ] [] z (zcs (zpr h p κ) (p + 1) τ) K0 ↔ K0 (some (.int (zi (cW (κ 11) s (pEnd (κ 11) (κ 21 0) s))))) z (zcs (zpr h p κ) (p + 1) τ) := fun K0 => c_word hz hC hn (by omega)
  by_cases c : pWord (κ 11) s (pEnd (κ 11) (κ 21 0) s) < 0
  · have ew : cW (κ 11) s (pEnd (κ 11) (κ 21 0) s) = -1 := if_pos c
    have eO : pOrd (κ 11) (κ 21 0) s = (s, (0, 0, 0, 0), 0) := if_pos c
    rw [ew] at hW
    simp (disch := omega) only [e35_0, e35_1, e35_2, e35_5, e35_8, e35_9, e35_10, e35_11, e35_12, e35_15, e35_16, e35_19, e35_22, e35_23, e35_26, e35_27, e35_30, e35_31, e35_34, e35_35, e35_36, e35_38, e35_39, e35_42, e35_45, e35_48, e35_49, e35_50, e35_53, e35_54, e35_57, e35_58, e35_59, e35_61, e35_64, e35_67, e35_68, e35_69, e35_70, e35_71, e35_72, e35_73, e35_74, e35_75, e35_78, e35_79, e35_80, e35_81, e35_82, e35_85, e35_87, e35_89, e35_90, e35_93, e35_96, e35_97, e35_100, e35_101, e35_104, e35_107, e35_110, e35_111, e35_112, e35_113, e35_116, e35_117, e35_119, e35_120, e35_123, e35_126, e35_127, e35_128, e35_129, e35_131, e35_134, e35_137, e35_138, e35_141, e35_144, e35_145, e35_146, e35_149, e35_152, e35_153, e35_154, e35_155, e35_156, e35_157, e35_158, e35_161, e35_162, zi_add, zi_sub, zi_mul, zl_add, zl_sub, zl_mul, zl_i, zi_l, zi_lt, zi_le, zi_eq, zl_lt, zl_le, zl_eq, zlc_lt, zlc_le, zlc_gt, zlc_ge, zlc_eq, zi_ne0, zl_ne0, zi_div, zl_div, zi_rem, zl_rem, zcat_nil, zcat_int, zcat_ref, zcat_long, zkill_int, zkill_ref, zkill_long, zkill_J, zkill2, zto_some, zto_none, znb0, znb1, zB_some, zbr_t, zbr_f, not_true_eq_false, not_false_eq_true, true_imp_iff, false_imp_iff, true_and, and_true, Nat.reduceAdd, Nat.reduceLeDiff, Int.reduceAdd, Int.reduceSub, Int.reduceMul, Int.reduceNeg, zisC_inr, zget_inr, zsetf_inr, zldl_row, zald_row, zstl_row, zast_row, List.getElem?_cons_zero, List.getElem?_cons_succ, List.length_cons, List.length_nil, List.set_cons_zero, List.set_cons_succ, zcs_0, zcs_1, zcs_2, zcs_3, zcs_4, zcs_5, zcs_6, zcs_7, zcs_8, zcs_9, zcs_10, zcs_11, zcs_12, zcs_13, zcs_14, zcs_15, zcs_16, zcs_17, zcs_18, zcs_19, zcs_20, zcs_21, zcs_22, zcs_23, zcs_24, zcs_25, zcs_26, zcs_mir, zsk_s, zpk_, zck_, zlk_, zgk_, zmk_m, zsg_0, zsg_1, zsg_2, zsg_3, zsg_4, zsg_5, zsg_6, zsg_7, zsg_8, zsg_9, zsg_10, zss_6, zss_7, zss_8, zss_9, zss_10, zpg_0, zpg_1, zpg_2, zpg_3, zpg_4, zcg_0, zcg_1, zcg_2, zcg_3, zlg_0, zlg_1, zlg_2, zlg_3, zgg_0, zgg_1, zgg_2, zgg_3, zgg_4, zpp_4, zcp_3, zlp_3, zgp_4, zmg_0, zmg_1, zmg_2, zmg_3, zmg_4, zmg_5, zms_0, zms_1, zms_2, zms_3, zms_4, zms_5, zald_vc, zast_vc, zldr_r1, zcw_mir, mput_zset, mput_self, vw_m, zaln_vc, vsh_ap, zup_self, zup_two, zcw_2, zcw_3, zcw_4, zcw_5, zcw_6, zcw_7, zcw_8, zcw_9, zcw_10, zcw_11, zcw_13, zcw_14, zcw_15, zcw_16, zcw_17, zcw_18, zcw_19, zcw_20, zcw_21, zcw_22, zcw_12n, vr_3, vr_4, vr_5, vr_7, vr_8, vr_9, vr_12, vr_13, vr_15, vr_16, vr_17, vr_19, vr_20, vr_21, vr_22, zcw_s0, zcw_s1, zcw_s5, zcw_s6, zcw_s7, zpr_0, zpr_28, zpr_29, zpr_192, zpr_193, zpr_194, zpr_249, zpr_250, zpr_251, zpr_252, zpr_253, zpr_254, zpr_255, zpr_256, zpr_257, zpr_258, zpr_259, zpw_0, zpw_28, zpw_194, zpw_249, zpw_250, zpw_251, zpw_252, zpw_253, zpw_254, zpw_255, zpw_256, zpw_257, zpw_258, zpw_259, zk_po, zk_ho, zk_oo, zk_fo, zk_so, zg_so0, zg_so1, zg_po0, zg_po1, zg_po2, zg_po3, zg_po4, zg_po5, zg_po6, zg_po7, zg_ho0, zg_ho1, zg_ho2, zg_ho3, zg_oo0, zg_oo1, zg_oo2, zg_oo3, zg_oo4, zg_oo5, zg_fo0, zg_fo1, zg_fo2, zg_fo3, zg_fo4, zg_fo5, zg_fo6, zg_fo7, zs_po5, zs_po6, zs_po7, zs_ho1, zs_ho2, zs_ho3_0, zs_ho3_1, zs_oo2, zs_oo3, zs_oo4, zs_oo5_0, zs_oo5_1, zs_fo7, zcs_o, zcs_up, zast_vcb, zast_vcc, zldr_r27, zst_zst, zst_ap, zset_ap, reduceIte, Nat.reduceEqDiff, Nat.zero_ne_one, Nat.one_ne_zero, Int.reduceEq, hp, hE, hW]
    refine hK _ s (kW.st21 rfl) ?_
    unfold cOrd
    rw [eO]
    exact ⟨fun _ => rfl, fun q => absurd hs.1 (by simp only at q; omega)⟩
  · have ew : cW (κ 11) s (pEnd (κ 11) (κ 21 0) s) = pWord (κ 11) s (pEnd (κ 11) (κ 21 0) s) := if_neg c
    have eO : pOrd (κ 11) (κ 21 0) s = ((pTail (κ 11) (κ 21 0) (pEnd (κ 11) (κ 21 0) s) (pWord (κ 11) s (pEnd (κ 11) (κ 21 0) s))).1, (pWord (κ 11) s (pEnd (κ 11) (κ 21 0) s), (pTail (κ 11) (κ 21 0) (pEnd (κ 11) (κ 21 0) s) (pWord (κ 11) s (pEnd (κ 11) (κ 21 0) s))).2.1), (pTail (κ 11) (κ 21 0) (pEnd (κ 11) (κ 21 0) s) (pWord (κ 11) s (pEnd (κ 11) (κ 21 0) s))).2.2) := if_neg c
    rw [ew] at hW
    have l0 := c_tl (K := K) (z := z) (h := h) (p := p) (τ := τ) (κ := κ) (e := pEnd (κ 11) (κ 21 0) s) (x := pWord (κ 11) s (pEnd (κ 11) (κ 21 0) s)) (κ0 := zst κ 21 (zset (κ 21) 1 (pWord (κ 11) s (pEnd (κ 11) (κ 21 0) s)))) (by omega) (kW.st21 rfl) hC hn rfl (by omega) hg (fun κ2 r h1 h2 => by
      refine hK κ2 r h1 ?_
      unfold cOrd
      rw [eO]
      exact h2)
    simp (disch := omega) only [e35_0, e35_1, e35_2, e35_5, e35_8, e35_9, e35_10, e35_11, e35_12, e35_15, e35_16, e35_19, e35_22, e35_23, e35_26, e35_27, e35_30, e35_31, e35_34, e35_35, e35_36, e35_38, e35_39, e35_42, e35_45, e35_48, e35_49, e35_50, e35_53, e35_54, e35_57, e35_58, e35_59, e35_61, e35_64, e35_67, e35_68, e35_69, e35_70, e35_71, e35_72, e35_73, e35_74, e35_75, e35_78, e35_79, e35_80, e35_81, e35_82, e35_85, e35_87, e35_89, e35_90, e35_93, e35_96, e35_97, e35_100, e35_101, e35_104, e35_107, e35_110, e35_111, e35_112, e35_113, e35_116, e35_117, e35_119, e35_120, e35_123, e35_126, e35_127, e35_128, e35_129, e35_131, e35_134, e35_137, e35_138, e35_141, e35_144, e35_145, e35_146, e35_149, e35_152, e35_153, e35_154, e35_155, e35_156, e35_157, e35_158, e35_161, e35_162, zi_add, zi_sub, zi_mul, zl_add, zl_sub, zl_mul, zl_i, zi_l, zi_lt, zi_le, zi_eq, zl_lt, zl_le, zl_eq, zlc_lt, zlc_le, zlc_gt, zlc_ge, zlc_eq, zi_ne0, zl_ne0, zi_div, zl_div, zi_rem, zl_rem, zcat_nil, zcat_int, zcat_ref, zcat_long, zkill_int, zkill_ref, zkill_long, zkill_J, zkill2, zto_some, zto_none, znb0, znb1, zB_some, zbr_t, zbr_f, not_true_eq_false, not_false_eq_true, true_imp_iff, false_imp_iff, true_and, and_true, Nat.reduceAdd, Nat.reduceLeDiff, Int.reduceAdd, Int.reduceSub, Int.reduceMul, Int.reduceNeg, zisC_inr, zget_inr, zsetf_inr, zldl_row, zald_row, zstl_row, zast_row, List.getElem?_cons_zero, List.getElem?_cons_succ, List.length_cons, List.length_nil, List.set_cons_zero, List.set_cons_succ, zcs_0, zcs_1, zcs_2, zcs_3, zcs_4, zcs_5, zcs_6, zcs_7, zcs_8, zcs_9, zcs_10, zcs_11, zcs_12, zcs_13, zcs_14, zcs_15, zcs_16, zcs_17, zcs_18, zcs_19, zcs_20, zcs_21, zcs_22, zcs_23, zcs_24, zcs_25, zcs_26, zcs_mir, zsk_s, zpk_, zck_, zlk_, zgk_, zmk_m, zsg_0, zsg_1, zsg_2, zsg_3, zsg_4, zsg_5, zsg_6, zsg_7, zsg_8, zsg_9, zsg_10, zss_6, zss_7, zss_8, zss_9, zss_10, zpg_0, zpg_1, zpg_2, zpg_3, zpg_4, zcg_0, zcg_1, zcg_2, zcg_3, zlg_0, zlg_1, zlg_2, zlg_3, zgg_0, zgg_1, zgg_2, zgg_3, zgg_4, zpp_4, zcp_3, zlp_3, zgp_4, zmg_0, zmg_1, zmg_2, zmg_3, zmg_4, zmg_5, zms_0, zms_1, zms_2, zms_3, zms_4, zms_5, zald_vc, zast_vc, zldr_r1, zcw_mir, mput_zset, mput_self, vw_m, zaln_vc, vsh_ap, zup_self, zup_two, zcw_2, zcw_3, zcw_4, zcw_5, zcw_6, zcw_7, zcw_8, zcw_9, zcw_10, zcw_11, zcw_13, zcw_14, zcw_15, zcw_16, zcw_17, zcw_18, zcw_19, zcw_20, zcw_21, zcw_22, zcw_12n, vr_3, vr_4, vr_5, vr_7, vr_8, vr_9, vr_12, vr_13, vr_15, vr_16, vr_17, vr_19, vr_20, vr_21, vr_22, zcw_s0, zcw_s1, zcw_s5, zcw_s6, zcw_s7, zpr_0, zpr_28, zpr_29, zpr_192, zpr_193, zpr_194, zpr_249, zpr_250, zpr_251, zpr_252, zpr_253, zpr_254, zpr_255, zpr_256, zpr_257, zpr_258, zpr_259, zpw_0, zpw_28, zpw_194, zpw_249, zpw_250, zpw_251, zpw_252, zpw_253, zpw_254, zpw_255, zpw_256, zpw_257, zpw_258, zpw_259, zk_po, zk_ho, zk_oo, zk_fo, zk_so, zg_so0, zg_so1, zg_po0, zg_po1, zg_po2, zg_po3, zg_po4, zg_po5, zg_po6, zg_po7, zg_ho0, zg_ho1, zg_ho2, zg_ho3, zg_oo0, zg_oo1, zg_oo2, zg_oo3, zg_oo4, zg_oo5, zg_fo0, zg_fo1, zg_fo2, zg_fo3, zg_fo4, zg_fo5, zg_fo6, zg_fo7, zs_po5, zs_po6, zs_po7, zs_ho1, zs_ho2, zs_ho3_0, zs_ho3_1, zs_oo2, zs_oo3, zs_oo4, zs_oo5_0, zs_oo5_1, zs_fo7, zcs_o, zcs_up, zast_vcb, zast_vcc, zldr_r27, zst_zst, zst_ap, zset_ap, reduceIte, Nat.reduceEqDiff, Nat.zero_ne_one, Nat.one_ne_zero, Int.reduceEq, hp, hE, hW]
    exact l0
theorem c_goBegin : zG 33 0 [.ref (p + 249)] [] z (zcs (zpr h p κ) (p + 1) τ) K ↔ K none z (zcs (zpr h p (zst κ 21 (zset (zset (κ 21) 2 0) 3 1))) (p + 1) τ) := by
  simp (disch := omega) only [e33_0, e33_1, e33_2, e33_5, e33_6, e33_7, e33_10, zi_add, zi_sub, zi_mul, zl_add, zl_sub, zl_mul, zl_i, zi_l, zi_lt, zi_le, zi_eq, zl_lt, zl_le, zl_eq, zlc_lt, zlc_le, zlc_gt, zlc_ge, zlc_eq, zi_ne0, zl_ne0, zi_div, zl_div, zi_rem, zl_rem, zcat_nil, zcat_int, zcat_ref, zcat_long, zkill_int, zkill_ref, zkill_long, zkill_J, zkill2, zto_some, zto_none, znb0, znb1, zB_some, zbr_t, zbr_f, not_true_eq_false, not_false_eq_true, true_imp_iff, false_imp_iff, true_and, and_true, Nat.reduceAdd, Nat.reduceLeDiff, Int.reduceAdd, Int.reduceSub, Int.reduceMul, Int.reduceNeg, zisC_inr, zget_inr, zsetf_inr, zldl_row, zald_row, zstl_row, zast_row, List.getElem?_cons_zero, List.getElem?_cons_succ, List.length_cons, List.length_nil, List.set_cons_zero, List.set_cons_succ, zcs_0, zcs_1, zcs_2, zcs_3, zcs_4, zcs_5, zcs_6, zcs_7, zcs_8, zcs_9, zcs_10, zcs_11, zcs_12, zcs_13, zcs_14, zcs_15, zcs_16, zcs_17, zcs_18, zcs_19, zcs_20, zcs_21, zcs_22, zcs_23, zcs_24, zcs_25, zcs_26, zcs_mir, zsk_s, zpk_, zck_, zlk_, zgk_, zmk_m, zsg_0, zsg_1, zsg_2, zsg_3, zsg_4, zsg_5, zsg_6, zsg_7, zsg_8, zsg_9, zsg_10, zss_6, zss_7, zss_8, zss_9, zss_10, zpg_0, zpg_1, zpg_2, zpg_3, zpg_4, zcg_0, zcg_1, zcg_2, zcg_3, zlg_0, zlg_1, zlg_2, zlg_3, zgg_0, zgg_1, zgg_2, zgg_3, zgg_4, zpp_4, zcp_3, zlp_3, zgp_4, zmg_0, zmg_1, zmg_2, zmg_3, zmg_4, zmg_5, zms_0, zms_1, zms_2, zms_3, zms_4, zms_5, zald_vc, zast_vc, zldr_r1, zcw_mir, mput_zset, mput_self, vw_m, zaln_vc, vsh_ap, zup_self, zup_two, zcw_2, zcw_3, zcw_4, zcw_5, zcw_6, zcw_7, zcw_8, zcw_9, zcw_10, zcw_11, zcw_13, zcw_14, zcw_15, zcw_16, zcw_17, zcw_18, zcw_19, zcw_20, zcw_21, zcw_22, zcw_12n, vr_3, vr_4, vr_5, vr_7, vr_8, vr_9, vr_12, vr_13, vr_15, vr_16, vr_17, vr_19, vr_20, vr_21, vr_22, zcw_s0, zcw_s1, zcw_s5, zcw_s6, zcw_s7, zpr_0, zpr_28, zpr_29, zpr_192, zpr_193, zpr_194, zpr_249, zpr_250, zpr_251, zpr_252, zpr_253, zpr_254, zpr_255, zpr_256, zpr_257, zpr_258, zpr_259, zpw_0, zpw_28, zpw_194, zpw_249, zpw_250, zpw_251, zpw_252, zpw_253, zpw_254, zpw_255, zpw_256, zpw_257, zpw_258, zpw_259, zk_po, zk_ho, zk_oo, zk_fo, zk_so, zg_so0, zg_so1, zg_po0, zg_po1, zg_po2, zg_po3, zg_po4, zg_po5, zg_po6, zg_po7, zg_ho0, zg_ho1, zg_ho2, zg_ho3, zg_oo0, zg_oo1, zg_oo2, zg_oo3, zg_oo4, zg_oo5, zg_fo0, zg_fo1, zg_fo2, zg_fo3, zg_fo4, zg_fo5, zg_fo6, zg_fo7, zs_po5, zs_po6, zs_po7, zs_ho1, zs_ho2, zs_ho3_0, zs_ho3_1, zs_oo2, zs_oo3, zs_oo4, zs_oo5_0, zs_oo5_1, zs_fo7, zcs_o, zcs_up, zast_vcb, zast_vcc, zldr_r27, zst_zst, zst_ap, zset_ap, reduceIte, Nat.reduceEqDiff, Nat.zero_ne_one, Nat.one_ne_zero, Int.reduceEq]
/-- the class's answer to all orders: the fault or -1 -/
def cF (x : Int) : Int := if x < 0 then -1 else x
theorem c_fault_l (hz : zS2 z h p) (hC : tC (κ 11)) (hn : 0 ≤ κ 21 0 ∧ κ 21 0 ≤ 90) (k : Nat) : ∀ (s i : Int) (κ1 : Nat → Int → Int) (l2 : Value), 0 ≤ s ∧ s ≤ κ 21 0 → kW κ κ1 → κ1 21 2 = s → κ1 21 3 = 1 → κ 21 0 + 1 - s ≤ k → 0 ≤ i → 7 * i ≤ s → (∀ κ2, kW κ κ2 → K (some (.int (zi (cF (pAllN (κ 11) (κ 21 0) k s).1)))) z (zcs (zpr h p κ2) (p + 1) τ)) →
    zG 34 6 [.ref (p + 249), .int (zi i), l2] [] z (zcs (zpr h p κ1) (p + 1) τ) K := by
  induction k with
  | zero =>
    intro s i κ1 l2 hs hS hp hg hk
    omega
  | succ k ih =>
    intro s i κ1 l2 hs hS hp hg hk hi h7 hK
    have e11 : κ1 11 = κ 11 := hS.1 11 (by decide) (by decide)
    have e21 := hS.2
    have bo := pOrd_b (κ 11) hs
    have eP : pAllN (κ 11) (κ 21 0) (k + 1) s = if 0 ≤ (pOrd (κ 11) (κ 21 0) s).1 then ((pOrd (κ 11) (κ 21 0) s).1, []) else
      if (pOrd (κ 11) (κ 21 0) s).2.2 < κ 21 0 then (if κ 11 (pOrd (κ 11) (κ 21 0) s).2.2 = 59 then ((pAllN (κ 11) (κ 21 0) k ((pOrd (κ 11) (κ 21 0) s).2.2 + 1)).1, (pOrd (κ 11) (κ 21 0) s).2.1 :: (pAllN (κ 11) (κ 21 0) k ((pOrd (κ 11) (κ 21 0) s).2.2 + 1)).2) else ((pOrd (κ 11) (κ 21 0) s).2.2, [])) else (-1000005, [(pOrd (κ 11) (κ 21 0) s).2.1]) := rfl
    rw [e34_6]
    simp (disch := omega) only [e34_0, e34_1, e34_4, e34_5, e34_7, e34_9, e34_12, e34_13, e34_16, e34_19, e34_20, e34_23, e34_24, e34_25, e34_26, e34_29, e34_30, e34_31, e34_34, e34_37, e34_38, zi_add, zi_sub, zi_mul, zl_add, zl_sub, zl_mul, zl_i, zi_l, zi_lt, zi_le, zi_eq, zl_lt, zl_le, zl_eq, zlc_lt, zlc_le, zlc_gt, zlc_ge, zlc_eq, zi_ne0, zl_ne0, zi_div, zl_div, zi_rem, zl_rem, zcat_nil, zcat_int, zcat_ref, zcat_long, zkill_int, zkill_ref, zkill_long, zkill_J, zkill2, zto_some, zto_none, znb0, znb1, zB_some, zbr_t, zbr_f, not_true_eq_false, not_false_eq_true, true_imp_iff, false_imp_iff, true_and, and_true, Nat.reduceAdd, Nat.reduceLeDiff, Int.reduceAdd, Int.reduceSub, Int.reduceMul, Int.reduceNeg, zisC_inr, zget_inr, zsetf_inr, zldl_row, zald_row, zstl_row, zast_row, List.getElem?_cons_zero, List.getElem?_cons_succ, List.length_cons, List.length_nil, List.set_cons_zero, List.set_cons_succ, zcs_0, zcs_1, zcs_2, zcs_3, zcs_4, zcs_5, zcs_6, zcs_7, zcs_8, zcs_9, zcs_10, zcs_11, zcs_12, zcs_13, zcs_14, zcs_15, zcs_16, zcs_17, zcs_18, zcs_19, zcs_20, zcs_21, zcs_22, zcs_23, zcs_24, zcs_25, zcs_26, zcs_mir, zsk_s, zpk_, zck_, zlk_, zgk_, zmk_m, zsg_0, zsg_1, zsg_2, zsg_3, zsg_4, zsg_5, zsg_6, zsg_7, zsg_8, zsg_9, zsg_10, zss_6, zss_7, zss_8, zss_9, zss_10, zpg_0, zpg_1, zpg_2, zpg_3, zpg_4, zcg_0, zcg_1, zcg_2, zcg_3, zlg_0, zlg_1, zlg_2, zlg_3, zgg_0, zgg_1, zgg_2, zgg_3, zgg_4, zpp_4, zcp_3, zlp_3, zgp_4, zmg_0, zmg_1, zmg_2, zmg_3, zmg_4, zmg_5, zms_0, zms_1, zms_2, zms_3, zms_4, zms_5, zald_vc, zast_vc, zldr_r1, zcw_mir, mput_zset, mput_self, vw_m, zaln_vc, vsh_ap, zup_self, zup_two, zcw_2, zcw_3, zcw_4, zcw_5, zcw_6, zcw_7, zcw_8, zcw_9, zcw_10, zcw_11, zcw_13, zcw_14, zcw_15, zcw_16, zcw_17, zcw_18, zcw_19, zcw_20, zcw_21, zcw_22, zcw_12n, vr_3, vr_4, vr_5, vr_7, vr_8, vr_9, vr_12, vr_13, vr_15, vr_16, vr_17, vr_19, vr_20, vr_21, vr_22, zcw_s0, zcw_s1, zcw_s5, zcw_s6, zcw_s7, zpr_0, zpr_28, zpr_29, zpr_192, zpr_193, zpr_194, zpr_249, zpr_250, zpr_251, zpr_252, zpr_253, zpr_254, zpr_255, zpr_256, zpr_257, zpr_258, zpr_259, zpw_0, zpw_28, zpw_194, zpw_249, zpw_250, zpw_251, zpw_252, zpw_253, zpw_254, zpw_255, zpw_256, zpw_257, zpw_258, zpw_259, zk_po, zk_ho, zk_oo, zk_fo, zk_so, zg_so0, zg_so1, zg_po0, zg_po1, zg_po2, zg_po3, zg_po4, zg_po5, zg_po6, zg_po7, zg_ho0, zg_ho1, zg_ho2, zg_ho3, zg_oo0, zg_oo1, zg_oo2, zg_oo3, zg_oo4, zg_oo5, zg_fo0, zg_fo1, zg_fo2, zg_fo3, zg_fo4, zg_fo5, zg_fo6, zg_fo7, zs_po5, zs_po6, zs_po7, zs_ho1, zs_ho2, zs_ho3_0, zs_ho3_1, zs_oo2, zs_oo3, zs_oo4, zs_oo5_0, zs_oo5_1, zs_fo7, zcs_o, zcs_up, zast_vcb, zast_vcc, zldr_r27, hg]
    refine c_readO hz (by rw [e11]; exact hC) (by rw [e21]; exact hn) (by rw [e21]; exact hs) hp (by omega) (fun κ2 r h1 h2 => ?_)
    have hS2 := hS.trans h1
    rw [e11, e21] at h2
    obtain ⟨g1, g2⟩ := h2
    by_cases c : 0 ≤ (pOrd (κ 11) (κ 21 0) s).1
    · have hr := g1 c
      rw [eP, if_pos c] at hK
      have hk2 := hK κ2 hS2
      have ef : cF (pOrd (κ 11) (κ 21 0) s).1 = r := by unfold cF; rw [if_neg (by omega)]; exact hr.symm
      simp only [ef] at hk2
      have hr2 : r ≠ -1 := by omega
      have hr3 : 0 ≤ r ∧ r ≤ 90 := by omega
      simp (disch := omega) only [e34_0, e34_1, e34_4, e34_5, e34_7, e34_9, e34_12, e34_13, e34_16, e34_19, e34_20, e34_23, e34_24, e34_25, e34_26, e34_29, e34_30, e34_31, e34_34, e34_37, e34_38, zi_add, zi_sub, zi_mul, zl_add, zl_sub, zl_mul, zl_i, zi_l, zi_lt, zi_le, zi_eq, zl_lt, zl_le, zl_eq, zlc_lt, zlc_le, zlc_gt, zlc_ge, zlc_eq, zi_ne0, zl_ne0, zi_div, zl_div, zi_rem, zl_rem, zcat_nil, zcat_int, zcat_ref, zcat_long, zkill_int, zkill_ref, zkill_long, zkill_J, zkill2, zto_some, zto_none, znb0, znb1, zB_some, zbr_t, zbr_f, not_true_eq_false, not_false_eq_true, true_imp_iff, false_imp_iff, true_and, and_true, Nat.reduceAdd, Nat.reduceLeDiff, Int.reduceAdd, Int.reduceSub, Int.reduceMul, Int.reduceNeg, zisC_inr, zget_inr, zsetf_inr, zldl_row, zald_row, zstl_row, zast_row, List.getElem?_cons_zero, List.getElem?_cons_succ, List.length_cons, List.length_nil, List.set_cons_zero, List.set_cons_succ, zcs_0, zcs_1, zcs_2, zcs_3, zcs_4, zcs_5, zcs_6, zcs_7, zcs_8, zcs_9, zcs_10, zcs_11, zcs_12, zcs_13, zcs_14, zcs_15, zcs_16, zcs_17, zcs_18, zcs_19, zcs_20, zcs_21, zcs_22, zcs_23, zcs_24, zcs_25, zcs_26, zcs_mir, zsk_s, zpk_, zck_, zlk_, zgk_, zmk_m, zsg_0, zsg_1, zsg_2, zsg_3, zsg_4, zsg_5, zsg_6, zsg_7, zsg_8, zsg_9, zsg_10, zss_6, zss_7, zss_8, zss_9, zss_10, zpg_0, zpg_1, zpg_2, zpg_3, zpg_4, zcg_0, zcg_1, zcg_2, zcg_3, zlg_0, zlg_1, zlg_2, zlg_3, zgg_0, zgg_1, zgg_2, zgg_3, zgg_4, zpp_4, zcp_3, zlp_3, zgp_4, zmg_0, zmg_1, zmg_2, zmg_3, zmg_4, zmg_5, zms_0, zms_1, zms_2, zms_3, zms_4, zms_5, zald_vc, zast_vc, zldr_r1, zcw_mir, mput_zset, mput_self, vw_m, zaln_vc, vsh_ap, zup_self, zup_two, zcw_2, zcw_3, zcw_4, zcw_5, zcw_6, zcw_7, zcw_8, zcw_9, zcw_10, zcw_11, zcw_13, zcw_14, zcw_15, zcw_16, zcw_17, zcw_18, zcw_19, zcw_20, zcw_21, zcw_22, zcw_12n, vr_3, vr_4, vr_5, vr_7, vr_8, vr_9, vr_12, vr_13, vr_15, vr_16, vr_17, vr_19, vr_20, vr_21, vr_22, zcw_s0, zcw_s1, zcw_s5, zcw_s6, zcw_s7, zpr_0, zpr_28, zpr_29, zpr_192, zpr_193, zpr_194, zpr_249, zpr_250, zpr_251, zpr_252, zpr_253, zpr_254, zpr_255, zpr_256, zpr_257, zpr_258, zpr_259, zpw_0, zpw_28, zpw_194, zpw_249, zpw_250, zpw_251, zpw_252, zpw_253, zpw_254, zpw_255, zpw_256, zpw_257, zpw_258, zpw_259, zk_po, zk_ho, zk_oo, zk_fo, zk_so, zg_so0, zg_so1, zg_po0, zg_po1, zg_po2, zg_po3, zg_po4, zg_po5, zg_po6, zg_po7, zg_ho0, zg_ho1, zg_ho2, zg_ho3, zg_oo0, zg_oo1, zg_oo2, zg_oo3, zg_oo4, zg_oo5, zg_fo0, zg_fo1, zg_fo2, zg_fo3, zg_fo4, zg_fo5, zg_fo6, zg_fo7, zs_po5, zs_po6, zs_po7, zs_ho1, zs_ho2, zs_ho3_0, zs_ho3_1, zs_oo2, zs_oo3, zs_oo4, zs_oo5_0, zs_oo5_1, zs_fo7, zcs_o, zcs_up, zast_vcb, zast_vcc, zldr_r27]
      exact hk2
    · obtain ⟨f1, f2⟩ := g2 (by omega)
      rw [eP, if_neg c] at hK
      by_cases c2 : (pOrd (κ 11) (κ 21 0) s).2.2 < κ 21 0
      · rw [if_pos c2] at hK
        by_cases c3 : κ 11 (pOrd (κ 11) (κ 21 0) s).2.2 = 59
        · rw [if_pos c3] at hK
          obtain ⟨r1, r2, r3, r4, -⟩ := f2 (fun q => q.2 c3)
          rw [if_pos c2] at r4
          have ih2 := ih ((pOrd (κ 11) (κ 21 0) s).2.2 + 1) (i + 1) κ2 (.int (zi r)) (by omega) hS2 r3 r4 (by omega) (by omega) (by omega) hK
          subst r1
          simp (disch := omega) only [e34_0, e34_1, e34_4, e34_5, e34_7, e34_9, e34_12, e34_13, e34_16, e34_19, e34_20, e34_23, e34_24, e34_25, e34_26, e34_29, e34_30, e34_31, e34_34, e34_37, e34_38, zi_add, zi_sub, zi_mul, zl_add, zl_sub, zl_mul, zl_i, zi_l, zi_lt, zi_le, zi_eq, zl_lt, zl_le, zl_eq, zlc_lt, zlc_le, zlc_gt, zlc_ge, zlc_eq, zi_ne0, zl_ne0, zi_div, zl_div, zi_rem, zl_rem, zcat_nil, zcat_int, zcat_ref, zcat_long, zkill_int, zkill_ref, zkill_long, zkill_J, zkill2, zto_some, zto_none, znb0, znb1, zB_some, zbr_t, zbr_f, not_true_eq_false, not_false_eq_true, true_imp_iff, false_imp_iff, true_and, and_true, Nat.reduceAdd, Nat.reduceLeDiff, Int.reduceAdd, Int.reduceSub, Int.reduceMul, Int.reduceNeg, zisC_inr, zget_inr, zsetf_inr, zldl_row, zald_row, zstl_row, zast_row, List.getElem?_cons_zero, List.getElem?_cons_succ, List.length_cons, List.length_nil, List.set_cons_zero, List.set_cons_succ, zcs_0, zcs_1, zcs_2, zcs_3, zcs_4, zcs_5, zcs_6, zcs_7, zcs_8, zcs_9, zcs_10, zcs_11, zcs_12, zcs_13, zcs_14, zcs_15, zcs_16, zcs_17, zcs_18, zcs_19, zcs_20, zcs_21, zcs_22, zcs_23, zcs_24, zcs_25, zcs_26, zcs_mir, zsk_s, zpk_, zck_, zlk_, zgk_, zmk_m, zsg_0, zsg_1, zsg_2, zsg_3, zsg_4, zsg_5, zsg_6, zsg_7, zsg_8, zsg_9, zsg_10, zss_6, zss_7, zss_8, zss_9, zss_10, zpg_0, zpg_1, zpg_2, zpg_3, zpg_4, zcg_0, zcg_1, zcg_2, zcg_3, zlg_0, zlg_1, zlg_2, zlg_3, zgg_0, zgg_1, zgg_2, zgg_3, zgg_4, zpp_4, zcp_3, zlp_3, zgp_4, zmg_0, zmg_1, zmg_2, zmg_3, zmg_4, zmg_5, zms_0, zms_1, zms_2, zms_3, zms_4, zms_5, zald_vc, zast_vc, zldr_r1, zcw_mir, mput_zset, mput_self, vw_m, zaln_vc, vsh_ap, zup_self, zup_two, zcw_2, zcw_3, zcw_4, zcw_5, zcw_6, zcw_7, zcw_8, zcw_9, zcw_10, zcw_11, zcw_13, zcw_14, zcw_15, zcw_16, zcw_17, zcw_18, zcw_19, zcw_20, zcw_21, zcw_22, zcw_12n, vr_3, vr_4, vr_5, vr_7, vr_8, vr_9, vr_12, vr_13, vr_15, vr_16, vr_17, vr_19, vr_20, vr_21, vr_22, zcw_s0, zcw_s1, zcw_s5, zcw_s6, zcw_s7, zpr_0, zpr_28, zpr_29, zpr_192, zpr_193, zpr_194, zpr_249, zpr_250, zpr_251, zpr_252, zpr_253, zpr_254, zpr_255, zpr_256, zpr_257, zpr_258, zpr_259, zpw_0, zpw_28, zpw_194, zpw_249, zpw_250, zpw_251, zpw_252, zpw_253, zpw_254, zpw_255, zpw_256, zpw_257, zpw_258, zpw_259, zk_po, zk_ho, zk_oo, zk_fo, zk_so, zg_so0, zg_so1, zg_po0, zg_po1, zg_po2, zg_po3, zg_po4, zg_po5, zg_po6, zg_po7, zg_ho0, zg_ho1, zg_ho2, zg_ho3, zg_oo0, zg_oo1, zg_oo2, zg_oo3, zg_oo4, zg_oo5, zg_fo0, zg_fo1, zg_fo2, zg_fo3, zg_fo4, zg_fo5, zg_fo6, zg_fo7, zs_po5, zs_po6, zs_po7, zs_ho1, zs_ho2, zs_ho3_0, zs_ho3_1, zs_oo2, zs_oo3, zs_oo4, zs_oo5_0, zs_oo5_1, zs_fo7, zcs_o, zcs_up, zast_vcb, zast_vcc, zldr_r27]
          exact ih2
        · rw [if_neg c3] at hK
          have hr := f1 ⟨c2, c3⟩
          have hk2 := hK κ2 hS2
          have ef : cF (pOrd (κ 11) (κ 21 0) s).2.2 = r := by unfold cF; rw [if_neg (by omega)]; exact hr.symm
          simp only [ef] at hk2
          have hr2 : r ≠ -1 := by omega
          have hr3 : 0 ≤ r ∧ r ≤ 90 := by omega
          simp (disch := omega) only [e34_0, e34_1, e34_4, e34_5, e34_7, e34_9, e34_12, e34_13, e34_16, e34_19, e34_20, e34_23, e34_24, e34_25, e34_26, e34_29, e34_30, e34_31, e34_34, e34_37, e34_38, zi_add, zi_sub, zi_mul, zl_add, zl_sub, zl_mul, zl_i, zi_l, zi_lt, zi_le, zi_eq, zl_lt, zl_le, zl_eq, zlc_lt, zlc_le, zlc_gt, zlc_ge, zlc_eq, zi_ne0, zl_ne0, zi_div, zl_div, zi_rem, zl_rem, zcat_nil, zcat_int, zcat_ref, zcat_long, zkill_int, zkill_ref, zkill_long, zkill_J, zkill2, zto_some, zto_none, znb0, znb1, zB_some, zbr_t, zbr_f, not_true_eq_false, not_false_eq_true, true_imp_iff, false_imp_iff, true_and, and_true, Nat.reduceAdd, Nat.reduceLeDiff, Int.reduceAdd, Int.reduceSub, Int.reduceMul, Int.reduceNeg, zisC_inr, zget_inr, zsetf_inr, zldl_row, zald_row, zstl_row, zast_row, List.getElem?_cons_zero, List.getElem?_cons_succ, List.length_cons, List.length_nil, List.set_cons_zero, List.set_cons_succ, zcs_0, zcs_1, zcs_2, zcs_3, zcs_4, zcs_5, zcs_6, zcs_7, zcs_8, zcs_9, zcs_10, zcs_11, zcs_12, zcs_13, zcs_14, zcs_15, zcs_16, zcs_17, zcs_18, zcs_19, zcs_20, zcs_21, zcs_22, zcs_23, zcs_24, zcs_25, zcs_26, zcs_mir, zsk_s, zpk_, zck_, zlk_, zgk_, zmk_m, zsg_0, zsg_1, zsg_2, zsg_3, zsg_4, zsg_5, zsg_6, zsg_7, zsg_8, zsg_9, zsg_10, zss_6, zss_7, zss_8, zss_9, zss_10, zpg_0, zpg_1, zpg_2, zpg_3, zpg_4, zcg_0, zcg_1, zcg_2, zcg_3, zlg_0, zlg_1, zlg_2, zlg_3, zgg_0, zgg_1, zgg_2, zgg_3, zgg_4, zpp_4, zcp_3, zlp_3, zgp_4, zmg_0, zmg_1, zmg_2, zmg_3, zmg_4, zmg_5, zms_0, zms_1, zms_2, zms_3, zms_4, zms_5, zald_vc, zast_vc, zldr_r1, zcw_mir, mput_zset, mput_self, vw_m, zaln_vc, vsh_ap, zup_self, zup_two, zcw_2, zcw_3, zcw_4, zcw_5, zcw_6, zcw_7, zcw_8, zcw_9, zcw_10, zcw_11, zcw_13, zcw_14, zcw_15, zcw_16, zcw_17, zcw_18, zcw_19, zcw_20, zcw_21, zcw_22, zcw_12n, vr_3, vr_4, vr_5, vr_7, vr_8, vr_9, vr_12, vr_13, vr_15, vr_16, vr_17, vr_19, vr_20, vr_21, vr_22, zcw_s0, zcw_s1, zcw_s5, zcw_s6, zcw_s7, zpr_0, zpr_28, zpr_29, zpr_192, zpr_193, zpr_194, zpr_249, zpr_250, zpr_251, zpr_252, zpr_253, zpr_254, zpr_255, zpr_256, zpr_257, zpr_258, zpr_259, zpw_0, zpw_28, zpw_194, zpw_249, zpw_250, zpw_251, zpw_252, zpw_253, zpw_254, zpw_255, zpw_256, zpw_257, zpw_258, zpw_259, zk_po, zk_ho, zk_oo, zk_fo, zk_so, zg_so0, zg_so1, zg_po0, zg_po1, zg_po2, zg_po3, zg_po4, zg_po5, zg_po6, zg_po7, zg_ho0, zg_ho1, zg_ho2, zg_ho3, zg_oo0, zg_oo1, zg_oo2, zg_oo3, zg_oo4, zg_oo5, zg_fo0, zg_fo1, zg_fo2, zg_fo3, zg_fo4, zg_fo5, zg_fo6, zg_fo7, zs_po5, zs_po6, zs_po7, zs_ho1, zs_ho2, zs_ho3_0, zs_ho3_1, zs_oo2, zs_oo3, zs_oo4, zs_oo5_0, zs_oo5_1, zs_fo7, zcs_o, zcs_up, zast_vcb, zast_vcc, zldr_r27]
          exact hk2
      · rw [if_neg c2] at hK
        obtain ⟨r1, r2, r3, r4, -⟩ := f2 (fun q => c2 q.1)
        rw [if_neg c2] at r4
        have hk2 := hK κ2 hS2
        have ef : cF (-1000005) = -1 := rfl
        simp only [ef] at hk2
        subst r1
        simp (disch := omega) only [e34_0, e34_1, e34_4, e34_5, e34_7, e34_9, e34_12, e34_13, e34_16, e34_19, e34_20, e34_23, e34_24, e34_25, e34_26, e34_29, e34_30, e34_31, e34_34, e34_37, e34_38, zi_add, zi_sub, zi_mul, zl_add, zl_sub, zl_mul, zl_i, zi_l, zi_lt, zi_le, zi_eq, zl_lt, zl_le, zl_eq, zlc_lt, zlc_le, zlc_gt, zlc_ge, zlc_eq, zi_ne0, zl_ne0, zi_div, zl_div, zi_rem, zl_rem, zcat_nil, zcat_int, zcat_ref, zcat_long, zkill_int, zkill_ref, zkill_long, zkill_J, zkill2, zto_some, zto_none, znb0, znb1, zB_some, zbr_t, zbr_f, not_true_eq_false, not_false_eq_true, true_imp_iff, false_imp_iff, true_and, and_true, Nat.reduceAdd, Nat.reduceLeDiff, Int.reduceAdd, Int.reduceSub, Int.reduceMul, Int.reduceNeg, zisC_inr, zget_inr, zsetf_inr, zldl_row, zald_row, zstl_row, zast_row, List.getElem?_cons_zero, List.getElem?_cons_succ, List.length_cons, List.length_nil, List.set_cons_zero, List.set_cons_succ, zcs_0, zcs_1, zcs_2, zcs_3, zcs_4, zcs_5, zcs_6, zcs_7, zcs_8, zcs_9, zcs_10, zcs_11, zcs_12, zcs_13, zcs_14, zcs_15, zcs_16, zcs_17, zcs_18, zcs_19, zcs_20, zcs_21, zcs_22, zcs_23, zcs_24, zcs_25, zcs_26, zcs_mir, zsk_s, zpk_, zck_, zlk_, zgk_, zmk_m, zsg_0, zsg_1, zsg_2, zsg_3, zsg_4, zsg_5, zsg_6, zsg_7, zsg_8, zsg_9, zsg_10, zss_6, zss_7, zss_8, zss_9, zss_10, zpg_0, zpg_1, zpg_2, zpg_3, zpg_4, zcg_0, zcg_1, zcg_2, zcg_3, zlg_0, zlg_1, zlg_2, zlg_3, zgg_0, zgg_1, zgg_2, zgg_3, zgg_4, zpp_4, zcp_3, zlp_3, zgp_4, zmg_0, zmg_1, zmg_2, zmg_3, zmg_4, zmg_5, zms_0, zms_1, zms_2, zms_3, zms_4, zms_5, zald_vc, zast_vc, zldr_r1, zcw_mir, mput_zset, mput_self, vw_m, zaln_vc, vsh_ap, zup_self, zup_two, zcw_2, zcw_3, zcw_4, zcw_5, zcw_6, zcw_7, zcw_8, zcw_9, zcw_10, zcw_11, zcw_13, zcw_14, zcw_15, zcw_16, zcw_17, zcw_18, zcw_19, zcw_20, zcw_21, zcw_22, zcw_12n, vr_3, vr_4, vr_5, vr_7, vr_8, vr_9, vr_12, vr_13, vr_15, vr_16, vr_17, vr_19, vr_20, vr_21, vr_22, zcw_s0, zcw_s1, zcw_s5, zcw_s6, zcw_s7, zpr_0, zpr_28, zpr_29, zpr_192, zpr_193, zpr_194, zpr_249, zpr_250, zpr_251, zpr_252, zpr_253, zpr_254, zpr_255, zpr_256, zpr_257, zpr_258, zpr_259, zpw_0, zpw_28, zpw_194, zpw_249, zpw_250, zpw_251, zpw_252, zpw_253, zpw_254, zpw_255, zpw_256, zpw_257, zpw_258, zpw_259, zk_po, zk_ho, zk_oo, zk_fo, zk_so, zg_so0, zg_so1, zg_po0, zg_po1, zg_po2, zg_po3, zg_po4, zg_po5, zg_po6, zg_po7, zg_ho0, zg_ho1, zg_ho2, zg_ho3, zg_oo0, zg_oo1, zg_oo2, zg_oo3, zg_oo4, zg_oo5, zg_fo0, zg_fo1, zg_fo2, zg_fo3, zg_fo4, zg_fo5, zg_fo6, zg_fo7, zs_po5, zs_po6, zs_po7, zs_ho1, zs_ho2, zs_ho3_0, zs_ho3_1, zs_oo2, zs_oo3, zs_oo4, zs_oo5_0, zs_oo5_1, zs_fo7, zcs_o, zcs_up, zast_vcb, zast_vcc, zldr_r27]
        rw [e34_6]
        simp (disch := omega) only [e34_0, e34_1, e34_4, e34_5, e34_7, e34_9, e34_12, e34_13, e34_16, e34_19, e34_20, e34_23, e34_24, e34_25, e34_26, e34_29, e34_30, e34_31, e34_34, e34_37, e34_38, zi_add, zi_sub, zi_mul, zl_add, zl_sub, zl_mul, zl_i, zi_l, zi_lt, zi_le, zi_eq, zl_lt, zl_le, zl_eq, zlc_lt, zlc_le, zlc_gt, zlc_ge, zlc_eq, zi_ne0, zl_ne0, zi_div, zl_div, zi_rem, zl_rem, zcat_nil, zcat_int, zcat_ref, zcat_long, zkill_int, zkill_ref, zkill_long, zkill_J, zkill2, zto_some, zto_none, znb0, znb1, zB_some, zbr_t, zbr_f, not_true_eq_false, not_false_eq_true, true_imp_iff, false_imp_iff, true_and, and_true, Nat.reduceAdd, Nat.reduceLeDiff, Int.reduceAdd, Int.reduceSub, Int.reduceMul, Int.reduceNeg, zisC_inr, zget_inr, zsetf_inr, zldl_row, zald_row, zstl_row, zast_row, List.getElem?_cons_zero, List.getElem?_cons_succ, List.length_cons, List.length_nil, List.set_cons_zero, List.set_cons_succ, zcs_0, zcs_1, zcs_2, zcs_3, zcs_4, zcs_5, zcs_6, zcs_7, zcs_8, zcs_9, zcs_10, zcs_11, zcs_12, zcs_13, zcs_14, zcs_15, zcs_16, zcs_17, zcs_18, zcs_19, zcs_20, zcs_21, zcs_22, zcs_23, zcs_24, zcs_25, zcs_26, zcs_mir, zsk_s, zpk_, zck_, zlk_, zgk_, zmk_m, zsg_0, zsg_1, zsg_2, zsg_3, zsg_4, zsg_5, zsg_6, zsg_7, zsg_8, zsg_9, zsg_10, zss_6, zss_7, zss_8, zss_9, zss_10, zpg_0, zpg_1, zpg_2, zpg_3, zpg_4, zcg_0, zcg_1, zcg_2, zcg_3, zlg_0, zlg_1, zlg_2, zlg_3, zgg_0, zgg_1, zgg_2, zgg_3, zgg_4, zpp_4, zcp_3, zlp_3, zgp_4, zmg_0, zmg_1, zmg_2, zmg_3, zmg_4, zmg_5, zms_0, zms_1, zms_2, zms_3, zms_4, zms_5, zald_vc, zast_vc, zldr_r1, zcw_mir, mput_zset, mput_self, vw_m, zaln_vc, vsh_ap, zup_self, zup_two, zcw_2, zcw_3, zcw_4, zcw_5, zcw_6, zcw_7, zcw_8, zcw_9, zcw_10, zcw_11, zcw_13, zcw_14, zcw_15, zcw_16, zcw_17, zcw_18, zcw_19, zcw_20, zcw_21, zcw_22, zcw_12n, vr_3, vr_4, vr_5, vr_7, vr_8, vr_9, vr_12, vr_13, vr_15, vr_16, vr_17, vr_19, vr_20, vr_21, vr_22, zcw_s0, zcw_s1, zcw_s5, zcw_s6, zcw_s7, zpr_0, zpr_28, zpr_29, zpr_192, zpr_193, zpr_194, zpr_249, zpr_250, zpr_251, zpr_252, zpr_253, zpr_254, zpr_255, zpr_256, zpr_257, zpr_258, zpr_259, zpw_0, zpw_28, zpw_194, zpw_249, zpw_250, zpw_251, zpw_252, zpw_253, zpw_254, zpw_255, zpw_256, zpw_257, zpw_258, zpw_259, zk_po, zk_ho, zk_oo, zk_fo, zk_so, zg_so0, zg_so1, zg_po0, zg_po1, zg_po2, zg_po3, zg_po4, zg_po5, zg_po6, zg_po7, zg_ho0, zg_ho1, zg_ho2, zg_ho3, zg_oo0, zg_oo1, zg_oo2, zg_oo3, zg_oo4, zg_oo5, zg_fo0, zg_fo1, zg_fo2, zg_fo3, zg_fo4, zg_fo5, zg_fo6, zg_fo7, zs_po5, zs_po6, zs_po7, zs_ho1, zs_ho2, zs_ho3_0, zs_ho3_1, zs_oo2, zs_oo3, zs_oo4, zs_oo5_0, zs_oo5_1, zs_fo7, zcs_o, zcs_up, zast_vcb, zast_vcc, zldr_r27, r4]
        exact hk2
theorem c_fault (hz : zS2 z h p) (hC : tC (κ 11)) (hn : 0 ≤ κ 21 0 ∧ κ 21 0 ≤ 90) (hK : ∀ κ2, kW κ κ2 → K (some (.int (zi (cF (pAllN (κ 11) (κ 21 0) 91 0).1)))) z (zcs (zpr h p κ2) (p + 1) τ)) : zG 34 0 [.ref (p + 249), zJ, zJ] [] z (zcs (zpr h p κ) (p + 1) τ) K := by
  have l0 := c_fault_l (K := K) (z := z) (h := h) (p := p) (τ := τ) (κ := κ) hz hC hn 91 0 0 (zst κ 21 (zset (zset (κ 21) 2 0) 3 1)) zJ (by omega) (kW.st21 rfl) rfl rfl (by omega) (by omega) (by omega) hK
  simp (disch := omega) only [e34_0, e34_1, e34_4, e34_5, e34_7, e34_9, e34_12, e34_13, e34_16, e34_19, e34_20, e34_23, e34_24, e34_25, e34_26, e34_29, e34_30, e34_31, e34_34, e34_37, e34_38, zi_add, zi_sub, zi_mul, zl_add, zl_sub, zl_mul, zl_i, zi_l, zi_lt, zi_le, zi_eq, zl_lt, zl_le, zl_eq, zlc_lt, zlc_le, zlc_gt, zlc_ge, zlc_eq, zi_ne0, zl_ne0, zi_div, zl_div, zi_rem, zl_rem, zcat_nil, zcat_int, zcat_ref, zcat_long, zkill_int, zkill_ref, zkill_long, zkill_J, zkill2, zto_some, zto_none, znb0, znb1, zB_some, zbr_t, zbr_f, not_true_eq_false, not_false_eq_true, true_imp_iff, false_imp_iff, true_and, and_true, Nat.reduceAdd, Nat.reduceLeDiff, Int.reduceAdd, Int.reduceSub, Int.reduceMul, Int.reduceNeg, zisC_inr, zget_inr, zsetf_inr, zldl_row, zald_row, zstl_row, zast_row, List.getElem?_cons_zero, List.getElem?_cons_succ, List.length_cons, List.length_nil, List.set_cons_zero, List.set_cons_succ, zcs_0, zcs_1, zcs_2, zcs_3, zcs_4, zcs_5, zcs_6, zcs_7, zcs_8, zcs_9, zcs_10, zcs_11, zcs_12, zcs_13, zcs_14, zcs_15, zcs_16, zcs_17, zcs_18, zcs_19, zcs_20, zcs_21, zcs_22, zcs_23, zcs_24, zcs_25, zcs_26, zcs_mir, zsk_s, zpk_, zck_, zlk_, zgk_, zmk_m, zsg_0, zsg_1, zsg_2, zsg_3, zsg_4, zsg_5, zsg_6, zsg_7, zsg_8, zsg_9, zsg_10, zss_6, zss_7, zss_8, zss_9, zss_10, zpg_0, zpg_1, zpg_2, zpg_3, zpg_4, zcg_0, zcg_1, zcg_2, zcg_3, zlg_0, zlg_1, zlg_2, zlg_3, zgg_0, zgg_1, zgg_2, zgg_3, zgg_4, zpp_4, zcp_3, zlp_3, zgp_4, zmg_0, zmg_1, zmg_2, zmg_3, zmg_4, zmg_5, zms_0, zms_1, zms_2, zms_3, zms_4, zms_5, zald_vc, zast_vc, zldr_r1, zcw_mir, mput_zset, mput_self, vw_m, zaln_vc, vsh_ap, zup_self, zup_two, zcw_2, zcw_3, zcw_4, zcw_5, zcw_6, zcw_7, zcw_8, zcw_9, zcw_10, zcw_11, zcw_13, zcw_14, zcw_15, zcw_16, zcw_17, zcw_18, zcw_19, zcw_20, zcw_21, zcw_22, zcw_12n, vr_3, vr_4, vr_5, vr_7, vr_8, vr_9, vr_12, vr_13, vr_15, vr_16, vr_17, vr_19, vr_20, vr_21, vr_22, zcw_s0, zcw_s1, zcw_s5, zcw_s6, zcw_s7, zpr_0, zpr_28, zpr_29, zpr_192, zpr_193, zpr_194, zpr_249, zpr_250, zpr_251, zpr_252, zpr_253, zpr_254, zpr_255, zpr_256, zpr_257, zpr_258, zpr_259, zpw_0, zpw_28, zpw_194, zpw_249, zpw_250, zpw_251, zpw_252, zpw_253, zpw_254, zpw_255, zpw_256, zpw_257, zpw_258, zpw_259, zk_po, zk_ho, zk_oo, zk_fo, zk_so, zg_so0, zg_so1, zg_po0, zg_po1, zg_po2, zg_po3, zg_po4, zg_po5, zg_po6, zg_po7, zg_ho0, zg_ho1, zg_ho2, zg_ho3, zg_oo0, zg_oo1, zg_oo2, zg_oo3, zg_oo4, zg_oo5, zg_fo0, zg_fo1, zg_fo2, zg_fo3, zg_fo4, zg_fo5, zg_fo6, zg_fo7, zs_po5, zs_po6, zs_po7, zs_ho1, zs_ho2, zs_ho3_0, zs_ho3_1, zs_oo2, zs_oo3, zs_oo4, zs_oo5_0, zs_oo5_1, zs_fo7, zcs_o, zcs_up, zast_vcb, zast_vcc, zldr_r27, c_goBegin]
  exact l0
end OR2
