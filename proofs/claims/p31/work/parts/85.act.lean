/-! p31: the acts of the class, as the law calls them -/
section AC
variable {z : zZ} {h : zH} {K : Option Value → zZ → zH → Prop} {p : Nat} {κ ρ : Nat → Int → Int} {T U : Int}
theorem pK_same {v : Int} {r : Int × (Nat → Int → Int)} (e : r = (v, ρ)) (k : ∀ κ2, rC ρ κ2 → K (some (.int (zi v))) z (zcs (zpr h p κ2) (p + 1) (ρ 0))) : pK K z h p (.int (zi r.1)) r.2 := by
  rw [e]
  exact k
theorem pK_act {v : Int} {ρ3 : Nat → Int → Int} {r : Int × (Nat → Int → Int)} (e : r = (v, ρ3)) (hP2 : pR U ρ3) (k : ∀ κ2 ρ2, ρ2 = ρ3 → rC ρ2 κ2 → pR U ρ2 → K (some (.int (zi v))) z (zcs (zpr h p κ2) (p + 1) (ρ2 0))) : pK K z h p (.int (zi r.1)) r.2 := by
  rw [e]
  exact fun κ2 h2 => k κ2 ρ3 rfl h2 hP2
theorem pKl_same {v : Int} {r : Int × (Nat → Int → Int)} (e : r = (v, ρ)) (k : ∀ κ2, rC ρ κ2 → K (some (.long (zl v))) z (zcs (zpr h p κ2) (p + 1) (ρ 0))) : pK K z h p (.long (zl r.1)) r.2 := by
  rw [e]
  exact k
theorem pKl_act {v : Int} {ρ3 : Nat → Int → Int} {r : Int × (Nat → Int → Int)} (e : r = (v, ρ3)) (hP2 : pR U ρ3) (k : ∀ κ2 ρ2, ρ2 = ρ3 → rC ρ2 κ2 → pR U ρ2 → K (some (.long (zl v))) z (zcs (zpr h p κ2) (p + 1) (ρ2 0))) : pK K z h p (.long (zl r.1)) r.2 := by
  rw [e]
  exact fun κ2 h2 => k κ2 ρ3 rfl h2 hP2
theorem P_mk {v : Int} {τ : Int → Int} {r : Int × (Nat → Int → Int)} (e : r = (v, zst (rrec ρ) 0 τ)) (hJ : rJ U r.2) (hV : rV r.2) (hs : sR U τ) (ho : oR τ) (hP : pR T ρ) (hu : T ≤ U) : pR U (zst (rrec ρ) 0 τ) := by
  rw [e] at hJ hV
  exact ⟨hJ, hV, (hP.mono hu).2.2.1.act (sS_E U) hP.1.2.1 ⟨hJ.1.1, hs⟩, ho⟩
/-! mirrors -/
theorem e_addM {w we : Int} (hw : 0 ≤ w ∧ w ≤ 100) (hwe : 0 ≤ we ∧ we ≤ 20) (hc : ρ 0 1 ≤ 3) : aaddM ρ w we = (ρ 0 1, zst (rrec ρ) 0 (raddm (ρ 0) w we)) := by
  unfold aaddM
  rw [if_neg (by omega), if_neg (by omega)]
theorem P_addM (hP : pR T ρ) {w we : Int} (hw : 0 ≤ w ∧ w ≤ 100) (hwe : 0 ≤ we ∧ we ≤ 20) (hc : ρ 0 1 ≤ 3) : pR T (zst (rrec ρ) 0 (raddm (ρ 0) w we)) :=
  P_mk (e_addM hw hwe hc) (hP.1.addM w we) (hP.2.1.addM hP.1 w we) (hP.s.addm hP.i w we hc) (hP.2.2.2.addm hP.i w we hc) hP (Int.le_refl _)
theorem e_addMb {w we : Int} (hw : 100 < w) : aaddM ρ w we = (-1000002, ρ) := by
  unfold aaddM
  rw [if_pos (by omega)]
/-! periods -/
theorem e_tell {s f t w : Int} (hf : 0 ≤ f ∧ f ≤ 9999) (ht : f ≤ t ∧ t ≤ 9999) (hw : 0 ≤ w ∧ w ≤ if s = 0 then 500 else 30) (hc : ρ 0 (8 + s) ≠ 10) : atell ρ s f t w = (ρ 0 (8 + s) + 1, zst (rrec ρ) 0 (rtel (ρ 0) s f t w)) := by
  have e : rchp ρ s f t w = (0, ρ) := by
    unfold rchp
    rw [if_neg (fun c => by rcases c with c | c | c; exact c hf; exact c ht; exact c hw), if_neg hc]
  unfold atell
  rw [e, if_neg (by show ¬ ((0 : Int) < 0); omega)]
theorem P_tell (hP : pR T ρ) {s f t w : Int} (hs : s = 0 ∨ s = 1) (hf : 0 ≤ f ∧ f ≤ 9999) (ht : f ≤ t ∧ t ≤ 9999) (hw : 0 ≤ w ∧ w ≤ if s = 0 then 500 else 30) (hc : ρ 0 (8 + s) ≠ 10) : pR T (zst (rrec ρ) 0 (rtel (ρ 0) s f t w)) := by
  have hp := hP.i.per hs
  refine P_mk (e_tell hf ht hw hc) (hP.1.tell hs f t w) (hP.2.1.tell hP.1 hs f t w) (hP.s.same hP.i fun j a b _ c d => ?_) (hP.2.2.2.tel hP.i hs f t w (by omega)) hP (Int.le_refl _)
  simp only [rtel]
  rw [zset_ne (by omega), zset_ne (by omega), zset_ne (by omega), zset_ne (by omega)]
theorem e_tellF {s f t w : Int} (hf : 0 ≤ f ∧ f ≤ 9999) (ht : f ≤ t ∧ t ≤ 9999) (hw : 0 ≤ w ∧ w ≤ if s = 0 then 500 else 30) (hc : ρ 0 (8 + s) = 10) : atell ρ s f t w = (-1000003, zst ρ 7 (zset (ρ 7) 1 5)) := by
  have e : rchp ρ s f t w = (-1000003, zst ρ 7 (zset (ρ 7) 1 5)) := by
    unfold rchp
    rw [if_neg (fun c => by rcases c with c | c | c; exact c hf; exact c ht; exact c hw), if_pos hc]
  unfold atell
  rw [e, if_pos (by show (-1000003 : Int) < 0; omega)]
theorem e_tellB {s f t w : Int} (hb : ¬ (f ≤ t) ∨ 500 < w ∨ (s ≠ 0 ∧ 30 < w)) : atell ρ s f t w = (-1000002, ρ) := by
  have e : rchp ρ s f t w = (-1000002, ρ) := by
    unfold rchp
    rw [if_pos ?_]
    by_cases c : s = 0
    · rw [if_pos c]
      omega
    · rw [if_neg c]
      omega
  unfold atell
  rw [e, if_pos (by show (-1000002 : Int) < 0; omega)]
theorem e_clrP (hc : ρ 0 8 + ρ 0 9 ≠ 0) : aclrP ρ = (ρ 0 8 + ρ 0 9, zst (rrec ρ) 0 (zset (zset (ρ 0) 8 0) 9 0)) := by
  unfold aclrP
  rw [if_neg hc]
theorem P_clrP (hP : pR T ρ) (hc : ρ 0 8 + ρ 0 9 ≠ 0) : pR T (zst (rrec ρ) 0 (zset (zset (ρ 0) 8 0) 9 0)) :=
  P_mk (e_clrP hc) hP.1.clrP (hP.2.1.clrP hP.1) (hP.s.same hP.i fun j a b _ c d => by rw [zset_ne d, zset_ne c]) ((hP.2.2.2.set (by omega)).set (by omega)) hP (Int.le_refl _)
theorem e_clrN (hc : ρ 0 8 + ρ 0 9 = 0) : aclrP ρ = (-1000005, ρ) := by
  unfold aclrP
  rw [if_pos hc]
/-! crews -/
theorem e_addP (hc : ρ 0 2 ≤ 4) : aaddP ρ = (ρ 0 2, zst (rrec ρ) 0 (raddp (ρ 0))) := by
  unfold aaddP
  rw [if_neg (by omega)]
theorem P_addP (hP : pR T ρ) (hc : ρ 0 2 ≤ 4) : pR T (zst (rrec ρ) 0 (raddp (ρ 0))) := by
  have hb := hP.i.2.1
  refine P_mk (e_addP hc) hP.1.addP (hP.2.1.addP hP.1) (hP.s.same hP.i fun j a b c _ _ => ?_) (hP.2.2.2.addp hP.i hc) hP (Int.le_refl _)
  simp only [raddp]
  rw [if_neg c, if_neg (by omega), if_neg (by omega)]
theorem e_hrs {q w x : Int} (hq : 0 ≤ q ∧ q ≤ ρ 0 2 - 1) (hw : 0 ≤ w ∧ w ≤ 6) (hx : 0 ≤ x ∧ x ≤ 12) : ahrs ρ q w x = (ρ 0 (40 + 9 * q + w), zst (rrec ρ) 0 (zset (ρ 0) (40 + 9 * q + w) x)) := by
  unfold ahrs
  rw [if_neg (by omega), if_neg (by omega)]
theorem P_hrs (hP : pR T ρ) {q w x : Int} (hq : 0 ≤ q ∧ q ≤ ρ 0 2 - 1) (hw : 0 ≤ w ∧ w ≤ 6) (hx : 0 ≤ x ∧ x ≤ 12) : pR T (zst (rrec ρ) 0 (zset (ρ 0) (40 + 9 * q + w) x)) := by
  have hb := hP.i.2.1
  exact P_mk (e_hrs hq hw hx) (hP.1.hrs q w x) (hP.2.1.hrs hP.1 q w x) (hP.s.same hP.i fun j a b _ _ _ => zset_ne (by omega)) (hP.2.2.2.set (by omega)) hP (Int.le_refl _)
theorem e_hrsB {q w x : Int} (hq : 0 ≤ q ∧ q ≤ ρ 0 2 - 1) (hw : 6 < w) : ahrs ρ q w x = (-1000002, ρ) := by
  unfold ahrs
  rw [if_neg (by omega), if_pos (by omega)]
theorem e_off {q f t : Int} (hq : 0 ≤ q ∧ q ≤ ρ 0 2 - 1) (hf : 0 ≤ f ∧ f ≤ 9999) (ht : f ≤ t ∧ t ≤ 9999) : aoff ρ q f t = (t - f + 1, zst (rrec ρ) 0 (zset (zset (ρ 0) (40 + 9 * q + 7) f) (40 + 9 * q + 8) t)) := by
  unfold aoff
  rw [if_neg (by omega), if_neg (by omega)]
theorem P_off (hP : pR T ρ) {q f t : Int} (hq : 0 ≤ q ∧ q ≤ ρ 0 2 - 1) (hf : 0 ≤ f ∧ f ≤ 9999) (ht : f ≤ t ∧ t ≤ 9999) : pR T (zst (rrec ρ) 0 (zset (zset (ρ 0) (40 + 9 * q + 7) f) (40 + 9 * q + 8) t)) := by
  have hb := hP.i.2.1
  exact P_mk (e_off hq hf ht) (hP.1.off q f t) (hP.2.1.off hP.1 q f t) (hP.s.same hP.i fun j a b _ _ _ => by rw [zset_ne (by omega), zset_ne (by omega)]) ((hP.2.2.2.set (by omega)).set (by omega)) hP (Int.le_refl _)
theorem e_offB {q f t : Int} (hq : 0 ≤ q ∧ q ≤ ρ 0 2 - 1) (ht : t < f) : aoff ρ q f t = (-1000002, ρ) := by
  unfold aoff
  rw [if_neg (by omega), if_pos (by omega)]
theorem e_offU {q f t : Int} (hq : ρ 0 2 - 1 < q) : aoff ρ q f t = (-1000001, ρ) := by
  unfold aoff
  rw [if_pos (by omega)]
/-! cleanings -/
theorem e_chk0 {m k x : Int} (hm : 0 ≤ m ∧ m ≤ ρ 0 1 - 1) (hk : 0 ≤ k ∧ k ≤ 2) (hx : 0 ≤ x ∧ x ≤ 59) (h0 : ragst (ρ 0) m k (ρ 0 0 + x) = 0) : aaddC ρ m k x = ((rplc (ρ 0) (ρ 0 0 + x) : Int), zst (rrec ρ) 0 (radd (ρ 0) m k (ρ 0 0 + x))) := by
  have e : rchk ρ m k x = (0, ρ) := by
    unfold rchk
    rw [if_neg (by omega), if_neg (by omega), if_neg (by omega)]
  unfold aaddC
  rw [e, if_neg (by show ¬ ((0 : Int) < 0); omega)]
theorem P_addC (hP : pR T ρ) (hT : T ≤ 100000000) {m k x : Int} (hm : 0 ≤ m ∧ m ≤ ρ 0 1 - 1) (hk : 0 ≤ k ∧ k ≤ 2) (hx : 0 ≤ x ∧ x ≤ 59) (h0 : ragst (ρ 0) m k (ρ 0 0 + x) = 0) : pR (T + 1) (zst (rrec ρ) 0 (radd (ρ 0) m k (ρ 0 0 + x))) :=
  P_mk (e_chk0 hm hk hx h0) ((hP.1.addC hT m k x).mono (by omega)) (hP.2.1.addC hP.1 m k x) (hP.s.add hP.i m k _) (hP.2.2.2.add hP.i m k _) hP (by omega)
theorem e_addR {m k x : Int} (hm : 0 ≤ m ∧ m ≤ ρ 0 1 - 1) (hk : 0 ≤ k ∧ k ≤ 2) (hx : 0 ≤ x ∧ x ≤ 59) (h0 : 0 < ragst (ρ 0) m k (ρ 0 0 + x)) : aaddC ρ m k x = (-1000003, zst ρ 7 (zset (ρ 7) 1 (ragst (ρ 0) m k (ρ 0 0 + x)))) := by
  have e : rchk ρ m k x = (-1000003, zst ρ 7 (zset (ρ 7) 1 (ragst (ρ 0) m k (ρ 0 0 + x)))) := by
    unfold rchk
    rw [if_neg (by omega), if_neg (by omega), if_pos h0]
  unfold aaddC
  rw [e, if_pos (by show (-1000003 : Int) < 0; omega)]
theorem e_addB {m k x : Int} (hm : 0 ≤ m ∧ m ≤ ρ 0 1 - 1) (hb : 2 < k ∨ 59 < x) : aaddC ρ m k x = (-1000002, ρ) := by
  have e : rchk ρ m k x = (-1000002, ρ) := by
    unfold rchk
    rw [if_neg (by omega), if_pos (by omega)]
  unfold aaddC
  rw [e, if_pos (by show (-1000002 : Int) < 0; omega)]
theorem e_addU {m k x : Int} (hm : ρ 0 1 - 1 < m) : aaddC ρ m k x = (-1000001, ρ) := by
  have e : rchk ρ m k x = (-1000001, ρ) := by
    unfold rchk
    rw [if_pos (by omega)]
  unfold aaddC
  rw [e, if_pos (by show (-1000001 : Int) < 0; omega)]
theorem e_drp {q : Int} (hq : 0 ≤ q ∧ q ≤ ρ 0 3 - 1) : adrpC ρ q = (ρ 0 3 - 1, zst (rrec ρ) 0 (rdrop (ρ 0) q)) := by
  unfold adrpC
  rw [if_neg (by omega)]
theorem P_drp (hP : pR T ρ) {q : Int} (hq : 0 ≤ q ∧ q ≤ ρ 0 3 - 1) : pR T (zst (rrec ρ) 0 (rdrop (ρ 0) q)) :=
  P_mk (e_drp hq) (hP.1.drpC q) (hP.2.1.drpC hP.1 q) (hP.s.drop hP.i hq) (hP.2.2.2.drop hP.i hq) hP (Int.le_refl _)
theorem e_drpU {q : Int} (hq : ρ 0 3 - 1 < q) : adrpC ρ q = (-1000001, ρ) := by
  unfold adrpC
  rw [if_pos (by omega)]
/-! nights -/
theorem e_pas {n : Int} (hn : 1 ≤ n ∧ n ≤ 60) : apass ρ n = (rpasS n.toNat (ρ 0), zst (rrec ρ) 0 (rpasN n.toNat (ρ 0))) := by
  unfold apass
  rw [if_neg (by omega)]
theorem P_pas (hP : pR T ρ) {n : Int} (hn : 1 ≤ n ∧ n ≤ 60) : pR (T + 60) (zst (rrec ρ) 0 (rpasN n.toNat (ρ 0))) :=
  P_mk (e_pas hn) (hP.1.pass n) (hP.2.1.pass hP.1 n) ((rpasN_sR _ hP.i hP.s).mono (by omega)) (hP.2.2.2.pas _ hP.i) hP (by omega)
theorem e_pasB {n : Int} (hn : 60 < n) : apass ρ n = (-1000002, ρ) := by
  unfold apass
  rw [if_pos (by omega)]
theorem e_los {n w : Int} (hn : 1 ≤ n ∧ n ≤ 60) (hw : 0 ≤ w ∧ w ≤ 1) : alosA ρ n w = (rpasS n.toNat (rlA (ρ 0) w), rsav ρ) := by
  unfold alosA
  rw [if_neg (by omega)]
theorem e_losB {n w : Int} (hb : n < 1 ∨ 1 < w) : alosA ρ n w = (-1000002, ρ) := by
  unfold alosA
  rw [if_pos (by omega)]
theorem P_sav (hP : pR T ρ) : pR T (rsav ρ) := hP.sav _
theorem e_bday {m k n : Int} (hm : 0 ≤ m ∧ m ≤ ρ 0 1 - 1) (hk : 0 ≤ k ∧ k ≤ 2) (hn : 1 ≤ n ∧ n ≤ 60) : abday ρ m k n = ((rbdN (ρ 0) m k n.toNat n.toNat).1, rsav ρ) := by
  unfold abday
  rw [if_neg (by omega), if_neg (by omega)]
theorem e_bdayU {m k n : Int} (hm : ρ 0 1 - 1 < m) : abday ρ m k n = (-1000001, ρ) := by
  unfold abday
  rw [if_pos (by omega)]
theorem e_bdayB {m k n : Int} (hm : 0 ≤ m ∧ m ≤ ρ 0 1 - 1) (hb : 2 < k ∨ 60 < n) : abday ρ m k n = (-1000002, ρ) := by
  unfold abday
  rw [if_neg (by omega), if_pos (by omega)]
theorem e_bpU {m k n : Int} (hm : ρ 0 1 - 1 < m) : abpair ρ m k n = (-1000001, ρ) := by
  unfold abpair
  rw [if_pos (by omega)]
theorem e_bpB {m k n : Int} (hm : 0 ≤ m ∧ m ≤ ρ 0 1 - 1) (hb : 2 < k ∨ 60 < n) : abpair ρ m k n = (-1000002, ρ) := by
  unfold abpair
  rw [if_neg (by omega), if_pos (by omega)]
/-! history, snapshots -/
theorem e_und (hk : ρ 7 0 ≠ 0) : aundo ρ = (ρ 7 0 - 1, rund ρ) := if_neg hk
theorem e_undN (hk : ρ 7 0 = 0) : aundo ρ = (-1000005, ρ) := if_pos hk
theorem e_kee {s : Int} (hs : 0 ≤ s ∧ s ≤ 1) : akeep ρ s = (ρ 0 0, rkeep ρ s) := if_pos hs
theorem e_keeU {s : Int} (hs : s < 0) : akeep ρ s = (-1000001, ρ) := if_neg (by omega)
theorem e_res {s : Int} (hs : 0 ≤ s ∧ s ≤ 1) (h4 : ρ 4 s ≠ 0) : arest ρ s = (rcpy (ρ 3) (ρ 0) (240 * s) 0 240 0, zst (rrec ρ) 0 (rcpy (ρ 3) (ρ 0) (240 * s) 0 240)) := by
  unfold arest
  rw [if_neg (not_not_intro hs), if_neg h4]
theorem e_resN {s : Int} (hs : 0 ≤ s ∧ s ≤ 1) (h4 : ρ 4 s = 0) : arest ρ s = (-1000005, ρ) := by
  unfold arest
  rw [if_neg (not_not_intro hs), if_pos h4]
theorem e_resU {s : Int} (hs : 1 < s) : arest ρ s = (-1000001, ρ) := by
  unfold arest
  rw [if_pos (by omega)]
end AC
