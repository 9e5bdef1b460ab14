/-! p31: a property of the rows of now, of the ring, of the snapshots -/
def gV (P : (Int → Int) → Prop) (ρ : Nat → Int → Int) : Prop :=
  P (ρ 0) ∧ (∀ k, 0 ≤ k → k < ρ 7 0 → P (fun j => ρ 2 (240 * k + j))) ∧ (∀ s, 0 ≤ s → s ≤ 1 → ρ 4 s ≠ 0 → P (fun j => ρ 3 (240 * s + j)))
def gE (P : (Int → Int) → Prop) : Prop := ∀ σ τ, P σ → (∀ j, 0 ≤ j → j < 240 → τ j = σ j) → P τ
section GV
variable {P : (Int → Int) → Prop} {ρ : Nat → Int → Int}
theorem gV.mono {P2 : (Int → Int) → Prop} (h : gV P ρ) (hp : ∀ σ, P σ → P2 σ) : gV P2 ρ := ⟨hp _ h.1, fun k a b => hp _ (h.2.1 k a b), fun s a b c => hp _ (h.2.2 s a b c)⟩
theorem gV.num (h : gV P ρ) {i x : Int} (h0 : i ≠ 0) : gV P (zst ρ 7 (zset (ρ 7) i x)) := by
  have e0 : zst ρ 7 (zset (ρ 7) i x) 7 0 = ρ 7 0 := by
    show zset (ρ 7) i x 0 = _
    rw [zset_ap, if_neg (by omega)]
  exact ⟨h.1, fun k a b => h.2.1 k a (by rw [e0] at b; exact b), h.2.2⟩
theorem gV.act (hE : gE P) (h : gV P ρ) (k2 : rK ρ) {σ : Int → Int} (h1 : P σ) : gV P (zst (rrec ρ) 0 σ) := by
  obtain ⟨k1, k3, k4⟩ := h
  unfold rK at k2
  have e7 := rrec_7 ρ
  refine ⟨h1, ?_, ?_⟩
  · show ∀ k, 0 ≤ k → k < rrec ρ 7 0 → P (fun j => rrec ρ 2 (240 * k + j))
    rw [e7, zset_ap, if_pos rfl]
    intro k a b
    by_cases c : ρ 7 0 = 6
    · rw [if_pos c] at b
      have e2 : rrec ρ 2 = rcpy (ρ 0) (rcpy (ρ 2) (ρ 2) 240 0 1200) 0 1200 240 := by
        unfold rrec
        rw [if_pos c]
        rfl
      rw [e2]
      by_cases c5 : k = 5
      · subst c5
        refine hE _ _ k1 fun j h1 h2 => ?_
        simp only [rcpy]
        rw [if_pos (by omega)]
        congr 1
        omega
      · refine hE _ _ (k3 (k + 1) (by omega) (by omega)) fun j h1 h2 => ?_
        simp only [rcpy]
        rw [if_neg (by omega), if_pos (by omega)]
        congr 1
        omega
    · rw [if_neg c] at b
      have e2 : rrec ρ 2 = rcpy (ρ 0) (ρ 2) 0 (240 * ρ 7 0) 240 := by
        unfold rrec
        rw [if_neg c]
        rfl
      rw [e2]
      by_cases c5 : k = ρ 7 0
      · rw [c5]
        refine hE _ _ k1 fun j h1 h2 => ?_
        simp only [rcpy]
        rw [if_pos (by omega)]
        congr 1
        omega
      · refine hE _ _ (k3 k a (by omega)) fun j h1 h2 => ?_
        simp only [rcpy]
        rw [if_neg (by omega)]
  · show ∀ s, 0 ≤ s → s ≤ 1 → rrec ρ 4 s ≠ 0 → P (fun j => rrec ρ 3 (240 * s + j))
    rw [rrec_3, rrec_4]
    exact k4
theorem gV.snap (hE : gE P) (h : gV P ρ) {s : Int} (hs : 0 ≤ s ∧ s ≤ 1) (h4 : ρ 4 s ≠ 0) : P (rcpy (ρ 3) (ρ 0) (240 * s) 0 240) := by
  refine hE _ _ (h.2.2 s hs.1 hs.2 h4) fun j a b => ?_
  simp only [rcpy]
  rw [if_pos (by omega), Int.sub_zero]
theorem gV.und (hE : gE P) (h : gV P ρ) (hk : rK ρ) (c : ρ 7 0 ≠ 0) : gV P (rund ρ) := by
  unfold rK at hk
  have e0 : rund ρ 0 = rcpy (ρ 2) (ρ 0) (240 * (ρ 7 0 - 1)) 0 240 := rfl
  have e7 : rund ρ 7 0 = ρ 7 0 - 1 := rfl
  refine ⟨?_, fun k a b => h.2.1 k a (by rw [e7] at b; omega), h.2.2⟩
  rw [e0]
  refine hE _ _ (h.2.1 (ρ 7 0 - 1) (by omega) (by omega)) fun j a b => ?_
  simp only [rcpy]
  rw [if_pos (by omega), Int.sub_zero]
theorem gV.kee (hE : gE P) (h : gV P ρ) {s : Int} (hs : 0 ≤ s ∧ s ≤ 1) : gV P (rkeep ρ s) := by
  have e3 : rkeep ρ s 3 = rcpy (ρ 0) (ρ 3) 0 (240 * s) 240 := rfl
  have e4 : rkeep ρ s 4 = zset (ρ 4) s 1 := rfl
  refine ⟨h.1, h.2.1, fun u a b => ?_⟩
  rw [e3, e4, zset_ap]
  by_cases c : u = s
  · rw [if_pos c]
    intro _
    refine hE _ _ h.1 fun j x y => ?_
    simp only [rcpy]
    rw [if_pos (by omega)]
    congr 1
    omega
  · rw [if_neg c]
    intro d
    refine hE _ _ (h.2.2 u a b d) fun j x y => ?_
    simp only [rcpy]
    rw [if_neg (by omega)]
end GV
def sS (T : Int) (σ : Int → Int) : Prop := rI σ ∧ sR T σ
theorem sS_E (T : Int) : gE (sS T) := fun _ _ h e => ⟨h.1.eq e, h.2.same h.1 fun j a b _ _ _ => e j a (by omega)⟩
/-- all that holds of the cells between two calls -/
def pR (T : Int) (ρ : Nat → Int → Int) : Prop := rJ T ρ ∧ rV ρ ∧ gV (sS T) ρ ∧ oR (ρ 0)
section PR
variable {T U : Int} {ρ : Nat → Int → Int}
theorem pR.mono (h : pR T ρ) (hu : T ≤ U) : pR U ρ := ⟨h.1.mono hu, h.2.1, h.2.2.1.mono fun _ k => ⟨k.1, k.2.mono hu⟩, h.2.2.2⟩
theorem pR.s (h : pR T ρ) : sR T (ρ 0) := h.2.2.1.1.2
theorem pR.i (h : pR T ρ) : rI (ρ 0) := h.1.1.1
theorem pR.act (h : pR T ρ) (hu : T ≤ U) {σ : Int → Int} (h1 : rI σ) (h2 : σ 0 ≤ U) (h3 : rVr σ) (h4 : sR U σ) (h5 : oR σ) : pR U (zst (rrec ρ) 0 σ) :=
  ⟨(h.1.mono hu).act h1 h2, h.2.1.act h.1.2.1 h3, (h.mono hu).2.2.1.act (sS_E U) h.1.2.1 ⟨h1, h4⟩, h5⟩
theorem pR.ref (h : pR T ρ) (x : Int) : pR T (zst ρ 7 (zset (ρ 7) 1 x)) := ⟨h.1.ref x, h.2.1.num (by omega), h.2.2.1.num (by omega), h.2.2.2⟩
theorem oR.cp {f σ : Int → Int} (h : oR σ) (s : Int) : oR (rcpy f σ s 0 240) := h.same fun j hj => by
  simp only [rcpy]
  rw [if_neg (by omega)]
theorem pR.und (h : pR T ρ) (hk : ρ 7 0 ≠ 0) : pR T (rund ρ) := by
  have hV := h.2.1.undA h.1
  unfold aundo at hV
  rw [if_neg hk] at hV
  exact ⟨h.1.und hk, hV, h.2.2.1.und (sS_E T) h.1.2.1 hk, h.2.2.2.cp _⟩
theorem pR.kee (h : pR T ρ) {s : Int} (hs : 0 ≤ s ∧ s ≤ 1) : pR T (rkeep ρ s) := by
  have hV := h.2.1.keeA s
  unfold akeep at hV
  rw [if_pos hs] at hV
  exact ⟨h.1.kee hs, hV, h.2.2.1.kee (sS_E T) hs, h.2.2.2⟩
theorem pR.res (h : pR T ρ) {s : Int} (hs : 0 ≤ s ∧ s ≤ 1) (h4 : ρ 4 s ≠ 0) : pR T (zst (rrec ρ) 0 (rcpy (ρ 3) (ρ 0) (240 * s) 0 240)) := by
  have hV := h.2.1.rest h.1 s
  have hJ := h.1.rest s
  unfold arest at hV hJ
  rw [if_neg (not_not_intro hs), if_neg h4] at hV hJ
  exact ⟨hJ, hV, h.2.2.1.act (sS_E T) h.1.2.1 (h.2.2.1.snap (sS_E T) hs h4), h.2.2.2.cp _⟩
theorem pR.sav (h : pR T ρ) (f : Int → Int) : pR T (zst ρ 1 f) := ⟨h.1.sav f, h.2.1, h.2.2.1, h.2.2.2⟩
/-- an act that is undone at once -/
theorem und_act (hK : rK ρ) (ho : oR (ρ 0)) {τ : Int → Int} (h2 : oR τ) : rund (zst (rrec ρ) 0 τ) 0 = ρ 0 := by
  unfold rK at hK
  have e0 : rund (zst (rrec ρ) 0 τ) 0 = rcpy (rrec ρ 2) τ (240 * (rrec ρ 7 0 - 1)) 0 240 := rfl
  rw [e0, rrec_7, zset_ap, if_pos rfl]
  refine ho.ext (h2.cp _) fun j a b => ?_
  by_cases c : ρ 7 0 = 6
  · have e2 : rrec ρ 2 = rcpy (ρ 0) (rcpy (ρ 2) (ρ 2) 240 0 1200) 0 1200 240 := by
      unfold rrec
      rw [if_pos c]
      rfl
    rw [e2, if_pos c]
    simp only [rcpy]
    rw [if_pos (by omega), if_pos (by omega)]
    congr 1
    omega
  · have e2 : rrec ρ 2 = rcpy (ρ 0) (ρ 2) 0 (240 * ρ 7 0) 240 := by
      unfold rrec
      rw [if_neg c]
      rfl
    rw [e2, if_neg c]
    simp only [rcpy]
    rw [if_pos (by omega), if_pos (by omega)]
    congr 1
    omega
theorem act_70 (hK : rK ρ) (τ : Int → Int) : zst (rrec ρ) 0 τ 7 0 = if ρ 7 0 = 6 then 6 else ρ 7 0 + 1 := by
  show rrec ρ 7 0 = _
  rw [rrec_7, zset_ap, if_pos rfl]
theorem act_1 (hK : rK ρ) (τ : Int → Int) : 1 ≤ zst (rrec ρ) 0 τ 7 0 ∧ zst (rrec ρ) 0 τ 7 0 ≤ 6 := by
  unfold rK at hK
  rw [act_70 hK]
  split <;> omega
theorem act_3 (τ : Int → Int) : zst (rrec ρ) 0 τ 3 = ρ 3 := rrec_3 ρ
theorem act_4 (τ : Int → Int) : zst (rrec ρ) 0 τ 4 = ρ 4 := rrec_4 ρ
theorem und_3 (ρ : Nat → Int → Int) : rund ρ 3 = ρ 3 := rfl
theorem und_4 (ρ : Nat → Int → Int) : rund ρ 4 = ρ 4 := rfl
end PR
/-! how many cleanings of the plan lie ahead of a day -/
def cntN (σ : Int → Int) (x : Int) : Nat → Int
  | 0 => 0
  | k + 1 => cntN σ x k + (if σ (150 + 3 * (k : Int) + 2) < x then 1 else 0)
theorem cntN_b (σ : Int → Int) (x : Int) : ∀ k : Nat, 0 ≤ cntN σ x k ∧ cntN σ x k ≤ k
  | 0 => ⟨by unfold cntN; omega, by unfold cntN; omega⟩
  | k + 1 => by
    have h := cntN_b σ x k
    unfold cntN
    split <;> omega
theorem cntN_c {σ τ : Int → Int} {x : Int} : ∀ k : Nat, (∀ j : Int, 0 ≤ j → j < k → τ (150 + 3 * j + 2) = σ (150 + 3 * j + 2)) → cntN τ x k = cntN σ x k
  | 0, _ => rfl
  | k + 1, h => by
    unfold cntN
    rw [cntN_c k (fun j a b => h j a (by omega)), h k (by omega) (by omega)]
theorem cntN_sh {σ τ : Int → Int} {x : Int} : ∀ k : Nat, (∀ j : Int, 0 ≤ j → j < k → τ (150 + 3 * j + 2) = σ (150 + 3 * (j + 1) + 2)) → (if σ 152 < x then 1 else 0) + cntN τ x k = cntN σ x (k + 1)
  | 0, _ => by
    unfold cntN cntN
    show _ + 0 = 0 + (if σ (150 + 3 * 0 + 2) < x then 1 else 0)
    rw [show (150 : Int) + 3 * 0 + 2 = 152 from rfl, Int.add_zero, Int.zero_add]
  | k + 1, h => by
    have ih := cntN_sh (σ := σ) (τ := τ) (x := x) k (fun j a b => h j a (by omega))
    have e : cntN τ x (k + 1) = cntN τ x k + (if τ (150 + 3 * (k : Int) + 2) < x then 1 else 0) := rfl
    have e2 : cntN σ x (k + 1 + 1) = cntN σ x (k + 1) + (if σ (150 + 3 * ((k : Int) + 1) + 2) < x then 1 else 0) := rfl
    rw [e, e2, h k (by omega) (by omega), ← ih]
    omega
theorem cntN_0 {σ : Int → Int} {x : Int} : ∀ k : Nat, (∀ j : Int, 0 ≤ j → j < k → x ≤ σ (150 + 3 * j + 2)) → cntN σ x k = 0
  | 0, _ => rfl
  | k + 1, h => by
    unfold cntN
    rw [cntN_0 k (fun j a b => h j a (by omega)), if_neg (by have := h k (by omega) (by omega); omega)]
    omega
theorem rstp_56 {σ : Int → Int} (hI : rI σ) (d ppl left : Int) (h3 : 0 < σ 3) : (rstp σ d ppl left).1 5 + (rstp σ d ppl left).1 6 = σ 5 + σ 6 + 1 := by
  have hb := hI.2.1
  have hm := hI.2.2.2.1 0 (by omega) h3
  rw [show (150 : Int) + 3 * 0 = 150 from rfl] at hm
  have u5 : ∀ dn, rent (rdrop σ 0) (σ 150) (σ 151) d dn 5 = σ 5 := fun dn => by rw [rent_o (by omega) (by omega), rdrop_0o h3 (by omega) _ (by omega) (by omega)]
  have u6 : ∀ dn, rent (rdrop σ 0) (σ 150) (σ 151) d dn 6 = σ 6 := fun dn => by rw [rent_o (by omega) (by omega), rdrop_0o h3 (by omega) _ (by omega) (by omega)]
  unfold rstp
  split
  · dsimp only
    simp only [rdo]
    rw [zset_ne (by omega), zset_same, zset_ne (by omega), zset_ne (by omega), zset_ne (by omega), zset_ne (by omega), zset_ne (by omega), u5, u6]
    omega
  · dsimp only
    rw [zset_ne (by omega), zset_same, u5, u6]
    omega
theorem rclN_gone {x : Int} (d ppl : Int) (hd : d < x) : ∀ (n : Nat) (σ : Int → Int) (left : Int), rI σ → rclN d ppl n σ left 5 + rclN d ppl n σ left 6 + cntN (rclN d ppl n σ left) x (rclN d ppl n σ left 3).toNat = σ 5 + σ 6 + cntN σ x (σ 3).toNat
  | 0, σ, left, _ => rfl
  | n + 1, σ, left, hI => by
    have hb := hI.2.1
    unfold rclN
    split
    · rename_i c
      rw [rclN_gone d ppl hd n _ _ (rstp_I hI d ppl left c.1), rstp_56 hI d ppl left c.1, rstp_3 hI d ppl left c.1]
      have e : (σ 3).toNat = (σ 3 - 1).toNat + 1 := by omega
      rw [e, ← cntN_sh (τ := (rstp σ d ppl left).1) (σ 3 - 1).toNat (fun j a b => ?_), if_pos (by omega)]
      · omega
      · rw [rstp_pl hI d ppl left c.1 _ (by omega) (by omega)]
        congr 1
        omega
    · rfl
theorem rnight_gone {σ : Int → Int} (hI : rI σ) {x : Int} (hx : σ 0 < x) : rnight σ 5 + rnight σ 6 + cntN (rnight σ) x (rnight σ 3).toNat = σ 5 + σ 6 + cntN σ x (σ 3).toNat := by
  have e : ∀ j, j = 5 ∨ j = 6 → rnight σ j = rclean σ (σ 0) j := fun j a => by
    unfold rnight
    rw [zset_ne (by omega), rmirN_o _ _ _ _ _ (by omega)]
  have hC := rclean_I hI (σ 0)
  have hb := hC.2.1
  rw [e 5 (by omega), e 6 (by omega), rnight_p hI 3 (by omega), cntN_c (σ := rclean σ (σ 0)) _ (fun j a b => rnight_p hI _ (by omega))]
  exact rclN_gone _ _ hx _ _ _ hI
theorem rpasN_gone {x : Int} : ∀ (n : Nat) (σ : Int → Int), rI σ → σ 0 + n ≤ x → rpasN n σ 5 + rpasN n σ 6 + cntN (rpasN n σ) x (rpasN n σ 3).toNat = σ 5 + σ 6 + cntN σ x (σ 3).toNat
  | 0, _, _, _ => rfl
  | n + 1, σ, hI, hx => by
    have h0 := rnight_0 σ
    show rpasN n (rnight σ) 5 + rpasN n (rnight σ) 6 + cntN (rpasN n (rnight σ)) x (rpasN n (rnight σ) 3).toNat = _
    rw [rpasN_gone n (rnight σ) hI.night (by omega), rnight_gone hI (by omega)]
theorem rpas_gone {σ : Int → Int} (hI : rI σ) (n : Nat) : rpasN n σ 5 + rpasN n σ 6 = σ 5 + σ 6 + cntN σ (σ 0 + n) (σ 3).toNat := by
  have h := rpasN_gone n σ hI (Int.le_refl _)
  have hI2 := rpasN_I n hI
  have h0 := rpasN_0 n σ
  rw [cntN_0 (σ := rpasN n σ) _ (fun j a b => ?_)] at h
  · omega
  · have := (hI2.2.2.2.1 j a (by omega)).2.2.2.2
    omega
/-! bounds of what is lost -/
/-! with the plan no more is lost than without -/
def mL (f g : Int → Int) : Prop := f 0 = g 0 ∧ f 1 = g 1 ∧ f 2 ≤ g 2 ∧ f 3 ≤ g 3
theorem mL.cl {f g : Int → Int} (h : mL f g) (h2 : 0 ≤ f 2 ∧ 0 ≤ f 3) (k : Int) : mL (fcl k f) g ∧ 0 ≤ fcl k f 2 ∧ 0 ≤ fcl k f 3 := by
  obtain ⟨a, b, c, d⟩ := h
  unfold fcl
  split
  · exact ⟨⟨a, b, c, d⟩, h2⟩
  · have e : 0 ≤ rdust k (f 2) ∧ rdust k (f 2) ≤ f 2 := by
      unfold rdust
      split
      · omega
      · split <;> omega
    have e2 : 0 ≤ (if k = 2 then 0 else f 3) ∧ (if k = 2 then 0 else f 3) ≤ f 3 := by split <;> omega
    refine ⟨⟨?_, ?_, ?_, ?_⟩, ?_, ?_⟩
    · rw [zset_ne (by omega), zset_ne (by omega)]
      exact a
    · rw [zset_ne (by omega), zset_ne (by omega)]
      exact b
    · rw [zset_ne (by omega), zset_same]
      omega
    · rw [zset_same]
      omega
    · rw [zset_ne (by omega), zset_same]
      exact e.1
    · rw [zset_same]
      exact e2.1
theorem ndst_le {a b r : Int} (h : a ≤ b) : ndst a r ≤ ndst b r := by
  unfold ndst
  split <;> split <;> omega
theorem mL.sp {f g : Int → Int} (h : mL f g) (r c : Int) : mL (fsp r c f) (fsp r c g) := by
  obtain ⟨a, b, e, d⟩ := h
  have q := ndst_le (r := r) e
  unfold fsp
  refine ⟨?_, ?_, ?_, ?_⟩
  · rw [zset_ne (by omega), zset_ne (by omega), zset_ne (by omega), zset_ne (by omega), zset_ne (by omega), zset_ne (by omega)]
    exact a
  · rw [zset_ne (by omega), zset_ne (by omega), zset_ne (by omega), zset_ne (by omega), zset_ne (by omega), zset_ne (by omega)]
    exact b
  · rw [zset_ne (by omega), zset_ne (by omega), zset_same, zset_ne (by omega), zset_ne (by omega), zset_same]
    exact q
  · rw [zset_ne (by omega), zset_same, zset_ne (by omega), zset_same]
    omega
theorem fsp_nn {f : Int → Int} (r c : Int) (hr : 0 ≤ r) (h : 0 ≤ f 2 ∧ 0 ≤ f 3) : 0 ≤ fsp r c f 2 ∧ 0 ≤ fsp r c f 3 := by
  have q := ndst_b h.1 hr
  unfold fsp
  refine ⟨?_, ?_⟩
  · rw [zset_ne (by omega), zset_ne (by omega), zset_same]
    exact q.1
  · rw [zset_ne (by omega), zset_same]
    omega
theorem nl_le {f g : Int → Int} (h : mL f g) (h2 : 0 ≤ f 2 ∧ 0 ≤ f 3) (hw : 0 ≤ f 0) (hv : 0 ≤ f 1) {r c : Int} (hr : 0 ≤ r) (hc : 0 ≤ c) : nl r c f ≤ nl r c g := by
  obtain ⟨a, b, e, d⟩ := h
  have q := ndst_le (r := r) e
  have m1 : (f 3 + 1) * f 1 ≤ (g 3 + 1) * f 1 := Int.mul_le_mul_of_nonneg_right (by omega) hv
  have q3 : ndst (f 2) r / 10 ≤ ndst (g 2) r / 10 := Int.ediv_le_ediv (by omega) q
  have q2 : nlos (f 2) r (f 3) (f 1) ≤ nlos (g 2) r (g 3) (g 1) := by
    unfold nlos
    rw [← b]
    split <;> split <;> omega
  have n0 := nlos_b (ag := f 3) (we := f 1) h2.1 hr h2.2 hv
  unfold nl nits
  rw [← a]
  have p1 : f 0 * nlos (f 2) r (f 3) (f 1) ≤ f 0 * nlos (g 2) r (g 3) (g 1) := Int.mul_le_mul_of_nonneg_left q2 hw
  exact Int.ediv_le_ediv (by omega) (Int.mul_le_mul_of_nonneg_right p1 hc)
theorem fcl_w {f : Int → Int} (k : Int) : fcl k f 0 = f 0 ∧ fcl k f 1 = f 1 := by
  unfold fcl
  split
  · exact ⟨rfl, rfl⟩
  · exact ⟨by rw [zset_ne (by omega), zset_ne (by omega)], by rw [zset_ne (by omega), zset_ne (by omega)]⟩
theorem fsp_w {f : Int → Int} (r c : Int) : fsp r c f 0 = f 0 ∧ fsp r c f 1 = f 1 := by
  unfold fsp
  exact ⟨by rw [zset_ne (by omega), zset_ne (by omega), zset_ne (by omega)], by rw [zset_ne (by omega), zset_ne (by omega), zset_ne (by omega)]⟩
theorem mT_le {R F D D2 : Int → Int} (hR : ∀ j, 0 ≤ R j ∧ 0 ≤ F j) (h2 : ∀ j, D2 j = -1) : ∀ (n : Nat) (i : Int) (f g : Int → Int), mL f g → 0 ≤ f 2 ∧ 0 ≤ f 3 → 0 ≤ f 0 → 0 ≤ f 1 → mT R F D n i f ≤ mT R F D2 n i g
  | 0, _, _, _, _, _, _, _ => Int.le_refl _
  | n + 1, i, f, g, h, k, w0, w1 => by
    have c := h.cl k (D i)
    have cw := fcl_w (f := f) (D i)
    have e2 : fcl (D2 i) g = g := by
      unfold fcl
      rw [if_pos (h2 i)]
    have s1 := c.1.sp (R i) (F i)
    have sw := fsp_w (f := fcl (D i) f) (R i) (F i)
    have a1 := nl_le c.1 c.2 (by omega) (by omega) (hR i).1 (hR i).2
    have a2 := mT_le hR h2 (D := D) n (i + 1) _ _ s1 (fsp_nn _ _ (hR i).1 c.2) (by omega) (by omega)
    unfold mT
    rw [e2]
    omega
theorem smN_le {g k : Int → Int} : ∀ n : Nat, (∀ q : Int, 0 ≤ q → q < n → g q ≤ k q) → smN g n ≤ smN k n
  | 0, _ => Int.le_refl _
  | n + 1, h => by
    have a := smN_le n (fun q x y => h q x (by omega))
    have b := h n (by omega) (by omega)
    unfold smN
    omega
theorem rpas_le {σ : Int → Int} (hI : rI σ) (hN : rN σ) (n : Nat) : rpasS n (rlA σ 0) ≤ rpasS n (rlA σ 1) := by
  have hb := hI.2.1
  rw [rpas_K hI hN (Or.inl rfl), rpas_K hI hN (Or.inr rfl)]
  refine smN_le _ fun q a b => ?_
  have hm := hI.2.2.1 q a (by omega)
  have g0 : gm σ q 0 = σ (10 + 6 * q) := by unfold gm vw; congr 1; omega
  have g1 : gm σ q 1 = σ (10 + 6 * q + 1) := by unfold gm vw; congr 1
  have g2 : gm σ q 2 = σ (10 + 6 * q + 2) := by unfold gm vw; congr 1
  have g3 : gm σ q 3 = σ (10 + 6 * q + 3) := by unfold gm vw; congr 1
  refine mT_le (fun j => ⟨?_, ?_⟩) (fun j => ?_) n 0 _ _ ⟨rfl, rfl, Int.le_refl _, Int.le_refl _⟩ ⟨by omega, by omega⟩ (by omega) (by omega)
  · exact (rtold_b hI _).1.1
  · have := (rtold_b hI (σ 0 + j)).2
    have h2 := Int.mul_nonneg this.1 this.1
    unfold fF
    omega
  · unfold fK
    rw [if_pos (by omega)]
/-! the place of a new cleaning -/
def cleN (σ : Int → Int) (d : Int) : Nat → Int
  | 0 => 0
  | k + 1 => cleN σ d k + (if σ (150 + 3 * (k : Int) + 2) ≤ d then 1 else 0)
theorem cleN_rplc {σ : Int → Int} (hI : rI σ) (d : Int) : ∀ k : Nat, (k : Int) ≤ σ 3 → cleN σ d k = (rplcN σ d k : Int)
  | 0, _ => rfl
  | k + 1, hk => by
    have ih := cleN_rplc hI d k (by omega)
    unfold cleN rplcN
    by_cases c : d < σ (150 + 3 * (k : Int) + 2)
    · rw [if_neg (by omega), if_pos c, ih]
      omega
    · rw [if_pos (by omega), if_neg c, ih]
      -- all before are not behind
      have hall : ∀ i : Nat, i ≤ k → (rplcN σ d i : Int) = i := by
        intro i
        induction i with
        | zero => intro _; rfl
        | succ i ihi =>
          intro hi
          have hs := rsort hI i (by omega) (k - i) (by omega)
          rw [show (150 : Int) + 3 * ((i : Int) + ((k - i : Nat) : Int)) + 2 = 150 + 3 * (k : Int) + 2 by omega] at hs
          unfold rplcN
          rw [if_neg (by omega)]
      rw [hall k (Nat.le_refl k)]
      omega
