/-! the law: class and reference side by side -/
theorem rchkO_same {ρ τ : Nat → Int → Int} (h : rSame ρ τ) (q : Int × Int × Int × Int) : (rchkO τ q).1 = (rchkO ρ q).1 ∧ rSame (rchkO ρ q).2 (rchkO τ q).2 := by
  have e0 := h.1
  have num : ∀ x : Int, rSame (zst ρ 7 (zset (ρ 7) 1 x)) (zst τ 7 (zset (τ 7) 1 x)) := fun x => by
    obtain ⟨s0, s2, s3, s4, s5, s7⟩ := h
    refine ⟨s0, s2, s3, s4, s5, fun j hj => ?_⟩
    show zset (τ 7) 1 x j = zset (ρ 7) 1 x j
    rw [zset_ap, zset_ap, s7 j hj]
  unfold rchkO
  by_cases c1 : q.1 < 3
  · rw [if_pos c1, if_pos c1]
    unfold rchk
    rw [e0]
    split
    · exact ⟨rfl, h⟩
    · split
      · exact ⟨rfl, h⟩
      · split
        · exact ⟨rfl, num _⟩
        · exact ⟨rfl, h⟩
  · rw [if_neg c1, if_neg c1]
    by_cases c2 : q.1 = 3
    · rw [if_pos c2, if_pos c2, e0]
      exact ⟨rfl, h⟩
    · rw [if_neg c2, if_neg c2]
      by_cases c3 : q.1 = 4
      · rw [if_pos c3, if_pos c3]
        exact ⟨rfl, h⟩
      · rw [if_neg c3, if_neg c3]
        unfold rchp
        rw [e0, show (if (0 : Int) = 0 then (500 : Int) else 30) = 500 from rfl]
        split
        · exact ⟨rfl, h⟩
        · split
          · exact ⟨rfl, num _⟩
          · exact ⟨rfl, h⟩
theorem rrun_same : ∀ (qs : List (Int × Int × Int × Int)) {ρ τ : Nat → Int → Int} (n : Int), rSame ρ τ → (rrun qs τ n).1 = (rrun qs ρ n).1 ∧ rSame (rrun qs ρ n).2 (rrun qs τ n).2
  | [], ρ, τ, n, h => ⟨rfl, h⟩
  | q :: qs, ρ, τ, n, h => by
    obtain ⟨g1, g2⟩ := rchkO_same h q
    by_cases c : (rchkO ρ q).1 < 0
    · have eR : rrun (q :: qs) ρ n = (n, zst (rchkO ρ q).2 7 (zset (zset ((rchkO ρ q).2 7) 7 n) 8 (if (rchkO ρ q).1 = -1000003 then (rchkO ρ q).2 7 1 else if (rchkO ρ q).1 = -1000001 then 11 else 12))) := if_pos c
      have eT : rrun (q :: qs) τ n = (n, zst (rchkO τ q).2 7 (zset (zset ((rchkO τ q).2 7) 7 n) 8 (if (rchkO τ q).1 = -1000003 then (rchkO τ q).2 7 1 else if (rchkO τ q).1 = -1000001 then 11 else 12))) := if_pos (by rw [g1]; exact c)
      rw [eR, eT, g1]
      obtain ⟨s0, s2, s3, s4, s5, s7⟩ := g2
      refine ⟨rfl, s0, s2, s3, s4, s5, fun j hj => ?_⟩
      show zset (zset ((rchkO τ q).2 7) 7 n) 8 (if (rchkO ρ q).1 = -1000003 then (rchkO τ q).2 7 1 else if (rchkO ρ q).1 = -1000001 then 11 else 12) j = zset (zset ((rchkO ρ q).2 7) 7 n) 8 (if (rchkO ρ q).1 = -1000003 then (rchkO ρ q).2 7 1 else if (rchkO ρ q).1 = -1000001 then 11 else 12) j
      rw [zset_ap, zset_ap, zset_ap, zset_ap, s7 j hj, s7 1 (by omega)]
    · have eR : rrun (q :: qs) ρ n = rrun qs (zst ρ 0 (rdoesO (ρ 0) q)) (n + 1) := if_neg c
      have eT : rrun (q :: qs) τ n = rrun qs (zst τ 0 (rdoesO (τ 0) q)) (n + 1) := if_neg (by rw [g1]; exact c)
      rw [eR, eT]
      refine rrun_same qs (n + 1) ?_
      obtain ⟨s0, s2, s3, s4, s5, s7⟩ := h
      refine ⟨?_, s2, s3, s4, s5, s7⟩
      show rdoesO (τ 0) q = rdoesO (ρ 0) q
      rw [s0]
theorem zmk_o {h : zH} {a x : Nat} {ρ : Nat → Int → Int} (hx : x < a ∨ a + 8 ≤ x) : zmk h a ρ x = h x := by
  unfold zmk
  rw [if_neg (by omega), if_neg (by omega), if_neg (by omega), if_neg (by omega), if_neg (by omega), if_neg (by omega), if_neg (by omega), if_neg (by omega)]
theorem zcomm {h : zH} {p a : Nat} {κ ρ : Nat → Int → Int} {τ : Int → Int} (hpa : p + 260 ≤ a) : zcs (zpr (zmk h a ρ) p κ) (p + 1) τ = zmk (zcs (zpr h p κ) (p + 1) τ) a ρ := by
  funext x
  by_cases c : a ≤ x ∧ x < a + 8
  · rw [zcs_o (by omega), zpr_o (by omega)]
    unfold zmk
    by_cases d0 : x = a
    · rw [if_pos d0, if_pos d0]
    · rw [if_neg d0, if_neg d0]
      by_cases d1 : x = a + 1
      · rw [if_pos d1, if_pos d1]
      · rw [if_neg d1, if_neg d1]
        by_cases d2 : x = a + 2
        · rw [if_pos d2, if_pos d2]
        · rw [if_neg d2, if_neg d2]
          by_cases d3 : x = a + 3
          · rw [if_pos d3, if_pos d3]
          · rw [if_neg d3, if_neg d3]
            by_cases d4 : x = a + 4
            · rw [if_pos d4, if_pos d4]
            · rw [if_neg d4, if_neg d4]
              by_cases d5 : x = a + 5
              · rw [if_pos d5, if_pos d5]
              · rw [if_neg d5, if_neg d5]
                by_cases d6 : x = a + 6
                · rw [if_pos d6, if_pos d6]
                · rw [if_neg d6, if_neg d6, if_pos (by omega), if_pos (by omega)]
  · rw [zmk_o (by omega)]
    unfold zcs
    by_cases d : p + 1 ≤ x ∧ x < p + 1 + 27
    · rw [if_pos d, if_pos d]
    · rw [if_neg d, if_neg d]
      unfold zpr
      by_cases d1 : p + 30 ≤ x ∧ x < p + 192
      · rw [if_pos d1, if_pos d1]
      · rw [if_neg d1, if_neg d1]
        by_cases d2 : p + 195 ≤ x ∧ x < p + 249
        · rw [if_pos d2, if_pos d2]
        · rw [if_neg d2, if_neg d2]
          by_cases d3 : p ≤ x ∧ x < p + 260
          · rw [if_pos d3, if_pos d3]
          · rw [if_neg d3, if_neg d3, zmk_o (by omega)]
theorem zald_9 {s : Int → Int} {i : Int} {n : Nat} (h1 : 0 ≤ i) (h2 : i < n) (h3 : n < 2147483648) : zald 0 (zi i) (.inl (9, n, .inl (zrwi s))) = some (zi (s i)) := by
  show (if (9 = 0 ∨ (0 = 0 ∧ 9 = 9)) ∧ zidx (zi i) n = true then some (zrwi s (zi i).toNatClampNeg) else none) = _
  rw [if_pos ⟨Or.inr ⟨rfl, rfl⟩, zidx_zi h1 h2 h3⟩, zrwi, zclampI h1 (by omega)]
theorem zaln_9 {n : Nat} {f : Nat → Int32} : zaln (.inl (9, n, .inl f)) = some (zi n) := rfl
/-- what stands below: the script at b, the Strings -/
def wB (z : zZ) (h0 : zH) (b p L : Nat) (s : Int → Int) : Prop := b < p ∧ h0 b = .inl (9, L, .inl (zrwi s)) ∧ L ≤ 2048 ∧ (∀ j, zI (s j)) ∧ ∀ i, i < 6 → z.2.2 i < p ∧ h0 (z.2.2 i) = .inl (10, zSlen.getD i 0, .inl (zSch i))
theorem wB.str {z : zZ} {h0 : zH} {b p L a : Nat} {s : Int → Int} (hw : wB z h0 b p L s) (hpa : p + 260 ≤ a) (ρ : Nat → Int → Int) : zS2 z (zmk h0 a ρ) p := fun i hi => by
  obtain ⟨h1, h2⟩ := hw.2.2.2.2 i hi
  exact ⟨Or.inl h1, by rw [zmk_o (by omega), h2]⟩
theorem wB.at1 {z : zZ} {h0 : zH} {b p L a : Nat} {s : Int → Int} (hw : wB z h0 b p L s) (hpa : p + 260 ≤ a) (ρ κ : Nat → Int → Int) (τ : Int → Int) : zcs (zpr (zmk h0 a ρ) p κ) (p + 1) τ b = .inl (9, L, .inl (zrwi s)) := by
  have := hw.1
  rw [zcs_o (by omega), zpr_o (by omega), zmk_o (by omega), hw.2.1]
theorem wB.at2 {z : zZ} {h0 : zH} {b p L a : Nat} {s : Int → Int} (hw : wB z h0 b p L s) (hpa : p + 260 ≤ a) (ρ κ : Nat → Int → Int) (τ : Int → Int) : zmk (zcs (zpr h0 p κ) (p + 1) τ) a ρ b = .inl (9, L, .inl (zrwi s)) := by
  rw [← zcomm hpa, hw.at1 hpa]
/-- all that holds between two calls -/
def wI (T : Int) (ρ κ : Nat → Int → Int) : Prop := rJ T ρ ∧ rV ρ ∧ rC ρ κ
