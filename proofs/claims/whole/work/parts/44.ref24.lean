/-! the reference: orders keep what holds -/
theorem rJ.run : ∀ (qs : List (Int × Int × Int × Int)) (ρ : Nat → Int → Int) (n U : Int), rJ U ρ → (∀ (i : Nat) (q : Int × Int × Int × Int), qs[i]? = some q → rQ q) → U + 60 * (qs.length : Int) ≤ 100000000 → rJ (U + 60 * (qs.length : Int)) (rrun qs ρ n).2
  | [], ρ, n, U, h, hq, hl => h.mono (by simp only [List.length_nil]; omega)
  | q :: qs, ρ, n, U, h, hq, hl => by
    simp only [List.length_cons] at hl ⊢
    have h0 := h.1.2
    by_cases c : (rchkO ρ q).1 < 0
    · have eR : rrun (q :: qs) ρ n = (n, zst (rchkO ρ q).2 7 (zset (zset ((rchkO ρ q).2 7) 7 n) 8 (if (rchkO ρ q).1 = -1000003 then (rchkO ρ q).2 7 1 else if (rchkO ρ q).1 = -1000001 then 11 else 12))) := if_pos c
      rw [eR]
      have hC : rJ U (rchkO ρ q).2 := by
        unfold rchkO
        split
        · exact h.chk _ _ _
        · split
          · exact h
          · split
            · exact h
            · exact h.chp _ _ _ _
      have := (hC.num (i := 7) (x := n) (by omega) (by omega)).num (i := 8) (x := if (rchkO ρ q).1 = -1000003 then (rchkO ρ q).2 7 1 else if (rchkO ρ q).1 = -1000001 then 11 else 12) (by omega) (by omega)
      rw [zst_zst] at this
      exact this.mono (by omega)
    · have eR : rrun (q :: qs) ρ n = rrun qs (zst ρ 0 (rdoesO (ρ 0) q)) (n + 1) := if_neg c
      rw [eR]
      obtain ⟨i1, i2, i3⟩ := rdoesO_I (hq 0 q rfl) h.1.1 (by omega) c
      have := rJ.run qs (zst ρ 0 (rdoesO (ρ 0) q)) (n + 1) (U + 60) ((h.mono (by omega)).put i1 (by omega)) (fun i x hx => hq (i + 1) x hx) (by omega)
      exact this.mono (by omega)
def aundo (ρ : Nat → Int → Int) : Int × (Nat → Int → Int) := if ρ 7 0 = 0 then (-1000005, ρ) else (ρ 7 0 - 1, rund ρ)
def akeep (ρ : Nat → Int → Int) (s : Int) : Int × (Nat → Int → Int) := if 0 ≤ s ∧ s ≤ 1 then (ρ 0 0, rkeep ρ s) else (-1000001, ρ)
section RF24
variable {z : zZ} {h : zH} {K : Option Value → zZ → zH → Prop} {a : Nat} {ρ : Nat → Int → Int}
theorem s_undoA (hk : rK ρ) : zG 117 0 [.ref a, zJ] [] z (zmk h a ρ) K ↔ K (some (.int (zi (aundo ρ).1))) z (zmk h a (aundo ρ).2) := by
  rw [s_undo hk.1 hk.2]
  unfold aundo
  by_cases c : ρ 7 0 = 0
  · rw [if_pos c, zbr_t c]
  · rw [if_neg c, zbr_f c]
theorem s_keepA {s : Int} (hs : zI s) : zG 118 0 [.ref a, .int (zi s), zJ] [] z (zmk h a ρ) K ↔ K (some (.int (zi (akeep ρ s).1))) z (zmk h a (akeep ρ s).2) := by
  rw [s_keep hs.1 hs.2]
  unfold akeep
  by_cases c : 0 ≤ s ∧ s ≤ 1
  · rw [if_pos c, zbr_t c]
  · rw [if_neg c, zbr_f c]
end RF24
theorem rJ.undA {T : Int} {ρ : Nat → Int → Int} (h : rJ T ρ) : rJ T (aundo ρ).2 := by
  unfold aundo
  by_cases c : ρ 7 0 = 0
  · rw [if_pos c]
    exact h
  · rw [if_neg c]
    exact h.und c
theorem rJ.keeA {T : Int} {ρ : Nat → Int → Int} (h : rJ T ρ) (s : Int) : rJ T (akeep ρ s).2 := by
  unfold akeep
  by_cases c : 0 ≤ s ∧ s ≤ 1
  · rw [if_pos c]
    exact h.kee c
  · rw [if_neg c]
    exact h
