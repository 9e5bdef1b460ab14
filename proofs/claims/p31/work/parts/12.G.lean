/-! A RUN THAT ENDS IN Q; one rewriting rule a kind of instruction -/
def zG (mi pc : Nat) (L S : List Value) (z : zZ) (h : zH) (Q : Option Value → zZ → zH → Prop) : Prop := ∃ (n : Nat) (r : Option Value) (z' : zZ) (h' : zH), zex n mi pc L S z h = some (r, z', h') ∧ Q r z' h'
def zB {α : Type} (o : Option α) (K : α → Prop) : Prop := ∃ v, o = some v ∧ K v
theorem zB_some {α : Type} {v : α} {K : α → Prop} : zB (some v) K ↔ K v := ⟨fun ⟨w, e, k⟩ => (by cases e; exact k), fun k => ⟨v, rfl, k⟩⟩
theorem zB_none {α : Type} {K : α → Prop} : zB none K ↔ False := ⟨fun ⟨w, e, k⟩ => (by cases e), fun k => k.elim⟩
theorem zex_succ : ∀ (n : Nat) {mi pc : Nat} {L S : List Value} {z : zZ} {h : zH} {r : Option Value × zZ × zH}, zex n mi pc L S z h = some r → zex (n + 1) mi pc L S z h = some r
  | 0, _, _, _, _, _, _, _, hs => by cases hs
  | n + 1, mi, pc, L, S, z, h, r, hs => by
    unfold zex at hs ⊢
    cases hc : zcode mi pc with
    | none => rw [hc] at hs; cases hs
    | some i =>
      rw [hc] at hs
      simp only at hs ⊢
      cases hcl : zcall mi i S h with
      | some c =>
        rw [hcl] at hs
        simp only at hs ⊢
        cases hq : zex n c.1 0 (zent c.2.1 (zmaxL c.1)) [] z h with
        | none => rw [hq] at hs; cases hs
        | some q =>
          rw [hq] at hs
          simp only at hs
          rw [zex_succ n hq]
          exact zex_succ n hs
      | none =>
        rw [hcl] at hs
        simp only at hs ⊢
        cases hr : zret mi i S with
        | some r0 => rw [hr] at hs; simp only at hs ⊢; exact hs
        | none =>
          rw [hr] at hs
          simp only at hs ⊢
          cases hq : zstp mi i pc L S z h with
          | none => rw [hq] at hs; cases hs
          | some q =>
            rw [hq] at hs
            simp only at hs ⊢
            exact zex_succ n hs
theorem zex_le {n m : Nat} (hnm : n ≤ m) {mi pc : Nat} {L S : List Value} {z : zZ} {h : zH} {r : Option Value × zZ × zH} (hs : zex n mi pc L S z h = some r) : zex m mi pc L S z h = some r := by
  induction hnm with
  | refl => exact hs
  | step _ ih => exact zex_succ _ ih
section ZG
variable {mi pc t : Nat} {L S L' S' : List Value} {z z' : zZ} {h h' : zH} {Q : Option Value → zZ → zH → Prop}
theorem zG_mono {Q' : Option Value → zZ → zH → Prop} (hk : ∀ r z h, Q r z h → Q' r z h) (g : zG mi pc L S z h Q) : zG mi pc L S z h Q' := by
  obtain ⟨n, r, z1, h1, e, q⟩ := g
  exact ⟨n, r, z1, h1, e, hk _ _ _ q⟩
theorem zG_stp {i : Instr} (hc : zcode mi pc = some i) (hcl : zcall mi i S h = none) (hr : zret mi i S = none) (hs : zstp mi i pc L S z h = some (t, L', S', z', h')) : zG mi pc L S z h Q ↔ zG mi t L' S' z' h' Q := by
  constructor
  · rintro ⟨n, r, z1, h1, e, q⟩
    cases n with
    | zero => cases e
    | succ n =>
      unfold zex at e
      simp only [hc, hcl, hr, hs] at e
      exact ⟨n, r, z1, h1, e, q⟩
  · rintro ⟨n, r, z1, h1, e, q⟩
    refine ⟨n + 1, r, z1, h1, ?_, q⟩
    unfold zex
    simp only [hc, hcl, hr, hs]
    exact e
theorem zG_bad {i : Instr} (hc : zcode mi pc = some i) (hcl : zcall mi i S h = none) (hr : zret mi i S = none) (hs : zstp mi i pc L S z h = none) : zG mi pc L S z h Q ↔ False := by
  refine ⟨?_, fun k => k.elim⟩
  rintro ⟨n, r, z1, h1, e, q⟩
  cases n with
  | zero => cases e
  | succ n =>
    unfold zex at e
    simp only [hc, hcl, hr, hs] at e
    cases e
theorem zG_ret {i : Instr} {r : Option Value} (hc : zcode mi pc = some i) (hcl : zcall mi i S h = none) (hr : zret mi i S = some r) : zG mi pc L S z h Q ↔ Q r z h := by
  constructor
  · rintro ⟨n, r1, z1, h1, e, q⟩
    cases n with
    | zero => cases e
    | succ n =>
      unfold zex at e
      simp only [hc, hcl, hr] at e
      cases e
      exact q
  · intro q
    refine ⟨1, r, z, h, ?_, q⟩
    unfold zex
    simp only [hc, hcl, hr]
theorem zG_retbad {i : Instr} (hc : zcode mi pc = some i) (hcl : zcall mi i S h = none) (hr : zret mi i S = none) (hs : zstp mi i pc L S z h = none) : zG mi pc L S z h Q ↔ False := zG_bad hc hcl hr hs
theorem zG_call {i : Instr} {m2 : Nat} {av rest : List Value} (hc : zcode mi pc = some i) (hcl : zcall mi i S h = some (m2, av, rest)) : zG mi pc L S z h Q ↔ zG m2 0 (zent av (zmaxL m2)) [] z h (fun r z' h' => zG mi (pc + 3) L (r.toList ++ rest) z' h' Q) := by
  constructor
  · rintro ⟨n, r, z1, h1, e, q⟩
    cases n with
    | zero => cases e
    | succ n =>
      unfold zex at e
      simp only [hc, hcl] at e
      split at e
      · rename_i q1 hq1
        exact ⟨n, q1.1, q1.2.1, q1.2.2, hq1, n, r, z1, h1, e, q⟩
      · cases e
  · rintro ⟨n, r1, z1, h1, e1, n2, r, z2, h2, e2, q⟩
    refine ⟨max n n2 + 1, r, z2, h2, ?_, q⟩
    unfold zex
    simp only [hc, hcl]
    rw [zex_le (Nat.le_max_left n n2) e1]
    simp only
    exact zex_le (Nat.le_max_right n n2) e2

theorem gG_iconst {n : Int} (hc : zcode mi pc = some (.iconst n)) : zG mi pc L (S) z h Q ↔ zG mi (pc + 1) L (.int (zi n) :: S) z h Q := zG_stp hc rfl rfl rfl
theorem gG_bipush {n : Int} (hc : zcode mi pc = some (.bipush n)) : zG mi pc L (S) z h Q ↔ zG mi (pc + 2) L (.int (zi n) :: S) z h Q := zG_stp hc rfl rfl rfl
theorem gG_sipush {n : Int} (hc : zcode mi pc = some (.sipush n)) : zG mi pc L (S) z h Q ↔ zG mi (pc + 3) L (.int (zi n) :: S) z h Q := zG_stp hc rfl rfl rfl
theorem gG_lconst0 (hc : zcode mi pc = some (.lconst 0)) : zG mi pc L S z h Q ↔ zG mi (pc + 1) L (.long (zl 0) :: S) z h Q := zG_stp hc rfl rfl rfl
theorem gG_lconst1 (hc : zcode mi pc = some (.lconst 1)) : zG mi pc L S z h Q ↔ zG mi (pc + 1) L (.long (zl 1) :: S) z h Q := zG_stp hc rfl rfl rfl
theorem gG_ldc {k a b : Nat} {v : Int} (hc : zcode mi pc = some (.ldc k)) (hp : zpool mi k = some (4, a, b, v)) : zG mi pc L S z h Q ↔ zG mi (pc + 2) L (.int (zi v) :: S) z h Q := zG_stp hc rfl rfl (by unfold zstp; simp only [hp])
theorem gG_ldcw {k a b : Nat} {v : Int} (hc : zcode mi pc = some (.ldc_w k)) (hp : zpool mi k = some (4, a, b, v)) : zG mi pc L S z h Q ↔ zG mi (pc + 3) L (.int (zi v) :: S) z h Q := zG_stp hc rfl rfl (by unfold zstp; simp only [hp])
theorem gG_ldcs {k j b : Nat} {v : Int} (hc : zcode mi pc = some (.ldc k)) (hp : zpool mi k = some (6, j, b, v)) : zG mi pc L S z h Q ↔ zG mi (pc + 2) L (.ref (z.2.2 j) :: S) z h Q := zG_stp hc rfl rfl (by unfold zstp; simp only [hp])
theorem gG_ldc2 {k a b : Nat} {v : Int} (hc : zcode mi pc = some (.ldc2_w k)) (hp : zpool mi k = some (5, a, b, v)) : zG mi pc L S z h Q ↔ zG mi (pc + 3) L (.long (zl v) :: S) z h Q := zG_stp hc rfl rfl (by unfold zstp; simp only [hp])
theorem gG_iload_n {k : Fin 4} {x : Int32} (hc : zcode mi pc = some (.iload_n k)) (hl : L[k.val]? = some (.int x)) : zG mi pc L S z h Q ↔ zG mi (pc + 1) L (.int x :: S) z h Q := zG_stp hc rfl rfl (by unfold zstp; simp only [hl])
theorem gG_iload {k : Nat} {x : Int32} (hc : zcode mi pc = some (.iload k)) (hl : L[k]? = some (.int x)) : zG mi pc L S z h Q ↔ zG mi (pc + 2) L (.int x :: S) z h Q := zG_stp hc rfl rfl (by unfold zstp; simp only [hl])
theorem gG_lload_n {k : Fin 4} {x : Int64} (hc : zcode mi pc = some (.lload_n k)) (hl : L[k.val]? = some (.long x)) : zG mi pc L S z h Q ↔ zG mi (pc + 1) L (.long x :: S) z h Q := zG_stp hc rfl rfl (by unfold zstp; simp only [hl])
theorem gG_lload {k : Nat} {x : Int64} (hc : zcode mi pc = some (.lload k)) (hl : L[k]? = some (.long x)) : zG mi pc L S z h Q ↔ zG mi (pc + 2) L (.long x :: S) z h Q := zG_stp hc rfl rfl (by unfold zstp; simp only [hl])
theorem gG_aload_n {k : Fin 4} {x : Nat} (hc : zcode mi pc = some (.aload_n k)) (hl : L[k.val]? = some (.ref x)) : zG mi pc L S z h Q ↔ zG mi (pc + 1) L (.ref x :: S) z h Q := zG_stp hc rfl rfl (by unfold zstp; simp only [hl])
theorem gG_aload {k : Nat} {x : Nat} (hc : zcode mi pc = some (.aload k)) (hl : L[k]? = some (.ref x)) : zG mi pc L S z h Q ↔ zG mi (pc + 2) L (.ref x :: S) z h Q := zG_stp hc rfl rfl (by unfold zstp; simp only [hl])
theorem gG_istore_n {k : Fin 4} {x : Int32} (hc : zcode mi pc = some (.istore_n k)) (hk : k.val < L.length) (hl : zst1 L k.val (.int x) = L') : zG mi pc L (.int x :: S) z h Q ↔ zG mi (pc + 1) L' S z h Q := zG_stp hc rfl rfl (by unfold zstp; simp only [if_pos hk, hl])
theorem gG_istore {k : Nat} {x : Int32} (hc : zcode mi pc = some (.istore k)) (hk : k < L.length) (hl : zst1 L k (.int x) = L') : zG mi pc L (.int x :: S) z h Q ↔ zG mi (pc + 2) L' S z h Q := zG_stp hc rfl rfl (by unfold zstp; simp only [if_pos hk, hl])
theorem gG_lstore_n {k : Fin 4} {x : Int64} (hc : zcode mi pc = some (.lstore_n k)) (hk : k.val + 1 < L.length) (hl : zst2 L k.val (.long x) = L') : zG mi pc L (.long x :: S) z h Q ↔ zG mi (pc + 1) L' S z h Q := zG_stp hc rfl rfl (by unfold zstp; simp only [if_pos hk, hl])
theorem gG_lstore {k : Nat} {x : Int64} (hc : zcode mi pc = some (.lstore k)) (hk : k + 1 < L.length) (hl : zst2 L k (.long x) = L') : zG mi pc L (.long x :: S) z h Q ↔ zG mi (pc + 2) L' S z h Q := zG_stp hc rfl rfl (by unfold zstp; simp only [if_pos hk, hl])
theorem gG_astore_n {k : Fin 4} {x : Nat} (hc : zcode mi pc = some (.astore_n k)) (hk : k.val < L.length) (hl : zst1 L k.val (.ref x) = L') : zG mi pc L (.ref x :: S) z h Q ↔ zG mi (pc + 1) L' S z h Q := zG_stp hc rfl rfl (by unfold zstp; simp only [if_pos hk, hl])
theorem gG_iinc {k : Nat} {n : Int} {x : Int32} (hc : zcode mi pc = some (.iinc k n)) (hl : L[k]? = some (.int x)) (hl2 : zst1 L k (.int (x + zi n)) = L') : zG mi pc L S z h Q ↔ zG mi (pc + 3) L' S z h Q := zG_stp hc rfl rfl (by unfold zstp; simp only [hl, hl2])
theorem gG_iadd {x y : Int32} (hc : zcode mi pc = some (.iadd)) : zG mi pc L (.int y :: .int x :: S) z h Q ↔ zG mi (pc + 1) L (.int (x + y) :: S) z h Q := zG_stp hc rfl rfl rfl
theorem gG_isub {x y : Int32} (hc : zcode mi pc = some (.isub)) : zG mi pc L (.int y :: .int x :: S) z h Q ↔ zG mi (pc + 1) L (.int (x - y) :: S) z h Q := zG_stp hc rfl rfl rfl
theorem gG_imul {x y : Int32} (hc : zcode mi pc = some (.imul)) : zG mi pc L (.int y :: .int x :: S) z h Q ↔ zG mi (pc + 1) L (.int (x * y) :: S) z h Q := zG_stp hc rfl rfl rfl
theorem gG_iand {x y : Int32} (hc : zcode mi pc = some (.iand)) : zG mi pc L (.int y :: .int x :: S) z h Q ↔ zG mi (pc + 1) L (.int (x &&& y) :: S) z h Q := zG_stp hc rfl rfl rfl
theorem gG_ior {x y : Int32} (hc : zcode mi pc = some (.ior)) : zG mi pc L (.int y :: .int x :: S) z h Q ↔ zG mi (pc + 1) L (.int (x ||| y) :: S) z h Q := zG_stp hc rfl rfl rfl
theorem gG_ishr {x y : Int32} (hc : zcode mi pc = some (.ishr)) : zG mi pc L (.int y :: .int x :: S) z h Q ↔ zG mi (pc + 1) L (.int (x >>> (y &&& 31)) :: S) z h Q := zG_stp hc rfl rfl rfl
theorem gG_ladd {x y : Int64} (hc : zcode mi pc = some (.ladd)) : zG mi pc L (.long y :: .long x :: S) z h Q ↔ zG mi (pc + 1) L (.long (x + y) :: S) z h Q := zG_stp hc rfl rfl rfl
theorem gG_lsub {x y : Int64} (hc : zcode mi pc = some (.lsub)) : zG mi pc L (.long y :: .long x :: S) z h Q ↔ zG mi (pc + 1) L (.long (x - y) :: S) z h Q := zG_stp hc rfl rfl rfl
theorem gG_lmul {x y : Int64} (hc : zcode mi pc = some (.lmul)) : zG mi pc L (.long y :: .long x :: S) z h Q ↔ zG mi (pc + 1) L (.long (x * y) :: S) z h Q := zG_stp hc rfl rfl rfl
theorem gG_lcmp {x y : Int64} (hc : zcode mi pc = some (.lcmp)) : zG mi pc L (.long y :: .long x :: S) z h Q ↔ zG mi (pc + 1) L (.int (lg_cmp x y) :: S) z h Q := zG_stp hc rfl rfl rfl
theorem gG_idiv {x y : Int32} (hc : zcode mi pc = some (.idiv)) : zG mi pc L (.int y :: .int x :: S) z h Q ↔ ¬ y = 0 ∧ zG mi (pc + 1) L (.int (x / y) :: S) z h Q := by
  by_cases hy : y = 0
  · rw [zG_bad hc rfl rfl (by unfold zstp; simp only [if_pos hy])]
    exact ⟨fun k => k.elim, fun k => k.1 hy⟩
  · rw [zG_stp hc rfl rfl (by unfold zstp; simp only [if_neg hy]; rfl)]
    exact ⟨fun k => ⟨hy, k⟩, fun k => k.2⟩
theorem gG_irem {x y : Int32} (hc : zcode mi pc = some (.irem)) : zG mi pc L (.int y :: .int x :: S) z h Q ↔ ¬ y = 0 ∧ zG mi (pc + 1) L (.int (x - x / y * y) :: S) z h Q := by
  by_cases hy : y = 0
  · rw [zG_bad hc rfl rfl (by unfold zstp; simp only [if_pos hy])]
    exact ⟨fun k => k.elim, fun k => k.1 hy⟩
  · rw [zG_stp hc rfl rfl (by unfold zstp; simp only [if_neg hy]; rfl)]
    exact ⟨fun k => ⟨hy, k⟩, fun k => k.2⟩
theorem gG_ldiv {x y : Int64} (hc : zcode mi pc = some (.ldiv)) : zG mi pc L (.long y :: .long x :: S) z h Q ↔ ¬ y = 0 ∧ zG mi (pc + 1) L (.long (x / y) :: S) z h Q := by
  by_cases hy : y = 0
  · rw [zG_bad hc rfl rfl (by unfold zstp; simp only [if_pos hy])]
    exact ⟨fun k => k.elim, fun k => k.1 hy⟩
  · rw [zG_stp hc rfl rfl (by unfold zstp; simp only [if_neg hy]; rfl)]
    exact ⟨fun k => ⟨hy, k⟩, fun k => k.2⟩
theorem gG_lrem {x y : Int64} (hc : zcode mi pc = some (.lrem)) : zG mi pc L (.long y :: .long x :: S) z h Q ↔ ¬ y = 0 ∧ zG mi (pc + 1) L (.long (x - x / y * y) :: S) z h Q := by
  by_cases hy : y = 0
  · rw [zG_bad hc rfl rfl (by unfold zstp; simp only [if_pos hy])]
    exact ⟨fun k => k.elim, fun k => k.1 hy⟩
  · rw [zG_stp hc rfl rfl (by unfold zstp; simp only [if_neg hy]; rfl)]
    exact ⟨fun k => ⟨hy, k⟩, fun k => k.2⟩
theorem gG_i2l {x : Int32} (hc : zcode mi pc = some (.i2l)) : zG mi pc L (.int x :: S) z h Q ↔ zG mi (pc + 1) L (.long x.toInt64 :: S) z h Q := zG_stp hc rfl rfl rfl
theorem gG_l2i {x : Int64} (hc : zcode mi pc = some (.l2i)) : zG mi pc L (.long x :: S) z h Q ↔ zG mi (pc + 1) L (.int x.toInt32 :: S) z h Q := zG_stp hc rfl rfl rfl
theorem gG_i2c {x : Int32} (hc : zcode mi pc = some (.i2c)) : zG mi pc L (.int x :: S) z h Q ↔ zG mi (pc + 1) L (.int (x.toUInt32 % 65536).toInt32 :: S) z h Q := zG_stp hc rfl rfl rfl
theorem gG_dup {v : Value} (hc : zcode mi pc = some (.dup)) (hv : v.category = 1) : zG mi pc L (v :: S) z h Q ↔ zG mi (pc + 1) L (v :: v :: S) z h Q := zG_stp hc rfl rfl (by unfold zstp; simp only [if_pos hv])
theorem gG_pop {v : Value} (hc : zcode mi pc = some (.pop)) (hv : v.category = 1) : zG mi pc L (v :: S) z h Q ↔ zG mi (pc + 1) L S z h Q := zG_stp hc rfl rfl (by unfold zstp; simp only [if_pos hv])
theorem gG_dup2 {v x : Value} (hc : zcode mi pc = some (.dup2)) (hv : v.category = 1) (hx : x.category = 1) : zG mi pc L (v :: x :: S) z h Q ↔ zG mi (pc + 1) L (v :: x :: v :: x :: S) z h Q := zG_stp hc rfl rfl (by unfold zstp; simp only [hv, hx, and_self, if_true])
theorem gG_goto {f : Int} (hc : zcode mi pc = some (.goto f)) (hj : zjmp pc f = some t) : zG mi pc L S z h Q ↔ zG mi t L S z h Q := zG_stp hc rfl rfl (by unfold zstp; simp only [hj])
theorem zi_0 : zi 0 = 0 := by decide +kernel
theorem gG_if_eq {x : Int32} {f : Int} (hc : zcode mi pc = some (.ifCond .eq f)) (hj : zjmp pc f = some t) : zG mi pc L (.int x :: S) z h Q ↔ (x = zi 0 → zG mi t L S z h Q) ∧ (¬ (x = zi 0) → zG mi (pc + 3) L S z h Q) := by
  rw [zi_0]
  by_cases hx : x = 0
  · rw [zG_stp hc rfl rfl (show zstp _ _ _ _ _ _ _ = some (t, L, S, z, h) by unfold zstp; simp only [hj, zc2, decide_eq_true hx, cond_true])]
    exact ⟨fun k => ⟨fun _ => k, fun n => absurd hx n⟩, fun k => k.1 hx⟩
  · rw [zG_stp hc rfl rfl (show zstp _ _ _ _ _ _ _ = some (pc + 3, L, S, z, h) by unfold zstp; simp only [hj, zc2, decide_eq_false hx, cond_false])]
    exact ⟨fun k => ⟨fun n => absurd n hx, fun _ => k⟩, fun k => k.2 hx⟩
theorem gG_icmp_eq {x y : Int32} {f : Int} (hc : zcode mi pc = some (.if_icmp .eq f)) (hj : zjmp pc f = some t) : zG mi pc L (.int y :: .int x :: S) z h Q ↔ (x = y → zG mi t L S z h Q) ∧ (¬ (x = y) → zG mi (pc + 3) L S z h Q) := by
  by_cases hx : x = y
  · rw [zG_stp hc rfl rfl (show zstp _ _ _ _ _ _ _ = some (t, L, S, z, h) by unfold zstp; simp only [hj, zc2, decide_eq_true hx, cond_true])]
    exact ⟨fun k => ⟨fun _ => k, fun n => absurd hx n⟩, fun k => k.1 hx⟩
  · rw [zG_stp hc rfl rfl (show zstp _ _ _ _ _ _ _ = some (pc + 3, L, S, z, h) by unfold zstp; simp only [hj, zc2, decide_eq_false hx, cond_false])]
    exact ⟨fun k => ⟨fun n => absurd n hx, fun _ => k⟩, fun k => k.2 hx⟩
theorem gG_if_ne {x : Int32} {f : Int} (hc : zcode mi pc = some (.ifCond .ne f)) (hj : zjmp pc f = some t) : zG mi pc L (.int x :: S) z h Q ↔ (¬ x = zi 0 → zG mi t L S z h Q) ∧ (¬ (¬ x = zi 0) → zG mi (pc + 3) L S z h Q) := by
  rw [zi_0]
  by_cases hx : ¬ x = 0
  · rw [zG_stp hc rfl rfl (show zstp _ _ _ _ _ _ _ = some (t, L, S, z, h) by unfold zstp; simp only [hj, zc2, decide_eq_true hx, cond_true])]
    exact ⟨fun k => ⟨fun _ => k, fun n => absurd hx n⟩, fun k => k.1 hx⟩
  · rw [zG_stp hc rfl rfl (show zstp _ _ _ _ _ _ _ = some (pc + 3, L, S, z, h) by unfold zstp; simp only [hj, zc2, decide_eq_false hx, cond_false])]
    exact ⟨fun k => ⟨fun n => absurd n hx, fun _ => k⟩, fun k => k.2 hx⟩
theorem gG_icmp_ne {x y : Int32} {f : Int} (hc : zcode mi pc = some (.if_icmp .ne f)) (hj : zjmp pc f = some t) : zG mi pc L (.int y :: .int x :: S) z h Q ↔ (¬ x = y → zG mi t L S z h Q) ∧ (¬ (¬ x = y) → zG mi (pc + 3) L S z h Q) := by
  by_cases hx : ¬ x = y
  · rw [zG_stp hc rfl rfl (show zstp _ _ _ _ _ _ _ = some (t, L, S, z, h) by unfold zstp; simp only [hj, zc2, decide_eq_true hx, cond_true])]
    exact ⟨fun k => ⟨fun _ => k, fun n => absurd hx n⟩, fun k => k.1 hx⟩
  · rw [zG_stp hc rfl rfl (show zstp _ _ _ _ _ _ _ = some (pc + 3, L, S, z, h) by unfold zstp; simp only [hj, zc2, decide_eq_false hx, cond_false])]
    exact ⟨fun k => ⟨fun n => absurd n hx, fun _ => k⟩, fun k => k.2 hx⟩
theorem gG_if_lt {x : Int32} {f : Int} (hc : zcode mi pc = some (.ifCond .lt f)) (hj : zjmp pc f = some t) : zG mi pc L (.int x :: S) z h Q ↔ (x < zi 0 → zG mi t L S z h Q) ∧ (¬ (x < zi 0) → zG mi (pc + 3) L S z h Q) := by
  rw [zi_0]
  by_cases hx : x < 0
  · rw [zG_stp hc rfl rfl (show zstp _ _ _ _ _ _ _ = some (t, L, S, z, h) by unfold zstp; simp only [hj, zc2, decide_eq_true hx, cond_true])]
    exact ⟨fun k => ⟨fun _ => k, fun n => absurd hx n⟩, fun k => k.1 hx⟩
  · rw [zG_stp hc rfl rfl (show zstp _ _ _ _ _ _ _ = some (pc + 3, L, S, z, h) by unfold zstp; simp only [hj, zc2, decide_eq_false hx, cond_false])]
    exact ⟨fun k => ⟨fun n => absurd n hx, fun _ => k⟩, fun k => k.2 hx⟩
theorem gG_icmp_lt {x y : Int32} {f : Int} (hc : zcode mi pc = some (.if_icmp .lt f)) (hj : zjmp pc f = some t) : zG mi pc L (.int y :: .int x :: S) z h Q ↔ (x < y → zG mi t L S z h Q) ∧ (¬ (x < y) → zG mi (pc + 3) L S z h Q) := by
  by_cases hx : x < y
  · rw [zG_stp hc rfl rfl (show zstp _ _ _ _ _ _ _ = some (t, L, S, z, h) by unfold zstp; simp only [hj, zc2, decide_eq_true hx, cond_true])]
    exact ⟨fun k => ⟨fun _ => k, fun n => absurd hx n⟩, fun k => k.1 hx⟩
  · rw [zG_stp hc rfl rfl (show zstp _ _ _ _ _ _ _ = some (pc + 3, L, S, z, h) by unfold zstp; simp only [hj, zc2, decide_eq_false hx, cond_false])]
    exact ⟨fun k => ⟨fun n => absurd n hx, fun _ => k⟩, fun k => k.2 hx⟩
theorem gG_if_ge {x : Int32} {f : Int} (hc : zcode mi pc = some (.ifCond .ge f)) (hj : zjmp pc f = some t) : zG mi pc L (.int x :: S) z h Q ↔ (zi 0 ≤ x → zG mi t L S z h Q) ∧ (¬ (zi 0 ≤ x) → zG mi (pc + 3) L S z h Q) := by
  rw [zi_0]
  by_cases hx : 0 ≤ x
  · rw [zG_stp hc rfl rfl (show zstp _ _ _ _ _ _ _ = some (t, L, S, z, h) by unfold zstp; simp only [hj, zc2, decide_eq_true hx, cond_true])]
    exact ⟨fun k => ⟨fun _ => k, fun n => absurd hx n⟩, fun k => k.1 hx⟩
  · rw [zG_stp hc rfl rfl (show zstp _ _ _ _ _ _ _ = some (pc + 3, L, S, z, h) by unfold zstp; simp only [hj, zc2, decide_eq_false hx, cond_false])]
    exact ⟨fun k => ⟨fun n => absurd n hx, fun _ => k⟩, fun k => k.2 hx⟩
theorem gG_icmp_ge {x y : Int32} {f : Int} (hc : zcode mi pc = some (.if_icmp .ge f)) (hj : zjmp pc f = some t) : zG mi pc L (.int y :: .int x :: S) z h Q ↔ (y ≤ x → zG mi t L S z h Q) ∧ (¬ (y ≤ x) → zG mi (pc + 3) L S z h Q) := by
  by_cases hx : y ≤ x
  · rw [zG_stp hc rfl rfl (show zstp _ _ _ _ _ _ _ = some (t, L, S, z, h) by unfold zstp; simp only [hj, zc2, decide_eq_true hx, cond_true])]
    exact ⟨fun k => ⟨fun _ => k, fun n => absurd hx n⟩, fun k => k.1 hx⟩
  · rw [zG_stp hc rfl rfl (show zstp _ _ _ _ _ _ _ = some (pc + 3, L, S, z, h) by unfold zstp; simp only [hj, zc2, decide_eq_false hx, cond_false])]
    exact ⟨fun k => ⟨fun n => absurd n hx, fun _ => k⟩, fun k => k.2 hx⟩
theorem gG_if_gt {x : Int32} {f : Int} (hc : zcode mi pc = some (.ifCond .gt f)) (hj : zjmp pc f = some t) : zG mi pc L (.int x :: S) z h Q ↔ (zi 0 < x → zG mi t L S z h Q) ∧ (¬ (zi 0 < x) → zG mi (pc + 3) L S z h Q) := by
  rw [zi_0]
  by_cases hx : 0 < x
  · rw [zG_stp hc rfl rfl (show zstp _ _ _ _ _ _ _ = some (t, L, S, z, h) by unfold zstp; simp only [hj, zc2, decide_eq_true hx, cond_true])]
    exact ⟨fun k => ⟨fun _ => k, fun n => absurd hx n⟩, fun k => k.1 hx⟩
  · rw [zG_stp hc rfl rfl (show zstp _ _ _ _ _ _ _ = some (pc + 3, L, S, z, h) by unfold zstp; simp only [hj, zc2, decide_eq_false hx, cond_false])]
    exact ⟨fun k => ⟨fun n => absurd n hx, fun _ => k⟩, fun k => k.2 hx⟩
theorem gG_icmp_gt {x y : Int32} {f : Int} (hc : zcode mi pc = some (.if_icmp .gt f)) (hj : zjmp pc f = some t) : zG mi pc L (.int y :: .int x :: S) z h Q ↔ (y < x → zG mi t L S z h Q) ∧ (¬ (y < x) → zG mi (pc + 3) L S z h Q) := by
  by_cases hx : y < x
  · rw [zG_stp hc rfl rfl (show zstp _ _ _ _ _ _ _ = some (t, L, S, z, h) by unfold zstp; simp only [hj, zc2, decide_eq_true hx, cond_true])]
    exact ⟨fun k => ⟨fun _ => k, fun n => absurd hx n⟩, fun k => k.1 hx⟩
  · rw [zG_stp hc rfl rfl (show zstp _ _ _ _ _ _ _ = some (pc + 3, L, S, z, h) by unfold zstp; simp only [hj, zc2, decide_eq_false hx, cond_false])]
    exact ⟨fun k => ⟨fun n => absurd n hx, fun _ => k⟩, fun k => k.2 hx⟩
theorem gG_if_le {x : Int32} {f : Int} (hc : zcode mi pc = some (.ifCond .le f)) (hj : zjmp pc f = some t) : zG mi pc L (.int x :: S) z h Q ↔ (x ≤ zi 0 → zG mi t L S z h Q) ∧ (¬ (x ≤ zi 0) → zG mi (pc + 3) L S z h Q) := by
  rw [zi_0]
  by_cases hx : x ≤ 0
  · rw [zG_stp hc rfl rfl (show zstp _ _ _ _ _ _ _ = some (t, L, S, z, h) by unfold zstp; simp only [hj, zc2, decide_eq_true hx, cond_true])]
    exact ⟨fun k => ⟨fun _ => k, fun n => absurd hx n⟩, fun k => k.1 hx⟩
  · rw [zG_stp hc rfl rfl (show zstp _ _ _ _ _ _ _ = some (pc + 3, L, S, z, h) by unfold zstp; simp only [hj, zc2, decide_eq_false hx, cond_false])]
    exact ⟨fun k => ⟨fun n => absurd n hx, fun _ => k⟩, fun k => k.2 hx⟩
theorem gG_icmp_le {x y : Int32} {f : Int} (hc : zcode mi pc = some (.if_icmp .le f)) (hj : zjmp pc f = some t) : zG mi pc L (.int y :: .int x :: S) z h Q ↔ (x ≤ y → zG mi t L S z h Q) ∧ (¬ (x ≤ y) → zG mi (pc + 3) L S z h Q) := by
  by_cases hx : x ≤ y
  · rw [zG_stp hc rfl rfl (show zstp _ _ _ _ _ _ _ = some (t, L, S, z, h) by unfold zstp; simp only [hj, zc2, decide_eq_true hx, cond_true])]
    exact ⟨fun k => ⟨fun _ => k, fun n => absurd hx n⟩, fun k => k.1 hx⟩
  · rw [zG_stp hc rfl rfl (show zstp _ _ _ _ _ _ _ = some (pc + 3, L, S, z, h) by unfold zstp; simp only [hj, zc2, decide_eq_false hx, cond_false])]
    exact ⟨fun k => ⟨fun n => absurd n hx, fun _ => k⟩, fun k => k.2 hx⟩
def zswP (x : Int32) (K : Nat → Prop) : List (Int × Nat) → Nat → Prop
  | [], d => K d
  | q :: r, d => (x = zi q.1 → K q.2) ∧ (¬ x = zi q.1 → zswP x K r d)
/-- where a number goes -/
def zswT (x : Int32) : List (Int × Nat) → Nat → Nat
  | [], d => d
  | q :: r, d => if x = zi q.1 then q.2 else zswT x r d
theorem zswP_T {x : Int32} {K : Nat → Prop} : ∀ {l : List (Int × Nat)} {d : Nat}, zswP x K l d ↔ K (zswT x l d)
  | [], d => Iff.rfl
  | q :: r, d => by
    unfold zswP zswT
    by_cases hx : x = zi q.1
    · rw [if_pos hx]
      exact ⟨fun k => k.1 hx, fun k => ⟨fun _ => k, fun n => absurd hx n⟩⟩
    · rw [if_neg hx]
      have ih := zswP_T (x := x) (K := K) (l := r) (d := d)
      rw [← ih]
      exact ⟨fun k => k.2 hx, fun k => ⟨fun n => absurd n hx, fun _ => k⟩⟩
theorem zi_toInt {n : Int} (h1 : -2147483648 ≤ n) (h2 : n < 2147483648) : (zi n).toInt = n := by
  exact Int32.toInt_ofInt_of_le (by omega) (by omega)
def zinR (n : Int) : Bool := decide (-2147483648 ≤ n) && decide (n < 2147483648)
theorem zi_eqv {x : Int32} {n : Int} (hn : zinR n = true) : x = zi n ↔ x.toInt = n := by
  simp only [zinR, Bool.and_eq_true, decide_eq_true_eq] at hn
  constructor
  · intro e; rw [e, zi_toInt hn.1 hn.2]
  · intro e; apply Int32.toInt_inj.mp; rw [e, zi_toInt hn.1 hn.2]
/-- the table switch's targets, by program -/
def ztsw (pc : Nat) (lo : Int) : List Int → List (Int × Nat)
  | [] => []
  | f :: r => (lo, ((pc : Int) + f).toNat) :: ztsw pc (lo + 1) r
def ztswok (pc : Nat) (lo : Int) : List Int → Bool
  | [] => true
  | f :: r => zinR lo && decide (0 ≤ (pc : Int) + f) && ztswok pc (lo + 1) r
theorem ztsw_at (pc : Nat) (d : Nat) : ∀ (l : List Int) (lo : Int) (x : Int32), ztswok pc lo l = true → zswT x (ztsw pc lo l) d = (if x.toInt < lo ∨ lo + l.length ≤ x.toInt then d else match l[(x.toInt - lo).toNat]? with
    | some f => ((pc : Int) + f).toNat
    | none => d)
  | [], lo, x, _ => by
    simp [ztsw, zswT]
  | f :: r, lo, x, hk => by
    simp only [ztswok, Bool.and_eq_true, decide_eq_true_eq] at hk
    obtain ⟨⟨k1, k2⟩, k3⟩ := hk
    unfold ztsw zswT
    simp only
    by_cases hx : x = zi lo
    · rw [if_pos hx]
      have e := (zi_eqv k1).mp hx
      rw [if_neg (by simp only [List.length_cons]; omega), e, Int.sub_self]
      rfl
    · rw [if_neg hx, ztsw_at pc d r (lo + 1) x k3]
      have e : ¬ x.toInt = lo := fun q => hx ((zi_eqv k1).mpr q)
      by_cases hr : x.toInt < lo + 1 ∨ lo + 1 + r.length ≤ x.toInt
      · rw [if_pos hr, if_pos (by simp only [List.length_cons]; omega)]
      · rw [if_neg hr, if_neg (by simp only [List.length_cons]; omega)]
        have e2 : (x.toInt - lo).toNat = (x.toInt - (lo + 1)).toNat + 1 := by omega
        rw [e2, List.getElem?_cons_succ]
theorem ztswok_at (pc : Nat) : ∀ (l : List Int) (lo : Int), ztswok pc lo l = true → ∀ f ∈ l, 0 ≤ (pc : Int) + f
  | [], _, _, _, h => by cases h
  | g :: r, lo, hk, f, hf => by
    simp only [ztswok, Bool.and_eq_true, decide_eq_true_eq] at hk
    rcases List.mem_cons.mp hf with rfl | h
    · exact hk.1.2
    · exact ztswok_at pc r (lo + 1) hk.2 f h
theorem gG_tsw {x : Int32} {d lo hi : Int} {offs : Array Int} (hc : zcode mi pc = some (.tableswitch d lo hi offs)) (hk : (ztswok pc lo offs.toList && decide (lo + offs.toList.length = hi + 1) && decide (0 ≤ (pc : Int) + d)) = true) {ps : List (Int × Nat)} (hps : ztsw pc lo offs.toList = ps) (hd : ((pc : Int) + d).toNat = t) : zG mi pc L (.int x :: S) z h Q ↔ zswP x (fun t => zG mi t L S z h Q) ps t := by
  simp only [Bool.and_eq_true, decide_eq_true_eq] at hk
  obtain ⟨⟨k1, k2⟩, k3⟩ := hk
  subst hps
  subst hd
  rw [zswP_T, ztsw_at pc _ _ _ _ k1]
  by_cases hx : x.toInt < lo ∨ hi < x.toInt
  · rw [if_pos (by omega)]
    exact zG_stp hc rfl rfl (by unfold zstp; simp only [if_pos hx, zjmp, if_pos k3])
  · rw [if_neg (by omega)]
    have hlt : (x.toInt - lo).toNat < offs.toList.length := by omega
    have hg : offs[(x.toInt - lo).toNat]? = some (offs.toList[(x.toInt - lo).toNat]) := by rw [← Array.getElem?_toList, List.getElem?_eq_getElem hlt]
    have hg2 : offs.toList[(x.toInt - lo).toNat]? = some (offs.toList[(x.toInt - lo).toNat]) := List.getElem?_eq_getElem hlt
    rw [hg2]
    exact zG_stp hc rfl rfl (by unfold zstp; simp only [if_neg hx, hg, zjmp, if_pos (ztswok_at pc _ _ k1 _ (List.getElem_mem hlt))])
def zlsw (pc : Nat) (l : List (Int × Int)) : List (Int × Nat) := l.map fun q => (q.1, ((pc : Int) + q.2).toNat)
def zlswok (pc : Nat) (l : List (Int × Int)) : Bool := l.all fun q => zinR q.1 && decide (0 ≤ (pc : Int) + q.2)
theorem zlsw_at (pc : Nat) (d : Int) (hd : 0 ≤ (pc : Int) + d) : ∀ (l : List (Int × Int)) (x : Int32), zlswok pc l = true → zjmp pc (Op.lookupswitch.offset l d x.toInt) = some (zswT x (zlsw pc l) ((pc : Int) + d).toNat)
  | [], x, _ => by
    show zjmp pc d = _
    simp only [zjmp, if_pos hd]
    rfl
  | q :: r, x, hk => by
    obtain ⟨a, f⟩ := q
    have hk2 : zlswok pc ((a, f) :: r) = true := hk
    simp only [zlswok, List.all_cons, Bool.and_eq_true, decide_eq_true_eq] at hk2
    obtain ⟨⟨k1, k2⟩, k3⟩ := hk2
    rw [Op.lookupswitch.offset_cons]
    show _ = some (if x = zi a then ((pc : Int) + f).toNat else zswT x (zlsw pc r) _)
    by_cases hx : x = zi a
    · rw [if_pos hx, if_pos ((zi_eqv k1).mp hx).symm]
      simp only [zjmp, if_pos k2]
    · rw [if_neg hx, if_neg (fun e => hx ((zi_eqv k1).mpr e.symm))]
      exact zlsw_at pc d hd r x (by simpa only [zlswok] using k3)
theorem gG_lsw {x : Int32} {d : Int} {qs : Array (Int × Int)} (hc : zcode mi pc = some (.lookupswitch d qs)) (hk : (zlswok pc qs.toList && decide (0 ≤ (pc : Int) + d) && (qs.toList.zip (qs.toList.drop 1)).all (fun (a, next) => a.1 < next.1)) = true) {ps : List (Int × Nat)} (hps : zlsw pc qs.toList = ps) (hd : ((pc : Int) + d).toNat = t) : zG mi pc L (.int x :: S) z h Q ↔ zswP x (fun t => zG mi t L S z h Q) ps t := by
  simp only [Bool.and_eq_true, decide_eq_true_eq] at hk
  obtain ⟨⟨k1, k2⟩, k3⟩ := hk
  subst hps
  subst hd
  rw [zswP_T]
  refine zG_stp hc rfl rfl ?_
  unfold zstp
  simp only [if_pos k3, zlsw_at pc d k2 _ x k1]

theorem gG_getf0 {k ci j a : Nat} {b : Int} (hc : zcode mi pc = some (.getfield k)) (hp : zpool mi k = some (0, ci, j, b)) : zG mi pc L (.ref a :: S) z h Q ↔ zB (zget ci j (h a)) fun v => zG mi (pc + 3) L (v :: S) z h Q := by
  cases hv : zget ci j (h a) with
  | none => rw [zB_none]; exact zG_bad hc rfl rfl (by unfold zstp; simp only [hv, hp])
  | some v => rw [zB_some]; exact zG_stp hc rfl rfl (by unfold zstp; simp only [hv, hp])
theorem gG_getf1 {k ci j a : Nat} {b : Int} (hc : zcode mi pc = some (.getfield k)) (hp : zpool mi k = some (1, ci, j, b)) : zG mi pc L (.ref a :: S) z h Q ↔ zB (zget ci j (h a)) fun v => zG mi (pc + 3) L (v :: S) z h Q := by
  cases hv : zget ci j (h a) with
  | none => rw [zB_none]; exact zG_bad hc rfl rfl (by unfold zstp; simp only [hv, hp])
  | some v => rw [zB_some]; exact zG_stp hc rfl rfl (by unfold zstp; simp only [hv, hp])
theorem gG_putf0 {k ci j a : Nat} {b : Int} {x : Value} (hc : zcode mi pc = some (.putfield k)) (hp : zpool mi k = some (0, ci, j, b)) : zG mi pc L (x :: .ref a :: S) z h Q ↔ zB (zput ci j x (h a)) fun v => zG mi (pc + 3) L S z (zup h a v) Q := by
  cases hv : zput ci j x (h a) with
  | none => rw [zB_none]; exact zG_bad hc rfl rfl (by unfold zstp; simp only [hv, hp])
  | some v => rw [zB_some]; exact zG_stp hc rfl rfl (by unfold zstp; simp only [hv, hp])
theorem gG_putf1 {k ci j a : Nat} {b : Int} {x : Value} (hc : zcode mi pc = some (.putfield k)) (hp : zpool mi k = some (1, ci, j, b)) (hi : zisI mi = true ∧ zoc mi = ci) : zG mi pc L (x :: .ref a :: S) z h Q ↔ zB (zput ci j x (h a)) fun v => zG mi (pc + 3) L S z (zup h a v) Q := by
  cases hv : zput ci j x (h a) with
  | none => rw [zB_none]; exact zG_bad hc rfl rfl (by unfold zstp; simp only [hv, hp, if_pos hi])
  | some v => rw [zB_some]; exact zG_stp hc rfl rfl (by unfold zstp; simp only [hv, hp, if_pos hi])
theorem gG_iaload {i : Int32} {a : Nat} (hc : zcode mi pc = some (.iaload)) : zG mi pc L (.int i :: .ref a :: S) z h Q ↔ zB (zald 0 i (h a)) fun v => zG mi (pc + 1) L (.int v :: S) z h Q := by
  cases hv : zald 0 i (h a) with
  | none => rw [zB_none]; exact zG_bad hc rfl rfl (by unfold zstp; simp only [hv])
  | some v => rw [zB_some]; exact zG_stp hc rfl rfl (by unfold zstp; simp only [hv])
theorem gG_caload {i : Int32} {a : Nat} (hc : zcode mi pc = some (.caload)) : zG mi pc L (.int i :: .ref a :: S) z h Q ↔ zB (zald 2 i (h a)) fun v => zG mi (pc + 1) L (.int v :: S) z h Q := by
  cases hv : zald 2 i (h a) with
  | none => rw [zB_none]; exact zG_bad hc rfl rfl (by unfold zstp; simp only [hv])
  | some v => rw [zB_some]; exact zG_stp hc rfl rfl (by unfold zstp; simp only [hv])
theorem gG_baload {i : Int32} {a : Nat} (hc : zcode mi pc = some (.baload)) : zG mi pc L (.int i :: .ref a :: S) z h Q ↔ zB (zald 3 i (h a)) fun v => zG mi (pc + 1) L (.int v :: S) z h Q := by
  cases hv : zald 3 i (h a) with
  | none => rw [zB_none]; exact zG_bad hc rfl rfl (by unfold zstp; simp only [hv])
  | some v => rw [zB_some]; exact zG_stp hc rfl rfl (by unfold zstp; simp only [hv])
theorem gG_aaload {i : Int32} {a : Nat} (hc : zcode mi pc = some (.aaload)) : zG mi pc L (.int i :: .ref a :: S) z h Q ↔ zB (zldr i (h a)) fun v => zG mi (pc + 1) L (v :: S) z h Q := by
  cases hv : zldr i (h a) with
  | none => rw [zB_none]; exact zG_bad hc rfl rfl (by unfold zstp; simp only [hv])
  | some v => rw [zB_some]; exact zG_stp hc rfl rfl (by unfold zstp; simp only [hv])
theorem gG_iastore {i x : Int32} {a : Nat} (hc : zcode mi pc = some (.iastore)) : zG mi pc L (.int x :: .int i :: .ref a :: S) z h Q ↔ zB (zast 0 i x (h a)) fun v => zG mi (pc + 1) L S z (zup h a v) Q := by
  cases hv : zast 0 i x (h a) with
  | none => rw [zB_none]; exact zG_bad hc rfl rfl (by unfold zstp; simp only [hv])
  | some v => rw [zB_some]; exact zG_stp hc rfl rfl (by unfold zstp; simp only [hv])
theorem gG_castore {i x : Int32} {a : Nat} (hc : zcode mi pc = some (.castore)) : zG mi pc L (.int x :: .int i :: .ref a :: S) z h Q ↔ zB (zast 2 i x (h a)) fun v => zG mi (pc + 1) L S z (zup h a v) Q := by
  cases hv : zast 2 i x (h a) with
  | none => rw [zB_none]; exact zG_bad hc rfl rfl (by unfold zstp; simp only [hv])
  | some v => rw [zB_some]; exact zG_stp hc rfl rfl (by unfold zstp; simp only [hv])
theorem gG_bastore {i x : Int32} {a : Nat} (hc : zcode mi pc = some (.bastore)) : zG mi pc L (.int x :: .int i :: .ref a :: S) z h Q ↔ zB (zast 3 i x (h a)) fun v => zG mi (pc + 1) L S z (zup h a v) Q := by
  cases hv : zast 3 i x (h a) with
  | none => rw [zB_none]; exact zG_bad hc rfl rfl (by unfold zstp; simp only [hv])
  | some v => rw [zB_some]; exact zG_stp hc rfl rfl (by unfold zstp; simp only [hv])
theorem gG_aastore {i : Int32} {x a : Nat} (hc : zcode mi pc = some (.aastore)) : zG mi pc L (.ref x :: .int i :: .ref a :: S) z h Q ↔ zB (zstr i x (h x) (h a)) fun v => zG mi (pc + 1) L S z (zup h a v) Q := by
  cases hv : zstr i x (h x) (h a) with
  | none => rw [zB_none]; exact zG_bad hc rfl rfl (by unfold zstp; simp only [hv])
  | some v => rw [zB_some]; exact zG_stp hc rfl rfl (by unfold zstp; simp only [hv])
theorem gG_alen {a : Nat} (hc : zcode mi pc = some (.arraylength)) : zG mi pc L (.ref a :: S) z h Q ↔ zB (zaln (h a)) fun v => zG mi (pc + 1) L (.int v :: S) z h Q := by
  cases hv : zaln (h a) with
  | none => rw [zB_none]; exact zG_bad hc rfl rfl (by unfold zstp; simp only [hv])
  | some v => rw [zB_some]; exact zG_stp hc rfl rfl (by unfold zstp; simp only [hv])
theorem gG_new {k ci a : Nat} {b : Int} {fs : List Value} (hc : zcode mi pc = some (.new k)) (hp : zpool mi k = some (2, ci, a, b)) (hf : zDef[ci]? = some fs) : zG mi pc L S z h Q ↔ zG mi (pc + 3) L (.ref z.1 :: S) (z.1 + 1, z.2.1 + fs.length, z.2.2) (zup h z.1 (.inr (ci, fs))) Q := zG_stp hc rfl rfl (by unfold zstp; simp only [hp, hf])
theorem gG_newa {ty : ArrayType} {n : Int32} (hc : zcode mi pc = some (.newarray ty)) (hn : zaty ty < 4 ∧ 0 ≤ n.toInt ∧ n.toInt < 10000) : zG mi pc L (.int n :: S) z h Q ↔ zG mi (pc + 2) L (.ref z.1 :: S) (z.1 + 1, z.2.1 + n.toNatClampNeg, z.2.2) (zup h z.1 (znew (zaty ty) n.toNatClampNeg)) Q := zG_stp hc rfl rfl (by unfold zstp; simp only [if_pos hn])
theorem gG_anew {k t a : Nat} {b : Int} {n : Int32} (hc : zcode mi pc = some (.anewarray k)) (hp : zpool mi (k + 100000) = some (3, t, a, b)) (hn : 0 ≤ n.toInt ∧ n.toInt < 10000) : zG mi pc L (.int n :: S) z h Q ↔ zG mi (pc + 3) L (.ref z.1 :: S) (z.1 + 1, z.2.1 + n.toNatClampNeg, z.2.2) (zup h z.1 (.inl (t, n.toNatClampNeg, .inr (.inr (.inr (.inr fun _ => none)))))) Q := zG_stp hc rfl rfl (by unfold zstp; simp only [hp, if_pos hn])
theorem gG_iret {v : Int32} (hc : zcode mi pc = some .ireturn) (hr : zrty mi = some .int) : zG mi pc L [.int v] z h Q ↔ Q (some (.int v)) z h := zG_ret hc rfl (by unfold zret; simp only [hr]; exact if_pos rfl)
theorem gG_bret {v : Int32} (hc : zcode mi pc = some .ireturn) (hr : zrty mi = some .boolean) : zG mi pc L [.int v] z h Q ↔ narrow .boolean (.int v) = .int v ∧ Q (some (.int v)) z h := by
  by_cases hn : narrow .boolean (.int v) = .int v
  · rw [zG_ret hc rfl (show zret _ _ _ = some (some (.int v)) by unfold zret; simp only [hr, if_pos hn])]
    exact ⟨fun k => ⟨hn, k⟩, fun k => k.2⟩
  · rw [zG_bad hc rfl (by unfold zret; simp only [hr, if_neg hn]) rfl]
    exact ⟨fun k => k.elim, fun k => hn k.1⟩
theorem gG_cret {v : Int32} (hc : zcode mi pc = some .ireturn) (hr : zrty mi = some .char) : zG mi pc L [.int v] z h Q ↔ narrow .char (.int v) = .int v ∧ Q (some (.int v)) z h := by
  by_cases hn : narrow .char (.int v) = .int v
  · rw [zG_ret hc rfl (show zret _ _ _ = some (some (.int v)) by unfold zret; simp only [hr, if_pos hn])]
    exact ⟨fun k => ⟨hn, k⟩, fun k => k.2⟩
  · rw [zG_bad hc rfl (by unfold zret; simp only [hr, if_neg hn]) rfl]
    exact ⟨fun k => k.elim, fun k => hn k.1⟩
theorem gG_lret {v : Int64} (hc : zcode mi pc = some .lreturn) (hr : zrty mi = some .long) : zG mi pc L [.long v] z h Q ↔ Q (some (.long v)) z h := zG_ret hc rfl (by unfold zret; simp only [hr])
theorem gG_aret {v : Nat} {C : String} (hc : zcode mi pc = some .areturn) (hr : zrty mi = some (.object C)) : zG mi pc L [.ref v] z h Q ↔ Q (some (.ref v)) z h := zG_ret hc rfl (by unfold zret; simp only [hr])
theorem gG_vret (hc : zcode mi pc = some .return_) (hr : zrty mi = none) : zG mi pc L [] z h Q ↔ Q none z h := zG_ret hc rfl (by unfold zret; simp only [hr])
theorem zcall_prim {k q a b : Nat} {c : Int} {S : List Value} (hp : zpool mi k = some (q, a, b, c)) (hq : 14 < q) : zcall mi (.invokevirtual k) S h = none ∧ zcall mi (.invokespecial k) S h = none ∧ zcall mi (.invokestatic k) S h = none := by
  refine ⟨?_, ?_, ?_⟩ <;> (unfold zcall; simp only [hp]; split <;> first | rfl | (rename_i he; simp only [Option.some.injEq, Prod.mk.injEq] at he; omega))
theorem gG_oinit {k b a : Nat} {b2 : Nat} {c : Int} (hc : zcode mi pc = some (.invokespecial k)) (hp : zpool mi k = some (15, b, b2, c)) (hr : 0 < zrk mi) : zG mi pc L (.ref a :: S) z h Q ↔ zcat S ≤ 8 ∧ zG mi (pc + 3) L S z h Q := by
  by_cases hs : zcat S ≤ 8
  · rw [zG_stp hc (zcall_prim hp (by decide)).2.1 rfl (show zstp _ _ _ _ _ _ _ = some (pc + 3, L, S, z, h) by unfold zstp; simp only [hp, hs, hr, and_self, if_true])]
    exact ⟨fun k => ⟨hs, k⟩, fun k => k.2⟩
  · rw [zG_bad hc (zcall_prim hp (by decide)).2.1 rfl (by unfold zstp; simp only [hp, hs, false_and, if_false])]
    exact ⟨fun k => k.elim, fun k => hs k.1⟩
theorem gG_min {k b b2 : Nat} {c : Int} {x y : Int32} (hc : zcode mi pc = some (.invokestatic k)) (hp : zpool mi k = some (16, b, b2, c)) (hr : 0 < zrk mi) : zG mi pc L (.int y :: .int x :: S) z h Q ↔ zcat S ≤ 8 ∧ zG mi (pc + 3) L (.int (if y < x then y else x) :: S) z h Q := by
  by_cases hs : zcat S ≤ 8
  · rw [zG_stp hc (zcall_prim hp (by decide)).2.2 rfl (show zstp _ _ _ _ _ _ _ = some (pc + 3, L, .int (if y < x then y else x) :: S, z, h) by unfold zstp; simp only [hp, hs, hr, and_self, if_true])]
    exact ⟨fun k => ⟨hs, k⟩, fun k => k.2⟩
  · rw [zG_bad hc (zcall_prim hp (by decide)).2.2 rfl (by unfold zstp; simp only [hp, hs, false_and, if_false])]
    exact ⟨fun k => k.elim, fun k => hs k.1⟩
theorem gG_max {k b b2 : Nat} {c : Int} {x y : Int32} (hc : zcode mi pc = some (.invokestatic k)) (hp : zpool mi k = some (17, b, b2, c)) (hr : 0 < zrk mi) : zG mi pc L (.int y :: .int x :: S) z h Q ↔ zcat S ≤ 8 ∧ zG mi (pc + 3) L (.int (if x < y then y else x) :: S) z h Q := by
  by_cases hs : zcat S ≤ 8
  · rw [zG_stp hc (zcall_prim hp (by decide)).2.2 rfl (show zstp _ _ _ _ _ _ _ = some (pc + 3, L, .int (if x < y then y else x) :: S, z, h) by unfold zstp; simp only [hp, hs, hr, and_self, if_true])]
    exact ⟨fun k => ⟨hs, k⟩, fun k => k.2⟩
  · rw [zG_bad hc (zcall_prim hp (by decide)).2.2 rfl (by unfold zstp; simp only [hp, hs, false_and, if_false])]
    exact ⟨fun k => k.elim, fun k => hs k.1⟩
theorem gG_copy {k b b2 : Nat} {c : Int} {n dp sp : Int32} {a d : Nat} (hc : zcode mi pc = some (.invokestatic k)) (hp : zpool mi k = some (18, b, b2, c)) (hr : 0 < zrk mi) : zG mi pc L (.int n :: .int dp :: .ref a :: .int sp :: .ref d :: S) z h Q ↔ zcat S ≤ 8 ∧ zB (zcpy sp dp n (h d) (h a)) fun v => zG mi (pc + 3) L S z (zup h a v) Q := by
  by_cases hs : zcat S ≤ 8
  · cases hv : zcpy sp dp n (h d) (h a) with
    | none =>
      rw [zB_none, zG_bad hc (zcall_prim hp (by decide)).2.2 rfl (by unfold zstp; simp only [hp, hs, hr, hv, and_self, if_true])]
      exact ⟨fun k => k.elim, fun k => k.2⟩
    | some v =>
      rw [zB_some, zG_stp hc (zcall_prim hp (by decide)).2.2 rfl (show zstp _ _ _ _ _ _ _ = some (pc + 3, L, S, z, zup h a v) by unfold zstp; simp only [hp, hs, hr, hv, and_self, if_true])]
      exact ⟨fun k => ⟨hs, k⟩, fun k => k.2⟩
  · rw [zG_bad hc (zcall_prim hp (by decide)).2.2 rfl (by unfold zstp; simp only [hp, hs, false_and, if_false])]
    exact ⟨fun k => k.elim, fun k => hs k.1⟩
theorem gG_slen {k b b2 a : Nat} {c : Int} (hc : zcode mi pc = some (.invokevirtual k)) (hp : zpool mi k = some (19, b, b2, c)) (hr : 3 < zrk mi) : zG mi pc L (.ref a :: S) z h Q ↔ zcat S ≤ 8 ∧ zB (zslen (h a)) fun v => zG mi (pc + 3) L (.int v :: S) z h Q := by
  by_cases hs : zcat S ≤ 8
  · cases hv : zslen (h a) with
    | none =>
      rw [zB_none, zG_bad hc (zcall_prim hp (by decide)).1 rfl (by unfold zstp; simp only [hp, hs, hr, hv, and_self, if_true])]
      exact ⟨fun k => k.elim, fun k => k.2⟩
    | some v =>
      rw [zB_some, zG_stp hc (zcall_prim hp (by decide)).1 rfl (show zstp _ _ _ _ _ _ _ = some (pc + 3, L, .int v :: S, z, h) by unfold zstp; simp only [hp, hs, hr, hv, and_self, if_true])]
      exact ⟨fun k => ⟨hs, k⟩, fun k => k.2⟩
  · rw [zG_bad hc (zcall_prim hp (by decide)).1 rfl (by unfold zstp; simp only [hp, hs, false_and, if_false])]
    exact ⟨fun k => k.elim, fun k => hs k.1⟩
theorem gG_schr {k b b2 a : Nat} {i : Int32} {c : Int} (hc : zcode mi pc = some (.invokevirtual k)) (hp : zpool mi k = some (20, b, b2, c)) (hr : 3 < zrk mi) : zG mi pc L (.int i :: .ref a :: S) z h Q ↔ zcat S ≤ 8 ∧ zB (zschr i (h a)) fun v => zG mi (pc + 3) L (.int v :: S) z h Q := by
  by_cases hs : zcat S ≤ 8
  · cases hv : zschr i (h a) with
    | none =>
      rw [zB_none, zG_bad hc (zcall_prim hp (by decide)).1 rfl (by unfold zstp; simp only [hp, hs, hr, hv, and_self, if_true])]
      exact ⟨fun k => k.elim, fun k => k.2⟩
    | some v =>
      rw [zB_some, zG_stp hc (zcall_prim hp (by decide)).1 rfl (show zstp _ _ _ _ _ _ _ = some (pc + 3, L, .int v :: S, z, h) by unfold zstp; simp only [hp, hs, hr, hv, and_self, if_true])]
      exact ⟨fun k => ⟨hs, k⟩, fun k => k.2⟩
  · rw [zG_bad hc (zcall_prim hp (by decide)).1 rfl (by unfold zstp; simp only [hp, hs, false_and, if_false])]
    exact ⟨fun k => k.elim, fun k => hs k.1⟩
/-- calls -/
theorem gG_callV {k m2 na a M : Nat} {ci : Int} {S0 L0 : List Value} (hc : zcode mi pc = some (.invokevirtual k)) (hp : zpool mi k = some (10, m2, na, ci)) (hd : S0.drop na = .ref a :: S) (hr : zrk m2 < zrk mi) (hM : zmaxL m2 = M) (hl : (zfl (.ref a :: (S0.take na).reverse)).length ≤ M) (hL : zent (.ref a :: (S0.take na).reverse) M = L0) :
    zG mi pc L S0 z h Q ↔ (zisC (h a) ci.toNat = true ∧ zcat S ≤ 8) ∧ zG m2 0 L0 [] z h (fun r z' h' => zG mi (pc + 3) L (r.toList ++ S) z' h' Q) := by
  subst hM
  subst hL
  by_cases hs : zisC (h a) ci.toNat = true ∧ zcat S ≤ 8
  · rw [zG_call hc (show zcall _ _ _ _ = some (m2, .ref a :: (S0.take na).reverse, S) by unfold zcall; simp only [hp, hd, hs.1, hs.2, hr, hl, and_self, if_true])]
    exact ⟨fun k => ⟨hs, k⟩, fun k => k.2⟩
  · rw [zG_bad hc (show zcall _ _ _ _ = none by unfold zcall; simp only [hp, hd]; rw [if_neg (fun q => hs ⟨q.1, q.2.1⟩)]) rfl (by unfold zstp; simp only [hp])]
    exact ⟨fun k => k.elim, fun k => hs k.1⟩
theorem gG_callI {k m2 na a M q : Nat} {ci : Int} {S0 L0 : List Value} (hc : zcode mi pc = some (.invokespecial k)) (hp : zpool mi k = some (q, m2, na, ci)) (hq : q = 12 ∨ q = 14) (hd : S0.drop na = .ref a :: S) (hr : zrk m2 < zrk mi) (hM : zmaxL m2 = M) (hl : (zfl (.ref a :: (S0.take na).reverse)).length ≤ M) (hL : zent (.ref a :: (S0.take na).reverse) M = L0) :
    zG mi pc L S0 z h Q ↔ zcat S ≤ 8 ∧ zG m2 0 L0 [] z h (fun r z' h' => zG mi (pc + 3) L (r.toList ++ S) z' h' Q) := by
  subst hM
  subst hL
  by_cases hs : zcat S ≤ 8
  · rw [zG_call hc (show zcall _ _ _ _ = some (m2, .ref a :: (S0.take na).reverse, S) by unfold zcall; rcases hq with rfl | rfl <;> simp only [hp, hd, hs, hr, hl, and_self, if_true])]
    exact ⟨fun k => ⟨hs, k⟩, fun k => k.2⟩
  · rw [zG_bad hc (show zcall _ _ _ _ = none by unfold zcall; rcases hq with rfl | rfl <;> (simp only [hp, hd]; rw [if_neg (fun q => hs q.1)])) rfl (by unfold zstp; rcases hq with rfl | rfl <;> simp only [hp])]
    exact ⟨fun k => k.elim, fun k => hs k.1⟩
theorem gG_callS {k m2 na M q : Nat} {ci : Int} {S0 L0 : List Value} (hc : zcode mi pc = some (.invokestatic k)) (hp : zpool mi k = some (q, m2, na, ci)) (hq : q = 11 ∨ q = 13) (hn : na ≤ S0.length) (hd : S0.drop na = S) (hr : zrk m2 < zrk mi) (hM : zmaxL m2 = M) (hl : (zfl (S0.take na).reverse).length ≤ M) (hL : zent (S0.take na).reverse M = L0) :
    zG mi pc L S0 z h Q ↔ zcat S ≤ 8 ∧ zG m2 0 L0 [] z h (fun r z' h' => zG mi (pc + 3) L (r.toList ++ S) z' h' Q) := by
  subst hM
  subst hL
  subst hd
  by_cases hs : zcat (S0.drop na) ≤ 8
  · rw [zG_call hc (show zcall _ _ _ _ = some (m2, (S0.take na).reverse, S0.drop na) by unfold zcall; rcases hq with rfl | rfl <;> simp only [hp, hn, hs, hr, hl, and_self, if_true])]
    exact ⟨fun k => ⟨hs, k⟩, fun k => k.2⟩
  · rw [zG_bad hc (show zcall _ _ _ _ = none by unfold zcall; rcases hq with rfl | rfl <;> (simp only [hp]; rw [if_neg (fun q => hs q.2.1)])) rfl (by unfold zstp; rcases hq with rfl | rfl <;> simp only [hp])]
    exact ⟨fun k => k.elim, fun k => hs k.1⟩
end ZG
