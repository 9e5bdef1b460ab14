/-! what the little machine's heap says of the real one -/
/-- from where on the cells are ours; class numbers; field slots; array classes; the String constants' addresses and their arrays' -/
abbrev zE : Type := Nat × (Nat → ClassId) × (Nat → Nat → Nat) × (Nat → ClassId) × (Nat → Nat) × (Nat → Nat)
abbrev zA (E : zE) : Nat → Prop := fun q => E.1 ≤ q
abbrev zD (E : zE) : va_G := (E.2.1, E.2.2.1)
def zSlen : List Nat := zStr.map fun q => q.2.2.length
def zSbyt : List (List Int32) := zStr.map fun q => q.2.2.toList.map fun ch => zi ch.toNat
/-- a String constant's char -/
def zSch (i k : Nat) : Int32 := (zSbyt.getD i []).getD k 0
def zcellP (E : zE) (U : State) (a : Nat) (e : va_E) (H : Heap) : Prop := match e with
  | .inl x => (x.1 < 6 → E.1 ≤ a ∧ H[a]? = some (vp_cell (E.2.2.2.1 x.1) x.2)) ∧
      (x.1 = 9 → a < E.1 ∧ ∃ (f : Nat → Int32) (scr : Cell), x.2.2 = .inl f ∧ H[a]? = some scr ∧ U.isArrayOf scr .int ∧ scr.vm ≠ .unknown ∧ scr.slots.size = x.2.1 ∧ x.2.1 < 2 ^ 31 ∧ ∀ j, j < x.2.1 → scr.slots[j]? = some (.int (f j))) ∧
      (x.1 = 10 → ∃ i, i < 6 ∧ a = E.2.2.2.2.1 i ∧ x.2 = (zSlen.getD i 0, .inl (zSch i)))
  | .inr o => E.1 ≤ a ∧ va_at (zD E) zCls (a, .inr o) H
/-- what stands below ours and is never written: the String constants, two statics of the library's -/
def zSt (_ : zE) (_ : State) (_ : Heap) : Prop := True
theorem zSt.moved {E : zE} {u U : State} {H : Heap} (_ : u.vm.Alike U.vm) (_ : zSt E u H) : zSt E U H := trivial
theorem zSt.kept {E : zE} {U : State} {H H1 : Heap} (_ : zSt E U H) (_ : ∀ a : Nat, a < H.size → ¬ zA E a → H1[a]? = H[a]?) : zSt E U H1 := trivial
def zW (E : zE) (U : State) (z : zZ) (h : zH) (H : Heap) : Prop :=
  H.size = z.1 ∧ E.1 ≤ z.1 ∧ z.2.2 = E.2.2.2.2.1 ∧ (∀ a, zcellP E U a (h a) H) ∧ zSt E U H
def zNst : List (String × Nat × MethodName × String) := (lw_tbl.filterMap fun w => match w with
  | .methodLinkNest a i y b => some (a, i, y, b)
  | _ => none)
def zK (E : zE) (U : State) : Prop :=
  (∀ (k : Nat) (q : vw_C), zCls[k]? = some q → u_Kn U q.1 q.2.1 q.2.2 (E.2.1 k) (E.2.2.1 k)) ∧
  (∀ t, t < 6 → ArrOfT U (E.2.2.2.1 t) (zArr t) ∧ va_RA U (E.2.2.2.1 t) (zArr t) ∧ U.vm.findClass ("[" ++ (zArr t).toString) = some (E.2.2.2.1 t)) ∧
  (∀ q ∈ zNst, va_Nw (.methodLinkNest q.1 q.2.1 q.2.2.1 q.2.2.2) U) ∧
  (∀ (k : Nat) (q : String × Nat × String), zStr[k]? = some q → vk_R q.1 q.2.1 q.2.2 (E.2.2.2.2.1 k) U) ∧
  (∀ t C, zArr t = .object C → va_AO C U)
theorem zcellP.kept {E : zE} {U : State} {a : Nat} {e : va_E} {H H1 : Heap} (h : zcellP E U a e H) (hq : H1[a]? = H[a]?) : zcellP E U a e H1 := by
  cases e with
  | inl x =>
    obtain ⟨h1, h2, h3⟩ := h
    exact ⟨fun t => ⟨(h1 t).1, hq.trans (h1 t).2⟩, fun t => by
      obtain ⟨g0, f, scr, g1, g2, g3⟩ := h2 t
      exact ⟨g0, f, scr, g1, hq.trans g2, g3⟩, h3⟩
  | inr o => exact ⟨h.1, h.2.kept hq⟩
theorem zcellP.moved {E : zE} {u U : State} {a : Nat} {e : va_E} {H : Heap} (hvm : u.vm.Alike U.vm) (h : zcellP E u a e H) : zcellP E U a e H := by
  cases e with
  | inl x =>
    obtain ⟨h1, h2, h3⟩ := h
    exact ⟨h1, fun t => by
      obtain ⟨g0, f, scr, g1, g2, g3, g4⟩ := h2 t
      exact ⟨g0, f, scr, g1, g2, State.isArrayOf_alike hvm g3, g4⟩, h3⟩
  | inr o => exact h
theorem zW.moved {E : zE} {u U : State} {z : zZ} {h : zH} {H : Heap} (hvm : u.vm.Alike U.vm) (w : zW E u z h H) : zW E U z h H :=
  ⟨w.1, w.2.1, w.2.2.1, fun a => (w.2.2.2.1 a).moved hvm, w.2.2.2.2.moved hvm⟩
/-- a cell of ours is written -/
theorem zW.up {E : zE} {U : State} {z : zZ} {h : zH} {H H1 : Heap} {a : Nat} {c : va_E} (w : zW E U z h H) (hc : zcellP E U a c H1) (ha : E.1 ≤ a) (hz : H1.size = H.size) (oq : ∀ q : Nat, q ≠ a → H1[q]? = H[q]?) : zW E U z (zup h a c) H1 := by
  refine ⟨hz.trans w.1, w.2.1, w.2.2.1, fun x => ?_, w.2.2.2.2.kept fun q _ hq => oq q (fun e => hq (by rw [e]; exact ha))⟩
  by_cases hx : x = a
  · subst hx
    simpa [zup] using hc
  · simp only [zup, if_neg hx]
    exact (w.2.2.2.1 x).kept (oq x hx)
/-- a cell is made -/
theorem zW.mk {E : zE} {U : State} {z : zZ} {h : zH} {H H1 : Heap} {c : va_E} {n : Nat} (w : zW E U z h H) (hc : zcellP E U z.1 c H1) (hz : H1.size = z.1 + 1) (oq : ∀ q : Nat, q < z.1 → H1[q]? = H[q]?) : zW E U (z.1 + 1, n, z.2.2) (zup h z.1 c) H1 := by
  have key : ∀ x, x ≠ z.1 → zcellP E U x (h x) H1 := by
    intro x hx
    have h0 := w.2.2.2.1 x
    by_cases hlt : x < z.1
    · exact h0.kept (oq x hlt)
    · have hn : H[x]? = none := by rw [Array.getElem?_eq_none]; rw [w.1]; omega
      have hn1 : H1[x]? = none := by rw [Array.getElem?_eq_none]; rw [hz]; omega
      exact h0.kept (hn1.trans hn.symm)
  refine ⟨hz, Nat.le_trans w.2.1 (Nat.le_succ _), w.2.2.1, fun x => ?_, w.2.2.2.2.kept fun q hq hA => oq q (by rw [w.1] at hq; exact hq)⟩
  by_cases hx : x = z.1
  · subst hx
    simpa [zup] using hc
  · simp only [zup, if_neg hx]
    exact key x hx
theorem zK.moved {E : zE} {s U : State} (hW : s.WarmedH U.vm) (k : zK E s) : zK E U := by
  obtain ⟨k1, k2, k3, k4, k5⟩ := k
  have hvm : s.vm.Alike U.vm := hW.alike
  exact ⟨fun c q hq => u_Kn_moved hvm (k1 c q hq), fun t ht => ⟨arrOfT_moved hvm (k2 t ht).1, (k2 t ht).2.1.moved hvm, by rw [hvm.findClass]; exact (k2 t ht).2.2⟩, fun q hq => va_Nw.warmM hW (k3 q hq), fun i q hq => (k4 i q hq).warm hW, fun t C h => (k5 t C h).moved hvm⟩
theorem zK.K {E : zE} {U : State} (k : zK E U) : va_K (zD E) zCls [(E.2.2.2.1 0, .int), (E.2.2.2.1 1, .int), (E.2.2.2.1 2, .char), (E.2.2.2.1 3, .boolean)] U := by
  refine ⟨k.1, fun i q hq => ?_⟩
  match i, hq with
  | 0, hq => cases hq; exact ⟨(k.2.1 0 (by omega)).1, (k.2.1 0 (by omega)).2.1⟩
  | 1, hq => cases hq; exact ⟨(k.2.1 1 (by omega)).1, (k.2.1 1 (by omega)).2.1⟩
  | 2, hq => cases hq; exact ⟨(k.2.1 2 (by omega)).1, (k.2.1 2 (by omega)).2.1⟩
  | 3, hq => cases hq; exact ⟨(k.2.1 3 (by omega)).1, (k.2.1 3 (by omega)).2.1⟩
  | i + 4, hq => simp at hq
/-! locals -/
def zL (n : Nat) (ls : Array Slot) (L : List Value) : Prop := L.length = n ∧ ls.size = n ∧ lv_wf ls ∧ ∀ (i : Nat) (v : Value), L[i]? = some v → v ≠ zJ → ls[i]? = some (.val v)
def zprs (L : List Value) : List (Nat × Value) := (List.range L.length).filterMap fun j => match L[j]? with
  | some v => if v = zJ then none else some (j, v)
  | none => none
theorem zprs_mem {L : List Value} {j : Nat} {v : Value} : (j, v) ∈ zprs L ↔ L[j]? = some v ∧ v ≠ zJ := by
  constructor
  · intro h
    obtain ⟨a, ha, he⟩ := List.mem_filterMap.mp h
    cases hL : L[a]? with
    | none => simp [hL] at he
    | some w =>
      simp only [hL] at he
      by_cases hw : w = zJ
      · simp [hw] at he
      · simp only [if_neg hw, Option.some.injEq, Prod.mk.injEq] at he
        obtain ⟨rfl, rfl⟩ := he
        exact ⟨hL, hw⟩
  · intro ⟨h1, h2⟩
    refine List.mem_filterMap.mpr ⟨j, List.mem_range.mpr (List.getElem?_eq_some_iff.mp h1).1, ?_⟩
    simp [h1, h2]
theorem zL.has {n : Nat} {ls : Array Slot} {L : List Value} (h : zL n ls L) : lv_has ls n (zprs L) := ⟨h.2.1, h.2.2.1, fun q hq => by
  obtain ⟨h1, h2⟩ := zprs_mem.mp (show (q.1, q.2) ∈ zprs L from hq)
  exact h.2.2.2 _ _ h1 h2⟩
theorem zL.at {n : Nat} {ls : Array Slot} {L : List Value} (h : zL n ls L) {i : Nat} {v : Value} (hi : L[i]? = some v) (hv : v ≠ zJ) : ls[i]? = some (.val v) := h.2.2.2 i v hi hv
theorem zkill_ne {v : Value} (h : zkill v ≠ zJ) : zkill v = v ∧ ¬ v.category = 2 := by
  unfold zkill at h ⊢
  by_cases hc : v.category = 2
  · rw [if_pos hc] at h; exact absurd rfl h
  · exact ⟨if_neg hc, hc⟩
theorem zmod_len (L : List Value) (i : Nat) : (zmd L i).length = L.length := by
  cases i <;> simp [zmd]
theorem zmod_get (L : List Value) (i j : Nat) (w : Value) (h : (zmd L i)[j]? = some w) (hw : w ≠ zJ) : L[j]? = some w ∧ ¬ (j + 1 = i ∧ w.category = 2) := by
  cases i with
  | zero => exact ⟨h, by omega⟩
  | succ k =>
    simp only [zmd] at h
    by_cases hjk : k = j
    · subst hjk
      rw [List.getElem?_modify_eq] at h
      cases hL : L[k]? with
      | none => simp [hL] at h
      | some v =>
        rw [hL] at h
        simp only [Option.map_eq_map, Option.map_some, Option.some.injEq] at h
        subst h
        obtain ⟨e1, e2⟩ := zkill_ne hw
        rw [e1]
        exact ⟨rfl, fun q => e2 q.2⟩
    · rw [List.getElem?_modify] at h
      simp only [if_neg hjk, Option.map_eq_map, id_map', Option.map_id_fun', id_eq] at h
      exact ⟨h, fun q => hjk (by omega)⟩
theorem zL.st1 {n : Nat} {ls' : Array Slot} {L : List Value} {i : Nat} {v : Value} (hn : L.length = n) (hi : i < n) (h : lv_has ls' n ((i, v) :: (zprs L).filter (fun q => !(q.1 == i) && !(q.1 + 1 == i && q.2.category == 2)))) : zL n ls' (zst1 L i v) := by
  refine ⟨by simp only [zst1, List.length_set]; rw [zmod_len]; exact hn, h.1, h.2.1, fun j w hj hw => ?_⟩
  refine h.2.2 (j, w) ?_
  unfold zst1 at hj
  by_cases hji : j = i
  · subst hji
    rw [List.getElem?_set_self (by rw [zmod_len, hn]; exact hi)] at hj
    cases hj
    exact List.mem_cons_self
  · rw [List.getElem?_set_ne (Ne.symm hji)] at hj
    obtain ⟨h1, h2⟩ := zmod_get L i j w hj hw
    refine List.mem_cons_of_mem _ (List.mem_filter.mpr ⟨zprs_mem.mpr ⟨h1, hw⟩, ?_⟩)
    simp only [Bool.and_eq_true, Bool.not_eq_true', beq_eq_false_iff_ne, Bool.and_eq_false_imp, beq_iff_eq]
    exact ⟨hji, fun e => fun z => h2 ⟨e, z⟩⟩
theorem zL.st2 {n : Nat} {ls' : Array Slot} {L : List Value} {i : Nat} {v : Value} (hn : L.length = n) (hi : i + 1 < n) (h : lv_has ls' n ((i, v) :: (zprs L).filter (fun q => !(q.1 == i) && (!(q.1 == i + 1) && !(q.1 + 1 == i && q.2.category == 2))))) : zL n ls' (zst2 L i v) := by
  refine ⟨by simp only [zst2, List.length_set]; rw [zmod_len]; exact hn, h.1, h.2.1, fun j w hj hw => ?_⟩
  refine h.2.2 (j, w) ?_
  unfold zst2 at hj
  by_cases hj1 : j = i + 1
  · subst hj1
    rw [List.getElem?_set_self (by rw [List.length_set, zmod_len, hn]; exact hi)] at hj
    cases hj
    exact absurd rfl hw
  · rw [List.getElem?_set_ne (Ne.symm hj1)] at hj
    by_cases hji : j = i
    · subst hji
      rw [List.getElem?_set_self (by rw [zmod_len, hn]; omega)] at hj
      cases hj
      exact List.mem_cons_self
    · rw [List.getElem?_set_ne (Ne.symm hji)] at hj
      obtain ⟨h1, h2⟩ := zmod_get L i j w hj hw
      refine List.mem_cons_of_mem _ (List.mem_filter.mpr ⟨zprs_mem.mpr ⟨h1, hw⟩, ?_⟩)
      simp only [Bool.and_eq_true, Bool.not_eq_true', beq_eq_false_iff_ne, Bool.and_eq_false_imp, beq_iff_eq]
      exact ⟨hji, hj1, fun e => fun z => h2 ⟨e, z⟩⟩
theorem zfl_get : ∀ (vs : List Value) (pre : List Slot) (j : Nat) (v : Value) (n : Nat), (zfl vs ++ List.replicate n zJ)[j]? = some v → v ≠ zJ → (lg_sl vs ++ List.replicate n Slot.unset)[j]? = some (.val v)
  | [], pre, j, v, n, h, hv => by
    simp only [zfl, List.flatMap_nil, List.nil_append] at h
    have := List.mem_of_getElem? h
    rw [List.mem_replicate] at this
    exact absurd this.2 hv
  | w :: vs, pre, j, v, n, h, hv => by
    simp only [zfl, lg_sl, List.flatMap_cons] at h ⊢
    by_cases hc : w.category = 2
    · simp only [if_pos hc, List.cons_append, List.nil_append] at h ⊢
      match j, h with
      | 0, h => simp only [List.getElem?_cons_zero] at h ⊢; cases h; rfl
      | 1, h => simp only [List.getElem?_cons_succ, List.getElem?_cons_zero] at h; cases h; exact absurd rfl hv
      | j + 2, h => simp only [List.getElem?_cons_succ] at h ⊢; exact zfl_get vs pre j v n h hv
    · simp only [if_neg hc, List.cons_append, List.nil_append] at h ⊢
      match j, h with
      | 0, h => simp only [List.getElem?_cons_zero] at h ⊢; cases h; rfl
      | j + 1, h => simp only [List.getElem?_cons_succ] at h ⊢; exact zfl_get vs pre j v n h hv
theorem zfl_len (vs : List Value) : (zfl vs).length = (lg_sl vs).length := by
  induction vs with
  | nil => rfl
  | cons w vs ih =>
    simp only [zfl, lg_sl, List.flatMap_cons, List.length_append] at ih ⊢
    rw [ih]
    by_cases hc : w.category = 2 <;> simp [hc]
theorem zL.entry {vs : List Value} {n : Nat} (h : (zfl vs).length ≤ n) : zL n ((lg_sl vs ++ List.replicate (n - (lg_sl vs).length) Slot.unset).toArray) (zent vs n) := by
  have e := lv_entry vs (n := n) (by rw [← zfl_len]; exact h)
  refine ⟨by simp [zent]; omega, e.1, e.2.1, fun i v hi hv => ?_⟩
  rw [List.getElem?_toArray, ← zfl_len]
  exact zfl_get vs [] i v _ hi hv
