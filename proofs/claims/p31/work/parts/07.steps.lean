/-! each instruction of the little machine is one of the real one -/
def zgw : List Jvm.Cond := lw_tbl.filter goodWord
def zC (E : zE) (p : Program) (R : Room) (s : State) (m : MethodId) (args : Array Value) (meth : Method) (c : Code) (mi : Nat) (q : zMt) : Prop :=
  zM[mi]? = some q ∧ p.tables.exec = Jvm.exec ∧ c.code = q.2.2.1 ∧ c.maxLocals = q.2.2.2.1 ∧ s.vm.findClass q.1 = some m.cls ∧ (q.2.1.name = "<init>" → meth.name = "<init>") ∧ (∀ w ∈ zgw, w.before args s = true) ∧ zK E s ∧ q.2.2.2.2.2.1 ≤ R.frames ∧ 36 * q.2.2.2.2.2.1 ≤ R.locals
theorem zlk_mem : ∀ {l : List (Nat × Instr)} {k : Nat} {i : Instr}, zlk l k = some i → (k, i) ∈ l
  | [], _, _, h => by cases h
  | q :: r, k, i, h => by
    unfold zlk at h
    cases hb : Nat.beq q.1 k with
    | true =>
      rw [hb] at h
      cases h
      have := Nat.eq_of_beq_eq_true hb
      subst this
      exact List.mem_cons_self
    | false =>
      rw [hb] at h
      exact List.mem_cons_of_mem _ (zlk_mem h)
theorem zplk_mem : ∀ {l : List (Nat × Nat × Nat × Nat × Int)} {k : Nat} {i : Nat × Nat × Nat × Int}, zplk l k = some i → (k, i) ∈ l
  | [], _, _, h => by cases h
  | q :: r, k, i, h => by
    unfold zplk at h
    cases hb : Nat.beq q.1 k with
    | true =>
      rw [hb] at h
      cases h
      have := Nat.eq_of_beq_eq_true hb
      subst this
      exact List.mem_cons_self
    | false =>
      rw [hb] at h
      exact List.mem_cons_of_mem _ (zplk_mem h)
theorem zmem_of {q : zMt} {mi : Nat} (h : zM[mi]? = some q) : zmP q := zmP_all q (List.mem_of_getElem? h)
theorem zcode_dok {mi pc : Nat} {q : zMt} {i : Instr} (hq : zM[mi]? = some q) (hi : zcode mi pc = some i) : zdok q.2.2.1 pc i = true := by
  unfold zcode at hi
  rw [hq] at hi
  have h1 := (zmem_of hq).1
  unfold zdal at h1
  rw [List.all_eq_true] at h1
  exact h1 (pc, i) (zlk_mem hi)
theorem zdok_dec {bytes : ByteArray} {pc : Nat} {i : Instr} (h : zdok bytes pc i = true) (hs : zsw i = false) : decode bytes pc = .ok (i, zln i) := by
  unfold zdok at h
  cases hd : decode bytes pc with
  | error x => rw [hd] at h; cases h
  | ok q =>
    rw [hd] at h
    simp only [hs, Bool.false_or, Bool.and_eq_true, decide_eq_true_eq] at h
    obtain ⟨⟨h1, h2⟩, -⟩ := h
    have h3 := Nat.eq_of_beq_eq_true h2
    obtain ⟨a, b⟩ := q
    simp only at h1 h3
    rw [h1, h3]
theorem zdok_sw {bytes : ByteArray} {pc : Nat} {i : Instr} (h : zdok bytes pc i = true) : ∃ n, decode bytes pc = .ok (i, n) := by
  unfold zdok at h
  cases hd : decode bytes pc with
  | error x => rw [hd] at h; cases h
  | ok q =>
    rw [hd] at h
    simp only [Bool.and_eq_true, decide_eq_true_eq] at h
    obtain ⟨⟨h1, h2⟩, -⟩ := h
    obtain ⟨a, b⟩ := q
    simp only at h1
    exact ⟨b, by rw [h1]⟩
theorem zdok_rng {bytes : ByteArray} {pc : Nat} {i : Instr} (h : zdok bytes pc i = true) : zrng i = true := by
  unfold zdok at h
  cases hd : decode bytes pc with
  | error x => rw [hd] at h; cases h
  | ok q =>
    rw [hd] at h
    simp only [Bool.and_eq_true, decide_eq_true_eq] at h
    exact h.2
theorem zown_all : ∀ (oc : Nat) (own : String) (pl : List (Nat × Nat × Nat × Nat × Int)), zOwn[oc]? = some own → zPool[oc]? = some pl → ∀ e ∈ pl, ∃ ps, zpok own e ps = true := by
  intro oc own pl h1 h2
  match oc, h1, h2 with
  | 0, h1, h2 => cases h1; cases h2; exact zpkX0
  | 1, h1, h2 => cases h1; cases h2; exact zpkX1
  | 2, h1, h2 => cases h1; cases h2; exact zpkX2
  | 3, h1, h2 => cases h1; cases h2; exact zpkX3
  | 4, h1, h2 => cases h1; cases h2; exact zpkX4
  | 5, h1, h2 => cases h1; cases h2; exact zpkX5
  | 6, h1, h2 => cases h1; cases h2; exact zpkX6
  | 7, h1, h2 => cases h1; cases h2; exact zpkX7
  | 8, h1, h2 => cases h1; cases h2; exact zpkX8
  | 9, h1, h2 => cases h1; cases h2; exact zpkX9
  | 10, h1, h2 => cases h1; cases h2; exact zpkX10
  | 11, h1, h2 => cases h1; cases h2; exact zpkL
  | n + 12, h1, h2 => exact absurd h1 (by simp [zOwn])
theorem zpool_ok {mi k : Nat} {q : zMt} {e : Nat × Nat × Nat × Int} (hq : zM[mi]? = some q) (hp : zpool mi k = some e) : ∃ ps, zpok q.1 (k, e) ps = true := by
  unfold zpool at hp
  rw [hq] at hp
  simp only [Option.bind_some] at hp
  have h3 := (zmem_of hq).2.2
  simp only [Bool.and_eq_true, decide_eq_true_eq] at h3
  cases hz : zPool[q.2.2.2.2.2.2.1]? with
  | none => rw [hz] at hp; cases hp
  | some pl =>
    rw [hz] at hp
    exact zown_all _ _ _ h3.2 hz _ (zplk_mem hp)
theorem zin_mem {ps : List Nat} {k : Nat} {w : Jvm.Cond} (h : zin ps k w = true) : w ∈ zgw := by
  simp only [zin, Bool.and_eq_true, decide_eq_true_eq] at h
  exact List.mem_filter.mpr ⟨List.mem_of_getElem? h.1, h.2⟩
theorem zidx_in {i : Int32} {n : Nat} (h : zidx i n = true) : vp_in i n := by
  simp only [zidx, Bool.and_eq_true, decide_eq_true_eq] at h
  exact vp_in_iff.mpr h
theorem zrk_of {mi : Nat} {q : zMt} (h : zM[mi]? = some q) : zrk mi = q.2.2.2.2.2.1 := by
  unfold zrk
  rw [h]
theorem zmaxL_of {mi : Nat} {q : zMt} (h : zM[mi]? = some q) : zmaxL mi = q.2.2.2.1 := by
  unfold zmaxL
  rw [h]
theorem zjmp_ok {pc t : Nat} {o : Int} (h : zjmp pc o = some t) : (pc : Int) + o = (t : Int) := by
  unfold zjmp at h
  split at h
  · cases h; omega
  · cases h
section ZS
variable {E : zE} {p : Program} {l : Launch} {e : Env} {R : Room} {s : State} {m : MethodId} {args : Array Value} {below : List Frame} {meth : Method} {c : Code} {H : Heap} {locs : List Loc} {cells slots : Nat} {Q : State → Prop}
variable {mi pc : Nat} {q : zMt} {ls : Array Slot} {L S : List Value} {z : zZ} {h : zH} {r : zR}
set_option maxHeartbeats 1000000 in
theorem zs_iconst {k : Int} (C : zC E p R s m args meth c mi q) (hd : zdok q.2.2.1 pc (.iconst k) = true) (hs : zstp mi (.iconst k) pc L S z h = some r) (hW : zW E s z h H) (hL : zL q.2.2.2.1 ls L) (hS : va_S (zA E) s.heap H locs) (hr1 : cells + (r.2.2.2.1.1 - z.1) ≤ R.cells) (hr2 : slots + (r.2.2.2.1.2.1 - z.2.1) ≤ R.slots)
    (K : ∀ (H' : Heap) (ls' : Array Slot) (locs' : List Loc), zW E s r.2.2.2.1 r.2.2.2.2 H' → zL q.2.2.2.1 ls' r.2.1 → va_S (zA E) s.heap H' locs' → W p l e R s m args below meth c H' locs' (cells + (r.2.2.2.1.1 - z.1)) (slots + (r.2.2.2.1.2.1 - z.2.1)) Q (F0 m r.1 ls' r.2.2.1)) :
    W p l e R s m args below meth c H locs cells slots Q (F0 m pc ls S) := by
  obtain ⟨hq, hx, hb, hml, hown, hini, hts, hK, hfr, hlo⟩ := C
  unfold zstp at hs
  dsimp only at hs
  have hdc := zdok_dec hd rfl
  cases hs
  simp only [Nat.sub_self, Nat.add_zero] at K hr1 hr2
  exact lv_iconst hx hb hdc rfl (K H ls locs hW hL hS)
set_option maxHeartbeats 1000000 in
theorem zs_bipush {k : Int} (C : zC E p R s m args meth c mi q) (hd : zdok q.2.2.1 pc (.bipush k) = true) (hs : zstp mi (.bipush k) pc L S z h = some r) (hW : zW E s z h H) (hL : zL q.2.2.2.1 ls L) (hS : va_S (zA E) s.heap H locs) (hr1 : cells + (r.2.2.2.1.1 - z.1) ≤ R.cells) (hr2 : slots + (r.2.2.2.1.2.1 - z.2.1) ≤ R.slots)
    (K : ∀ (H' : Heap) (ls' : Array Slot) (locs' : List Loc), zW E s r.2.2.2.1 r.2.2.2.2 H' → zL q.2.2.2.1 ls' r.2.1 → va_S (zA E) s.heap H' locs' → W p l e R s m args below meth c H' locs' (cells + (r.2.2.2.1.1 - z.1)) (slots + (r.2.2.2.1.2.1 - z.2.1)) Q (F0 m r.1 ls' r.2.2.1)) :
    W p l e R s m args below meth c H locs cells slots Q (F0 m pc ls S) := by
  obtain ⟨hq, hx, hb, hml, hown, hini, hts, hK, hfr, hlo⟩ := C
  unfold zstp at hs
  dsimp only at hs
  have hdc := zdok_dec hd rfl
  have hg := zdok_rng hd
  simp only [zrng, decide_eq_true_eq] at hg
  cases hs
  simp only [Nat.sub_self, Nat.add_zero] at K hr1 hr2
  exact lv_bipush hx hb hdc hg (K H ls locs hW hL hS)
set_option maxHeartbeats 1000000 in
theorem zs_sipush {k : Int} (C : zC E p R s m args meth c mi q) (hd : zdok q.2.2.1 pc (.sipush k) = true) (hs : zstp mi (.sipush k) pc L S z h = some r) (hW : zW E s z h H) (hL : zL q.2.2.2.1 ls L) (hS : va_S (zA E) s.heap H locs) (hr1 : cells + (r.2.2.2.1.1 - z.1) ≤ R.cells) (hr2 : slots + (r.2.2.2.1.2.1 - z.2.1) ≤ R.slots)
    (K : ∀ (H' : Heap) (ls' : Array Slot) (locs' : List Loc), zW E s r.2.2.2.1 r.2.2.2.2 H' → zL q.2.2.2.1 ls' r.2.1 → va_S (zA E) s.heap H' locs' → W p l e R s m args below meth c H' locs' (cells + (r.2.2.2.1.1 - z.1)) (slots + (r.2.2.2.1.2.1 - z.2.1)) Q (F0 m r.1 ls' r.2.2.1)) :
    W p l e R s m args below meth c H locs cells slots Q (F0 m pc ls S) := by
  obtain ⟨hq, hx, hb, hml, hown, hini, hts, hK, hfr, hlo⟩ := C
  unfold zstp at hs
  dsimp only at hs
  have hdc := zdok_dec hd rfl
  have hg := zdok_rng hd
  simp only [zrng, decide_eq_true_eq] at hg
  cases hs
  simp only [Nat.sub_self, Nat.add_zero] at K hr1 hr2
  exact lv_sipush hx hb hdc hg (K H ls locs hW hL hS)
set_option maxHeartbeats 1000000 in
theorem zs_lconst {k : Fin 2} (C : zC E p R s m args meth c mi q) (hd : zdok q.2.2.1 pc (.lconst k) = true) (hs : zstp mi (.lconst k) pc L S z h = some r) (hW : zW E s z h H) (hL : zL q.2.2.2.1 ls L) (hS : va_S (zA E) s.heap H locs) (hr1 : cells + (r.2.2.2.1.1 - z.1) ≤ R.cells) (hr2 : slots + (r.2.2.2.1.2.1 - z.2.1) ≤ R.slots)
    (K : ∀ (H' : Heap) (ls' : Array Slot) (locs' : List Loc), zW E s r.2.2.2.1 r.2.2.2.2 H' → zL q.2.2.2.1 ls' r.2.1 → va_S (zA E) s.heap H' locs' → W p l e R s m args below meth c H' locs' (cells + (r.2.2.2.1.1 - z.1)) (slots + (r.2.2.2.1.2.1 - z.2.1)) Q (F0 m r.1 ls' r.2.2.1)) :
    W p l e R s m args below meth c H locs cells slots Q (F0 m pc ls S) := by
  obtain ⟨hq, hx, hb, hml, hown, hini, hts, hK, hfr, hlo⟩ := C
  unfold zstp at hs
  dsimp only at hs
  have hdc := zdok_dec hd rfl
  cases hs
  simp only [Nat.sub_self, Nat.add_zero] at K hr1 hr2
  exact lv_lconst hx hb hdc (show Int64.ofNat k.val = zl (k.val : Int) by match k with | 0 => rfl | 1 => rfl) (K H ls locs hW hL hS)
set_option maxHeartbeats 1000000 in
theorem zs_ldc {k : Nat} (C : zC E p R s m args meth c mi q) (hd : zdok q.2.2.1 pc (.ldc k) = true) (hs : zstp mi (.ldc k) pc L S z h = some r) (hW : zW E s z h H) (hL : zL q.2.2.2.1 ls L) (hS : va_S (zA E) s.heap H locs) (hr1 : cells + (r.2.2.2.1.1 - z.1) ≤ R.cells) (hr2 : slots + (r.2.2.2.1.2.1 - z.2.1) ≤ R.slots)
    (K : ∀ (H' : Heap) (ls' : Array Slot) (locs' : List Loc), zW E s r.2.2.2.1 r.2.2.2.2 H' → zL q.2.2.2.1 ls' r.2.1 → va_S (zA E) s.heap H' locs' → W p l e R s m args below meth c H' locs' (cells + (r.2.2.2.1.1 - z.1)) (slots + (r.2.2.2.1.2.1 - z.2.1)) Q (F0 m r.1 ls' r.2.2.1)) :
    W p l e R s m args below meth c H locs cells slots Q (F0 m pc ls S) := by
  obtain ⟨hq, hx, hb, hml, hown, hini, hts, hK, hfr, hlo⟩ := C
  unfold zstp at hs
  dsimp only at hs
  have hdc := zdok_dec hd rfl
  split at hs
  · rename_i x1 x2 v hp
    cases hs
    obtain ⟨ps, ho⟩ := zpool_ok hq hp
    simp only [zpok] at ho
    simp only [Nat.sub_self, Nat.add_zero] at K hr1 hr2
    exact lv_ldc hx hb hown (hts _ (zin_mem ho)) hdc (K H ls locs hW hL hS)
  · rename_i j x1 x2 hp
    cases hs
    obtain ⟨ps, ho⟩ := zpool_ok hq hp
    simp only [zpok] at ho
    cases hj : zStr[j]? with
    | none => rw [hj] at ho; cases ho
    | some w =>
      rw [hj] at ho
      simp only [Bool.and_eq_true, decide_eq_true_eq] at ho
      have hk4 := hK.2.2.2.1 j w hj
      rw [ho.1, ho.2] at hk4
      simp only [Nat.sub_self, Nat.add_zero] at K hr1 hr2
      refine va_ldcS hx hb hown hk4 hdc ?_
      have := K H ls locs hW hL hS
      rw [hW.2.2.1] at this
      exact this
  · cases hs
set_option maxHeartbeats 1000000 in
theorem zs_ldc_w {k : Nat} (C : zC E p R s m args meth c mi q) (hd : zdok q.2.2.1 pc (.ldc_w k) = true) (hs : zstp mi (.ldc_w k) pc L S z h = some r) (hW : zW E s z h H) (hL : zL q.2.2.2.1 ls L) (hS : va_S (zA E) s.heap H locs) (hr1 : cells + (r.2.2.2.1.1 - z.1) ≤ R.cells) (hr2 : slots + (r.2.2.2.1.2.1 - z.2.1) ≤ R.slots)
    (K : ∀ (H' : Heap) (ls' : Array Slot) (locs' : List Loc), zW E s r.2.2.2.1 r.2.2.2.2 H' → zL q.2.2.2.1 ls' r.2.1 → va_S (zA E) s.heap H' locs' → W p l e R s m args below meth c H' locs' (cells + (r.2.2.2.1.1 - z.1)) (slots + (r.2.2.2.1.2.1 - z.2.1)) Q (F0 m r.1 ls' r.2.2.1)) :
    W p l e R s m args below meth c H locs cells slots Q (F0 m pc ls S) := by
  obtain ⟨hq, hx, hb, hml, hown, hini, hts, hK, hfr, hlo⟩ := C
  unfold zstp at hs
  dsimp only at hs
  have hdc := zdok_dec hd rfl
  split at hs
  · rename_i x1 x2 v hp
    cases hs
    obtain ⟨ps, ho⟩ := zpool_ok hq hp
    simp only [zpok] at ho
    simp only [Nat.sub_self, Nat.add_zero] at K hr1 hr2
    exact lv_ldcw hx hb hown (hts _ (zin_mem ho)) hdc (K H ls locs hW hL hS)
  · cases hs
set_option maxHeartbeats 1000000 in
theorem zs_ldc2_w {k : Nat} (C : zC E p R s m args meth c mi q) (hd : zdok q.2.2.1 pc (.ldc2_w k) = true) (hs : zstp mi (.ldc2_w k) pc L S z h = some r) (hW : zW E s z h H) (hL : zL q.2.2.2.1 ls L) (hS : va_S (zA E) s.heap H locs) (hr1 : cells + (r.2.2.2.1.1 - z.1) ≤ R.cells) (hr2 : slots + (r.2.2.2.1.2.1 - z.2.1) ≤ R.slots)
    (K : ∀ (H' : Heap) (ls' : Array Slot) (locs' : List Loc), zW E s r.2.2.2.1 r.2.2.2.2 H' → zL q.2.2.2.1 ls' r.2.1 → va_S (zA E) s.heap H' locs' → W p l e R s m args below meth c H' locs' (cells + (r.2.2.2.1.1 - z.1)) (slots + (r.2.2.2.1.2.1 - z.2.1)) Q (F0 m r.1 ls' r.2.2.1)) :
    W p l e R s m args below meth c H locs cells slots Q (F0 m pc ls S) := by
  obtain ⟨hq, hx, hb, hml, hown, hini, hts, hK, hfr, hlo⟩ := C
  unfold zstp at hs
  dsimp only at hs
  have hdc := zdok_dec hd rfl
  split at hs
  · rename_i x1 x2 v hp
    cases hs
    obtain ⟨ps, ho⟩ := zpool_ok hq hp
    simp only [zpok] at ho
    simp only [Nat.sub_self, Nat.add_zero] at K hr1 hr2
    exact lv_ldc2 hx hb hown (hts _ (zin_mem ho)) hdc (K H ls locs hW hL hS)
  · cases hs
set_option maxHeartbeats 1000000 in
theorem zs_iload_n {k : Fin 4} (C : zC E p R s m args meth c mi q) (hd : zdok q.2.2.1 pc (.iload_n k) = true) (hs : zstp mi (.iload_n k) pc L S z h = some r) (hW : zW E s z h H) (hL : zL q.2.2.2.1 ls L) (hS : va_S (zA E) s.heap H locs) (hr1 : cells + (r.2.2.2.1.1 - z.1) ≤ R.cells) (hr2 : slots + (r.2.2.2.1.2.1 - z.2.1) ≤ R.slots)
    (K : ∀ (H' : Heap) (ls' : Array Slot) (locs' : List Loc), zW E s r.2.2.2.1 r.2.2.2.2 H' → zL q.2.2.2.1 ls' r.2.1 → va_S (zA E) s.heap H' locs' → W p l e R s m args below meth c H' locs' (cells + (r.2.2.2.1.1 - z.1)) (slots + (r.2.2.2.1.2.1 - z.2.1)) Q (F0 m r.1 ls' r.2.2.1)) :
    W p l e R s m args below meth c H locs cells slots Q (F0 m pc ls S) := by
  obtain ⟨hq, hx, hb, hml, hown, hini, hts, hK, hfr, hlo⟩ := C
  unfold zstp at hs
  dsimp only at hs
  have hdc := zdok_dec hd rfl
  split at hs
  · rename_i x hv
    cases hs
    simp only [Nat.sub_self, Nat.add_zero] at K hr1 hr2
    exact lv_iload_n hx hb hdc rfl (hL.at hv (by intro z; cases z)) (K H ls locs hW hL hS)
  · cases hs
set_option maxHeartbeats 1000000 in
theorem zs_iload {k : Nat} (C : zC E p R s m args meth c mi q) (hd : zdok q.2.2.1 pc (.iload k) = true) (hs : zstp mi (.iload k) pc L S z h = some r) (hW : zW E s z h H) (hL : zL q.2.2.2.1 ls L) (hS : va_S (zA E) s.heap H locs) (hr1 : cells + (r.2.2.2.1.1 - z.1) ≤ R.cells) (hr2 : slots + (r.2.2.2.1.2.1 - z.2.1) ≤ R.slots)
    (K : ∀ (H' : Heap) (ls' : Array Slot) (locs' : List Loc), zW E s r.2.2.2.1 r.2.2.2.2 H' → zL q.2.2.2.1 ls' r.2.1 → va_S (zA E) s.heap H' locs' → W p l e R s m args below meth c H' locs' (cells + (r.2.2.2.1.1 - z.1)) (slots + (r.2.2.2.1.2.1 - z.2.1)) Q (F0 m r.1 ls' r.2.2.1)) :
    W p l e R s m args below meth c H locs cells slots Q (F0 m pc ls S) := by
  obtain ⟨hq, hx, hb, hml, hown, hini, hts, hK, hfr, hlo⟩ := C
  unfold zstp at hs
  dsimp only at hs
  have hdc := zdok_dec hd rfl
  split at hs
  · rename_i x hv
    cases hs
    simp only [Nat.sub_self, Nat.add_zero] at K hr1 hr2
    exact lv_iload hx hb hdc (hL.at hv (by intro z; cases z)) (K H ls locs hW hL hS)
  · cases hs
set_option maxHeartbeats 1000000 in
theorem zs_lload_n {k : Fin 4} (C : zC E p R s m args meth c mi q) (hd : zdok q.2.2.1 pc (.lload_n k) = true) (hs : zstp mi (.lload_n k) pc L S z h = some r) (hW : zW E s z h H) (hL : zL q.2.2.2.1 ls L) (hS : va_S (zA E) s.heap H locs) (hr1 : cells + (r.2.2.2.1.1 - z.1) ≤ R.cells) (hr2 : slots + (r.2.2.2.1.2.1 - z.2.1) ≤ R.slots)
    (K : ∀ (H' : Heap) (ls' : Array Slot) (locs' : List Loc), zW E s r.2.2.2.1 r.2.2.2.2 H' → zL q.2.2.2.1 ls' r.2.1 → va_S (zA E) s.heap H' locs' → W p l e R s m args below meth c H' locs' (cells + (r.2.2.2.1.1 - z.1)) (slots + (r.2.2.2.1.2.1 - z.2.1)) Q (F0 m r.1 ls' r.2.2.1)) :
    W p l e R s m args below meth c H locs cells slots Q (F0 m pc ls S) := by
  obtain ⟨hq, hx, hb, hml, hown, hini, hts, hK, hfr, hlo⟩ := C
  unfold zstp at hs
  dsimp only at hs
  have hdc := zdok_dec hd rfl
  split at hs
  · rename_i x hv
    cases hs
    simp only [Nat.sub_self, Nat.add_zero] at K hr1 hr2
    exact lv_lload_n hx hb hdc rfl (hL.at hv (by intro z; cases z)) (K H ls locs hW hL hS)
  · cases hs
set_option maxHeartbeats 1000000 in
theorem zs_lload {k : Nat} (C : zC E p R s m args meth c mi q) (hd : zdok q.2.2.1 pc (.lload k) = true) (hs : zstp mi (.lload k) pc L S z h = some r) (hW : zW E s z h H) (hL : zL q.2.2.2.1 ls L) (hS : va_S (zA E) s.heap H locs) (hr1 : cells + (r.2.2.2.1.1 - z.1) ≤ R.cells) (hr2 : slots + (r.2.2.2.1.2.1 - z.2.1) ≤ R.slots)
    (K : ∀ (H' : Heap) (ls' : Array Slot) (locs' : List Loc), zW E s r.2.2.2.1 r.2.2.2.2 H' → zL q.2.2.2.1 ls' r.2.1 → va_S (zA E) s.heap H' locs' → W p l e R s m args below meth c H' locs' (cells + (r.2.2.2.1.1 - z.1)) (slots + (r.2.2.2.1.2.1 - z.2.1)) Q (F0 m r.1 ls' r.2.2.1)) :
    W p l e R s m args below meth c H locs cells slots Q (F0 m pc ls S) := by
  obtain ⟨hq, hx, hb, hml, hown, hini, hts, hK, hfr, hlo⟩ := C
  unfold zstp at hs
  dsimp only at hs
  have hdc := zdok_dec hd rfl
  split at hs
  · rename_i x hv
    cases hs
    simp only [Nat.sub_self, Nat.add_zero] at K hr1 hr2
    exact lv_lload hx hb hdc (hL.at hv (by intro z; cases z)) (K H ls locs hW hL hS)
  · cases hs
set_option maxHeartbeats 1000000 in
theorem zs_aload_n {k : Fin 4} (C : zC E p R s m args meth c mi q) (hd : zdok q.2.2.1 pc (.aload_n k) = true) (hs : zstp mi (.aload_n k) pc L S z h = some r) (hW : zW E s z h H) (hL : zL q.2.2.2.1 ls L) (hS : va_S (zA E) s.heap H locs) (hr1 : cells + (r.2.2.2.1.1 - z.1) ≤ R.cells) (hr2 : slots + (r.2.2.2.1.2.1 - z.2.1) ≤ R.slots)
    (K : ∀ (H' : Heap) (ls' : Array Slot) (locs' : List Loc), zW E s r.2.2.2.1 r.2.2.2.2 H' → zL q.2.2.2.1 ls' r.2.1 → va_S (zA E) s.heap H' locs' → W p l e R s m args below meth c H' locs' (cells + (r.2.2.2.1.1 - z.1)) (slots + (r.2.2.2.1.2.1 - z.2.1)) Q (F0 m r.1 ls' r.2.2.1)) :
    W p l e R s m args below meth c H locs cells slots Q (F0 m pc ls S) := by
  obtain ⟨hq, hx, hb, hml, hown, hini, hts, hK, hfr, hlo⟩ := C
  unfold zstp at hs
  dsimp only at hs
  have hdc := zdok_dec hd rfl
  split at hs
  · rename_i x hv
    cases hs
    simp only [Nat.sub_self, Nat.add_zero] at K hr1 hr2
    exact lv_aload_n hx hb hdc rfl (hL.at hv (by intro z; cases z)) (K H ls locs hW hL hS)
  · cases hs
set_option maxHeartbeats 1000000 in
theorem zs_aload {k : Nat} (C : zC E p R s m args meth c mi q) (hd : zdok q.2.2.1 pc (.aload k) = true) (hs : zstp mi (.aload k) pc L S z h = some r) (hW : zW E s z h H) (hL : zL q.2.2.2.1 ls L) (hS : va_S (zA E) s.heap H locs) (hr1 : cells + (r.2.2.2.1.1 - z.1) ≤ R.cells) (hr2 : slots + (r.2.2.2.1.2.1 - z.2.1) ≤ R.slots)
    (K : ∀ (H' : Heap) (ls' : Array Slot) (locs' : List Loc), zW E s r.2.2.2.1 r.2.2.2.2 H' → zL q.2.2.2.1 ls' r.2.1 → va_S (zA E) s.heap H' locs' → W p l e R s m args below meth c H' locs' (cells + (r.2.2.2.1.1 - z.1)) (slots + (r.2.2.2.1.2.1 - z.2.1)) Q (F0 m r.1 ls' r.2.2.1)) :
    W p l e R s m args below meth c H locs cells slots Q (F0 m pc ls S) := by
  obtain ⟨hq, hx, hb, hml, hown, hini, hts, hK, hfr, hlo⟩ := C
  unfold zstp at hs
  dsimp only at hs
  have hdc := zdok_dec hd rfl
  split at hs
  · rename_i x hv
    cases hs
    simp only [Nat.sub_self, Nat.add_zero] at K hr1 hr2
    exact lv_aload hx hb hdc (hL.at hv (by intro z; cases z)) (K H ls locs hW hL hS)
  · cases hs
set_option maxHeartbeats 1000000 in
theorem zs_istore_n {k : Fin 4} (C : zC E p R s m args meth c mi q) (hd : zdok q.2.2.1 pc (.istore_n k) = true) (hs : zstp mi (.istore_n k) pc L S z h = some r) (hW : zW E s z h H) (hL : zL q.2.2.2.1 ls L) (hS : va_S (zA E) s.heap H locs) (hr1 : cells + (r.2.2.2.1.1 - z.1) ≤ R.cells) (hr2 : slots + (r.2.2.2.1.2.1 - z.2.1) ≤ R.slots)
    (K : ∀ (H' : Heap) (ls' : Array Slot) (locs' : List Loc), zW E s r.2.2.2.1 r.2.2.2.2 H' → zL q.2.2.2.1 ls' r.2.1 → va_S (zA E) s.heap H' locs' → W p l e R s m args below meth c H' locs' (cells + (r.2.2.2.1.1 - z.1)) (slots + (r.2.2.2.1.2.1 - z.2.1)) Q (F0 m r.1 ls' r.2.2.1)) :
    W p l e R s m args below meth c H locs cells slots Q (F0 m pc ls S) := by
  obtain ⟨hq, hx, hb, hml, hown, hini, hts, hK, hfr, hlo⟩ := C
  unfold zstp at hs
  dsimp only at hs
  have hdc := zdok_dec hd rfl
  split at hs
  · rename_i x S0
    split at hs
    · rename_i hlt
      cases hs
      simp only [Nat.sub_self, Nat.add_zero] at K hr1 hr2
      exact lv_istore_n hx hb hdc rfl hL.has (by rw [← hL.1]; exact hlt) rfl (fun ls1 h1 => K H ls1 locs hW (zL.st1 hL.1 (by rw [← hL.1]; exact hlt) h1) hS)
    · cases hs
  · cases hs
set_option maxHeartbeats 1000000 in
theorem zs_istore {k : Nat} (C : zC E p R s m args meth c mi q) (hd : zdok q.2.2.1 pc (.istore k) = true) (hs : zstp mi (.istore k) pc L S z h = some r) (hW : zW E s z h H) (hL : zL q.2.2.2.1 ls L) (hS : va_S (zA E) s.heap H locs) (hr1 : cells + (r.2.2.2.1.1 - z.1) ≤ R.cells) (hr2 : slots + (r.2.2.2.1.2.1 - z.2.1) ≤ R.slots)
    (K : ∀ (H' : Heap) (ls' : Array Slot) (locs' : List Loc), zW E s r.2.2.2.1 r.2.2.2.2 H' → zL q.2.2.2.1 ls' r.2.1 → va_S (zA E) s.heap H' locs' → W p l e R s m args below meth c H' locs' (cells + (r.2.2.2.1.1 - z.1)) (slots + (r.2.2.2.1.2.1 - z.2.1)) Q (F0 m r.1 ls' r.2.2.1)) :
    W p l e R s m args below meth c H locs cells slots Q (F0 m pc ls S) := by
  obtain ⟨hq, hx, hb, hml, hown, hini, hts, hK, hfr, hlo⟩ := C
  unfold zstp at hs
  dsimp only at hs
  have hdc := zdok_dec hd rfl
  split at hs
  · rename_i x S0
    split at hs
    · rename_i hlt
      cases hs
      simp only [Nat.sub_self, Nat.add_zero] at K hr1 hr2
      exact lv_istore hx hb hdc hL.has (by rw [← hL.1]; exact hlt) rfl (fun ls1 h1 => K H ls1 locs hW (zL.st1 hL.1 (by rw [← hL.1]; exact hlt) h1) hS)
    · cases hs
  · cases hs
set_option maxHeartbeats 1000000 in
theorem zs_astore_n {k : Fin 4} (C : zC E p R s m args meth c mi q) (hd : zdok q.2.2.1 pc (.astore_n k) = true) (hs : zstp mi (.astore_n k) pc L S z h = some r) (hW : zW E s z h H) (hL : zL q.2.2.2.1 ls L) (hS : va_S (zA E) s.heap H locs) (hr1 : cells + (r.2.2.2.1.1 - z.1) ≤ R.cells) (hr2 : slots + (r.2.2.2.1.2.1 - z.2.1) ≤ R.slots)
    (K : ∀ (H' : Heap) (ls' : Array Slot) (locs' : List Loc), zW E s r.2.2.2.1 r.2.2.2.2 H' → zL q.2.2.2.1 ls' r.2.1 → va_S (zA E) s.heap H' locs' → W p l e R s m args below meth c H' locs' (cells + (r.2.2.2.1.1 - z.1)) (slots + (r.2.2.2.1.2.1 - z.2.1)) Q (F0 m r.1 ls' r.2.2.1)) :
    W p l e R s m args below meth c H locs cells slots Q (F0 m pc ls S) := by
  obtain ⟨hq, hx, hb, hml, hown, hini, hts, hK, hfr, hlo⟩ := C
  unfold zstp at hs
  dsimp only at hs
  have hdc := zdok_dec hd rfl
  split at hs
  · rename_i x S0
    split at hs
    · rename_i hlt
      cases hs
      simp only [Nat.sub_self, Nat.add_zero] at K hr1 hr2
      exact lv_astore_n hx hb hdc rfl hL.has (by rw [← hL.1]; exact hlt) rfl (fun ls1 h1 => K H ls1 locs hW (zL.st1 hL.1 (by rw [← hL.1]; exact hlt) h1) hS)
    · cases hs
  · cases hs
set_option maxHeartbeats 1000000 in
theorem zs_lstore_n {k : Fin 4} (C : zC E p R s m args meth c mi q) (hd : zdok q.2.2.1 pc (.lstore_n k) = true) (hs : zstp mi (.lstore_n k) pc L S z h = some r) (hW : zW E s z h H) (hL : zL q.2.2.2.1 ls L) (hS : va_S (zA E) s.heap H locs) (hr1 : cells + (r.2.2.2.1.1 - z.1) ≤ R.cells) (hr2 : slots + (r.2.2.2.1.2.1 - z.2.1) ≤ R.slots)
    (K : ∀ (H' : Heap) (ls' : Array Slot) (locs' : List Loc), zW E s r.2.2.2.1 r.2.2.2.2 H' → zL q.2.2.2.1 ls' r.2.1 → va_S (zA E) s.heap H' locs' → W p l e R s m args below meth c H' locs' (cells + (r.2.2.2.1.1 - z.1)) (slots + (r.2.2.2.1.2.1 - z.2.1)) Q (F0 m r.1 ls' r.2.2.1)) :
    W p l e R s m args below meth c H locs cells slots Q (F0 m pc ls S) := by
  obtain ⟨hq, hx, hb, hml, hown, hini, hts, hK, hfr, hlo⟩ := C
  unfold zstp at hs
  dsimp only at hs
  have hdc := zdok_dec hd rfl
  split at hs
  · rename_i x S0
    split at hs
    · rename_i hlt
      cases hs
      simp only [Nat.sub_self, Nat.add_zero] at K hr1 hr2
      exact lv_lstore_n hx hb hdc rfl hL.has (by rw [← hL.1]; exact hlt) rfl (fun ls1 h1 => K H ls1 locs hW (zL.st2 hL.1 (by rw [← hL.1]; exact hlt) h1) hS)
    · cases hs
  · cases hs
set_option maxHeartbeats 1000000 in
theorem zs_lstore {k : Nat} (C : zC E p R s m args meth c mi q) (hd : zdok q.2.2.1 pc (.lstore k) = true) (hs : zstp mi (.lstore k) pc L S z h = some r) (hW : zW E s z h H) (hL : zL q.2.2.2.1 ls L) (hS : va_S (zA E) s.heap H locs) (hr1 : cells + (r.2.2.2.1.1 - z.1) ≤ R.cells) (hr2 : slots + (r.2.2.2.1.2.1 - z.2.1) ≤ R.slots)
    (K : ∀ (H' : Heap) (ls' : Array Slot) (locs' : List Loc), zW E s r.2.2.2.1 r.2.2.2.2 H' → zL q.2.2.2.1 ls' r.2.1 → va_S (zA E) s.heap H' locs' → W p l e R s m args below meth c H' locs' (cells + (r.2.2.2.1.1 - z.1)) (slots + (r.2.2.2.1.2.1 - z.2.1)) Q (F0 m r.1 ls' r.2.2.1)) :
    W p l e R s m args below meth c H locs cells slots Q (F0 m pc ls S) := by
  obtain ⟨hq, hx, hb, hml, hown, hini, hts, hK, hfr, hlo⟩ := C
  unfold zstp at hs
  dsimp only at hs
  have hdc := zdok_dec hd rfl
  split at hs
  · rename_i x S0
    split at hs
    · rename_i hlt
      cases hs
      simp only [Nat.sub_self, Nat.add_zero] at K hr1 hr2
      exact lv_lstore hx hb hdc hL.has (by rw [← hL.1]; exact hlt) rfl (fun ls1 h1 => K H ls1 locs hW (zL.st2 hL.1 (by rw [← hL.1]; exact hlt) h1) hS)
    · cases hs
  · cases hs
set_option maxHeartbeats 1000000 in
theorem zs_iinc {k : Nat} {n : Int} (C : zC E p R s m args meth c mi q) (hd : zdok q.2.2.1 pc (.iinc k n) = true) (hs : zstp mi (.iinc k n) pc L S z h = some r) (hW : zW E s z h H) (hL : zL q.2.2.2.1 ls L) (hS : va_S (zA E) s.heap H locs) (hr1 : cells + (r.2.2.2.1.1 - z.1) ≤ R.cells) (hr2 : slots + (r.2.2.2.1.2.1 - z.2.1) ≤ R.slots)
    (K : ∀ (H' : Heap) (ls' : Array Slot) (locs' : List Loc), zW E s r.2.2.2.1 r.2.2.2.2 H' → zL q.2.2.2.1 ls' r.2.1 → va_S (zA E) s.heap H' locs' → W p l e R s m args below meth c H' locs' (cells + (r.2.2.2.1.1 - z.1)) (slots + (r.2.2.2.1.2.1 - z.2.1)) Q (F0 m r.1 ls' r.2.2.1)) :
    W p l e R s m args below meth c H locs cells slots Q (F0 m pc ls S) := by
  obtain ⟨hq, hx, hb, hml, hown, hini, hts, hK, hfr, hlo⟩ := C
  unfold zstp at hs
  dsimp only at hs
  have hdc := zdok_dec hd rfl
  split at hs
  · rename_i x hv
    cases hs
    simp only [Nat.sub_self, Nat.add_zero] at K hr1 hr2
    have hi : k < q.2.2.2.1 := by rw [← hL.1]; exact (List.getElem?_eq_some_iff.mp hv).1
    obtain ⟨j, hj⟩ := List.getElem?_of_mem (zprs_mem.mpr ⟨hv, by intro z; cases z⟩)
    exact lv_iinc hx hb hdc hL.has (k := j) hj rfl hi rfl (fun ls1 h1 => K H ls1 locs hW (zL.st1 hL.1 hi h1) hS)
  · cases hs
set_option maxHeartbeats 1000000 in
theorem zs_iadd (C : zC E p R s m args meth c mi q) (hd : zdok q.2.2.1 pc (.iadd) = true) (hs : zstp mi (.iadd) pc L S z h = some r) (hW : zW E s z h H) (hL : zL q.2.2.2.1 ls L) (hS : va_S (zA E) s.heap H locs) (hr1 : cells + (r.2.2.2.1.1 - z.1) ≤ R.cells) (hr2 : slots + (r.2.2.2.1.2.1 - z.2.1) ≤ R.slots)
    (K : ∀ (H' : Heap) (ls' : Array Slot) (locs' : List Loc), zW E s r.2.2.2.1 r.2.2.2.2 H' → zL q.2.2.2.1 ls' r.2.1 → va_S (zA E) s.heap H' locs' → W p l e R s m args below meth c H' locs' (cells + (r.2.2.2.1.1 - z.1)) (slots + (r.2.2.2.1.2.1 - z.2.1)) Q (F0 m r.1 ls' r.2.2.1)) :
    W p l e R s m args below meth c H locs cells slots Q (F0 m pc ls S) := by
  obtain ⟨hq, hx, hb, hml, hown, hini, hts, hK, hfr, hlo⟩ := C
  unfold zstp at hs
  dsimp only at hs
  have hdc := zdok_dec hd rfl
  split at hs
  · cases hs
    simp only [Nat.sub_self, Nat.add_zero] at K hr1 hr2
    exact lv_iadd hx hb hdc (K H ls locs hW hL hS)
  · cases hs
set_option maxHeartbeats 1000000 in
theorem zs_isub (C : zC E p R s m args meth c mi q) (hd : zdok q.2.2.1 pc (.isub) = true) (hs : zstp mi (.isub) pc L S z h = some r) (hW : zW E s z h H) (hL : zL q.2.2.2.1 ls L) (hS : va_S (zA E) s.heap H locs) (hr1 : cells + (r.2.2.2.1.1 - z.1) ≤ R.cells) (hr2 : slots + (r.2.2.2.1.2.1 - z.2.1) ≤ R.slots)
    (K : ∀ (H' : Heap) (ls' : Array Slot) (locs' : List Loc), zW E s r.2.2.2.1 r.2.2.2.2 H' → zL q.2.2.2.1 ls' r.2.1 → va_S (zA E) s.heap H' locs' → W p l e R s m args below meth c H' locs' (cells + (r.2.2.2.1.1 - z.1)) (slots + (r.2.2.2.1.2.1 - z.2.1)) Q (F0 m r.1 ls' r.2.2.1)) :
    W p l e R s m args below meth c H locs cells slots Q (F0 m pc ls S) := by
  obtain ⟨hq, hx, hb, hml, hown, hini, hts, hK, hfr, hlo⟩ := C
  unfold zstp at hs
  dsimp only at hs
  have hdc := zdok_dec hd rfl
  split at hs
  · cases hs
    simp only [Nat.sub_self, Nat.add_zero] at K hr1 hr2
    exact lv_isub hx hb hdc (K H ls locs hW hL hS)
  · cases hs
set_option maxHeartbeats 1000000 in
theorem zs_imul (C : zC E p R s m args meth c mi q) (hd : zdok q.2.2.1 pc (.imul) = true) (hs : zstp mi (.imul) pc L S z h = some r) (hW : zW E s z h H) (hL : zL q.2.2.2.1 ls L) (hS : va_S (zA E) s.heap H locs) (hr1 : cells + (r.2.2.2.1.1 - z.1) ≤ R.cells) (hr2 : slots + (r.2.2.2.1.2.1 - z.2.1) ≤ R.slots)
    (K : ∀ (H' : Heap) (ls' : Array Slot) (locs' : List Loc), zW E s r.2.2.2.1 r.2.2.2.2 H' → zL q.2.2.2.1 ls' r.2.1 → va_S (zA E) s.heap H' locs' → W p l e R s m args below meth c H' locs' (cells + (r.2.2.2.1.1 - z.1)) (slots + (r.2.2.2.1.2.1 - z.2.1)) Q (F0 m r.1 ls' r.2.2.1)) :
    W p l e R s m args below meth c H locs cells slots Q (F0 m pc ls S) := by
  obtain ⟨hq, hx, hb, hml, hown, hini, hts, hK, hfr, hlo⟩ := C
  unfold zstp at hs
  dsimp only at hs
  have hdc := zdok_dec hd rfl
  split at hs
  · cases hs
    simp only [Nat.sub_self, Nat.add_zero] at K hr1 hr2
    exact lv_imul hx hb hdc (K H ls locs hW hL hS)
  · cases hs
set_option maxHeartbeats 1000000 in
theorem zs_iand (C : zC E p R s m args meth c mi q) (hd : zdok q.2.2.1 pc (.iand) = true) (hs : zstp mi (.iand) pc L S z h = some r) (hW : zW E s z h H) (hL : zL q.2.2.2.1 ls L) (hS : va_S (zA E) s.heap H locs) (hr1 : cells + (r.2.2.2.1.1 - z.1) ≤ R.cells) (hr2 : slots + (r.2.2.2.1.2.1 - z.2.1) ≤ R.slots)
    (K : ∀ (H' : Heap) (ls' : Array Slot) (locs' : List Loc), zW E s r.2.2.2.1 r.2.2.2.2 H' → zL q.2.2.2.1 ls' r.2.1 → va_S (zA E) s.heap H' locs' → W p l e R s m args below meth c H' locs' (cells + (r.2.2.2.1.1 - z.1)) (slots + (r.2.2.2.1.2.1 - z.2.1)) Q (F0 m r.1 ls' r.2.2.1)) :
    W p l e R s m args below meth c H locs cells slots Q (F0 m pc ls S) := by
  obtain ⟨hq, hx, hb, hml, hown, hini, hts, hK, hfr, hlo⟩ := C
  unfold zstp at hs
  dsimp only at hs
  have hdc := zdok_dec hd rfl
  split at hs
  · cases hs
    simp only [Nat.sub_self, Nat.add_zero] at K hr1 hr2
    exact lv_iand hx hb hdc (K H ls locs hW hL hS)
  · cases hs
set_option maxHeartbeats 1000000 in
theorem zs_ior (C : zC E p R s m args meth c mi q) (hd : zdok q.2.2.1 pc (.ior) = true) (hs : zstp mi (.ior) pc L S z h = some r) (hW : zW E s z h H) (hL : zL q.2.2.2.1 ls L) (hS : va_S (zA E) s.heap H locs) (hr1 : cells + (r.2.2.2.1.1 - z.1) ≤ R.cells) (hr2 : slots + (r.2.2.2.1.2.1 - z.2.1) ≤ R.slots)
    (K : ∀ (H' : Heap) (ls' : Array Slot) (locs' : List Loc), zW E s r.2.2.2.1 r.2.2.2.2 H' → zL q.2.2.2.1 ls' r.2.1 → va_S (zA E) s.heap H' locs' → W p l e R s m args below meth c H' locs' (cells + (r.2.2.2.1.1 - z.1)) (slots + (r.2.2.2.1.2.1 - z.2.1)) Q (F0 m r.1 ls' r.2.2.1)) :
    W p l e R s m args below meth c H locs cells slots Q (F0 m pc ls S) := by
  obtain ⟨hq, hx, hb, hml, hown, hini, hts, hK, hfr, hlo⟩ := C
  unfold zstp at hs
  dsimp only at hs
  have hdc := zdok_dec hd rfl
  split at hs
  · cases hs
    simp only [Nat.sub_self, Nat.add_zero] at K hr1 hr2
    exact lv_ior hx hb hdc (K H ls locs hW hL hS)
  · cases hs
set_option maxHeartbeats 1000000 in
theorem zs_ishr (C : zC E p R s m args meth c mi q) (hd : zdok q.2.2.1 pc (.ishr) = true) (hs : zstp mi (.ishr) pc L S z h = some r) (hW : zW E s z h H) (hL : zL q.2.2.2.1 ls L) (hS : va_S (zA E) s.heap H locs) (hr1 : cells + (r.2.2.2.1.1 - z.1) ≤ R.cells) (hr2 : slots + (r.2.2.2.1.2.1 - z.2.1) ≤ R.slots)
    (K : ∀ (H' : Heap) (ls' : Array Slot) (locs' : List Loc), zW E s r.2.2.2.1 r.2.2.2.2 H' → zL q.2.2.2.1 ls' r.2.1 → va_S (zA E) s.heap H' locs' → W p l e R s m args below meth c H' locs' (cells + (r.2.2.2.1.1 - z.1)) (slots + (r.2.2.2.1.2.1 - z.2.1)) Q (F0 m r.1 ls' r.2.2.1)) :
    W p l e R s m args below meth c H locs cells slots Q (F0 m pc ls S) := by
  obtain ⟨hq, hx, hb, hml, hown, hini, hts, hK, hfr, hlo⟩ := C
  unfold zstp at hs
  dsimp only at hs
  have hdc := zdok_dec hd rfl
  split at hs
  · cases hs
    simp only [Nat.sub_self, Nat.add_zero] at K hr1 hr2
    exact lv_ishr hx hb hdc (K H ls locs hW hL hS)
  · cases hs
set_option maxHeartbeats 1000000 in
theorem zs_ladd (C : zC E p R s m args meth c mi q) (hd : zdok q.2.2.1 pc (.ladd) = true) (hs : zstp mi (.ladd) pc L S z h = some r) (hW : zW E s z h H) (hL : zL q.2.2.2.1 ls L) (hS : va_S (zA E) s.heap H locs) (hr1 : cells + (r.2.2.2.1.1 - z.1) ≤ R.cells) (hr2 : slots + (r.2.2.2.1.2.1 - z.2.1) ≤ R.slots)
    (K : ∀ (H' : Heap) (ls' : Array Slot) (locs' : List Loc), zW E s r.2.2.2.1 r.2.2.2.2 H' → zL q.2.2.2.1 ls' r.2.1 → va_S (zA E) s.heap H' locs' → W p l e R s m args below meth c H' locs' (cells + (r.2.2.2.1.1 - z.1)) (slots + (r.2.2.2.1.2.1 - z.2.1)) Q (F0 m r.1 ls' r.2.2.1)) :
    W p l e R s m args below meth c H locs cells slots Q (F0 m pc ls S) := by
  obtain ⟨hq, hx, hb, hml, hown, hini, hts, hK, hfr, hlo⟩ := C
  unfold zstp at hs
  dsimp only at hs
  have hdc := zdok_dec hd rfl
  split at hs
  · cases hs
    simp only [Nat.sub_self, Nat.add_zero] at K hr1 hr2
    exact lv_ladd hx hb hdc (K H ls locs hW hL hS)
  · cases hs
set_option maxHeartbeats 1000000 in
theorem zs_lsub (C : zC E p R s m args meth c mi q) (hd : zdok q.2.2.1 pc (.lsub) = true) (hs : zstp mi (.lsub) pc L S z h = some r) (hW : zW E s z h H) (hL : zL q.2.2.2.1 ls L) (hS : va_S (zA E) s.heap H locs) (hr1 : cells + (r.2.2.2.1.1 - z.1) ≤ R.cells) (hr2 : slots + (r.2.2.2.1.2.1 - z.2.1) ≤ R.slots)
    (K : ∀ (H' : Heap) (ls' : Array Slot) (locs' : List Loc), zW E s r.2.2.2.1 r.2.2.2.2 H' → zL q.2.2.2.1 ls' r.2.1 → va_S (zA E) s.heap H' locs' → W p l e R s m args below meth c H' locs' (cells + (r.2.2.2.1.1 - z.1)) (slots + (r.2.2.2.1.2.1 - z.2.1)) Q (F0 m r.1 ls' r.2.2.1)) :
    W p l e R s m args below meth c H locs cells slots Q (F0 m pc ls S) := by
  obtain ⟨hq, hx, hb, hml, hown, hini, hts, hK, hfr, hlo⟩ := C
  unfold zstp at hs
  dsimp only at hs
  have hdc := zdok_dec hd rfl
  split at hs
  · cases hs
    simp only [Nat.sub_self, Nat.add_zero] at K hr1 hr2
    exact lv_lsub hx hb hdc (K H ls locs hW hL hS)
  · cases hs
set_option maxHeartbeats 1000000 in
theorem zs_lmul (C : zC E p R s m args meth c mi q) (hd : zdok q.2.2.1 pc (.lmul) = true) (hs : zstp mi (.lmul) pc L S z h = some r) (hW : zW E s z h H) (hL : zL q.2.2.2.1 ls L) (hS : va_S (zA E) s.heap H locs) (hr1 : cells + (r.2.2.2.1.1 - z.1) ≤ R.cells) (hr2 : slots + (r.2.2.2.1.2.1 - z.2.1) ≤ R.slots)
    (K : ∀ (H' : Heap) (ls' : Array Slot) (locs' : List Loc), zW E s r.2.2.2.1 r.2.2.2.2 H' → zL q.2.2.2.1 ls' r.2.1 → va_S (zA E) s.heap H' locs' → W p l e R s m args below meth c H' locs' (cells + (r.2.2.2.1.1 - z.1)) (slots + (r.2.2.2.1.2.1 - z.2.1)) Q (F0 m r.1 ls' r.2.2.1)) :
    W p l e R s m args below meth c H locs cells slots Q (F0 m pc ls S) := by
  obtain ⟨hq, hx, hb, hml, hown, hini, hts, hK, hfr, hlo⟩ := C
  unfold zstp at hs
  dsimp only at hs
  have hdc := zdok_dec hd rfl
  split at hs
  · cases hs
    simp only [Nat.sub_self, Nat.add_zero] at K hr1 hr2
    exact lv_lmul hx hb hdc (K H ls locs hW hL hS)
  · cases hs
set_option maxHeartbeats 1000000 in
theorem zs_lcmp (C : zC E p R s m args meth c mi q) (hd : zdok q.2.2.1 pc (.lcmp) = true) (hs : zstp mi (.lcmp) pc L S z h = some r) (hW : zW E s z h H) (hL : zL q.2.2.2.1 ls L) (hS : va_S (zA E) s.heap H locs) (hr1 : cells + (r.2.2.2.1.1 - z.1) ≤ R.cells) (hr2 : slots + (r.2.2.2.1.2.1 - z.2.1) ≤ R.slots)
    (K : ∀ (H' : Heap) (ls' : Array Slot) (locs' : List Loc), zW E s r.2.2.2.1 r.2.2.2.2 H' → zL q.2.2.2.1 ls' r.2.1 → va_S (zA E) s.heap H' locs' → W p l e R s m args below meth c H' locs' (cells + (r.2.2.2.1.1 - z.1)) (slots + (r.2.2.2.1.2.1 - z.2.1)) Q (F0 m r.1 ls' r.2.2.1)) :
    W p l e R s m args below meth c H locs cells slots Q (F0 m pc ls S) := by
  obtain ⟨hq, hx, hb, hml, hown, hini, hts, hK, hfr, hlo⟩ := C
  unfold zstp at hs
  dsimp only at hs
  have hdc := zdok_dec hd rfl
  split at hs
  · cases hs
    simp only [Nat.sub_self, Nat.add_zero] at K hr1 hr2
    exact W.lcmp hx hb hdc (K H ls locs hW hL hS)
  · cases hs
set_option maxHeartbeats 1000000 in
theorem zs_idiv (C : zC E p R s m args meth c mi q) (hd : zdok q.2.2.1 pc (.idiv) = true) (hs : zstp mi (.idiv) pc L S z h = some r) (hW : zW E s z h H) (hL : zL q.2.2.2.1 ls L) (hS : va_S (zA E) s.heap H locs) (hr1 : cells + (r.2.2.2.1.1 - z.1) ≤ R.cells) (hr2 : slots + (r.2.2.2.1.2.1 - z.2.1) ≤ R.slots)
    (K : ∀ (H' : Heap) (ls' : Array Slot) (locs' : List Loc), zW E s r.2.2.2.1 r.2.2.2.2 H' → zL q.2.2.2.1 ls' r.2.1 → va_S (zA E) s.heap H' locs' → W p l e R s m args below meth c H' locs' (cells + (r.2.2.2.1.1 - z.1)) (slots + (r.2.2.2.1.2.1 - z.2.1)) Q (F0 m r.1 ls' r.2.2.1)) :
    W p l e R s m args below meth c H locs cells slots Q (F0 m pc ls S) := by
  obtain ⟨hq, hx, hb, hml, hown, hini, hts, hK, hfr, hlo⟩ := C
  unfold zstp at hs
  dsimp only at hs
  have hdc := zdok_dec hd rfl
  split at hs
  · split at hs
    · cases hs
    · rename_i hne
      cases hs
      simp only [Nat.sub_self, Nat.add_zero] at K hr1 hr2
      exact lv_idiv hx hb hdc hne (K H ls locs hW hL hS)
  · cases hs
set_option maxHeartbeats 1000000 in
theorem zs_irem (C : zC E p R s m args meth c mi q) (hd : zdok q.2.2.1 pc (.irem) = true) (hs : zstp mi (.irem) pc L S z h = some r) (hW : zW E s z h H) (hL : zL q.2.2.2.1 ls L) (hS : va_S (zA E) s.heap H locs) (hr1 : cells + (r.2.2.2.1.1 - z.1) ≤ R.cells) (hr2 : slots + (r.2.2.2.1.2.1 - z.2.1) ≤ R.slots)
    (K : ∀ (H' : Heap) (ls' : Array Slot) (locs' : List Loc), zW E s r.2.2.2.1 r.2.2.2.2 H' → zL q.2.2.2.1 ls' r.2.1 → va_S (zA E) s.heap H' locs' → W p l e R s m args below meth c H' locs' (cells + (r.2.2.2.1.1 - z.1)) (slots + (r.2.2.2.1.2.1 - z.2.1)) Q (F0 m r.1 ls' r.2.2.1)) :
    W p l e R s m args below meth c H locs cells slots Q (F0 m pc ls S) := by
  obtain ⟨hq, hx, hb, hml, hown, hini, hts, hK, hfr, hlo⟩ := C
  unfold zstp at hs
  dsimp only at hs
  have hdc := zdok_dec hd rfl
  split at hs
  · split at hs
    · cases hs
    · rename_i hne
      cases hs
      simp only [Nat.sub_self, Nat.add_zero] at K hr1 hr2
      exact lv_irem hx hb hdc hne (K H ls locs hW hL hS)
  · cases hs
set_option maxHeartbeats 1000000 in
theorem zs_ldiv (C : zC E p R s m args meth c mi q) (hd : zdok q.2.2.1 pc (.ldiv) = true) (hs : zstp mi (.ldiv) pc L S z h = some r) (hW : zW E s z h H) (hL : zL q.2.2.2.1 ls L) (hS : va_S (zA E) s.heap H locs) (hr1 : cells + (r.2.2.2.1.1 - z.1) ≤ R.cells) (hr2 : slots + (r.2.2.2.1.2.1 - z.2.1) ≤ R.slots)
    (K : ∀ (H' : Heap) (ls' : Array Slot) (locs' : List Loc), zW E s r.2.2.2.1 r.2.2.2.2 H' → zL q.2.2.2.1 ls' r.2.1 → va_S (zA E) s.heap H' locs' → W p l e R s m args below meth c H' locs' (cells + (r.2.2.2.1.1 - z.1)) (slots + (r.2.2.2.1.2.1 - z.2.1)) Q (F0 m r.1 ls' r.2.2.1)) :
    W p l e R s m args below meth c H locs cells slots Q (F0 m pc ls S) := by
  obtain ⟨hq, hx, hb, hml, hown, hini, hts, hK, hfr, hlo⟩ := C
  unfold zstp at hs
  dsimp only at hs
  have hdc := zdok_dec hd rfl
  split at hs
  · split at hs
    · cases hs
    · rename_i hne
      cases hs
      simp only [Nat.sub_self, Nat.add_zero] at K hr1 hr2
      exact lv_ldiv hx hb hdc hne (K H ls locs hW hL hS)
  · cases hs
set_option maxHeartbeats 1000000 in
theorem zs_lrem (C : zC E p R s m args meth c mi q) (hd : zdok q.2.2.1 pc (.lrem) = true) (hs : zstp mi (.lrem) pc L S z h = some r) (hW : zW E s z h H) (hL : zL q.2.2.2.1 ls L) (hS : va_S (zA E) s.heap H locs) (hr1 : cells + (r.2.2.2.1.1 - z.1) ≤ R.cells) (hr2 : slots + (r.2.2.2.1.2.1 - z.2.1) ≤ R.slots)
    (K : ∀ (H' : Heap) (ls' : Array Slot) (locs' : List Loc), zW E s r.2.2.2.1 r.2.2.2.2 H' → zL q.2.2.2.1 ls' r.2.1 → va_S (zA E) s.heap H' locs' → W p l e R s m args below meth c H' locs' (cells + (r.2.2.2.1.1 - z.1)) (slots + (r.2.2.2.1.2.1 - z.2.1)) Q (F0 m r.1 ls' r.2.2.1)) :
    W p l e R s m args below meth c H locs cells slots Q (F0 m pc ls S) := by
  obtain ⟨hq, hx, hb, hml, hown, hini, hts, hK, hfr, hlo⟩ := C
  unfold zstp at hs
  dsimp only at hs
  have hdc := zdok_dec hd rfl
  split at hs
  · split at hs
    · cases hs
    · rename_i hne
      cases hs
      simp only [Nat.sub_self, Nat.add_zero] at K hr1 hr2
      exact lv_lrem hx hb hdc hne (K H ls locs hW hL hS)
  · cases hs
set_option maxHeartbeats 1000000 in
theorem zs_i2l (C : zC E p R s m args meth c mi q) (hd : zdok q.2.2.1 pc (.i2l) = true) (hs : zstp mi (.i2l) pc L S z h = some r) (hW : zW E s z h H) (hL : zL q.2.2.2.1 ls L) (hS : va_S (zA E) s.heap H locs) (hr1 : cells + (r.2.2.2.1.1 - z.1) ≤ R.cells) (hr2 : slots + (r.2.2.2.1.2.1 - z.2.1) ≤ R.slots)
    (K : ∀ (H' : Heap) (ls' : Array Slot) (locs' : List Loc), zW E s r.2.2.2.1 r.2.2.2.2 H' → zL q.2.2.2.1 ls' r.2.1 → va_S (zA E) s.heap H' locs' → W p l e R s m args below meth c H' locs' (cells + (r.2.2.2.1.1 - z.1)) (slots + (r.2.2.2.1.2.1 - z.2.1)) Q (F0 m r.1 ls' r.2.2.1)) :
    W p l e R s m args below meth c H locs cells slots Q (F0 m pc ls S) := by
  obtain ⟨hq, hx, hb, hml, hown, hini, hts, hK, hfr, hlo⟩ := C
  unfold zstp at hs
  dsimp only at hs
  have hdc := zdok_dec hd rfl
  split at hs
  · cases hs
    simp only [Nat.sub_self, Nat.add_zero] at K hr1 hr2
    exact lv_i2l hx hb hdc rfl (K H ls locs hW hL hS)
  · cases hs
set_option maxHeartbeats 1000000 in
theorem zs_l2i (C : zC E p R s m args meth c mi q) (hd : zdok q.2.2.1 pc (.l2i) = true) (hs : zstp mi (.l2i) pc L S z h = some r) (hW : zW E s z h H) (hL : zL q.2.2.2.1 ls L) (hS : va_S (zA E) s.heap H locs) (hr1 : cells + (r.2.2.2.1.1 - z.1) ≤ R.cells) (hr2 : slots + (r.2.2.2.1.2.1 - z.2.1) ≤ R.slots)
    (K : ∀ (H' : Heap) (ls' : Array Slot) (locs' : List Loc), zW E s r.2.2.2.1 r.2.2.2.2 H' → zL q.2.2.2.1 ls' r.2.1 → va_S (zA E) s.heap H' locs' → W p l e R s m args below meth c H' locs' (cells + (r.2.2.2.1.1 - z.1)) (slots + (r.2.2.2.1.2.1 - z.2.1)) Q (F0 m r.1 ls' r.2.2.1)) :
    W p l e R s m args below meth c H locs cells slots Q (F0 m pc ls S) := by
  obtain ⟨hq, hx, hb, hml, hown, hini, hts, hK, hfr, hlo⟩ := C
  unfold zstp at hs
  dsimp only at hs
  have hdc := zdok_dec hd rfl
  split at hs
  · cases hs
    simp only [Nat.sub_self, Nat.add_zero] at K hr1 hr2
    exact lv_l2i hx hb hdc rfl (K H ls locs hW hL hS)
  · cases hs
set_option maxHeartbeats 1000000 in
theorem zs_i2c (C : zC E p R s m args meth c mi q) (hd : zdok q.2.2.1 pc (.i2c) = true) (hs : zstp mi (.i2c) pc L S z h = some r) (hW : zW E s z h H) (hL : zL q.2.2.2.1 ls L) (hS : va_S (zA E) s.heap H locs) (hr1 : cells + (r.2.2.2.1.1 - z.1) ≤ R.cells) (hr2 : slots + (r.2.2.2.1.2.1 - z.2.1) ≤ R.slots)
    (K : ∀ (H' : Heap) (ls' : Array Slot) (locs' : List Loc), zW E s r.2.2.2.1 r.2.2.2.2 H' → zL q.2.2.2.1 ls' r.2.1 → va_S (zA E) s.heap H' locs' → W p l e R s m args below meth c H' locs' (cells + (r.2.2.2.1.1 - z.1)) (slots + (r.2.2.2.1.2.1 - z.2.1)) Q (F0 m r.1 ls' r.2.2.1)) :
    W p l e R s m args below meth c H locs cells slots Q (F0 m pc ls S) := by
  obtain ⟨hq, hx, hb, hml, hown, hini, hts, hK, hfr, hlo⟩ := C
  unfold zstp at hs
  dsimp only at hs
  have hdc := zdok_dec hd rfl
  split at hs
  · cases hs
    simp only [Nat.sub_self, Nat.add_zero] at K hr1 hr2
    exact lv_i2c hx hb hdc rfl (K H ls locs hW hL hS)
  · cases hs
set_option maxHeartbeats 1000000 in
theorem zs_dup (C : zC E p R s m args meth c mi q) (hd : zdok q.2.2.1 pc (.dup) = true) (hs : zstp mi (.dup) pc L S z h = some r) (hW : zW E s z h H) (hL : zL q.2.2.2.1 ls L) (hS : va_S (zA E) s.heap H locs) (hr1 : cells + (r.2.2.2.1.1 - z.1) ≤ R.cells) (hr2 : slots + (r.2.2.2.1.2.1 - z.2.1) ≤ R.slots)
    (K : ∀ (H' : Heap) (ls' : Array Slot) (locs' : List Loc), zW E s r.2.2.2.1 r.2.2.2.2 H' → zL q.2.2.2.1 ls' r.2.1 → va_S (zA E) s.heap H' locs' → W p l e R s m args below meth c H' locs' (cells + (r.2.2.2.1.1 - z.1)) (slots + (r.2.2.2.1.2.1 - z.2.1)) Q (F0 m r.1 ls' r.2.2.1)) :
    W p l e R s m args below meth c H locs cells slots Q (F0 m pc ls S) := by
  obtain ⟨hq, hx, hb, hml, hown, hini, hts, hK, hfr, hlo⟩ := C
  unfold zstp at hs
  dsimp only at hs
  have hdc := zdok_dec hd rfl
  split at hs
  · split at hs
    · rename_i hc
      cases hs
      simp only [Nat.sub_self, Nat.add_zero] at K hr1 hr2
      exact lv_dup hx hb hdc hc (K H ls locs hW hL hS)
    · cases hs
  · cases hs
set_option maxHeartbeats 1000000 in
theorem zs_pop (C : zC E p R s m args meth c mi q) (hd : zdok q.2.2.1 pc (.pop) = true) (hs : zstp mi (.pop) pc L S z h = some r) (hW : zW E s z h H) (hL : zL q.2.2.2.1 ls L) (hS : va_S (zA E) s.heap H locs) (hr1 : cells + (r.2.2.2.1.1 - z.1) ≤ R.cells) (hr2 : slots + (r.2.2.2.1.2.1 - z.2.1) ≤ R.slots)
    (K : ∀ (H' : Heap) (ls' : Array Slot) (locs' : List Loc), zW E s r.2.2.2.1 r.2.2.2.2 H' → zL q.2.2.2.1 ls' r.2.1 → va_S (zA E) s.heap H' locs' → W p l e R s m args below meth c H' locs' (cells + (r.2.2.2.1.1 - z.1)) (slots + (r.2.2.2.1.2.1 - z.2.1)) Q (F0 m r.1 ls' r.2.2.1)) :
    W p l e R s m args below meth c H locs cells slots Q (F0 m pc ls S) := by
  obtain ⟨hq, hx, hb, hml, hown, hini, hts, hK, hfr, hlo⟩ := C
  unfold zstp at hs
  dsimp only at hs
  have hdc := zdok_dec hd rfl
  split at hs
  · split at hs
    · rename_i hc
      cases hs
      simp only [Nat.sub_self, Nat.add_zero] at K hr1 hr2
      exact lv_pop hx hb hdc hc (K H ls locs hW hL hS)
    · cases hs
  · cases hs
set_option maxHeartbeats 1000000 in
theorem zs_dup2 (C : zC E p R s m args meth c mi q) (hd : zdok q.2.2.1 pc (.dup2) = true) (hs : zstp mi (.dup2) pc L S z h = some r) (hW : zW E s z h H) (hL : zL q.2.2.2.1 ls L) (hS : va_S (zA E) s.heap H locs) (hr1 : cells + (r.2.2.2.1.1 - z.1) ≤ R.cells) (hr2 : slots + (r.2.2.2.1.2.1 - z.2.1) ≤ R.slots)
    (K : ∀ (H' : Heap) (ls' : Array Slot) (locs' : List Loc), zW E s r.2.2.2.1 r.2.2.2.2 H' → zL q.2.2.2.1 ls' r.2.1 → va_S (zA E) s.heap H' locs' → W p l e R s m args below meth c H' locs' (cells + (r.2.2.2.1.1 - z.1)) (slots + (r.2.2.2.1.2.1 - z.2.1)) Q (F0 m r.1 ls' r.2.2.1)) :
    W p l e R s m args below meth c H locs cells slots Q (F0 m pc ls S) := by
  obtain ⟨hq, hx, hb, hml, hown, hini, hts, hK, hfr, hlo⟩ := C
  unfold zstp at hs
  dsimp only at hs
  have hdc := zdok_dec hd rfl
  split at hs
  · split at hs
    · rename_i hc
      cases hs
      simp only [Nat.sub_self, Nat.add_zero] at K hr1 hr2
      exact lv_dup2_11 hx hb hdc hc.1 hc.2 (K H ls locs hW hL hS)
    · cases hs
  · cases hs
set_option maxHeartbeats 1000000 in
theorem zs_goto {o : Int} (C : zC E p R s m args meth c mi q) (hd : zdok q.2.2.1 pc (.goto o) = true) (hs : zstp mi (.goto o) pc L S z h = some r) (hW : zW E s z h H) (hL : zL q.2.2.2.1 ls L) (hS : va_S (zA E) s.heap H locs) (hr1 : cells + (r.2.2.2.1.1 - z.1) ≤ R.cells) (hr2 : slots + (r.2.2.2.1.2.1 - z.2.1) ≤ R.slots)
    (K : ∀ (H' : Heap) (ls' : Array Slot) (locs' : List Loc), zW E s r.2.2.2.1 r.2.2.2.2 H' → zL q.2.2.2.1 ls' r.2.1 → va_S (zA E) s.heap H' locs' → W p l e R s m args below meth c H' locs' (cells + (r.2.2.2.1.1 - z.1)) (slots + (r.2.2.2.1.2.1 - z.2.1)) Q (F0 m r.1 ls' r.2.2.1)) :
    W p l e R s m args below meth c H locs cells slots Q (F0 m pc ls S) := by
  obtain ⟨hq, hx, hb, hml, hown, hini, hts, hK, hfr, hlo⟩ := C
  unfold zstp at hs
  dsimp only at hs
  have hdc := zdok_dec hd rfl
  split at hs
  · rename_i t ht
    cases hs
    simp only [Nat.sub_self, Nat.add_zero] at K hr1 hr2
    exact lv_goto hx hb hdc (zjmp_ok ht) (K H ls locs hW hL hS)
  · cases hs
set_option maxHeartbeats 1000000 in
theorem zs_ifCond {cd : ClassFile.Cond} {o : Int} (C : zC E p R s m args meth c mi q) (hd : zdok q.2.2.1 pc (.ifCond cd o) = true) (hs : zstp mi (.ifCond cd o) pc L S z h = some r) (hW : zW E s z h H) (hL : zL q.2.2.2.1 ls L) (hS : va_S (zA E) s.heap H locs) (hr1 : cells + (r.2.2.2.1.1 - z.1) ≤ R.cells) (hr2 : slots + (r.2.2.2.1.2.1 - z.2.1) ≤ R.slots)
    (K : ∀ (H' : Heap) (ls' : Array Slot) (locs' : List Loc), zW E s r.2.2.2.1 r.2.2.2.2 H' → zL q.2.2.2.1 ls' r.2.1 → va_S (zA E) s.heap H' locs' → W p l e R s m args below meth c H' locs' (cells + (r.2.2.2.1.1 - z.1)) (slots + (r.2.2.2.1.2.1 - z.2.1)) Q (F0 m r.1 ls' r.2.2.1)) :
    W p l e R s m args below meth c H locs cells slots Q (F0 m pc ls S) := by
  obtain ⟨hq, hx, hb, hml, hown, hini, hts, hK, hfr, hlo⟩ := C
  unfold zstp at hs
  dsimp only at hs
  have hdc := zdok_dec hd rfl
  split at hs
  · split at hs
    · rename_i t ht
      cases hs
      simp only [Nat.sub_self, Nat.add_zero] at K hr1 hr2
      have K1 := K H ls locs hW hL hS
      have hj := zjmp_ok ht
      cases cd with
      | eq =>
        refine lv_if_eq hx hb hdc hj (fun hc => ?_) (fun hc => ?_)
        · simpa only [zc2, decide_eq_true hc, cond_true] using K1
        · simpa only [zc2, decide_eq_false hc, cond_false] using K1
      | ne =>
        refine lv_if_ne hx hb hdc hj (fun hc => ?_) (fun hc => ?_)
        · simpa only [zc2, decide_eq_true hc, cond_true] using K1
        · simpa only [zc2, decide_eq_false (not_not_intro hc), cond_false] using K1
      | lt =>
        refine lv_if_lt hx hb hdc hj (fun hc => ?_) (fun hc => ?_)
        · simpa only [zc2, decide_eq_true hc, cond_true] using K1
        · simpa only [zc2, decide_eq_false hc, cond_false] using K1
      | ge =>
        refine lv_if_ge hx hb hdc hj (fun hc => ?_) (fun hc => ?_)
        · simpa only [zc2, decide_eq_true hc, cond_true] using K1
        · simpa only [zc2, decide_eq_false hc, cond_false] using K1
      | gt =>
        refine lv_if_gt hx hb hdc hj (fun hc => ?_) (fun hc => ?_)
        · simpa only [zc2, decide_eq_true hc, cond_true] using K1
        · simpa only [zc2, decide_eq_false hc, cond_false] using K1
      | le =>
        refine lv_if_le hx hb hdc hj (fun hc => ?_) (fun hc => ?_)
        · simpa only [zc2, decide_eq_true hc, cond_true] using K1
        · simpa only [zc2, decide_eq_false hc, cond_false] using K1
    · cases hs
  · cases hs
set_option maxHeartbeats 1000000 in
theorem zs_if_icmp {cd : ClassFile.Cond} {o : Int} (C : zC E p R s m args meth c mi q) (hd : zdok q.2.2.1 pc (.if_icmp cd o) = true) (hs : zstp mi (.if_icmp cd o) pc L S z h = some r) (hW : zW E s z h H) (hL : zL q.2.2.2.1 ls L) (hS : va_S (zA E) s.heap H locs) (hr1 : cells + (r.2.2.2.1.1 - z.1) ≤ R.cells) (hr2 : slots + (r.2.2.2.1.2.1 - z.2.1) ≤ R.slots)
    (K : ∀ (H' : Heap) (ls' : Array Slot) (locs' : List Loc), zW E s r.2.2.2.1 r.2.2.2.2 H' → zL q.2.2.2.1 ls' r.2.1 → va_S (zA E) s.heap H' locs' → W p l e R s m args below meth c H' locs' (cells + (r.2.2.2.1.1 - z.1)) (slots + (r.2.2.2.1.2.1 - z.2.1)) Q (F0 m r.1 ls' r.2.2.1)) :
    W p l e R s m args below meth c H locs cells slots Q (F0 m pc ls S) := by
  obtain ⟨hq, hx, hb, hml, hown, hini, hts, hK, hfr, hlo⟩ := C
  unfold zstp at hs
  dsimp only at hs
  have hdc := zdok_dec hd rfl
  split at hs
  · split at hs
    · rename_i t ht
      cases hs
      simp only [Nat.sub_self, Nat.add_zero] at K hr1 hr2
      have K1 := K H ls locs hW hL hS
      have hj := zjmp_ok ht
      cases cd with
      | eq =>
        refine lv_icmp_eq hx hb hdc hj (fun hc => ?_) (fun hc => ?_)
        · simpa only [zc2, decide_eq_true hc, cond_true] using K1
        · simpa only [zc2, decide_eq_false hc, cond_false] using K1
      | ne =>
        refine lv_icmp_ne hx hb hdc hj (fun hc => ?_) (fun hc => ?_)
        · simpa only [zc2, decide_eq_true hc, cond_true] using K1
        · simpa only [zc2, decide_eq_false (not_not_intro hc), cond_false] using K1
      | lt =>
        refine lv_icmp_lt hx hb hdc hj (fun hc => ?_) (fun hc => ?_)
        · simpa only [zc2, decide_eq_true hc, cond_true] using K1
        · simpa only [zc2, decide_eq_false hc, cond_false] using K1
      | ge =>
        refine lv_icmp_ge hx hb hdc hj (fun hc => ?_) (fun hc => ?_)
        · simpa only [zc2, decide_eq_true hc, cond_true] using K1
        · simpa only [zc2, decide_eq_false hc, cond_false] using K1
      | gt =>
        refine lv_icmp_gt hx hb hdc hj (fun hc => ?_) (fun hc => ?_)
        · simpa only [zc2, decide_eq_true hc, cond_true] using K1
        · simpa only [zc2, decide_eq_false hc, cond_false] using K1
      | le =>
        refine lv_icmp_le hx hb hdc hj (fun hc => ?_) (fun hc => ?_)
        · simpa only [zc2, decide_eq_true hc, cond_true] using K1
        · simpa only [zc2, decide_eq_false hc, cond_false] using K1
    · cases hs
  · cases hs
set_option maxHeartbeats 1000000 in
theorem zs_tableswitch {d lo hi : Int} {offs : Array Int} (C : zC E p R s m args meth c mi q) (hd : zdok q.2.2.1 pc (.tableswitch d lo hi offs) = true) (hs : zstp mi (.tableswitch d lo hi offs) pc L S z h = some r) (hW : zW E s z h H) (hL : zL q.2.2.2.1 ls L) (hS : va_S (zA E) s.heap H locs) (hr1 : cells + (r.2.2.2.1.1 - z.1) ≤ R.cells) (hr2 : slots + (r.2.2.2.1.2.1 - z.2.1) ≤ R.slots)
    (K : ∀ (H' : Heap) (ls' : Array Slot) (locs' : List Loc), zW E s r.2.2.2.1 r.2.2.2.2 H' → zL q.2.2.2.1 ls' r.2.1 → va_S (zA E) s.heap H' locs' → W p l e R s m args below meth c H' locs' (cells + (r.2.2.2.1.1 - z.1)) (slots + (r.2.2.2.1.2.1 - z.2.1)) Q (F0 m r.1 ls' r.2.2.1)) :
    W p l e R s m args below meth c H locs cells slots Q (F0 m pc ls S) := by
  obtain ⟨hq, hx, hb, hml, hown, hini, hts, hK, hfr, hlo⟩ := C
  unfold zstp at hs
  dsimp only at hs
  obtain ⟨n, hdc⟩ := zdok_sw hd
  split at hs
  · split at hs
    · rename_i hc
      split at hs
      · rename_i t ht
        cases hs
        simp only [Nat.sub_self, Nat.add_zero] at K hr1 hr2
        exact lv_tableOut hx hb hdc hc (zjmp_ok ht) (K H ls locs hW hL hS)
      · cases hs
    · rename_i hc
      split at hs
      · rename_i o ho
        split at hs
        · rename_i t ht
          cases hs
          simp only [Nat.sub_self, Nat.add_zero] at K hr1 hr2
          exact lv_tableIn hx hb hdc (fun z => hc (Or.inl z)) (fun z => hc (Or.inr z)) ho (zjmp_ok ht) (K H ls locs hW hL hS)
        · cases hs
      · cases hs
  · cases hs
set_option maxHeartbeats 1000000 in
theorem zs_lookupswitch {d : Int} {ps : Array (Int × Int)} (C : zC E p R s m args meth c mi q) (hd : zdok q.2.2.1 pc (.lookupswitch d ps) = true) (hs : zstp mi (.lookupswitch d ps) pc L S z h = some r) (hW : zW E s z h H) (hL : zL q.2.2.2.1 ls L) (hS : va_S (zA E) s.heap H locs) (hr1 : cells + (r.2.2.2.1.1 - z.1) ≤ R.cells) (hr2 : slots + (r.2.2.2.1.2.1 - z.2.1) ≤ R.slots)
    (K : ∀ (H' : Heap) (ls' : Array Slot) (locs' : List Loc), zW E s r.2.2.2.1 r.2.2.2.2 H' → zL q.2.2.2.1 ls' r.2.1 → va_S (zA E) s.heap H' locs' → W p l e R s m args below meth c H' locs' (cells + (r.2.2.2.1.1 - z.1)) (slots + (r.2.2.2.1.2.1 - z.2.1)) Q (F0 m r.1 ls' r.2.2.1)) :
    W p l e R s m args below meth c H locs cells slots Q (F0 m pc ls S) := by
  obtain ⟨hq, hx, hb, hml, hown, hini, hts, hK, hfr, hlo⟩ := C
  unfold zstp at hs
  dsimp only at hs
  obtain ⟨n, hdc⟩ := zdok_sw hd
  split at hs
  · split at hs
    · rename_i hc
      split at hs
      · rename_i t ht
        cases hs
        simp only [Nat.sub_self, Nat.add_zero] at K hr1 hr2
        exact lv_lookup hx hb hdc hc rfl (zjmp_ok ht) (K H ls locs hW hL hS)
      · cases hs
    · cases hs
  · cases hs
end ZS
