/-! instructions that make cells, and the library's own methods -/
def zDok (k : Nat) (r : vw_C) (fs : List Value) : Prop := fs.length = r.2.2 ∧ ∀ j, j < r.2.2 → defaultValue (zfty k j) = vp_V fs j
theorem zDok_all : ∀ (k : Nat) (r : vw_C) (fs : List Value), zCls[k]? = some r → zDef[k]? = some fs → zDok k r fs := by
  intro k r fs h h2
  match k, h, h2 with
  | 0, h, h2 => cases h; cases h2; exact ⟨rfl, by decide +kernel⟩
  | 1, h, h2 => cases h; cases h2; exact ⟨rfl, by decide +kernel⟩
  | 2, h, h2 => cases h; cases h2; exact ⟨rfl, by decide +kernel⟩
  | 3, h, h2 => cases h; cases h2; exact ⟨rfl, by decide +kernel⟩
  | 4, h, h2 => cases h; cases h2; exact ⟨rfl, by decide +kernel⟩
  | 5, h, h2 => cases h; cases h2; exact ⟨rfl, by decide +kernel⟩
  | 6, h, h2 => cases h; cases h2; exact ⟨rfl, by decide +kernel⟩
  | 7, h, h2 => cases h; cases h2; exact ⟨rfl, by decide +kernel⟩
  | 8, h, h2 => cases h; cases h2; exact ⟨rfl, by decide +kernel⟩
  | 9, h, h2 => cases h; cases h2; exact ⟨rfl, by decide +kernel⟩
  | 10, h, h2 => cases h; cases h2; exact ⟨rfl, by decide +kernel⟩
  | n + 11, h, h2 => exact absurd h (by simp [zCls])
theorem zarc : ∀ t, t < 4 → Jvm.Cond.arrayClass (zArr t) ∈ zgw := by
  intro t ht
  match t, ht with
  | 0, _ => exact List.mem_filter.mpr ⟨List.mem_of_getElem? (i := 58) (by decide +kernel), rfl⟩
  | 1, _ => exact List.mem_filter.mpr ⟨List.mem_of_getElem? (i := 58) (by decide +kernel), rfl⟩
  | 2, _ => exact List.mem_filter.mpr ⟨List.mem_of_getElem? (i := 273) (by decide +kernel), rfl⟩
  | 3, _ => exact List.mem_filter.mpr ⟨List.mem_of_getElem? (i := 251) (by decide +kernel), rfl⟩
  | n + 4, h => exact absurd h (by omega)
theorem zaty_ty (a : ArrayType) (h : zaty a < 4) : newarray.typeOf a = zArr (zaty a) := by
  cases a <;> first | rfl | (exact absurd h (by decide))
theorem zcb (a : ArrayType) : componentBytes (newarray.typeOf a) ≤ 8 := by cases a <;> decide
theorem zclamp {n : Int32} (h : 0 ≤ n.toInt) : n.toInt = (n.toNatClampNeg : Int) := by
  show n.toInt = ((n.toInt.toNat : Nat) : Int)
  omega
theorem znn {n : Int32} (h : 0 ≤ n.toInt) : ¬ n < 0 := by
  rw [Int32.lt_iff_toInt_lt, Int32.toInt_zero]
  omega
theorem znfw : nativeFrameWords "java/lang/System" "arraycopy" 5 ≤ 17 := by decide +kernel
section ZS3
variable {E : zE} {p : Program} {l : Launch} {e : Env} {R : Room} {s : State} {m : MethodId} {args : Array Value} {below : List Frame} {meth : Method} {c : Code} {H : Heap} {locs : List Loc} {cells slots : Nat} {Q : State → Prop}
variable {mi pc : Nat} {q : zMt} {ls : Array Slot} {L S : List Value} {z : zZ} {h : zH} {r : zR}
set_option maxHeartbeats 1000000 in
theorem zs_new {k : Nat} (C : zC E p R s m args meth c mi q) (hd : zdok q.2.2.1 pc (.new k) = true) (hs : zstp mi (.new k) pc L S z h = some r) (hW : zW E s z h H) (hL : zL q.2.2.2.1 ls L) (hS : va_S (zA E) s.heap H locs) (hr1 : cells + (r.2.2.2.1.1 - z.1) ≤ R.cells) (hr2 : slots + (r.2.2.2.1.2.1 - z.2.1) ≤ R.slots)
    (K : ∀ (H' : Heap) (ls' : Array Slot) (locs' : List Loc), zW E s r.2.2.2.1 r.2.2.2.2 H' → zL q.2.2.2.1 ls' r.2.1 → va_S (zA E) s.heap H' locs' → W p l e R s m args below meth c H' locs' (cells + (r.2.2.2.1.1 - z.1)) (slots + (r.2.2.2.1.2.1 - z.2.1)) Q (F0 m r.1 ls' r.2.2.1)) :
    W p l e R s m args below meth c H locs cells slots Q (F0 m pc ls S) := by
  obtain ⟨hq, hx, hb, hml, hown, hini, hts, hK, hfr, hlo⟩ := C
  unfold zstp at hs
  dsimp only at hs
  have hdc := zdok_dec hd rfl
  split at hs
  · rename_i ci x1 x2 hp
    split at hs
    · rename_i fs hfs
      cases hs
      simp only [Nat.add_sub_cancel_left] at K hr1 hr2
      obtain ⟨ps, ho⟩ := zpool_ok hq hp
      simp only [zpok] at ho
      cases hr : zCls[ci]? with
      | none => rw [hr] at ho; cases ho
      | some rr =>
        rw [hr] at ho
        simp only [Bool.and_eq_true] at ho
        obtain ⟨⟨w1, w2⟩, w3⟩ := ho
        obtain ⟨dl, dv⟩ := zDok_all ci rr fs hr hfs
        have hKn := hK.1 ci rr hr
        rw [dl] at K hr2
        refine W.newcK hx hb hown (hts _ (zin_mem w1)) (hts _ (zin_mem w2)) (hts _ (zin_mem w3)) rfl hdc hr1 hr2 hKn.2.1 hW.1 fun H1 kC hkC e1 z1 o1 => ?_
        have hc1 : zcellP E s z.1 (.inr (ci, fs)) H1 := ⟨hW.2.1, rr, hr, (u_born (zfty ci) hts (zTin hr) hKn hkC e1 (zTok_all _ _ hr).2.1).to dv⟩
        exact K H1 ls locs (by rw [← dl]; exact hW.mk hc1 z1 o1) hL ⟨Nat.le_trans hS.1 (by rw [z1, hW.1]; exact Nat.le_succ _), fun x h1 h2 => (o1 x (by have := hS.1; rw [hW.1] at this; omega)).trans (hS.2.1 x h1 h2), hS.2.2⟩
    · cases hs
  · cases hs
set_option maxHeartbeats 1000000 in
theorem zs_newarray {ty : ArrayType} (C : zC E p R s m args meth c mi q) (hd : zdok q.2.2.1 pc (.newarray ty) = true) (hs : zstp mi (.newarray ty) pc L S z h = some r) (hW : zW E s z h H) (hL : zL q.2.2.2.1 ls L) (hS : va_S (zA E) s.heap H locs) (hr1 : cells + (r.2.2.2.1.1 - z.1) ≤ R.cells) (hr2 : slots + (r.2.2.2.1.2.1 - z.2.1) ≤ R.slots)
    (K : ∀ (H' : Heap) (ls' : Array Slot) (locs' : List Loc), zW E s r.2.2.2.1 r.2.2.2.2 H' → zL q.2.2.2.1 ls' r.2.1 → va_S (zA E) s.heap H' locs' → W p l e R s m args below meth c H' locs' (cells + (r.2.2.2.1.1 - z.1)) (slots + (r.2.2.2.1.2.1 - z.2.1)) Q (F0 m r.1 ls' r.2.2.1)) :
    W p l e R s m args below meth c H locs cells slots Q (F0 m pc ls S) := by
  obtain ⟨hq, hx, hb, hml, hown, hini, hts, hK, hfr, hlo⟩ := C
  unfold zstp at hs
  dsimp only at hs
  have hdc := zdok_dec hd rfl
  split at hs
  · rename_i n S0
    split at hs
    · rename_i hc
      cases hs
      simp only [Nat.add_sub_cancel_left] at K hr1 hr2
      obtain ⟨hty, hn, hn2⟩ := hc
      have hlt : n.toNatClampNeg < 10000 := by have := zclamp hn; omega
      have hte := zaty_ty ty hty
      have hb8 := zcb ty
      refine va_newaK hx hb (by rw [hte]; exact hts _ (zarc _ hty)) rfl hdc rfl (znn hn) rfl (Nat.le_trans (Nat.mul_le_mul (Nat.le_of_lt hlt) hb8) (by decide)) hr1 hr2 hW.1 fun H1 cA e1 z1 o1 hAr hNm => ?_
      rw [hte] at e1 hAr hNm
      have ht6 : zaty ty < 6 := by omega
      have hcA : cA = E.2.2.2.1 (zaty ty) := Option.some.inj (hNm.symm.trans (hK.2.1 _ ht6).2.2)
      subst hcA
      have hc1 : zcellP E s z.1 (znew (zaty ty) n.toNatClampNeg) H1 := by
        cases ty <;> first | (exact absurd hty (by decide)) | exact ⟨fun _ => ⟨hW.2.1, e1⟩, fun w => (by cases w), fun w => (by cases w)⟩
      exact K H1 ls locs (hW.mk hc1 z1 o1) hL ⟨Nat.le_trans hS.1 (by rw [z1, hW.1]; exact Nat.le_succ _), fun x h1 h2 => (o1 x (by have := hS.1; rw [hW.1] at this; omega)).trans (hS.2.1 x h1 h2), hS.2.2⟩
    · cases hs
  · cases hs
set_option maxHeartbeats 1000000 in
theorem zs_anewarray {k : Nat} (C : zC E p R s m args meth c mi q) (hd : zdok q.2.2.1 pc (.anewarray k) = true) (hs : zstp mi (.anewarray k) pc L S z h = some r) (hW : zW E s z h H) (hL : zL q.2.2.2.1 ls L) (hS : va_S (zA E) s.heap H locs) (hr1 : cells + (r.2.2.2.1.1 - z.1) ≤ R.cells) (hr2 : slots + (r.2.2.2.1.2.1 - z.2.1) ≤ R.slots)
    (K : ∀ (H' : Heap) (ls' : Array Slot) (locs' : List Loc), zW E s r.2.2.2.1 r.2.2.2.2 H' → zL q.2.2.2.1 ls' r.2.1 → va_S (zA E) s.heap H' locs' → W p l e R s m args below meth c H' locs' (cells + (r.2.2.2.1.1 - z.1)) (slots + (r.2.2.2.1.2.1 - z.2.1)) Q (F0 m r.1 ls' r.2.2.1)) :
    W p l e R s m args below meth c H locs cells slots Q (F0 m pc ls S) := by
  obtain ⟨hq, hx, hb, hml, hown, hini, hts, hK, hfr, hlo⟩ := C
  unfold zstp at hs
  dsimp only at hs
  have hdc := zdok_dec hd rfl
  split at hs
  · rename_i t x1 x2 n S0 hp
    split at hs
    · rename_i hc
      cases hs
      simp only [Nat.add_sub_cancel_left] at K hr1 hr2
      obtain ⟨hn, hn2⟩ := hc
      have hlt : n.toNatClampNeg < 10000 := by have := zclamp hn; omega
      obtain ⟨ps, ho⟩ := zpool_ok hq hp
      simp only [zpok] at ho
      split at ho
      · rename_i C hC
        simp only [Bool.and_eq_true, Bool.or_eq_true, beq_iff_eq] at ho
        obtain ⟨w1, w2⟩ := ho
        rw [Nat.add_sub_cancel] at w1
        have ht6 : t < 6 := by rcases w2 with rfl | rfl <;> decide
        refine W.anew hx hb hown (hts _ (zin_mem w1)) (va_AO.use (hK.2.2.2.2 t C hC)) rfl hdc rfl (znn hn) (by omega) hr1 hr2 fun cA kA comp f1 f2 f3 f4 => ?_
        have hcA : cA = E.2.2.2.1 t := by
          have h1 := (hK.2.1 _ ht6).2.2
          rw [hC] at h1
          exact Option.some.inj (f1.symm.trans h1)
        subst hcA
        generalize hH1 : H.push ({ cls := E.2.2.2.1 t, slots := Array.replicate n.toNatClampNeg .null, vm := .none } : Cell) = H1
        have z1 : H1.size = z.1 + 1 := by rw [← hH1, Array.size_push, hW.1]
        have e1 : H1[z.1]? = some (arrV (E.2.2.2.1 t) n.toNatClampNeg (fun _ => .null)) := by rw [← hH1, ← hW.1, Array.getElem?_push_size, ← arrV_new]
        have o1 : ∀ q : Nat, q < z.1 → H1[q]? = H[q]? := fun q hq => by rw [← hH1, Array.getElem?_push, if_neg (Nat.ne_of_lt (by rw [hW.1]; exact hq))]
        have hc1 : zcellP E s z.1 (.inl (t, n.toNatClampNeg, .inr (.inr (.inr (.inr fun _ => none))))) H1 := by
          refine ⟨fun _ => ⟨hW.2.1, ?_⟩, fun w => (by rcases w2 with rfl | rfl <;> cases w), fun w => (by rcases w2 with rfl | rfl <;> cases w)⟩
          dsimp only
          rw [vp_cell_q]
          exact e1
        have hsz : H.size = z.1 := hW.1
        rw [hsz]
        exact K H1 ls locs (hW.mk hc1 z1 o1) hL ⟨Nat.le_trans hS.1 (by rw [z1, hW.1]; exact Nat.le_succ _), fun x h1 h2 => (o1 x (by have := hS.1; rw [hW.1] at this; omega)).trans (hS.2.1 x h1 h2), hS.2.2⟩
      · cases ho
    · cases hs
  · cases hs
set_option maxHeartbeats 1000000 in
theorem zs_invokespecial {k : Nat} (C : zC E p R s m args meth c mi q) (hd : zdok q.2.2.1 pc (.invokespecial k) = true) (hs : zstp mi (.invokespecial k) pc L S z h = some r) (hW : zW E s z h H) (hL : zL q.2.2.2.1 ls L) (hS : va_S (zA E) s.heap H locs) (hr1 : cells + (r.2.2.2.1.1 - z.1) ≤ R.cells) (hr2 : slots + (r.2.2.2.1.2.1 - z.2.1) ≤ R.slots)
    (K : ∀ (H' : Heap) (ls' : Array Slot) (locs' : List Loc), zW E s r.2.2.2.1 r.2.2.2.2 H' → zL q.2.2.2.1 ls' r.2.1 → va_S (zA E) s.heap H' locs' → W p l e R s m args below meth c H' locs' (cells + (r.2.2.2.1.1 - z.1)) (slots + (r.2.2.2.1.2.1 - z.2.1)) Q (F0 m r.1 ls' r.2.2.1)) :
    W p l e R s m args below meth c H locs cells slots Q (F0 m pc ls S) := by
  obtain ⟨hq, hx, hb, hml, hown, hini, hts, hK, hfr, hlo⟩ := C
  unfold zstp at hs
  dsimp only at hs
  have hdc := zdok_dec hd rfl
  split at hs
  · rename_i x1 x2 x3 a S0 hp
    split at hs
    · rename_i hc
      cases hs
      simp only [Nat.sub_self, Nat.add_zero] at K hr1 hr2
      obtain ⟨ps, ho⟩ := zpool_ok hq hp
      simp only [zpok, Bool.and_eq_true] at ho
      obtain ⟨⟨w1, w2⟩, w3⟩ := ho
      rw [zrk_of hq] at hc
      have hfr1 : 1 ≤ R.frames := by omega
      have hlo1 : 36 ≤ R.locals := by omega
      have hcat := hc.1
      unfold zcat at hcat
      refine W.objInit hx hb hown (hts _ (zin_mem w1)) (hts _ (zin_mem w2)) (hts _ (zin_mem w3)) rfl (by rw [hml]; exact hL.2.1) rfl hdc hfr1 (by show 2 * 0 + _ + 12 ≤ _; omega) ?_
      exact W.eq rfl (K H ls locs hW hL hS)
    · cases hs
  · cases hs
set_option maxHeartbeats 1000000 in
theorem zs_invokestatic {k : Nat} (C : zC E p R s m args meth c mi q) (hd : zdok q.2.2.1 pc (.invokestatic k) = true) (hs : zstp mi (.invokestatic k) pc L S z h = some r) (hW : zW E s z h H) (hL : zL q.2.2.2.1 ls L) (hS : va_S (zA E) s.heap H locs) (hr1 : cells + (r.2.2.2.1.1 - z.1) ≤ R.cells) (hr2 : slots + (r.2.2.2.1.2.1 - z.2.1) ≤ R.slots)
    (K : ∀ (H' : Heap) (ls' : Array Slot) (locs' : List Loc), zW E s r.2.2.2.1 r.2.2.2.2 H' → zL q.2.2.2.1 ls' r.2.1 → va_S (zA E) s.heap H' locs' → W p l e R s m args below meth c H' locs' (cells + (r.2.2.2.1.1 - z.1)) (slots + (r.2.2.2.1.2.1 - z.2.1)) Q (F0 m r.1 ls' r.2.2.1)) :
    W p l e R s m args below meth c H locs cells slots Q (F0 m pc ls S) := by
  obtain ⟨hq, hx, hb, hml, hown, hini, hts, hK, hfr, hlo⟩ := C
  unfold zstp at hs
  dsimp only at hs
  have hdc := zdok_dec hd rfl
  split at hs
  · rename_i x1 x2 x3 y x S0 hp
    split at hs
    · rename_i hc
      cases hs
      simp only [Nat.sub_self, Nat.add_zero] at K hr1 hr2
      obtain ⟨ps, ho⟩ := zpool_ok hq hp
      simp only [zpok, Bool.and_eq_true] at ho
      obtain ⟨⟨⟨w1, w2⟩, w3⟩, w4⟩ := ho
      rw [zrk_of hq] at hc
      have hfr1 : 1 ≤ R.frames := by omega
      have hlo1 : 36 ≤ R.locals := by omega
      have hcat := hc.1
      unfold zcat at hcat
      exact va_mmin hx hb (by rw [hml]; exact hL.2.1.symm) hown (hts _ (zin_mem w1)) (hts _ (zin_mem w2)) (hts _ (zin_mem w3)) (hts _ (zin_mem w4)) hfr1 (by omega) hr1 hr2 hdc (K H ls locs hW hL hS)
    · cases hs
  · rename_i x1 x2 x3 y x S0 hp
    split at hs
    · rename_i hc
      cases hs
      simp only [Nat.sub_self, Nat.add_zero] at K hr1 hr2
      obtain ⟨ps, ho⟩ := zpool_ok hq hp
      simp only [zpok, Bool.and_eq_true] at ho
      obtain ⟨⟨⟨w1, w2⟩, w3⟩, w4⟩ := ho
      rw [zrk_of hq] at hc
      have hfr1 : 1 ≤ R.frames := by omega
      have hlo1 : 36 ≤ R.locals := by omega
      have hcat := hc.1
      unfold zcat at hcat
      exact va_mmax hx hb (by rw [hml]; exact hL.2.1.symm) hown (hts _ (zin_mem w1)) (hts _ (zin_mem w2)) (hts _ (zin_mem w3)) (hts _ (zin_mem w4)) hfr1 (by omega) hr1 hr2 hdc (K H ls locs hW hL hS)
    · cases hs
  · rename_i x1 x2 x3 n dp a sp b S0 hp
    split at hs
    · rename_i hc
      split at hs
      · rename_i cv hv
        cases hs
        simp only [Nat.sub_self, Nat.add_zero] at K hr1 hr2
        obtain ⟨ps, ho⟩ := zpool_ok hq hp
        simp only [zpok, Bool.and_eq_true] at ho
        obtain ⟨⟨⟨w1, w2⟩, w3⟩, w4⟩ := ho
        rw [zrk_of hq] at hc
        have hfr1 : 1 ≤ R.frames := by omega
        have hlo1 : 36 ≤ R.locals := by omega
        have hcat := hc.1
        unfold zcat at hcat
        unfold zcpy at hv
        split at hv
        · rename_i t0 n0 f t1 n1 g hob hoa
          split at hv
          · rename_i hg
            cases hv
            obtain ⟨rfl, rfl, g1, g2, g3, g4, g5⟩ := hg
            obtain ⟨-, hbB, hcb⟩ := zarr hW hob (by decide)
            obtain ⟨-, haB, hca⟩ := zarr hW hoa (by decide)
            have hAr := (hK.2.1 0 (by decide)).1
            have q1 := zclamp g1
            have q2 := zclamp g2
            have q3 := zclamp g3
            intro T hT X
            obtain ⟨-, k0, hk0, cm0, hkk0⟩ := hAr n0 (fun j => .int (f j))
            obtain ⟨-, k1, hk1, cm1, hkk1⟩ := hAr n1 (fun j => .int (g j))
            obtain ⟨vm', X', step⟩ := X.arraycopy hx hown (hts _ (zin_mem w1)) (hts _ (zin_mem w2)) (hts _ (zin_mem w3)) (hts _ (zin_mem w4)) (src := b) (dst := a) (cs := vp_cell (E.2.2.2.1 0) (n0, .inl f)) (cd := vp_cell (E.2.2.2.1 0) (n1, .inl g)) (srcPos := sp) (destPos := dp) (n := n) (by rw [hT]; exact hcb) (by rw [hT]; exact hca)
              (fun _ h => by cases h) (fun _ h => by cases h) (fun h => by cases h) (fun h => by cases h) hk0 hk1 hkk0 hkk1 rfl (znn g1) (znn g2) (znn g3)
              (by show ¬ _ > ((arrV (E.2.2.2.1 0) n0 (fun j => .int (f j))).slots.size : Int); rw [arrV_size]; omega)
              (by show ¬ _ > ((arrV (E.2.2.2.1 0) n1 (fun j => .int (g j))).slots.size : Int); rw [arrV_size]; omega)
              (fun vm₁ _ i hi => by
                have e : (vp_cell (E.2.2.2.1 0) (n0, .inl f)).slots.getD (sp.toNatClampNeg + i) .null = .int (f (sp.toNatClampNeg + i)) := by
                  show (arrV (E.2.2.2.1 0) n0 (fun j => .int (f j))).slots.getD _ _ = _
                  rw [Array.getD_eq_getD_getElem?, arrV_read _ _ (by omega)]
                  rfl
                refine ⟨?_, ?_⟩
                · rw [e]; rfl
                · rw [e]; exact trivial)
              (g := F0 m pc ls (.int n :: .int dp :: .ref a :: .int sp :: .ref b :: S0)) rfl (by rw [hml]; exact hL.2.1) (rest := S0) rfl (by rw [hb]; exact hdc) hfr1 (by have := znfw; show 2 * 0 + _ + _ ≤ _; omega)
            have e1 : copied (vp_cell (E.2.2.2.1 0) (n0, .inl f)) (vp_cell (E.2.2.2.1 0) (n1, .inl g)) sp dp n = vp_cell (E.2.2.2.1 0) (n1, .inl (va_cpy f g sp.toNatClampNeg dp.toNatClampNeg n.toNatClampNeg)) := va_copied (fun z => .int z) _ _ f g (by omega)
            rw [e1] at X' step
            have hl : a < H.size := (Array.getElem?_eq_some_iff.mp hca).1
            have oq : ∀ q : Nat, q ≠ a → (H.setIfInBounds a (vp_cell (E.2.2.2.1 0) (n1, .inl (va_cpy f g sp.toNatClampNeg dp.toNatClampNeg n.toNatClampNeg))))[q]? = H[q]? := fun q hq => by simp [Array.getElem?_setIfInBounds, Ne.symm hq]
            have es : (H.setIfInBounds a (vp_cell (E.2.2.2.1 0) (n1, .inl (va_cpy f g sp.toNatClampNeg dp.toNatClampNeg n.toNatClampNeg))))[a]? = some (vp_cell (E.2.2.2.1 0) (n1, .inl (va_cpy f g sp.toNatClampNeg dp.toNatClampNeg n.toNatClampNeg))) := by simp [Array.getElem?_setIfInBounds, hl]
            have hheap : ((T.setVm vm').setCell a (vp_cell (E.2.2.2.1 0) (n1, .inl (va_cpy f g sp.toNatClampNeg dp.toNatClampNeg n.toNatClampNeg)))).heap = H.setIfInBounds a (vp_cell (E.2.2.2.1 0) (n1, .inl (va_cpy f g sp.toNatClampNeg dp.toNatClampNeg n.toNatClampNeg))) := by rw [← hT]; rfl
            obtain ⟨t, a1, b1⟩ := K _ ls _ (hW.up (c := .inl (0, n1, .inl (va_cpy f g sp.toNatClampNeg dp.toNatClampNeg n.toNatClampNeg))) ⟨fun _ => ⟨haB, es⟩, fun w => (by cases w), fun w => (by cases w)⟩ haB (by simp) oq) hL ⟨by simp; exact hS.1, fun q g1 g2 => by
                rw [oq q (fun e => g2 (by rw [e]; exact haB))]
                exact hS.2.1 q g1 g2, fun q hq => by
                rcases List.mem_append.mp hq with h | h
                · exact hS.2.2 q h
                · obtain ⟨z, -, hz⟩ := List.mem_map.mp h
                  rw [← hz]
                  exact haB⟩ _ hheap X'
            exact ⟨t, step t a1, b1⟩
          · cases hv
        · cases hv
      · cases hs
    · cases hs
  · cases hs
end ZS3
