/-! instructions that read and write the heap -/
/-- a world of one cell -/
theorem zP1 {E : zE} {U : State} {z : zZ} {h : zH} {H : Heap} {a : Nat} {e : va_E} (hW : zW E U z h H) (he : h a = e) (e' : va_E) (hc : zcellP E U a e H → va_at (zD E) zCls (a, e') H) : va_P (zD E) zCls [(a, e')] H := by
  intro k x hk
  have h1 := hW.2.2.2.1 a
  rw [he] at h1
  match k, hk with
  | 0, hk => cases hk; exact hc h1
  | k + 1, hk => simp at hk
theorem zobj {E : zE} {U : State} {z : zZ} {h : zH} {H : Heap} {a : Nat} {o : Nat × List Value} (hW : zW E U z h H) (he : h a = .inr o) : va_P (zD E) zCls [(a, .inr o)] H ∧ E.1 ≤ a := by
  refine ⟨zP1 hW he _ (fun h => h.2), ?_⟩
  have h1 := hW.2.2.2.1 a
  rw [he] at h1
  exact h1.1
theorem zarr {E : zE} {U : State} {z : zZ} {h : zH} {H : Heap} {a t : Nat} {x : vp_A} (hW : zW E U z h H) (he : h a = .inl (t, x)) (ht : t < 6) : va_P (zD E) zCls [(a, .inl (E.2.2.2.1 t, x))] H ∧ E.1 ≤ a ∧ H[a]? = some (vp_cell (E.2.2.2.1 t) x) := by
  have h1 := hW.2.2.2.1 a
  rw [he] at h1
  exact ⟨zP1 hW he _ (fun h => (h.1 ht).2), (h1.1 ht).1, (h1.1 ht).2⟩
/-- the classes' tables, in one form -/
def zTok (k : Nat) (r : vw_C) : Prop := (∀ w ∈ u_ws r.1 r.2.1 r.2.2, w ∈ lw_tbl) ∧ (∀ j, j < r.2.2 → parseFieldDescriptor (r.2.1 j).2.2.1 = some (zfty k j)) ∧ (∀ a, a < r.2.2 → ∀ b, b < r.2.2 → a ≠ b → (r.2.1 a).2.1 ≠ (r.2.1 b).2.1)
theorem zTok_all : ∀ (k : Nat) (r : vw_C), zCls[k]? = some r → zTok k r := by
  intro k r h
  match k, h with
  | 0, h => cases h; exact ⟨wxX0, tyX0_ok, nmX0⟩
  | 1, h => cases h; exact ⟨wxX1, tyX1_ok, nmX1⟩
  | 2, h => cases h; exact ⟨wxX2, tyX2_ok, nmX2⟩
  | 3, h => cases h; exact ⟨wxX3, tyX3_ok, nmX3⟩
  | 4, h => cases h; exact ⟨wxX4, tyX4_ok, nmX4⟩
  | 5, h => cases h; exact ⟨wxX5, tyX5_ok, nmX5⟩
  | 6, h => cases h; exact ⟨wxX6, tyX6_ok, nmX6⟩
  | 7, h => cases h; exact ⟨wxX7, tyX7_ok, nmX7⟩
  | 8, h => cases h; exact ⟨wxX8, tyX8_ok, nmX8⟩
  | 9, h => cases h; exact ⟨wxX9, tyX9_ok, nmX9⟩
  | 10, h => cases h; exact ⟨wxX10, tyX10_ok, nmX10⟩
  | n + 11, h => exact absurd h (by simp [zCls])
theorem zgood_u {C : String} {T : u_T} {N : Nat} : ∀ w ∈ u_ws C T N, goodWord w = true := by
  intro w hw
  obtain ⟨k, -, rfl⟩ := List.mem_map.mp hw
  unfold u_lay
  split <;> rfl
theorem zTin {k : Nat} {r : vw_C} (h : zCls[k]? = some r) : ∀ w ∈ u_ws r.1 r.2.1 r.2.2, w ∈ zgw := fun w hw => List.mem_filter.mpr ⟨(zTok_all k r h).1 w hw, zgood_u w hw⟩
theorem zfit_spec {ty : FieldType} {v : Value} (h : zfit ty v = true) : narrow ty v = v ∧ fits ty v = true := by
  simp only [zfit, Bool.and_eq_true, decide_eq_true_eq] at h
  exact h
theorem zoc_own {mi ci : Nat} {q : zMt} {rr : vw_C} (hq : zM[mi]? = some q) (h : zoc mi = ci) (hr : zCls[ci]? = some rr) : rr.1 = q.1 := by
  have h3 := (zmem_of hq).2.2
  simp only [Bool.and_eq_true, decide_eq_true_eq] at h3
  have h4 : zOwn[q.2.2.2.2.2.2.1]? = some q.1 := h3.2
  unfold zoc at h
  rw [hq] at h
  simp only at h
  rw [h] at h4
  match ci, hr, h4 with
  | 0, hr, h4 => cases hr; exact Option.some.inj h4
  | 1, hr, h4 => cases hr; exact Option.some.inj h4
  | 2, hr, h4 => cases hr; exact Option.some.inj h4
  | 3, hr, h4 => cases hr; exact Option.some.inj h4
  | 4, hr, h4 => cases hr; exact Option.some.inj h4
  | 5, hr, h4 => cases hr; exact Option.some.inj h4
  | 6, hr, h4 => cases hr; exact Option.some.inj h4
  | 7, hr, h4 => cases hr; exact Option.some.inj h4
  | 8, hr, h4 => cases hr; exact Option.some.inj h4
  | 9, hr, h4 => cases hr; exact Option.some.inj h4
  | 10, hr, h4 => cases hr; exact Option.some.inj h4
  | n + 11, hr, h4 => exact absurd hr (by simp [zCls])
section ZS2
variable {E : zE} {p : Program} {l : Launch} {e : Env} {R : Room} {s : State} {m : MethodId} {args : Array Value} {below : List Frame} {meth : Method} {c : Code} {H : Heap} {locs : List Loc} {cells slots : Nat} {Q : State → Prop}
variable {mi pc : Nat} {q : zMt} {ls : Array Slot} {L S : List Value} {z : zZ} {h : zH} {r : zR}
/-- a write into a cell of ours -/
theorem zS_put {A : Nat → Prop} {H0 H H1 : Heap} {locs : List Loc} {a k : Nat} (h : va_S A H0 H locs) (hz : H1.size = H.size) (oq : ∀ q : Nat, q ≠ a → H1[q]? = H[q]?) (ha : A a) : va_S A H0 H1 (locs ++ [⟨a, k⟩]) := h.put hz oq ha
theorem zw_get (hx : p.tables.exec = Jvm.exec) (hb : c.code = q.2.2.1) (hts : ∀ w ∈ zgw, w.before args s = true) (hown : s.vm.findClass q.1 = some m.cls) (hK : zK E s) (hW : zW E s z h H) {k ci j a : Nat} {rr : vw_C} {v : Value} {rest : List Value}
    (hr : zCls[ci]? = some rr) (hlink : (Cond.fieldLink q.1 k rr.1 (rr.2.1 j).2.1 (rr.2.1 j).2.2.1).before args s = true) (hdecl : (rr.2.1 j).1 = rr.1) (hj : j < rr.2.2) (hv : zget ci j (h a) = some v) (hdc : decode q.2.2.1 pc = .ok (.getfield k, 3))
    (kk : W p l e R s m args below meth c H locs cells slots Q (F0 m (pc + 3) ls (v :: rest))) : W p l e R s m args below meth c H locs cells slots Q (F0 m pc ls (.ref a :: rest)) := by
  unfold zget at hv
  split at hv
  · rename_i o ho
    split at hv
    · rename_i hci
      obtain ⟨hP, -⟩ := zobj hW ho
      obtain ⟨o1, o2⟩ := o
      simp only at hci hv
      subst hci
      exact va_get (own := q.1) (ref := rr.1) (C := rr.1) (T := rr.2.1) (N := rr.2.2) (index := k) hx hb hts (zTin hr) hown (tys := []) ⟨hK.1, fun i x hi => by simp at hi⟩ hP 0 rfl hr j hj hlink (by rw [hdecl]; exact fun _ h9 => h9) hv hdc kk
    · cases hv
  · cases hv
theorem zw_put (hx : p.tables.exec = Jvm.exec) (hb : c.code = q.2.2.1) (hts : ∀ w ∈ zgw, w.before args s = true) (hown : s.vm.findClass q.1 = some m.cls) (hK : zK E s) (hW : zW E s z h H) (hS : va_S (zA E) s.heap H locs) {k ci j a : Nat} {rr : vw_C} {v : Value} {cv : va_E} {rest : List Value}
    (hr : zCls[ci]? = some rr) (hlink : (Cond.fieldLink q.1 k rr.1 (rr.2.1 j).2.1 (rr.2.1 j).2.2.1).before args s = true) (hdecl : (rr.2.1 j).1 = rr.1) (hj : j < rr.2.2) (hfin : (rr.2.1 j).2.2.2 = false ∨ ((rr.2.1 j).2.2.2 = true ∧ meth.name = "<init>" ∧ rr.1 = q.1)) (hv : zput ci j v (h a) = some cv) (hdc : decode q.2.2.1 pc = .ok (.putfield k, 3))
    (kk : ∀ (H' : Heap) (locs' : List Loc), zW E s z (zup h a cv) H' → va_S (zA E) s.heap H' locs' → W p l e R s m args below meth c H' locs' cells slots Q (F0 m (pc + 3) ls rest)) : W p l e R s m args below meth c H locs cells slots Q (F0 m pc ls (v :: .ref a :: rest)) := by
  unfold zput at hv
  split at hv
  · rename_i o ho
    split at hv
    · rename_i hci
      obtain ⟨hP, haB⟩ := zobj hW ho
      obtain ⟨o1, o2⟩ := o
      simp only at hci hv
      obtain ⟨hc1, hl, hfit⟩ := hci
      subst hc1
      cases hv
      obtain ⟨hn, hf⟩ := zfit_spec hfit
      obtain ⟨t1, t2, t3⟩ := zTok_all _ _ hr
      have hap := va_apart (own := q.1) (D := zD E) (cl := zCls) (tys := []) (ci := o1) hts (zTin hr) (zfty o1) t2 t3 ⟨hK.1, fun i x hi => by simp at hi⟩ hr
      obtain ⟨r', h1, cell, q1, q2, q3, q4⟩ := hP 0 _ rfl
      have hr' : r' = rr := Option.some.inj (h1.symm.trans hr)
      subst hr'
      obtain ⟨hSl, hfc, kC, hkC, hkind⟩ := hK.1 o1 _ hr
      obtain ⟨cf, kf, fi, f, hi, hsl⟩ := hSl j hj
      have hlay := hts _ (zTin hr _ (u_in_lay hj))
      have hst := (u_facts hfc hkC (u_lays hts (zTin hr) hj) hi).1
      have hi2 : s.fieldFound? r'.1 (r'.2.1 j).2.1 (r'.2.1 j).2.2.1 = some (cf, kf, fi, f) := by rw [← hdecl]; exact hi
      have goal : ∀ H' : Heap, H'[a]? = some (cell.setSlot f.slot v) → H'.size = H.size → (∀ q : Nat, q ≠ a → H'[q]? = H[q]?) → W p l e R s m args below meth c H' (locs ++ [⟨a, f.slot⟩]) cells slots Q (F0 m (pc + 3) ls rest) := by
        intro H' e1 e2 e3
        rw [hsl] at e1
        refine kk H' _ (hW.up (c := .inr (o1, o2.set j v)) ⟨haB, r', hr, t_OB.to (V := updV (vp_V o2) j v) ⟨_, e1, q2, q3, t_set q4 hap hj v⟩ (fun i _ => vp_updV_set hl v i)⟩ haB e2 e3) (hS.put e2 e3 haB)
      rcases hfin with hfin | ⟨hfin, hin2, hdecl2⟩
      · unfold u_lay at hlay
        rw [if_neg (by rw [hfin]; decide)] at hlay
        have h6 := u_store hfc hkC hkind hlay hi (t2 j hj) hn hf
        exact W.putK hx hb (f := f) ⟨hown, hlink, ⟨_, _, _, hi2⟩, hst⟩ (by rw [q2]; exact h6) q1 q3 (by rw [hsl]; exact k2_hasslot (q4 j hj)) rfl rfl hdc goal
      · unfold u_lay at hlay
        rw [if_pos hfin] at hlay
        have hcf : m.cls = cf := by
          obtain ⟨_, _, c', _, _, _, -, -, hf', -, -, -, hown2, -⟩ := Cond.laysFinal_spec hlay
          have e1 : c' = cf := by have := hi.symm.trans hf'; simp at this; exact this.1.symm
          rw [hdecl, hdecl2] at hown2
          rw [← e1]; exact Option.some.inj (hown.symm.trans hown2)
        have h6 := u_fits hfc hkC hkind (Or.inr hlay) hi (t2 j hj) hn hf
        exact W.putFinK hx hb hown hlink hi2 hst hcf hin2 (by rw [q2]; exact h6) q1 q3 (by rw [hsl]; exact k2_hasslot (q4 j hj)) rfl rfl hdc goal
    · cases hv
  · cases hv
set_option maxHeartbeats 1000000 in
theorem zs_getfield {k : Nat} (C : zC E p R s m args meth c mi q) (hd : zdok q.2.2.1 pc (.getfield k) = true) (hs : zstp mi (.getfield k) pc L S z h = some r) (hW : zW E s z h H) (hL : zL q.2.2.2.1 ls L) (hS : va_S (zA E) s.heap H locs) (hr1 : cells + (r.2.2.2.1.1 - z.1) ≤ R.cells) (hr2 : slots + (r.2.2.2.1.2.1 - z.2.1) ≤ R.slots)
    (K : ∀ (H' : Heap) (ls' : Array Slot) (locs' : List Loc), zW E s r.2.2.2.1 r.2.2.2.2 H' → zL q.2.2.2.1 ls' r.2.1 → va_S (zA E) s.heap H' locs' → W p l e R s m args below meth c H' locs' (cells + (r.2.2.2.1.1 - z.1)) (slots + (r.2.2.2.1.2.1 - z.2.1)) Q (F0 m r.1 ls' r.2.2.1)) :
    W p l e R s m args below meth c H locs cells slots Q (F0 m pc ls S) := by
  obtain ⟨hq, hx, hb, hml, hown, hini, hts, hK, hfr, hlo⟩ := C
  unfold zstp at hs
  dsimp only at hs
  have hdc := zdok_dec hd rfl
  split at hs
  · rename_i ci j x1 a S0 hp
    split at hs
    · rename_i v hv
      cases hs
      simp only [Nat.sub_self, Nat.add_zero] at K hr1 hr2
      obtain ⟨ps, ho⟩ := zpool_ok hq hp
      simp only [zpok] at ho
      cases hr : zCls[ci]? with
      | none => rw [hr] at ho; cases ho
      | some rr =>
        rw [hr] at ho
        simp only [Bool.and_eq_true, decide_eq_true_eq, Bool.not_eq_true'] at ho
        obtain ⟨⟨⟨w1, w2⟩, w3⟩, w4⟩ := ho
        exact zw_get hx hb hts hown hK hW hr (hts _ (zin_mem w1)) w2 w3 hv hdc (K H ls locs hW hL hS)
    · cases hs
  · rename_i ci j x1 a S0 hp
    split at hs
    · rename_i v hv
      cases hs
      simp only [Nat.sub_self, Nat.add_zero] at K hr1 hr2
      obtain ⟨ps, ho⟩ := zpool_ok hq hp
      simp only [zpok] at ho
      cases hr : zCls[ci]? with
      | none => rw [hr] at ho; cases ho
      | some rr =>
        rw [hr] at ho
        simp only [Bool.and_eq_true, decide_eq_true_eq, Bool.not_eq_true'] at ho
        obtain ⟨⟨⟨w1, w2⟩, w3⟩, w4⟩ := ho
        exact zw_get hx hb hts hown hK hW hr (hts _ (zin_mem w1)) w2 w3 hv hdc (K H ls locs hW hL hS)
    · cases hs
  · cases hs
set_option maxHeartbeats 1000000 in
theorem zs_putfield {k : Nat} (C : zC E p R s m args meth c mi q) (hd : zdok q.2.2.1 pc (.putfield k) = true) (hs : zstp mi (.putfield k) pc L S z h = some r) (hW : zW E s z h H) (hL : zL q.2.2.2.1 ls L) (hS : va_S (zA E) s.heap H locs) (hr1 : cells + (r.2.2.2.1.1 - z.1) ≤ R.cells) (hr2 : slots + (r.2.2.2.1.2.1 - z.2.1) ≤ R.slots)
    (K : ∀ (H' : Heap) (ls' : Array Slot) (locs' : List Loc), zW E s r.2.2.2.1 r.2.2.2.2 H' → zL q.2.2.2.1 ls' r.2.1 → va_S (zA E) s.heap H' locs' → W p l e R s m args below meth c H' locs' (cells + (r.2.2.2.1.1 - z.1)) (slots + (r.2.2.2.1.2.1 - z.2.1)) Q (F0 m r.1 ls' r.2.2.1)) :
    W p l e R s m args below meth c H locs cells slots Q (F0 m pc ls S) := by
  obtain ⟨hq, hx, hb, hml, hown, hini, hts, hK, hfr, hlo⟩ := C
  unfold zstp at hs
  dsimp only at hs
  have hdc := zdok_dec hd rfl
  split at hs
  · rename_i ci j x1 v a S0 hp
    split at hs
    · rename_i cv hv
      cases hs
      simp only [Nat.sub_self, Nat.add_zero] at K hr1 hr2
      obtain ⟨ps, ho⟩ := zpool_ok hq hp
      simp only [zpok] at ho
      cases hr : zCls[ci]? with
      | none => rw [hr] at ho; cases ho
      | some rr =>
        rw [hr] at ho
        simp only [Bool.and_eq_true, decide_eq_true_eq, Bool.not_eq_true'] at ho
        obtain ⟨⟨⟨w1, w2⟩, w3⟩, w4⟩ := ho
        exact zw_put hx hb hts hown hK hW hS hr (hts _ (zin_mem w1)) w2 w3 (Or.inl w4) hv hdc (fun H' locs' hW' hS' => K H' ls locs' hW' hL hS')
    · cases hs
  · rename_i ci j x1 v a S0 hp
    split at hs
    · rename_i hI
      split at hs
      · rename_i cv hv
        cases hs
        simp only [Nat.sub_self, Nat.add_zero] at K hr1 hr2
        obtain ⟨ps, ho⟩ := zpool_ok hq hp
        simp only [zpok] at ho
        cases hr : zCls[ci]? with
        | none => rw [hr] at ho; cases ho
        | some rr =>
          rw [hr] at ho
          simp only [Bool.and_eq_true, decide_eq_true_eq, Bool.not_eq_true'] at ho
          obtain ⟨⟨⟨w1, w2⟩, w3⟩, w4⟩ := ho
          have hI2 : q.2.1.name = "<init>" := by
            unfold zisI at hI
            rw [hq] at hI
            simpa using hI.1
          exact zw_put hx hb hts hown hK hW hS hr (hts _ (zin_mem w1)) w2 w3 (Or.inr ⟨w4, hini hI2, zoc_own hq hI.2 hr⟩) hv hdc (fun H' locs' hW' hS' => K H' ls locs' hW' hL hS')
      · cases hs
    · cases hs
  · cases hs
set_option maxHeartbeats 1000000 in
theorem zs_iaload (C : zC E p R s m args meth c mi q) (hd : zdok q.2.2.1 pc (.iaload) = true) (hs : zstp mi (.iaload) pc L S z h = some r) (hW : zW E s z h H) (hL : zL q.2.2.2.1 ls L) (hS : va_S (zA E) s.heap H locs) (hr1 : cells + (r.2.2.2.1.1 - z.1) ≤ R.cells) (hr2 : slots + (r.2.2.2.1.2.1 - z.2.1) ≤ R.slots)
    (K : ∀ (H' : Heap) (ls' : Array Slot) (locs' : List Loc), zW E s r.2.2.2.1 r.2.2.2.2 H' → zL q.2.2.2.1 ls' r.2.1 → va_S (zA E) s.heap H' locs' → W p l e R s m args below meth c H' locs' (cells + (r.2.2.2.1.1 - z.1)) (slots + (r.2.2.2.1.2.1 - z.2.1)) Q (F0 m r.1 ls' r.2.2.1)) :
    W p l e R s m args below meth c H locs cells slots Q (F0 m pc ls S) := by
  obtain ⟨hq, hx, hb, hml, hown, hini, hts, hK, hfr, hlo⟩ := C
  unfold zstp at hs
  dsimp only at hs
  have hdc := zdok_dec hd rfl
  split at hs
  · rename_i i a S0
    split at hs
    · rename_i x hv
      cases hs
      simp only [Nat.sub_self, Nat.add_zero] at K hr1 hr2
      unfold zald at hv
      split at hv
      · rename_i t' n f ho
        split at hv
        · rename_i hc
          cases hv
          have hin := zidx_in hc.2
          rcases hc.1 with ht | ⟨-, ht⟩
          · subst ht
            obtain ⟨hP, -, -⟩ := zarr hW ho (by decide)
            exact va_iald hx hb hK.K hP 0 0 rfl rfl hin hdc (K H ls locs hW hL hS)
          · subst ht
            have h1 := hW.2.2.2.1 a
            rw [ho] at h1
            obtain ⟨-, g, scr, g1, g2, g3, g4, g5, g7, g6⟩ := h1.2.1 rfl
            cases g1
            simp only at g5
            exact W.iald (v := .int (f i.toNatClampNeg)) hx hb g2 g3 g4 (by rw [g5]; exact hin) (g6 _ (Nat.not_le.mp fun z => hin (Or.inr z))) rfl rfl hdc (K H ls locs hW hL hS)
        · cases hv
      · cases hv
    · cases hs
  · cases hs
set_option maxHeartbeats 1000000 in
theorem zs_caload (C : zC E p R s m args meth c mi q) (hd : zdok q.2.2.1 pc (.caload) = true) (hs : zstp mi (.caload) pc L S z h = some r) (hW : zW E s z h H) (hL : zL q.2.2.2.1 ls L) (hS : va_S (zA E) s.heap H locs) (hr1 : cells + (r.2.2.2.1.1 - z.1) ≤ R.cells) (hr2 : slots + (r.2.2.2.1.2.1 - z.2.1) ≤ R.slots)
    (K : ∀ (H' : Heap) (ls' : Array Slot) (locs' : List Loc), zW E s r.2.2.2.1 r.2.2.2.2 H' → zL q.2.2.2.1 ls' r.2.1 → va_S (zA E) s.heap H' locs' → W p l e R s m args below meth c H' locs' (cells + (r.2.2.2.1.1 - z.1)) (slots + (r.2.2.2.1.2.1 - z.2.1)) Q (F0 m r.1 ls' r.2.2.1)) :
    W p l e R s m args below meth c H locs cells slots Q (F0 m pc ls S) := by
  obtain ⟨hq, hx, hb, hml, hown, hini, hts, hK, hfr, hlo⟩ := C
  unfold zstp at hs
  dsimp only at hs
  have hdc := zdok_dec hd rfl
  split at hs
  · rename_i i a S0
    split at hs
    · rename_i x hv
      cases hs
      simp only [Nat.sub_self, Nat.add_zero] at K hr1 hr2
      unfold zald at hv
      split at hv
      · rename_i t' n f ho
        split at hv
        · rename_i hc
          cases hv
          have hin := zidx_in hc.2
          rcases hc.1 with ht | ⟨ht, -⟩
          · subst ht
            obtain ⟨hP, -, -⟩ := zarr hW ho (by decide)
            exact va_cald hx hb hK.K hP 0 2 rfl rfl hin hdc (K H ls locs hW hL hS)
          · cases ht
        · cases hv
      · cases hv
    · cases hs
  · cases hs
set_option maxHeartbeats 1000000 in
theorem zs_baload (C : zC E p R s m args meth c mi q) (hd : zdok q.2.2.1 pc (.baload) = true) (hs : zstp mi (.baload) pc L S z h = some r) (hW : zW E s z h H) (hL : zL q.2.2.2.1 ls L) (hS : va_S (zA E) s.heap H locs) (hr1 : cells + (r.2.2.2.1.1 - z.1) ≤ R.cells) (hr2 : slots + (r.2.2.2.1.2.1 - z.2.1) ≤ R.slots)
    (K : ∀ (H' : Heap) (ls' : Array Slot) (locs' : List Loc), zW E s r.2.2.2.1 r.2.2.2.2 H' → zL q.2.2.2.1 ls' r.2.1 → va_S (zA E) s.heap H' locs' → W p l e R s m args below meth c H' locs' (cells + (r.2.2.2.1.1 - z.1)) (slots + (r.2.2.2.1.2.1 - z.2.1)) Q (F0 m r.1 ls' r.2.2.1)) :
    W p l e R s m args below meth c H locs cells slots Q (F0 m pc ls S) := by
  obtain ⟨hq, hx, hb, hml, hown, hini, hts, hK, hfr, hlo⟩ := C
  unfold zstp at hs
  dsimp only at hs
  have hdc := zdok_dec hd rfl
  split at hs
  · rename_i i a S0
    split at hs
    · rename_i x hv
      cases hs
      simp only [Nat.sub_self, Nat.add_zero] at K hr1 hr2
      unfold zald at hv
      split at hv
      · rename_i t' n f ho
        split at hv
        · rename_i hc
          cases hv
          have hin := zidx_in hc.2
          rcases hc.1 with ht | ⟨ht, -⟩
          · subst ht
            obtain ⟨hP, -, -⟩ := zarr hW ho (by decide)
            exact va_zald hx hb hK.K hP 0 3 rfl rfl hin hdc (K H ls locs hW hL hS)
          · cases ht
        · cases hv
      · cases hv
    · cases hs
  · cases hs
set_option maxHeartbeats 1000000 in
theorem zs_aaload (C : zC E p R s m args meth c mi q) (hd : zdok q.2.2.1 pc (.aaload) = true) (hs : zstp mi (.aaload) pc L S z h = some r) (hW : zW E s z h H) (hL : zL q.2.2.2.1 ls L) (hS : va_S (zA E) s.heap H locs) (hr1 : cells + (r.2.2.2.1.1 - z.1) ≤ R.cells) (hr2 : slots + (r.2.2.2.1.2.1 - z.2.1) ≤ R.slots)
    (K : ∀ (H' : Heap) (ls' : Array Slot) (locs' : List Loc), zW E s r.2.2.2.1 r.2.2.2.2 H' → zL q.2.2.2.1 ls' r.2.1 → va_S (zA E) s.heap H' locs' → W p l e R s m args below meth c H' locs' (cells + (r.2.2.2.1.1 - z.1)) (slots + (r.2.2.2.1.2.1 - z.2.1)) Q (F0 m r.1 ls' r.2.2.1)) :
    W p l e R s m args below meth c H locs cells slots Q (F0 m pc ls S) := by
  obtain ⟨hq, hx, hb, hml, hown, hini, hts, hK, hfr, hlo⟩ := C
  unfold zstp at hs
  dsimp only at hs
  have hdc := zdok_dec hd rfl
  split at hs
  · rename_i i a S0
    split at hs
    · rename_i x hv
      cases hs
      simp only [Nat.sub_self, Nat.add_zero] at K hr1 hr2
      unfold zldr at hv
      split at hv
      · rename_i t n f ho
        split at hv
        · rename_i hc
          cases hv
          have ht : t < 6 := by rcases hc.1 with rfl | rfl <;> decide
          obtain ⟨hP, -, -⟩ := zarr hW ho ht
          have hty : ∃ C, zArr t = .object C := by rcases hc.1 with rfl | rfl <;> exact ⟨_, rfl⟩
          obtain ⟨C, hC⟩ := hty
          exact va_aldq (C := C) hx hb (tys := [(E.2.2.2.1 t, .object C)]) (D := zD E) (cl := zCls) ⟨hK.1, fun k x hk => by
            match k, hk with
            | 0, hk => cases hk; rw [← hC]; exact ⟨(hK.2.1 t ht).1, (hK.2.1 t ht).2.1⟩
            | k + 1, hk => simp at hk⟩ hP 0 0 rfl rfl (zidx_in hc.2) hdc (K H ls locs hW hL hS)
        · cases hv
      · cases hv
    · cases hs
  · cases hs
set_option maxHeartbeats 1000000 in
theorem zs_iastore (C : zC E p R s m args meth c mi q) (hd : zdok q.2.2.1 pc (.iastore) = true) (hs : zstp mi (.iastore) pc L S z h = some r) (hW : zW E s z h H) (hL : zL q.2.2.2.1 ls L) (hS : va_S (zA E) s.heap H locs) (hr1 : cells + (r.2.2.2.1.1 - z.1) ≤ R.cells) (hr2 : slots + (r.2.2.2.1.2.1 - z.2.1) ≤ R.slots)
    (K : ∀ (H' : Heap) (ls' : Array Slot) (locs' : List Loc), zW E s r.2.2.2.1 r.2.2.2.2 H' → zL q.2.2.2.1 ls' r.2.1 → va_S (zA E) s.heap H' locs' → W p l e R s m args below meth c H' locs' (cells + (r.2.2.2.1.1 - z.1)) (slots + (r.2.2.2.1.2.1 - z.2.1)) Q (F0 m r.1 ls' r.2.2.1)) :
    W p l e R s m args below meth c H locs cells slots Q (F0 m pc ls S) := by
  obtain ⟨hq, hx, hb, hml, hown, hini, hts, hK, hfr, hlo⟩ := C
  unfold zstp at hs
  dsimp only at hs
  have hdc := zdok_dec hd rfl
  split at hs
  · rename_i x i a S0
    split at hs
    · rename_i cv hv
      cases hs
      simp only [Nat.sub_self, Nat.add_zero] at K hr1 hr2
      unfold zast at hv
      split at hv
      · rename_i t' n f ho
        split at hv
        · rename_i hc
          cases hv
          obtain ⟨ht, hin⟩ := hc
          subst ht
          obtain ⟨-, haB, hcell⟩ := zarr hW ho (by decide)
          refine W.iast hx hb hcell ((hK.2.1 0 (by decide)).1 n (fun j => .int (f j))) (fun w => by cases w) (by show ¬ (i < 0 ∨ (arrV _ _ _).slots.size ≤ _); rw [arrV_size]; exact zidx_in hin) rfl rfl hdc fun H1 e1 z1 o1 => ?_
          refine K H1 ls _ (hW.up (c := .inl (0, n, .inl (upd f i.toNatClampNeg (znar 0 x)))) ⟨fun _ => ⟨haB, ?_⟩, fun w => (by cases w), fun w => (by cases w)⟩ haB z1 o1) hL (hS.put z1 o1 haB)
          rw [e1]
          dsimp only
          rw [vp_cell_i, vp_cell_i, arrV_store]
          congr 2
          funext w
          by_cases hw : w = i.toNatClampNeg
          · subst hw
            simp [updV, upd, znar, vp_nar]
            try rfl
          · simp [updV, upd, hw]
        · cases hv
      · cases hv
    · cases hs
  · cases hs
set_option maxHeartbeats 1000000 in
theorem zs_castore (C : zC E p R s m args meth c mi q) (hd : zdok q.2.2.1 pc (.castore) = true) (hs : zstp mi (.castore) pc L S z h = some r) (hW : zW E s z h H) (hL : zL q.2.2.2.1 ls L) (hS : va_S (zA E) s.heap H locs) (hr1 : cells + (r.2.2.2.1.1 - z.1) ≤ R.cells) (hr2 : slots + (r.2.2.2.1.2.1 - z.2.1) ≤ R.slots)
    (K : ∀ (H' : Heap) (ls' : Array Slot) (locs' : List Loc), zW E s r.2.2.2.1 r.2.2.2.2 H' → zL q.2.2.2.1 ls' r.2.1 → va_S (zA E) s.heap H' locs' → W p l e R s m args below meth c H' locs' (cells + (r.2.2.2.1.1 - z.1)) (slots + (r.2.2.2.1.2.1 - z.2.1)) Q (F0 m r.1 ls' r.2.2.1)) :
    W p l e R s m args below meth c H locs cells slots Q (F0 m pc ls S) := by
  obtain ⟨hq, hx, hb, hml, hown, hini, hts, hK, hfr, hlo⟩ := C
  unfold zstp at hs
  dsimp only at hs
  have hdc := zdok_dec hd rfl
  split at hs
  · rename_i x i a S0
    split at hs
    · rename_i cv hv
      cases hs
      simp only [Nat.sub_self, Nat.add_zero] at K hr1 hr2
      unfold zast at hv
      split at hv
      · rename_i t' n f ho
        split at hv
        · rename_i hc
          cases hv
          obtain ⟨ht, hin⟩ := hc
          subst ht
          obtain ⟨-, haB, hcell⟩ := zarr hW ho (by decide)
          refine W.cast hx hb hcell ((hK.2.1 2 (by decide)).1 n (fun j => .int (f j))) (fun w => by cases w) (by show ¬ (i < 0 ∨ (arrV _ _ _).slots.size ≤ _); rw [arrV_size]; exact zidx_in hin) rfl rfl hdc fun H1 e1 z1 o1 => ?_
          refine K H1 ls _ (hW.up (c := .inl (2, n, .inl (upd f i.toNatClampNeg (znar 2 x)))) ⟨fun _ => ⟨haB, ?_⟩, fun w => (by cases w), fun w => (by cases w)⟩ haB z1 o1) hL (hS.put z1 o1 haB)
          rw [e1]
          dsimp only
          rw [vp_cell_i, vp_cell_i, arrV_store]
          congr 2
          funext w
          by_cases hw : w = i.toNatClampNeg
          · subst hw
            simp [updV, upd, znar, vp_nar]
            try rfl
          · simp [updV, upd, hw]
        · cases hv
      · cases hv
    · cases hs
  · cases hs
set_option maxHeartbeats 1000000 in
theorem zs_bastore (C : zC E p R s m args meth c mi q) (hd : zdok q.2.2.1 pc (.bastore) = true) (hs : zstp mi (.bastore) pc L S z h = some r) (hW : zW E s z h H) (hL : zL q.2.2.2.1 ls L) (hS : va_S (zA E) s.heap H locs) (hr1 : cells + (r.2.2.2.1.1 - z.1) ≤ R.cells) (hr2 : slots + (r.2.2.2.1.2.1 - z.2.1) ≤ R.slots)
    (K : ∀ (H' : Heap) (ls' : Array Slot) (locs' : List Loc), zW E s r.2.2.2.1 r.2.2.2.2 H' → zL q.2.2.2.1 ls' r.2.1 → va_S (zA E) s.heap H' locs' → W p l e R s m args below meth c H' locs' (cells + (r.2.2.2.1.1 - z.1)) (slots + (r.2.2.2.1.2.1 - z.2.1)) Q (F0 m r.1 ls' r.2.2.1)) :
    W p l e R s m args below meth c H locs cells slots Q (F0 m pc ls S) := by
  obtain ⟨hq, hx, hb, hml, hown, hini, hts, hK, hfr, hlo⟩ := C
  unfold zstp at hs
  dsimp only at hs
  have hdc := zdok_dec hd rfl
  split at hs
  · rename_i x i a S0
    split at hs
    · rename_i cv hv
      cases hs
      simp only [Nat.sub_self, Nat.add_zero] at K hr1 hr2
      unfold zast at hv
      split at hv
      · rename_i t' n f ho
        split at hv
        · rename_i hc
          cases hv
          obtain ⟨ht, hin⟩ := hc
          subst ht
          obtain ⟨-, haB, hcell⟩ := zarr hW ho (by decide)
          refine W.zast hx hb hcell ((hK.2.1 3 (by decide)).1 n (fun j => .int (f j))) (fun w => by cases w) (by show ¬ (i < 0 ∨ (arrV _ _ _).slots.size ≤ _); rw [arrV_size]; exact zidx_in hin) rfl rfl hdc fun H1 e1 z1 o1 => ?_
          refine K H1 ls _ (hW.up (c := .inl (3, n, .inl (upd f i.toNatClampNeg (znar 3 x)))) ⟨fun _ => ⟨haB, ?_⟩, fun w => (by cases w), fun w => (by cases w)⟩ haB z1 o1) hL (hS.put z1 o1 haB)
          rw [e1]
          dsimp only
          rw [vp_cell_i, vp_cell_i, arrV_store]
          congr 2
          funext w
          by_cases hw : w = i.toNatClampNeg
          · subst hw
            simp [updV, upd, znar, vp_nar]
            try rfl
          · simp [updV, upd, hw]
        · cases hv
      · cases hv
    · cases hs
  · cases hs
set_option maxHeartbeats 1000000 in
theorem zs_aastore (C : zC E p R s m args meth c mi q) (hd : zdok q.2.2.1 pc (.aastore) = true) (hs : zstp mi (.aastore) pc L S z h = some r) (hW : zW E s z h H) (hL : zL q.2.2.2.1 ls L) (hS : va_S (zA E) s.heap H locs) (hr1 : cells + (r.2.2.2.1.1 - z.1) ≤ R.cells) (hr2 : slots + (r.2.2.2.1.2.1 - z.2.1) ≤ R.slots)
    (K : ∀ (H' : Heap) (ls' : Array Slot) (locs' : List Loc), zW E s r.2.2.2.1 r.2.2.2.2 H' → zL q.2.2.2.1 ls' r.2.1 → va_S (zA E) s.heap H' locs' → W p l e R s m args below meth c H' locs' (cells + (r.2.2.2.1.1 - z.1)) (slots + (r.2.2.2.1.2.1 - z.2.1)) Q (F0 m r.1 ls' r.2.2.1)) :
    W p l e R s m args below meth c H locs cells slots Q (F0 m pc ls S) := by
  obtain ⟨hq, hx, hb, hml, hown, hini, hts, hK, hfr, hlo⟩ := C
  unfold zstp at hs
  dsimp only at hs
  have hdc := zdok_dec hd rfl
  split at hs
  · rename_i v i a S0
    split at hs
    · rename_i cv hv
      cases hs
      simp only [Nat.sub_self, Nat.add_zero] at K hr1 hr2
      unfold zstr at hv
      split at hv
      · rename_i t n f ho
        split at hv
        · rename_i hc
          cases hv
          obtain ⟨ht, hin, hcls⟩ := hc
          have ht6 : t < 6 := by rcases ht with rfl | rfl <;> decide
          obtain ⟨-, haB, hcell⟩ := zarr hW ho ht6
          unfold zisC at hcls
          split at hcls
          · rename_i o hov
            obtain ⟨hPv, hvB⟩ := zobj hW hov
            have hci := Nat.eq_of_beq_eq_true hcls
            have hty : ∃ rr, zCls[zArC t]? = some rr ∧ zArr t = .object rr.1 := by rcases ht with rfl | rfl <;> exact ⟨_, rfl, rfl⟩
            obtain ⟨rr, hrr, hCr⟩ := hty
            obtain ⟨r', hr', cellV, g1, g2, g3, -⟩ := hPv 0 _ rfl
            have hcl2 := (hK.1 _ rr hrr).2
            have hRA := (hK.2.1 t ht6).2.1
            rw [hCr] at hRA
            obtain ⟨kA, comp, k1, k2, k3, -⟩ := hRA
            have hcomp : comp = E.2.1 (zArC t) := Option.some.inj (k3.symm.trans hcl2.1)
            subst hcomp
            obtain ⟨kC, hkC, -⟩ := hcl2.2
            have hlt : i.toNatClampNeg < n := Nat.not_le.mp fun w => zidx_in hin (Or.inr w)
            have h0 : ¬ i < 0 := fun w => zidx_in hin (Or.inl w)
            have g2' : cellV.cls = E.2.1 (zArC t) := by rw [← hci]; exact g2
            refine W.aast hx hb hcell (fun w h => by cases h) (fun h => by cases h) k1 k2 rfl hkC ⟨h0, by show _ < (arrV _ _ _).slots.size; rw [arrV_size]; exact hlt⟩ g1 (fun w h => by rw [g3] at h; cases h) (by rw [g2']; exact hkC) (by rw [g2']; exact va_assign hcl2) rfl rfl hdc fun H1 e1 z1 o1 => ?_
            refine K H1 ls _ (hW.up (c := .inl (t, n, .inr (.inr (.inr (.inr (va_up f i.toNatClampNeg (some v))))))) ⟨fun _ => ⟨haB, ?_⟩, fun w => (by rcases ht with rfl | rfl <;> cases w), fun w => (by rcases ht with rfl | rfl <;> cases w)⟩ haB z1 o1) hL (hS.put z1 o1 haB)
            rw [e1]
            dsimp only
            rw [vp_cell_q, vp_cell_q, arrV_store]
            congr 2
            funext w
            by_cases hw : w = i.toNatClampNeg
            · subst hw
              simp [updV, va_up, va_rf]
            · simp [updV, va_up, hw]
          · cases hcls
        · cases hv
      · cases hv
    · cases hs
  · cases hs
set_option maxHeartbeats 1000000 in
theorem zs_arraylength (C : zC E p R s m args meth c mi q) (hd : zdok q.2.2.1 pc (.arraylength) = true) (hs : zstp mi (.arraylength) pc L S z h = some r) (hW : zW E s z h H) (hL : zL q.2.2.2.1 ls L) (hS : va_S (zA E) s.heap H locs) (hr1 : cells + (r.2.2.2.1.1 - z.1) ≤ R.cells) (hr2 : slots + (r.2.2.2.1.2.1 - z.2.1) ≤ R.slots)
    (K : ∀ (H' : Heap) (ls' : Array Slot) (locs' : List Loc), zW E s r.2.2.2.1 r.2.2.2.2 H' → zL q.2.2.2.1 ls' r.2.1 → va_S (zA E) s.heap H' locs' → W p l e R s m args below meth c H' locs' (cells + (r.2.2.2.1.1 - z.1)) (slots + (r.2.2.2.1.2.1 - z.2.1)) Q (F0 m r.1 ls' r.2.2.1)) :
    W p l e R s m args below meth c H locs cells slots Q (F0 m pc ls S) := by
  obtain ⟨hq, hx, hb, hml, hown, hini, hts, hK, hfr, hlo⟩ := C
  unfold zstp at hs
  dsimp only at hs
  have hdc := zdok_dec hd rfl
  split at hs
  · rename_i a S0
    split at hs
    · rename_i x hv
      cases hs
      simp only [Nat.sub_self, Nat.add_zero] at K hr1 hr2
      unfold zaln at hv
      split at hv
      · rename_i t n y ho
        split at hv
        · rename_i hc
          cases hv
          rcases hc with ht | ht
          · obtain ⟨hP, -, -⟩ := zarr hW ho ht
            exact va_alen (ty := zArr t) hx hb (tys := [(E.2.2.2.1 t, zArr t)]) (D := zD E) (cl := zCls) ⟨hK.1, fun k x hk => by
              match k, hk with
              | 0, hk => cases hk; exact ⟨(hK.2.1 t ht).1, (hK.2.1 t ht).2.1⟩
              | k + 1, hk => simp at hk⟩ hP 0 0 rfl rfl (show Int32.ofNat n = zi n by rw [zi, Int32.ofInt_eq_ofNat]) hdc (K H ls locs hW hL hS)
          · subst ht
            have h1 := hW.2.2.2.1 a
            rw [ho] at h1
            obtain ⟨-, g, scr, g1, g2, g3, g4, g5, g7, g6⟩ := h1.2.1 rfl
            simp only at g5
            exact W.alen (n := zi n) hx hb g2 g3 (by rw [g5, zi, Int32.ofInt_eq_ofNat]) rfl rfl hdc (K H ls locs hW hL hS)
        · cases hv
      · cases hv
    · cases hs
  · cases hs
end ZS2
