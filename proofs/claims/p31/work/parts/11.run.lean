/-! ONE INSTRUCTION, AND A WHOLE RUN -/
set_option maxRecDepth 100000 in
theorem zlaw_ok : zM.all (fun q => (decide (q.2.1 ≠ yL_law) || Nat.ble 8 q.2.2.2.2.2.1) && Nat.ble q.2.2.2.2.2.1 8) = true := by decide +kernel
section ZR
variable {E : zE} {p : Program} {l : Launch} {e : Env} {R : Room} {s : State} {m : MethodId} {args : Array Value} {below : List Frame} {meth : Method} {c : Code} {H : Heap} {locs : List Loc} {cells slots : Nat} {Q : State → Prop}
variable {mi pc : Nat} {q : zMt} {ls : Array Slot} {L S : List Value} {z : zZ} {h : zH} {r : zR}
set_option maxHeartbeats 1000000 in
set_option maxRecDepth 100000 in
theorem zs_invokevirtual {k : Nat} (C : zC E p R s m args meth c mi q) (hd : zdok q.2.2.1 pc (.invokevirtual k) = true) (hs : zstp mi (.invokevirtual k) pc L S z h = some r) (hW : zW E s z h H) (hL : zL q.2.2.2.1 ls L) (hS : va_S (zA E) s.heap H locs) (hr1 : cells + (r.2.2.2.1.1 - z.1) ≤ R.cells) (hr2 : slots + (r.2.2.2.1.2.1 - z.2.1) ≤ R.slots)
    (K : ∀ (H' : Heap) (ls' : Array Slot) (locs' : List Loc), zW E s r.2.2.2.1 r.2.2.2.2 H' → zL q.2.2.2.1 ls' r.2.1 → va_S (zA E) s.heap H' locs' → W p l e R s m args below meth c H' locs' (cells + (r.2.2.2.1.1 - z.1)) (slots + (r.2.2.2.1.2.1 - z.2.1)) Q (F0 m r.1 ls' r.2.2.1)) :
    W p l e R s m args below meth c H locs cells slots Q (F0 m pc ls S) := by
  obtain ⟨hq, hx, hb, hml, hown, hini, hts, hK, hfr, hlo⟩ := C
  unfold zstp at hs
  dsimp only at hs
  split at hs
  · rename_i x1 x2 x3 a S0 hp
    obtain ⟨ps, ho⟩ := zpool_ok hq hp
    simp [zpok] at ho
  · rename_i x1 x2 x3 j a S0 hp
    obtain ⟨ps, ho⟩ := zpool_ok hq hp
    simp [zpok] at ho
  · cases hs
set_option maxHeartbeats 4000000 in
theorem zstp_ok {i : Instr} (C : zC E p R s m args meth c mi q) (hd : zdok q.2.2.1 pc i = true) (hs : zstp mi i pc L S z h = some r) (hW : zW E s z h H) (hL : zL q.2.2.2.1 ls L) (hS : va_S (zA E) s.heap H locs) (hr1 : cells + (r.2.2.2.1.1 - z.1) ≤ R.cells) (hr2 : slots + (r.2.2.2.1.2.1 - z.2.1) ≤ R.slots)
    (K : ∀ (H' : Heap) (ls' : Array Slot) (locs' : List Loc), zW E s r.2.2.2.1 r.2.2.2.2 H' → zL q.2.2.2.1 ls' r.2.1 → va_S (zA E) s.heap H' locs' → W p l e R s m args below meth c H' locs' (cells + (r.2.2.2.1.1 - z.1)) (slots + (r.2.2.2.1.2.1 - z.2.1)) Q (F0 m r.1 ls' r.2.2.1)) :
    W p l e R s m args below meth c H locs cells slots Q (F0 m pc ls S) := by
  cases i with
  | iconst k => exact zs_iconst C hd hs hW hL hS hr1 hr2 K
  | bipush k => exact zs_bipush C hd hs hW hL hS hr1 hr2 K
  | sipush k => exact zs_sipush C hd hs hW hL hS hr1 hr2 K
  | lconst k => exact zs_lconst C hd hs hW hL hS hr1 hr2 K
  | ldc k => exact zs_ldc C hd hs hW hL hS hr1 hr2 K
  | ldc_w k => exact zs_ldc_w C hd hs hW hL hS hr1 hr2 K
  | ldc2_w k => exact zs_ldc2_w C hd hs hW hL hS hr1 hr2 K
  | iload_n k => exact zs_iload_n C hd hs hW hL hS hr1 hr2 K
  | iload k => exact zs_iload C hd hs hW hL hS hr1 hr2 K
  | lload_n k => exact zs_lload_n C hd hs hW hL hS hr1 hr2 K
  | lload k => exact zs_lload C hd hs hW hL hS hr1 hr2 K
  | aload_n k => exact zs_aload_n C hd hs hW hL hS hr1 hr2 K
  | aload k => exact zs_aload C hd hs hW hL hS hr1 hr2 K
  | istore_n k => exact zs_istore_n C hd hs hW hL hS hr1 hr2 K
  | istore k => exact zs_istore C hd hs hW hL hS hr1 hr2 K
  | astore_n k => exact zs_astore_n C hd hs hW hL hS hr1 hr2 K
  | lstore_n k => exact zs_lstore_n C hd hs hW hL hS hr1 hr2 K
  | lstore k => exact zs_lstore C hd hs hW hL hS hr1 hr2 K
  | iinc k n => exact zs_iinc C hd hs hW hL hS hr1 hr2 K
  | iadd => exact zs_iadd C hd hs hW hL hS hr1 hr2 K
  | isub => exact zs_isub C hd hs hW hL hS hr1 hr2 K
  | imul => exact zs_imul C hd hs hW hL hS hr1 hr2 K
  | iand => exact zs_iand C hd hs hW hL hS hr1 hr2 K
  | ior => exact zs_ior C hd hs hW hL hS hr1 hr2 K
  | ishr => exact zs_ishr C hd hs hW hL hS hr1 hr2 K
  | ladd => exact zs_ladd C hd hs hW hL hS hr1 hr2 K
  | lsub => exact zs_lsub C hd hs hW hL hS hr1 hr2 K
  | lmul => exact zs_lmul C hd hs hW hL hS hr1 hr2 K
  | lcmp => exact zs_lcmp C hd hs hW hL hS hr1 hr2 K
  | idiv => exact zs_idiv C hd hs hW hL hS hr1 hr2 K
  | irem => exact zs_irem C hd hs hW hL hS hr1 hr2 K
  | ldiv => exact zs_ldiv C hd hs hW hL hS hr1 hr2 K
  | lrem => exact zs_lrem C hd hs hW hL hS hr1 hr2 K
  | i2l => exact zs_i2l C hd hs hW hL hS hr1 hr2 K
  | l2i => exact zs_l2i C hd hs hW hL hS hr1 hr2 K
  | i2c => exact zs_i2c C hd hs hW hL hS hr1 hr2 K
  | dup => exact zs_dup C hd hs hW hL hS hr1 hr2 K
  | pop => exact zs_pop C hd hs hW hL hS hr1 hr2 K
  | dup2 => exact zs_dup2 C hd hs hW hL hS hr1 hr2 K
  | lookupswitch d ps => exact zs_lookupswitch C hd hs hW hL hS hr1 hr2 K
  | goto o => exact zs_goto C hd hs hW hL hS hr1 hr2 K
  | ifCond cd o => exact zs_ifCond C hd hs hW hL hS hr1 hr2 K
  | if_icmp cd o => exact zs_if_icmp C hd hs hW hL hS hr1 hr2 K
  | tableswitch d lo hi offs => exact zs_tableswitch C hd hs hW hL hS hr1 hr2 K
  | getfield k => exact zs_getfield C hd hs hW hL hS hr1 hr2 K
  | putfield k => exact zs_putfield C hd hs hW hL hS hr1 hr2 K
  | iaload => exact zs_iaload C hd hs hW hL hS hr1 hr2 K
  | caload => exact zs_caload C hd hs hW hL hS hr1 hr2 K
  | baload => exact zs_baload C hd hs hW hL hS hr1 hr2 K
  | aaload => exact zs_aaload C hd hs hW hL hS hr1 hr2 K
  | iastore => exact zs_iastore C hd hs hW hL hS hr1 hr2 K
  | castore => exact zs_castore C hd hs hW hL hS hr1 hr2 K
  | bastore => exact zs_bastore C hd hs hW hL hS hr1 hr2 K
  | aastore => exact zs_aastore C hd hs hW hL hS hr1 hr2 K
  | arraylength => exact zs_arraylength C hd hs hW hL hS hr1 hr2 K
  | new k => exact zs_new C hd hs hW hL hS hr1 hr2 K
  | newarray ty => exact zs_newarray C hd hs hW hL hS hr1 hr2 K
  | anewarray k => exact zs_anewarray C hd hs hW hL hS hr1 hr2 K
  | invokespecial k => exact zs_invokespecial C hd hs hW hL hS hr1 hr2 K
  | invokestatic k => exact zs_invokestatic C hd hs hW hL hS hr1 hr2 K
  | invokevirtual k => exact zs_invokevirtual C hd hs hW hL hS hr1 hr2 K
  | _ => exact absurd hs (by unfold zstp; dsimp only; exact fun w => by cases w)
set_option maxHeartbeats 4000000 in
theorem zstp_mono {i : Instr} (hs : zstp mi i pc L S z h = some r) : z.1 ≤ r.2.2.2.1.1 ∧ z.2.1 ≤ r.2.2.2.1.2.1 := by
  cases i <;> (unfold zstp at hs; dsimp only at hs; (repeat' split at hs) <;> first | (cases hs; exact ⟨Nat.le_refl _, Nat.le_refl _⟩) | (cases hs; exact ⟨Nat.le_succ _, Nat.le_add_right _ _⟩) | cases hs)
theorem zex_mono : ∀ (n : Nat) {mi pc : Nat} {L S : List Value} {z : zZ} {h : zH} {r : Option Value × zZ × zH}, zex n mi pc L S z h = some r → z.1 ≤ r.2.1.1 ∧ z.2.1 ≤ r.2.1.2.1
  | 0, _, _, _, _, _, _, _, hs => by cases hs
  | n + 1, mi, pc, L, S, z, h, r, hs => by
    unfold zex at hs
    split at hs
    · cases hs
    · split at hs
      · split at hs
        · rename_i q hq
          have h1 := zex_mono n hq
          have h2 := zex_mono n hs
          exact ⟨Nat.le_trans h1.1 h2.1, Nat.le_trans h1.2 h2.2⟩
        · cases hs
      · split at hs
        · cases hs; exact ⟨Nat.le_refl _, Nat.le_refl _⟩
        · split at hs
          · rename_i q hq
            have h1 := zstp_mono hq
            have h2 := zex_mono n hs
            exact ⟨Nat.le_trans h1.1 h2.1, Nat.le_trans h1.2 h2.2⟩
          · cases hs
def zws (q : zMt) : List Jvm.Cond := .code q.2.1 q.2.2.1 q.2.2.2.1 q.2.2.2.2.1 :: zgw
theorem zcodeW (hq : zM[mi]? = some q) (hne : q.2.1 ≠ yL_law) : Jvm.Cond.code q.2.1 q.2.2.1 q.2.2.2.1 q.2.2.2.2.1 ∈ zgw := by
  rcases (zmem_of hq).2.1 with h | ⟨i, h⟩
  · exact absurd h hne
  · exact List.mem_filter.mpr ⟨List.mem_of_getElem? h, rfl⟩
theorem zgoodws (hq : zM[mi]? = some q) (hne : q.2.1 ≠ yL_law) : GoodIn zgw (zws q) := fun w hw => by
  rcases List.mem_cons.mp hw with h | h
  · rw [h]; exact zgoodW _ (zcodeW hq hne)
  · exact zgoodW _ h
/-- the contract of a method, of its body -/
theorem z_met {av : List Value} {r1 : Option Value} {z1 : zZ} {h1 : zH} (hq : zM[mi]? = some q) (hlen : (zfl av).length ≤ q.2.2.2.1)
    (ih : ∀ {p : Program} {e : Env} {R : Room} {s : State} {m : MethodId} {args : Array Value} {below : List Frame} {meth : Method} {c : Code}, zC E p R s m args meth c mi q → meth.sig.returnType = q.2.2.2.2.1 → meth.locks = false → ∀ (H : Heap) (locs : List Loc) (ls : Array Slot) (cells slots mc ms : Nat), zW E s z h H → zL q.2.2.2.1 ls (zent av q.2.2.2.1) → va_S (zA E) s.heap H locs → cells + (z1.1 - z.1) = mc → slots + (z1.2.1 - z.2.1) = ms → mc ≤ R.cells → ms ≤ R.slots → W p l e R s m args below meth c H locs cells slots (MQ below (zQc E z1 h1 r1) args s mc ms (zA E)) (F0 m 0 ls [])) :
    Met l q.2.1 (zws q) (zRm q.2.2.2.2.2.1 (z1.1 - z.1) (z1.2.1 - z.2.1)) (zPc E av z h) (zQc E z1 h1 r1) (z1.1 - z.1) (z1.2.1 - z.2.1) (zA E) := by
  have hP := (zmem_of hq).2.2
  simp only [Bool.and_eq_true, decide_eq_true_eq] at hP
  refine Met.ofW (cc := q.2.2.1) (maxL := q.2.2.2.1) (ret := q.2.2.2.2.1) hP.1.1.1 rfl ?_
  intro p e s m args below meth c s₁ B hml hv
  obtain ⟨rfl, hW, hK⟩ := hv
  have hts := atoms_spec (ws := zws q) B.pre
  have hown : s.vm.findClass q.2.1.cls = some m.cls := findClass_of_methodNamed B.named
  rw [hP.1.1.2] at hown
  have hnm := (name_of_methodNamed B.named B.method).1
  rw [lg_entry_eq]
  exact ih ⟨hq, B.exec, B.bytes, hml, hown, fun w => hnm.trans w, fun w hw => hts w (List.mem_cons_of_mem _ hw), hK, Nat.le_refl _, Nat.le_refl _⟩ B.returns B.notSynchronized s.heap [] _ 0 0 _ _ hW (zL.entry hlen) va_S.rf (Nat.zero_add _) (Nat.zero_add _) (Nat.le_refl _) (Nat.le_refl _)
theorem zroom {q2 : zMt} {m2 : Nat} (hq : zM[mi]? = some q) (hq2 : zM[m2]? = some q2) (hr : zrk m2 < zrk mi) (h1 : q.2.2.2.2.2.1 ≤ R.frames) (h2 : 36 * q.2.2.2.2.2.1 ≤ R.locals) (mc ms : Nat) :
    (zRm q2.2.2.2.2.2.1 mc ms).frames + 1 ≤ R.frames ∧ 8 + (q2.2.2.2.1 + 11) + (zRm q2.2.2.2.2.2.1 mc ms).locals ≤ R.locals := by
  rw [zrk_of hq, zrk_of hq2] at hr
  have h3 := (zmem_of hq2).2.2
  simp only [Bool.and_eq_true, decide_eq_true_eq] at h3
  have h4 := h3.1.2
  show q2.2.2.2.2.2.1 + 1 ≤ _ ∧ 8 + (q2.2.2.2.1 + 11) + 36 * q2.2.2.2.2.2.1 ≤ _
  omega
theorem zpl_spec {y : MethodName} {na : Nat} (h : zpl y na = true) : y.cls ≠ "java/lang/invoke/MethodHandle" ∧ y.cls ≠ "java/lang/invoke/VarHandle" ∧ (parseMethodDescriptor y.desc).map (fun d => d.parameters.length) = some na := by
  simp only [zpl, Bool.and_eq_true, decide_eq_true_eq] at h
  exact ⟨h.1.1, h.1.2, h.2⟩
theorem zib_mem {ps : List Nat} {own : String} {i : Nat} {y : MethodName} {b : String} (h : zib ps 0 (.methodLinkNest own i y b) = true) : (own, i, y, b) ∈ zNst := by
  simp only [zib, decide_eq_true_eq] at h
  exact List.mem_filterMap.mpr ⟨_, List.mem_of_getElem? h, rfl⟩
theorem ztake {S : List Value} {na : Nat} {x : Value} {r : List Value} (h : S.drop na = x :: r) : S = (S.take na).reverse.reverse ++ x :: r ∧ (S.take na).reverse.length = na := by
  have hl : na < S.length := by
    have := congrArg List.length h
    simp at this
    omega
  refine ⟨?_, by simp; omega⟩
  rw [List.reverse_reverse, ← h, List.take_append_drop]
theorem ztake2 {S : List Value} {na : Nat} (h : na ≤ S.length) : S = (S.take na).reverse.reverse ++ S.drop na ∧ (S.take na).reverse.length = na := by
  refine ⟨?_, by simp; omega⟩
  rw [List.reverse_reverse, List.take_append_drop]
set_option maxHeartbeats 4000000 in
/-- THE RUN: what the little machine answers, the real one answers -/
theorem z_run (l : Launch) (E : zE) : ∀ (n mi pc : Nat) (L S : List Value) (z : zZ) (h : zH) (r : Option Value) (z' : zZ) (h' : zH), zex n mi pc L S z h = some (r, z', h') →
    ∀ {p : Program} {e : Env} {R : Room} {s : State} {m : MethodId} {args : Array Value} {below : List Frame} {meth : Method} {c : Code} {q : zMt}, zC E p R s m args meth c mi q → meth.sig.returnType = q.2.2.2.2.1 → meth.locks = false →
    ∀ (H : Heap) (locs : List Loc) (ls : Array Slot) (cells slots mc ms : Nat), zW E s z h H → zL q.2.2.2.1 ls L → va_S (zA E) s.heap H locs → cells + (z'.1 - z.1) = mc → slots + (z'.2.1 - z.2.1) = ms → mc ≤ R.cells → ms ≤ R.slots →
    W p l e R s m args below meth c H locs cells slots (MQ below (zQc E z' h' r) args s mc ms (zA E)) (F0 m pc ls S) := by
  intro n
  induction n with
  | zero => intro mi pc L S z h r z' h' hs; cases hs
  | succ n ih =>
    intro mi pc L S z h r z' h' hs p e R s m args below meth c q C hret hlocks H locs ls cells slots mc ms hW hL hS hmc hms hRc hRs
    have C0 := C
    obtain ⟨hq, hx, hb, hml, hown, hini, hts, hK, hfr, hlo⟩ := C
    unfold zex at hs
    split at hs
    · cases hs
    · rename_i i hi
      have hd := zcode_dok hq hi
      split at hs
      · -- a call
        rename_i cl hcl
        split at hs
        · rename_i q1 hq1
          obtain ⟨r1, z1, h1⟩ := q1
          obtain ⟨m2, av, rest⟩ := cl
          simp only at hq1 hs
          have mo1 := zex_mono n hq1
          have mo2 := zex_mono n hs
          simp only at mo1 mo2
          have kk : ∀ (H1 : Heap) (locs1 : List Loc), zW E s z1 h1 H1 → va_S (zA E) s.heap H1 locs1 → W p l e R s m args below meth c H1 locs1 (cells + (z1.1 - z.1)) (slots + (z1.2.1 - z.2.1)) (MQ below (zQc E z' h' r) args s mc ms (zA E)) (F0 m (pc + 3) ls (r1.toList ++ rest)) :=
            fun H1 locs1 hW1 hS1 => ih mi (pc + 3) L _ z1 h1 r z' h' hs C0 hret hlocks H1 locs1 ls _ _ mc ms hW1 hL hS1 (by omega) (by omega) hRc hRs
          have hlsz : ls.size = q.2.2.2.1 := hL.2.1
          have hf : cells + (z1.1 - z.1) ≤ R.cells ∧ slots + (z1.2.1 - z.2.1) ≤ R.slots := by omega
          have met : ∀ {q2 : zMt}, zM[m2]? = some q2 → (zfl av).length ≤ zmaxL m2 → Met l q2.2.1 (zws q2) (zRm q2.2.2.2.2.2.1 (z1.1 - z.1) (z1.2.1 - z.2.1)) (zPc E av z h) (zQc E z1 h1 r1) (z1.1 - z.1) (z1.2.1 - z.2.1) (zA E) := by
            intro q2 hq2 hlen
            rw [zmaxL_of hq2] at hlen hq1
            exact z_met hq2 hlen (fun {p e R s m args below meth c} C hret hlocks H locs ls cells slots mc ms hW hL hS => ih m2 0 _ [] z h r1 z1 h1 hq1 C hret hlocks H locs ls cells slots mc ms hW hL hS)
          have preS : PreS s H (zPc E av z h) av := ⟨zPc_blind, fun U hU hWm => ⟨rfl, by rw [hU]; exact hW.moved hWm.alike, hK.moved hWm⟩⟩
          have law : ∀ {q2 : zMt}, zM[m2]? = some q2 → zrk m2 < zrk mi → q2.2.1 ≠ yL_law := by
            intro q2 hq2 hrk hRL
            have a1 := List.all_eq_true.mp zlaw_ok q2 (List.mem_of_getElem? hq2)
            have a2 := List.all_eq_true.mp zlaw_ok q (List.mem_of_getElem? hq)
            rw [zrk_of hq, zrk_of hq2] at hrk
            simp only [hRL, ne_eq, not_true_eq_false, decide_false, Bool.false_or, Bool.and_eq_true, Nat.ble_eq] at a1
            simp only [Bool.and_eq_true, Nat.ble_eq] at a2
            omega
          unfold zcall at hcl
          split at hcl
          · -- invokevirtual
            rename_i k
            have hdc := zdok_dec hd rfl
            split at hcl
            · rename_i m2' na ci hp
              split at hcl
              · rename_i a r0 hdrop
                split at hcl
                · rename_i hc
                  cases hcl
                  obtain ⟨hcls, hcat, hrk, hlen⟩ := hc
                  obtain ⟨ps, ho⟩ := zpool_ok hq hp
                  simp only [zpok] at ho
                  split at ho
                  · rename_i q2 rr hq2 hrr
                    simp only [Bool.and_eq_true, decide_eq_true_eq] at ho
                    obtain ⟨⟨⟨⟨⟨w1, w2⟩, w3⟩, w4⟩, w5⟩, w6⟩ := ho
                    obtain ⟨p1, p2, p3⟩ := zpl_spec w6
                    obtain ⟨eS, eN⟩ := ztake hdrop
                    have hws : GoodIn zgw (wsV q.1 k rr.1 q2.2.1 (zws q2)) := fun w hw => by
                      rcases List.mem_append.mp hw with hw | hw
                      · refine zgoodW w ?_
                        simp only [List.mem_cons, List.not_mem_nil, or_false] at hw
                        rcases hw with rfl | rfl | rfl | rfl
                        · exact zin_mem w1
                        · exact zin_mem w2
                        · exact zin_mem w3
                        · exact zin_mem w4
                      · exact zgoodws hq2 (law hq2 hrk) w hw
                    have hrcv : ∃ cellB : Cell, H[a]? = some cellB ∧ cellB.vm.isStatics = false ∧ s.vm.findClass rr.1 = some cellB.cls := by
                      unfold zisC at hcls
                      split at hcls
                      · rename_i o ho2
                        have e1 := Nat.eq_of_beq_eq_true hcls
                        obtain ⟨o1, o2⟩ := o
                        simp only at e1
                        subst e1
                        obtain ⟨hPo, -⟩ := zobj hW ho2
                        exact va_recv (tys := []) ⟨hK.1, fun i x hi => by simp at hi⟩ hPo hrr (q0 := 0) rfl
                      · cases hcls
                    rw [eS]
                    exact z_cont (va_runV (As := (List.take na S).reverse) (rest := rest) ⟨hx, hb, hml, hown, hts⟩ (met hq2 hlen) (cwV na hts hws rfl rfl rfl ⟨w5, p1, p2, p3⟩ (zroom hq hq2 hrk hfr hlo _ _)) ⟨zPc_blind, hrcv, preS.2⟩ rfl eN hlsz rfl (lv_room hcat) hdc hf) hS kk
                  · cases ho
                · cases hcl
              · cases hcl
            · cases hcl
          · -- invokespecial
            rename_i k
            have hdc := zdok_dec hd rfl
            split at hcl
            · rename_i m2' na x1 hp
              split at hcl
              · rename_i a r0 hdrop
                split at hcl
                · rename_i hc
                  cases hcl
                  obtain ⟨hcat, hrk, hlen⟩ := hc
                  obtain ⟨ps, ho⟩ := zpool_ok hq hp
                  simp only [zpok] at ho
                  split at ho
                  · rename_i q2 hq2
                    simp only [Bool.and_eq_true, decide_eq_true_eq] at ho
                    obtain ⟨⟨⟨⟨⟨w1, w2⟩, w3⟩, w4⟩, w5⟩, w6⟩ := ho
                    obtain ⟨p1, p2, p3⟩ := zpl_spec w6
                    obtain ⟨eS, eN⟩ := ztake hdrop
                    rw [eS]
                    have hme := met hq2 hlen
                    exact z_cont (va_runI (As := (List.take na S).reverse) (rest := rest) ⟨hx, hb, hml, hown, hts⟩ hme (cwI na hts (zgoodws hq2 (law hq2 hrk)) (by unfold zws; rw [w5]) rfl rfl (hts _ (zin_mem w3)) (hts _ (zin_mem w1)) (hts _ (zin_mem w2)) w4 ⟨p1, p2, p3⟩ (zroom hq hq2 hrk hfr hlo _ _)) preS rfl eN hlsz rfl (lv_room hcat) hdc hf) hS kk
                  · cases ho
                · cases hcl
              · cases hcl
            · rename_i m2' na x1 hp
              split at hcl
              · rename_i a r0 hdrop
                split at hcl
                · rename_i hc
                  cases hcl
                  obtain ⟨hcat, hrk, hlen⟩ := hc
                  obtain ⟨ps, ho⟩ := zpool_ok hq hp
                  simp only [zpok] at ho
                  split at ho
                  · rename_i q2 hq2
                    simp only [Bool.and_eq_true, decide_eq_true_eq] at ho
                    obtain ⟨⟨⟨⟨⟨w1, w2⟩, w3⟩, w4⟩, w5⟩, w6⟩ := ho
                    obtain ⟨p1, p2, p3⟩ := zpl_spec w6
                    obtain ⟨eS, eN⟩ := ztake hdrop
                    rw [eS]
                    have hme := met hq2 hlen
                    have hcn := va_cnB (R := R) (args := args) na hts (zgoodws hq2 (law hq2 hrk)) (show zws q2 = Jvm.Cond.code q2.2.1 q2.2.2.1 q2.2.2.2.1 none :: zgw by unfold zws; rw [w5]) (rm := zRm q2.2.2.2.2.2.1 (z1.1 - z.1) (z1.2.1 - z.2.1)) rfl rfl (hK.2.2.1 _ (zib_mem w1)) (hts _ (zin_mem w3)) ⟨p1, p2, p3⟩ (zroom hq hq2 hrk hfr hlo _ _)
                    exact z_cont (va_runIN (As := (List.take na S).reverse) (rest := rest) ⟨hx, hb, hml, hown, hts⟩ hme ⟨hcn, w4, hts _ (zin_mem w2)⟩ preS rfl eN hlsz rfl (lv_room hcat) hdc hf) hS kk
                  · cases ho
                · cases hcl
              · cases hcl
            · cases hcl
          · -- invokestatic
            rename_i k
            have hdc := zdok_dec hd rfl
            split at hcl
            · rename_i m2' na x1 hp
              split at hcl
              · rename_i hc
                cases hcl
                obtain ⟨hna, hcat, hrk, hlen⟩ := hc
                obtain ⟨ps, ho⟩ := zpool_ok hq hp
                simp only [zpok] at ho
                split at ho
                · rename_i q2 hq2
                  simp only [Bool.and_eq_true, decide_eq_true_eq] at ho
                  obtain ⟨⟨⟨w1, w2⟩, w3⟩, w6⟩ := ho
                  obtain ⟨p1, p2, p3⟩ := zpl_spec w6
                  obtain ⟨eS, eN⟩ := ztake2 hna
                  have hws : GoodIn zgw (va_wsS q.1 k q2.2.1 (zws q2)) := fun w hw => by
                    rcases List.mem_append.mp hw with hw | hw
                    · refine zgoodW w ?_
                      simp only [List.mem_cons, List.not_mem_nil, or_false] at hw
                      rcases hw with rfl | rfl | rfl
                      · exact zin_mem w1
                      · exact zin_mem w2
                      · exact zin_mem w3
                    · exact zgoodws hq2 (law hq2 hrk) w hw
                  conv => rhs; rw [eS]
                  exact z_cont (va_runS (As := (List.take na S).reverse) (rest := List.drop na S) ⟨hx, hb, hml, hown, hts⟩ (met hq2 hlen) (va_cwS na hts hws rfl rfl rfl ⟨p1, p2, p3⟩ (zroom hq hq2 hrk hfr hlo _ _)) preS rfl eN hlsz rfl (lv_room hcat) hdc hf) hS kk
                · cases ho
              · cases hcl
            · rename_i m2' na x1 hp
              split at hcl
              · rename_i hc
                cases hcl
                obtain ⟨hna, hcat, hrk, hlen⟩ := hc
                obtain ⟨ps, ho⟩ := zpool_ok hq hp
                simp only [zpok] at ho
                split at ho
                · rename_i q2 hq2
                  simp only [Bool.and_eq_true, decide_eq_true_eq] at ho
                  obtain ⟨⟨⟨w1, w2⟩, w3⟩, w6⟩ := ho
                  obtain ⟨p1, p2, p3⟩ := zpl_spec w6
                  obtain ⟨eS, eN⟩ := ztake2 hna
                  have hcn := va_cnB (R := R) (args := args) na hts (zgoodws hq2 (law hq2 hrk)) (show zws q2 = Jvm.Cond.code q2.2.1 q2.2.2.1 q2.2.2.2.1 q2.2.2.2.2.1 :: zgw from rfl) (rm := zRm q2.2.2.2.2.2.1 (z1.1 - z.1) (z1.2.1 - z.2.1)) rfl rfl (hK.2.2.1 _ (zib_mem w1)) (hts _ (zin_mem w3)) ⟨p1, p2, p3⟩ (zroom hq hq2 hrk hfr hlo _ _)
                  conv => rhs; rw [eS]
                  exact z_cont (va_runSN (As := (List.take na S).reverse) (rest := List.drop na S) ⟨hx, hb, hml, hown, hts⟩ (met hq2 hlen) ⟨hcn, hts _ (zin_mem w2), trivial⟩ preS rfl eN hlsz rfl (lv_room hcat) hdc hf) hS kk
                · cases ho
              · cases hcl
            · cases hcl
          · cases hcl
        · cases hs
      · rename_i hcn0
        clear hcn0
        split at hs
        · -- a return
          rename_i r0 hr0
          cases hs
          simp only [Nat.sub_self, Nat.add_zero] at hmc hms
          subst hmc
          subst hms
          unfold zret at hr0
          have hrt : zrty mi = q.2.2.2.2.1 := by unfold zrty; rw [hq]
          split at hr0
          · have hdc := zdok_dec hd rfl
            split at hr0
            · rename_i v ty hty
              split at hr0
              · rename_i hn
                cases hr0
                exact W.zret hx hb (by rw [hret, ← hrt]; exact hty) hn (fun t ht hWm => ⟨rfl, by rw [ht]; exact hW.moved hWm.alike, hS.F ht⟩) hS.2.2 hdc hlocks
              · cases hr0
            · cases hr0
          · have hdc := zdok_dec hd rfl
            split at hr0
            · rename_i v hty
              cases hr0
              exact W.lret hx hb (by rw [hret, ← hrt]; exact hty) (fun t ht hWm => ⟨rfl, by rw [ht]; exact hW.moved hWm.alike, hS.F ht⟩) hS.2.2 hdc hlocks
            · cases hr0
          · have hdc := zdok_dec hd rfl
            split at hr0
            · rename_i v cn hty
              cases hr0
              exact W.aret hx hb (by rw [hret, ← hrt]; exact hty) (Or.inl ⟨_, rfl⟩) (Or.inr ⟨_, rfl⟩) (fun t ht hWm => ⟨rfl, by rw [ht]; exact hW.moved hWm.alike, hS.F ht⟩) hS.2.2 hdc hlocks
            · cases hr0
          · have hdc := zdok_dec hd rfl
            split at hr0
            · rename_i hty
              cases hr0
              exact W.vret hx hb (by rw [hret, ← hrt]; exact hty) (fun t ht hWm => ⟨rfl, by rw [ht]; exact hW.moved hWm.alike, hS.F ht⟩) hS.2.2 hdc hlocks
            · cases hr0
          · cases hr0
        · split at hs
          · rename_i q1 hq1
            have mo1 := zstp_mono hq1
            have mo2 := zex_mono n hs
            simp only at mo2
            exact zstp_ok C0 hd hq1 hW hL hS (by omega) (by omega) (fun H' ls' locs' hW' hL' hS' => ih mi _ _ _ _ _ r z' h' hs C0 hret hlocks H' locs' ls' _ _ mc ms hW' hL' hS' (by omega) (by omega) hRc hRs)
          · cases hs
end ZR
