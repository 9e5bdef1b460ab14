/-! THE LIBRARY'S OWN String.length AND String.charAt, over the String constants -/
def RJ9 : String := "java/lang/Math"
abbrev cJ9_max_7cf53 : ByteArray := prog_14_method_65_code
def yJ9_max_7cf53 : MethodName := ⟨RJ9, "max", "(II)I"⟩
abbrev cJ9_min_7cf53 : ByteArray := prog_14_method_69_code
def yJ9_min_7cf53 : MethodName := ⟨RJ9, "min", "(II)I"⟩
def RJ0 : String := "java/lang/String"
abbrev cJ0_length_8abf5 : ByteArray := prog_15_method_54_code
def yJ0_length_8abf5 : MethodName := ⟨RJ0, "length", "()I"⟩
abbrev cJ0_charAt_5068e : ByteArray := prog_15_method_56_code
def yJ0_charAt_5068e : MethodName := ⟨RJ0, "charAt", "(I)C"⟩
abbrev cJ0_coder_7d493 : ByteArray := prog_15_method_152_code
def yJ0_coder_7d493 : MethodName := ⟨RJ0, "coder", "()B"⟩
abbrev cJ0_isLatin1_aae02 : ByteArray := prog_15_method_154_code
def yJ0_isLatin1_aae02 : MethodName := ⟨RJ0, "isLatin1", "()Z"⟩
abbrev cJ0_checkIndex_df160 : ByteArray := prog_15_method_155_code
def yJ0_checkIndex_df160 : MethodName := ⟨RJ0, "checkIndex", "(II)V"⟩
def RJ1 : String := "java/lang/StringLatin1"
abbrev cJ1_charAt_3b067 : ByteArray := prog_16_method_2_code
def yJ1_charAt_3b067 : MethodName := ⟨RJ1, "charAt", "([BI)C"⟩
def RJ2 : String := "java/lang/StringUTF16"
abbrev cJ2_getChar_3b067 : ByteArray := prog_17_method_5_code
def yJ2_getChar_3b067 : MethodName := ⟨RJ2, "getChar", "([BI)C"⟩
abbrev cJ2_length_9d52b : ByteArray := prog_17_method_6_code
def yJ2_length_9d52b : MethodName := ⟨RJ2, "length", "([B)I"⟩
abbrev cJ2_charAt_3b067 : ByteArray := prog_17_method_83_code
def yJ2_charAt_3b067 : MethodName := ⟨RJ2, "charAt", "([BI)C"⟩
abbrev cJ2_checkIndex_2214a : ByteArray := prog_17_method_91_code
def yJ2_checkIndex_2214a : MethodName := ⟨RJ2, "checkIndex", "(I[B)V"⟩
def RJ10 : String := "java/lang/System"
def RJ3 : String := "jdk/internal/util/Preconditions"
abbrev cJ3_checkIndex_8e157 : ByteArray := prog_19_method_11_code
def yJ3_checkIndex_8e157 : MethodName := ⟨RJ3, "checkIndex", "(IILjava/util/function/BiFunction;)I"⟩
theorem zgm {w : Jvm.Cond} (i : Nat) (h : lw_tbl[i]? = some w) (g : goodWord w = true) : w ∈ zgw := List.mem_filter.mpr ⟨List.mem_of_getElem? h, g⟩
theorem zgoodW : GoodIn zgw zgw := fun w hw => ⟨hw, good_of_word (List.mem_filter.mp hw).2⟩
theorem zgoodC {w : Jvm.Cond} (h : w ∈ zgw) : GoodIn zgw (w :: zgw) := fun v hv => by
  rcases List.mem_cons.mp hv with e | e
  · rw [e]; exact zgoodW _ h
  · exact zgoodW _ e
def zRm (d mc ms : Nat) : Room := { frames := d, cells := mc, slots := ms, locals := 36 * d }
/-- a method's start and end -/
def zPc (E : zE) (av : List Value) (z : zZ) (h : zH) : Array Value → State → Prop := fun v U => v = av.toArray ∧ zW E U z h U.heap ∧ zK E U
def zQc (E : zE) (z : zZ) (h : zH) (r : Option Value) : Array Value → State → Outcome → State → Prop := fun _ st o t => o = .returned r ∧ zW E t z h t.heap ∧ va_F (zA E) st t
theorem zPc_blind {E : zE} {z : zZ} {h : zH} {av : List Value} : FrameBlind (zPc E av z h) := fun a U g mk k => ⟨k.1, zW.moved (u := U) (U := U.calling g mk a) (Vm.Alike.refl U.vm) k.2.1, zK.moved (s := U) (U := U.calling g mk a) (State.WarmedH.refl U) k.2.2⟩
section ZJ
variable {E : zE} {p : Program} {l : Launch} {e : Env} {R : Room} {s : State} {m : MethodId} {args : Array Value} {below : List Frame} {meth : Method} {c : Code} {H : Heap} {locs : List Loc} {cells slots : Nat} {Q : State → Prop}
variable {pc : Nat} {ls : Array Slot} {z : zZ} {h : zH}
theorem z_cont {z1 : zZ} {h1 : zH} {r1 : Option Value} {mc ms : Nat} {st0 rest : List Value} {a : Array Value} (hr : va_Run p l e R s m args below meth c H locs cells slots mc ms (F0 m pc ls st0) rest (zQc E z1 h1 r1 a) (zA E)) (hS : va_S (zA E) s.heap H locs)
    (kk : ∀ (H1 : Heap) (locs1 : List Loc), zW E s z1 h1 H1 → va_S (zA E) s.heap H1 locs1 → W p l e R s m args below meth c H1 locs1 (cells + mc) (slots + ms) Q (F0 m (pc + 3) ls (r1.toList ++ rest))) : W p l e R s m args below meth c H locs cells slots Q (F0 m pc ls st0) := by
  intro T hT X
  obtain ⟨v, st₀, t, T', L, h0, X', hL, e1, e2, ⟨hv, hw, hz, hk⟩, st⟩ := hr T hT X
  cases hv
  rw [h0] at hz hk
  have hal : s.vm.Alike t.vm := by rw [← e2]; exact X'.warmed.alike
  obtain ⟨t2, a1, b1⟩ := kk T'.heap (locs ++ L) (by rw [e1]; exact hw.moved hal.symm) ⟨Nat.le_trans hS.1 (by rw [e1]; exact hz), fun q h1 h2 => by rw [e1, hk q (Nat.lt_of_lt_of_le h1 hS.1) h2]; exact hS.2.1 q h1 h2, fun q hq => by
      rcases List.mem_append.mp hq with h | h
      · exact hS.2.2 q h
      · exact hL q h⟩ T' rfl X'
  exact ⟨t2, st t2 a1, b1⟩
theorem zSlt : ∀ i, i < 6 → zSlen.getD i 0 < 2 ^ 31 := by decide +kernel
theorem zSch_ok : ∀ i, i < 6 → ∀ k, k < zSlen.getD i 0 → ((zSch i k &&& 255).toUInt32 % 65536).toInt32 = zSch i k ∧ narrow .char (.int (zSch i k)) = .int (zSch i k) := by decide +kernel
theorem zshr0 {n : Nat} (h : n < 2 ^ 31) : zi n >>> ((0 : Int32) &&& 31) = zi n := by
  simp

set_option maxHeartbeats 1000000 in
set_option maxRecDepth 100000 in
theorem zj_coder (l : Launch) (E : zE) {z : zZ} {h : zH} {i : Nat} (hi : i < 6) : Met l yJ0_coder_7d493 (.code yJ0_coder_7d493 cJ0_coder_7d493 1 (some .byte) :: zgw) (zRm 0 0 0) (zPc E [.ref (E.2.2.2.2.1 i)] z h) (zQc E z h (some (.int 0))) 0 0 (zA E) := by
  refine Met.ofW (cc := cJ0_coder_7d493) (maxL := 1) (ret := (some .byte)) (by decide) rfl ?_
  intro p e s m args below meth c s₁ B hml hv
  obtain ⟨rfl, hW, hK⟩ := hv
  have hx := B.exec
  have hb := B.bytes
  have hr := B.returns
  have hts0 := atoms_spec (ws := .code yJ0_coder_7d493 cJ0_coder_7d493 1 (some .byte) :: zgw) B.pre
  have hts : ∀ w ∈ zgw, w.before _ s = true := fun w hw => hts0 w (List.mem_cons_of_mem _ hw)
  have hown : s.vm.findClass RJ0 = some m.cls := findClass_of_methodNamed B.named
  have hlocks := B.notSynchronized
  have hS : va_S (zA E) s.heap s.heap [] := va_S.rf
  obtain ⟨hs1, hs2, hs3⟩ := hW.2.2.2.2
  have hs0 := hs1
  have hl := lv_entry ([.ref (E.2.2.2.2.1 i)]) (n := 1) (Nat.le_of_ble_eq_true rfl)
  rw [lg_entry_eq]
  generalize (lg_sl ([.ref (E.2.2.2.2.1 i)]) ++ List.replicate (1 - (lg_sl ([.ref (E.2.2.2.2.1 i)])).length) Slot.unset).toArray = ls at hl ⊢
  have hl : lv_has ls 1 [(0, .ref (E.2.2.2.2.1 i))] := hl
  refine va_gets (C := "java/lang/String") (n := "COMPACT_STRINGS") (d := "Z") (ref := "java/lang/String") (own := RJ0) hx hb hs2 hS hown (hts _ (zgm 736 (show lw_tbl[736]? = some (.fieldLink RJ0 38 "java/lang/String" "COMPACT_STRINGS" "Z") by decide +kernel) rfl)) (fun _ h9 => h9) (show decode cJ0_coder_7d493 0 = .ok (.getstatic 38, 3) by decide +kernel) ?_
  refine lv_if_eq (tgt := 13) hx hb (show decode cJ0_coder_7d493 3 = .ok (.ifCond .eq 10, 3) by decide +kernel) (by decide) (fun c1 => absurd c1 (by decide)) (fun _ => ?_)
  refine lv_aload_n hx hb (show decode cJ0_coder_7d493 6 = .ok (.aload_n 0, 1) by decide +kernel) rfl (lv_at hl 0 rfl) ?_
  refine vk_getf (o := "java/lang/String") (n := "coder") (d := "B") (own := RJ0) (ref := "java/lang/String") hx hb (hs0.1 i hi).2.1 hS hown (hts _ (zgm 1236 (show lw_tbl[1236]? = some (.fieldLink RJ0 15 "java/lang/String" "coder" "B") by decide +kernel) rfl)) (fun _ h9 => h9) (show decode cJ0_coder_7d493 7 = .ok (.getfield 15, 3) by decide +kernel) ?_
  refine lv_goto (tgt := 14) hx hb (show decode cJ0_coder_7d493 10 = .ok (.goto 4, 3) by decide +kernel) (by decide) ?_
  exact W.zret hx hb hr rfl (fun t ht hWm => ⟨rfl, by rw [ht]; exact hW.moved hWm.alike, hS.F ht⟩) hS.2.2 (show decode cJ0_coder_7d493 14 = .ok (.ireturn, 1) by decide +kernel)
set_option maxHeartbeats 1000000 in
set_option maxRecDepth 100000 in
theorem zj_latin (l : Launch) (E : zE) {z : zZ} {h : zH} {i : Nat} (hi : i < 6) : Met l yJ0_isLatin1_aae02 (.code yJ0_isLatin1_aae02 cJ0_isLatin1_aae02 1 (some .boolean) :: zgw) (zRm 0 0 0) (zPc E [.ref (E.2.2.2.2.1 i)] z h) (zQc E z h (some (.int 1))) 0 0 (zA E) := by
  refine Met.ofW (cc := cJ0_isLatin1_aae02) (maxL := 1) (ret := (some .boolean)) (by decide) rfl ?_
  intro p e s m args below meth c s₁ B hml hv
  obtain ⟨rfl, hW, hK⟩ := hv
  have hx := B.exec
  have hb := B.bytes
  have hr := B.returns
  have hts0 := atoms_spec (ws := .code yJ0_isLatin1_aae02 cJ0_isLatin1_aae02 1 (some .boolean) :: zgw) B.pre
  have hts : ∀ w ∈ zgw, w.before _ s = true := fun w hw => hts0 w (List.mem_cons_of_mem _ hw)
  have hown : s.vm.findClass RJ0 = some m.cls := findClass_of_methodNamed B.named
  have hlocks := B.notSynchronized
  have hS : va_S (zA E) s.heap s.heap [] := va_S.rf
  obtain ⟨hs1, hs2, hs3⟩ := hW.2.2.2.2
  have hs0 := hs1
  have hl := lv_entry ([.ref (E.2.2.2.2.1 i)]) (n := 1) (Nat.le_of_ble_eq_true rfl)
  rw [lg_entry_eq]
  generalize (lg_sl ([.ref (E.2.2.2.2.1 i)]) ++ List.replicate (1 - (lg_sl ([.ref (E.2.2.2.2.1 i)])).length) Slot.unset).toArray = ls at hl ⊢
  have hl : lv_has ls 1 [(0, .ref (E.2.2.2.2.1 i))] := hl
  refine va_gets (C := "java/lang/String") (n := "COMPACT_STRINGS") (d := "Z") (ref := "java/lang/String") (own := RJ0) hx hb hs2 hS hown (hts _ (zgm 736 (show lw_tbl[736]? = some (.fieldLink RJ0 38 "java/lang/String" "COMPACT_STRINGS" "Z") by decide +kernel) rfl)) (fun _ h9 => h9) (show decode cJ0_isLatin1_aae02 0 = .ok (.getstatic 38, 3) by decide +kernel) ?_
  refine lv_if_eq (tgt := 17) hx hb (show decode cJ0_isLatin1_aae02 3 = .ok (.ifCond .eq 14, 3) by decide +kernel) (by decide) (fun c1 => absurd c1 (by decide)) (fun _ => ?_)
  refine lv_aload_n hx hb (show decode cJ0_isLatin1_aae02 6 = .ok (.aload_n 0, 1) by decide +kernel) rfl (lv_at hl 0 rfl) ?_
  refine vk_getf (o := "java/lang/String") (n := "coder") (d := "B") (own := RJ0) (ref := "java/lang/String") hx hb (hs0.1 i hi).2.1 hS hown (hts _ (zgm 1236 (show lw_tbl[1236]? = some (.fieldLink RJ0 15 "java/lang/String" "coder" "B") by decide +kernel) rfl)) (fun _ h9 => h9) (show decode cJ0_isLatin1_aae02 7 = .ok (.getfield 15, 3) by decide +kernel) ?_
  refine lv_if_ne (tgt := 17) hx hb (show decode cJ0_isLatin1_aae02 10 = .ok (.ifCond .ne 7, 3) by decide +kernel) (by decide) (fun c1 => absurd rfl c1) (fun _ => ?_)
  refine lv_iconst (v := 1) hx hb (show decode cJ0_isLatin1_aae02 13 = .ok (.iconst 1, 1) by decide +kernel) (by decide) ?_
  refine lv_goto (tgt := 18) hx hb (show decode cJ0_isLatin1_aae02 14 = .ok (.goto 4, 3) by decide +kernel) (by decide) ?_
  exact W.zret hx hb hr rfl (fun t ht hWm => ⟨rfl, by rw [ht]; exact hW.moved hWm.alike, hS.F ht⟩) hS.2.2 (show decode cJ0_isLatin1_aae02 18 = .ok (.ireturn, 1) by decide +kernel)
set_option maxHeartbeats 1000000 in
set_option maxRecDepth 100000 in
theorem zj_length (l : Launch) (E : zE) {z : zZ} {h : zH} {i : Nat} (hi : i < 6) : Met l yJ0_length_8abf5 (.code yJ0_length_8abf5 cJ0_length_8abf5 1 (some .int) :: zgw) (zRm 1 0 0) (zPc E [.ref (E.2.2.2.2.1 i)] z h) (zQc E z h (some (.int (zi (zSlen.getD i 0))))) 0 0 (zA E) := by
  refine Met.ofW (cc := cJ0_length_8abf5) (maxL := 1) (ret := (some .int)) (by decide) rfl ?_
  intro p e s m args below meth c s₁ B hml hv
  obtain ⟨rfl, hW, hK⟩ := hv
  have hx := B.exec
  have hb := B.bytes
  have hr := B.returns
  have hts0 := atoms_spec (ws := .code yJ0_length_8abf5 cJ0_length_8abf5 1 (some .int) :: zgw) B.pre
  have hts : ∀ w ∈ zgw, w.before _ s = true := fun w hw => hts0 w (List.mem_cons_of_mem _ hw)
  have hown : s.vm.findClass RJ0 = some m.cls := findClass_of_methodNamed B.named
  have hlocks := B.notSynchronized
  have hS : va_S (zA E) s.heap s.heap [] := va_S.rf
  obtain ⟨hs1, hs2, hs3⟩ := hW.2.2.2.2
  have hs0 := hs1
  have hl := lv_entry ([.ref (E.2.2.2.2.1 i)]) (n := 1) (Nat.le_of_ble_eq_true rfl)
  rw [lg_entry_eq]
  generalize (lg_sl ([.ref (E.2.2.2.2.1 i)]) ++ List.replicate (1 - (lg_sl ([.ref (E.2.2.2.2.1 i)])).length) Slot.unset).toArray = ls at hl ⊢
  have hl : lv_has ls 1 [(0, .ref (E.2.2.2.2.1 i))] := hl
  refine lv_aload_n hx hb (show decode cJ0_length_8abf5 0 = .ok (.aload_n 0, 1) by decide +kernel) rfl (lv_at hl 0 rfl) ?_
  refine vk_getf (o := "java/lang/String") (n := "value") (d := "[B") (own := RJ0) (ref := "java/lang/String") hx hb (hs0.1 i hi).2.2.1 hS hown (hts _ (zgm 1235 (show lw_tbl[1235]? = some (.fieldLink RJ0 9 "java/lang/String" "value" "[B") by decide +kernel) rfl)) (fun _ h9 => h9) (show decode cJ0_length_8abf5 1 = .ok (.getfield 9, 3) by decide +kernel) ?_
  refine va_tlen (t := E.2.2.2.2.2 i) (ty := .byte) hx hb (hs0.1 i hi).2.2.2 hS rfl (show decode cJ0_length_8abf5 4 = .ok (.arraylength, 1) by decide +kernel) ?_
  refine lv_aload_n hx hb (show decode cJ0_length_8abf5 5 = .ok (.aload_n 0, 1) by decide +kernel) rfl (lv_at hl 0 rfl) ?_
  have hws : GoodIn zgw (wsV RJ0 335 RJ0 yJ0_coder_7d493 (.code yJ0_coder_7d493 cJ0_coder_7d493 1 (some .byte) :: zgw)) := fun w hw => by
    rcases List.mem_append.mp hw with hw | hw
    · refine zgoodW w ?_
      simp only [List.mem_cons, List.not_mem_nil, or_false] at hw
      rcases hw with rfl | rfl | rfl | rfl
      · exact zgm 732 (by decide +kernel) rfl
      · exact zgm 733 (by decide +kernel) rfl
      · exact zgm 734 (by decide +kernel) rfl
      · exact zgm 58 (by decide +kernel) rfl
    · exact zgoodC (zgm 735 (by rfl) rfl) w hw
  refine z_cont (va_runV (As := []) (rest := [.int (Int32.ofNat (zSlen.getD i 0))]) ⟨hx, hb, hml, hown, hts⟩ (zj_coder l E hi) (cwV 0 hts hws rfl rfl rfl (by decide +kernel) ⟨Nat.le_of_ble_eq_true rfl, Nat.le_of_ble_eq_true rfl⟩) ⟨zPc_blind, vk_recv hs0 hi hS, fun U hU hWm => ⟨rfl, by rw [hU]; exact hW.moved hWm.alike, hK.moved hWm⟩⟩ rfl rfl hl.1 rfl (lv_room (Nat.le_of_ble_eq_true rfl)) (show decode cJ0_length_8abf5 6 = .ok (.invokevirtual 335, 3) by decide +kernel) ⟨Nat.le_of_ble_eq_true rfl, Nat.le_of_ble_eq_true rfl⟩) hS (fun H locs hW hS => ?_)
  obtain ⟨hs1, hs2, hs3⟩ := hW.2.2.2.2
  refine lv_ishr hx hb (show decode cJ0_length_8abf5 9 = .ok (.ishr, 1) by decide +kernel) ?_
  have e9 : Int32.ofNat (zSlen.getD i 0) >>> ((0 : Int32) &&& 31) = zi (zSlen.getD i 0) := by rw [← zshr0 (zSlt i hi), zi, Int32.ofInt_eq_ofNat]
  rw [e9]
  exact W.zret hx hb hr rfl (fun t ht hWm => ⟨rfl, by rw [ht]; exact hW.moved hWm.alike, hS.F ht⟩) hS.2.2 (show decode cJ0_length_8abf5 10 = .ok (.ireturn, 1) by decide +kernel)
set_option maxHeartbeats 1000000 in
set_option maxRecDepth 100000 in
theorem zj_pcheck (l : Launch) (E : zE) {z : zZ} {h : zH} {i n : Nat} {v : Value} (hin : i < n) (hn : n < 2 ^ 31) (hv : v = .null ∨ ∃ t, v = .ref t) : Met l yJ3_checkIndex_8e157 (.code yJ3_checkIndex_8e157 cJ3_checkIndex_8e157 3 (some .int) :: zgw) (zRm 0 0 0) (zPc E [.int (nI i), .int (nI n), v] z h) (zQc E z h (some (.int (nI i)))) 0 0 (zA E) := by
  refine Met.ofW (cc := cJ3_checkIndex_8e157) (maxL := 3) (ret := (some .int)) (by decide) rfl ?_
  intro p e s m args below meth c s₁ B hml hv
  obtain ⟨rfl, hW, hK⟩ := hv
  have hx := B.exec
  have hb := B.bytes
  have hr := B.returns
  have hts0 := atoms_spec (ws := .code yJ3_checkIndex_8e157 cJ3_checkIndex_8e157 3 (some .int) :: zgw) B.pre
  have hts : ∀ w ∈ zgw, w.before _ s = true := fun w hw => hts0 w (List.mem_cons_of_mem _ hw)
  have hown : s.vm.findClass RJ3 = some m.cls := findClass_of_methodNamed B.named
  have hlocks := B.notSynchronized
  have hS : va_S (zA E) s.heap s.heap [] := va_S.rf
  obtain ⟨hs1, hs2, hs3⟩ := hW.2.2.2.2
  have hs0 := hs1
  have hl := lv_entry ([.int (nI i), .int (nI n), v]) (n := 3) (by rcases hv with rfl | ⟨t, rfl⟩ <;> exact Nat.le_of_ble_eq_true rfl)
  rw [lg_entry_eq]
  generalize (lg_sl ([.int (nI i), .int (nI n), v]) ++ List.replicate (3 - (lg_sl ([.int (nI i), .int (nI n), v])).length) Slot.unset).toArray = ls at hl ⊢
  have hl : lv_has ls 3 [(0, .int (nI i)), (1, .int (nI n))] := lv_sub hl [0, 1] rfl
  refine lv_iload_n hx hb (show decode cJ3_checkIndex_8e157 0 = .ok (.iload_n 0, 1) by decide +kernel) rfl (lv_at hl 0 rfl) ?_
  refine lv_if_lt (tgt := 9) hx hb (show decode cJ3_checkIndex_8e157 1 = .ok (.ifCond .lt 8, 3) by decide +kernel) (by decide) (fun c1 => absurd c1 (nI_pos (by omega))) (fun _ => ?_)
  refine lv_iload_n hx hb (show decode cJ3_checkIndex_8e157 4 = .ok (.iload_n 0, 1) by decide +kernel) rfl (lv_at hl 0 rfl) ?_
  refine lv_iload_n hx hb (show decode cJ3_checkIndex_8e157 5 = .ok (.iload_n 1, 1) by decide +kernel) rfl (lv_at hl 1 rfl) ?_
  refine lv_icmp_lt (tgt := 16) hx hb (show decode cJ3_checkIndex_8e157 6 = .ok (.if_icmp .lt 10, 3) by decide +kernel) (by decide) (fun _ => ?_) (fun c1 => absurd (nI_lt hin hn) c1)
  refine lv_iload_n hx hb (show decode cJ3_checkIndex_8e157 16 = .ok (.iload_n 0, 1) by decide +kernel) rfl (lv_at hl 0 rfl) ?_
  exact W.zret hx hb hr rfl (fun t ht hWm => ⟨rfl, by rw [ht]; exact hW.moved hWm.alike, hS.F ht⟩) hS.2.2 (show decode cJ3_checkIndex_8e157 17 = .ok (.ireturn, 1) by decide +kernel)
set_option maxHeartbeats 1000000 in
set_option maxRecDepth 100000 in
theorem zj_scheck (l : Launch) (E : zE) {z : zZ} {h : zH} {i n : Nat} (hin : i < n) (hn : n < 2 ^ 31) : Met l yJ0_checkIndex_df160 (.code yJ0_checkIndex_df160 cJ0_checkIndex_df160 2 none :: zgw) (zRm 1 0 0) (zPc E [.int (nI i), .int (nI n)] z h) (zQc E z h none) 0 0 (zA E) := by
  refine Met.ofW (cc := cJ0_checkIndex_df160) (maxL := 2) (ret := none) (by decide) rfl ?_
  intro p e s m args below meth c s₁ B hml hv
  obtain ⟨rfl, hW, hK⟩ := hv
  have hx := B.exec
  have hb := B.bytes
  have hr := B.returns
  have hts0 := atoms_spec (ws := .code yJ0_checkIndex_df160 cJ0_checkIndex_df160 2 none :: zgw) B.pre
  have hts : ∀ w ∈ zgw, w.before _ s = true := fun w hw => hts0 w (List.mem_cons_of_mem _ hw)
  have hown : s.vm.findClass RJ0 = some m.cls := findClass_of_methodNamed B.named
  have hlocks := B.notSynchronized
  have hS : va_S (zA E) s.heap s.heap [] := va_S.rf
  obtain ⟨hs1, hs2, hs3⟩ := hW.2.2.2.2
  have hs0 := hs1
  have hl := lv_entry ([.int (nI i), .int (nI n)]) (n := 2) (Nat.le_of_ble_eq_true rfl)
  rw [lg_entry_eq]
  generalize (lg_sl ([.int (nI i), .int (nI n)]) ++ List.replicate (2 - (lg_sl ([.int (nI i), .int (nI n)])).length) Slot.unset).toArray = ls at hl ⊢
  have hl : lv_has ls 2 [(0, .int (nI i)), (1, .int (nI n))] := hl
  refine lv_iload_n hx hb (show decode cJ0_checkIndex_df160 0 = .ok (.iload_n 0, 1) by decide +kernel) rfl (lv_at hl 0 rfl) ?_
  refine lv_iload_n hx hb (show decode cJ0_checkIndex_df160 1 = .ok (.iload_n 1, 1) by decide +kernel) rfl (lv_at hl 1 rfl) ?_
  have hz : ∃ v : Value, (v = .null ∨ ∃ t, v = .ref t) ∧ va_Z "jdk/internal/util/Preconditions" "SIOOBE_FORMATTER" "Ljava/util/function/BiFunction;" v (zA E) s s.heap := by
    rcases hs3 with h | ⟨t, h⟩
    · exact ⟨_, Or.inl rfl, h⟩
    · exact ⟨_, Or.inr ⟨t, rfl⟩, h⟩
  obtain ⟨v, hv, hz⟩ := hz
  refine va_gets (C := "jdk/internal/util/Preconditions") (n := "SIOOBE_FORMATTER") (d := "Ljava/util/function/BiFunction;") (ref := "jdk/internal/util/Preconditions") (own := RJ0) hx hb hz hS hown (hts _ (zgm 752 (show lw_tbl[752]? = some (.fieldLink RJ0 1053 "jdk/internal/util/Preconditions" "SIOOBE_FORMATTER" "Ljava/util/function/BiFunction;") by decide +kernel) rfl)) (fun _ h9 => h9) (show decode cJ0_checkIndex_df160 2 = .ok (.getstatic 1053, 3) by decide +kernel) ?_
  have hws : GoodIn zgw (va_wsS RJ0 1059 yJ3_checkIndex_8e157 (.code yJ3_checkIndex_8e157 cJ3_checkIndex_8e157 3 (some .int) :: zgw)) := fun w hw => by
    rcases List.mem_append.mp hw with hw | hw
    · refine zgoodW w ?_
      simp only [List.mem_cons, List.not_mem_nil, or_false] at hw
      rcases hw with rfl | rfl | rfl
      · exact zgm 754 (by decide +kernel) rfl
      · exact zgm 755 (by decide +kernel) rfl
      · exact zgm 60 (by decide +kernel) rfl
    · exact zgoodC (zgm 756 (by rfl) rfl) w hw
  refine z_cont (va_runS (As := [.int (nI i), .int (nI n), v]) (rest := []) ⟨hx, hb, hml, hown, hts⟩ (zj_pcheck l E hin hn hv) (va_cwS 3 hts hws rfl rfl rfl (by decide +kernel) ⟨Nat.le_of_ble_eq_true rfl, Nat.le_of_ble_eq_true rfl⟩) ⟨zPc_blind, fun U hU hWm => ⟨rfl, by rw [hU]; exact hW.moved hWm.alike, hK.moved hWm⟩⟩ rfl rfl hl.1 rfl (lv_room (Nat.le_of_ble_eq_true rfl)) (show decode cJ0_checkIndex_df160 5 = .ok (.invokestatic 1059, 3) by decide +kernel) ⟨Nat.le_of_ble_eq_true rfl, Nat.le_of_ble_eq_true rfl⟩) hS (fun H locs hW hS => ?_)
  obtain ⟨hs1, hs2, hs3⟩ := hW.2.2.2.2
  refine lv_pop hx hb (show decode cJ0_checkIndex_df160 8 = .ok (.pop, 1) by decide +kernel) rfl ?_
  exact W.vret hx hb hr (fun t ht hWm => ⟨rfl, by rw [ht]; exact hW.moved hWm.alike, hS.F ht⟩) hS.2.2 (show decode cJ0_checkIndex_df160 9 = .ok (.return_, 1) by decide +kernel)
set_option maxHeartbeats 1000000 in
set_option maxRecDepth 100000 in
theorem zj_lchar (l : Launch) (E : zE) {z : zZ} {h : zH} {i k : Nat} (hi : i < 6) (hk : k < zSlen.getD i 0) : Met l yJ1_charAt_3b067 (.code yJ1_charAt_3b067 cJ1_charAt_3b067 2 (some .char) :: zgw) (zRm 2 0 0) (zPc E [.ref (E.2.2.2.2.2 i), .int (nI k)] z h) (zQc E z h (some (.int (zSch i k)))) 0 0 (zA E) := by
  refine Met.ofW (cc := cJ1_charAt_3b067) (maxL := 2) (ret := (some .char)) (by decide) rfl ?_
  intro p e s m args below meth c s₁ B hml hv
  obtain ⟨rfl, hW, hK⟩ := hv
  have hx := B.exec
  have hb := B.bytes
  have hr := B.returns
  have hts0 := atoms_spec (ws := .code yJ1_charAt_3b067 cJ1_charAt_3b067 2 (some .char) :: zgw) B.pre
  have hts : ∀ w ∈ zgw, w.before _ s = true := fun w hw => hts0 w (List.mem_cons_of_mem _ hw)
  have hown : s.vm.findClass RJ1 = some m.cls := findClass_of_methodNamed B.named
  have hlocks := B.notSynchronized
  have hS : va_S (zA E) s.heap s.heap [] := va_S.rf
  obtain ⟨hs1, hs2, hs3⟩ := hW.2.2.2.2
  have hs0 := hs1
  have hl := lv_entry ([.ref (E.2.2.2.2.2 i), .int (nI k)]) (n := 2) (Nat.le_of_ble_eq_true rfl)
  rw [lg_entry_eq]
  generalize (lg_sl ([.ref (E.2.2.2.2.2 i), .int (nI k)]) ++ List.replicate (2 - (lg_sl ([.ref (E.2.2.2.2.2 i), .int (nI k)])).length) Slot.unset).toArray = ls at hl ⊢
  have hl : lv_has ls 2 [(0, .ref (E.2.2.2.2.2 i)), (1, .int (nI k))] := hl
  have hlt := zSlt i hi
  refine lv_iload_n hx hb (show decode cJ1_charAt_3b067 0 = .ok (.iload_n 1, 1) by decide +kernel) rfl (lv_at hl 1 rfl) ?_
  refine lv_aload_n hx hb (show decode cJ1_charAt_3b067 1 = .ok (.aload_n 0, 1) by decide +kernel) rfl (lv_at hl 0 rfl) ?_
  refine va_tlen (t := E.2.2.2.2.2 i) (ty := .byte) hx hb (hs0.1 i hi).2.2.2 hS rfl (show decode cJ1_charAt_3b067 2 = .ok (.arraylength, 1) by decide +kernel) ?_
  have hws : GoodIn zgw (va_wsS RJ1 9 yJ0_checkIndex_df160 (.code yJ0_checkIndex_df160 cJ0_checkIndex_df160 2 none :: zgw)) := fun w hw => by
    rcases List.mem_append.mp hw with hw | hw
    · refine zgoodW w ?_
      simp only [List.mem_cons, List.not_mem_nil, or_false] at hw
      rcases hw with rfl | rfl | rfl
      · exact zgm 749 (by decide +kernel) rfl
      · exact zgm 750 (by decide +kernel) rfl
      · exact zgm 58 (by decide +kernel) rfl
    · exact zgoodC (zgm 751 (by rfl) rfl) w hw
  refine z_cont (va_runS (As := [.int (nI k), .int (nI (zSlen.getD i 0))]) (rest := []) ⟨hx, hb, hml, hown, hts⟩ (zj_scheck l E hk hlt) (va_cwS 2 hts hws rfl rfl rfl (by decide +kernel) ⟨Nat.le_of_ble_eq_true rfl, Nat.le_of_ble_eq_true rfl⟩) ⟨zPc_blind, fun U hU hWm => ⟨rfl, by rw [hU]; exact hW.moved hWm.alike, hK.moved hWm⟩⟩ rfl rfl hl.1 rfl (lv_room (Nat.le_of_ble_eq_true rfl)) (show decode cJ1_charAt_3b067 3 = .ok (.invokestatic 9, 3) by decide +kernel) ⟨Nat.le_of_ble_eq_true rfl, Nat.le_of_ble_eq_true rfl⟩) hS (fun H locs hW hS => ?_)
  obtain ⟨hs1, hs2, hs3⟩ := hW.2.2.2.2
  refine lv_aload_n hx hb (show decode cJ1_charAt_3b067 6 = .ok (.aload_n 0, 1) by decide +kernel) rfl (lv_at hl 0 rfl) ?_
  refine lv_iload_n hx hb (show decode cJ1_charAt_3b067 7 = .ok (.iload_n 1, 1) by decide +kernel) rfl (lv_at hl 1 rfl) ?_
  refine va_tb (t := E.2.2.2.2.2 i) hx hb (hs0.1 i hi).2.2.2 hS (vp_in_nI hk hlt) (v := .int (zSch i k)) (by rw [nI_clamp (by omega)]; rfl) (show decode cJ1_charAt_3b067 8 = .ok (.baload, 1) by decide +kernel) ?_
  refine lv_sipush (v := 255) hx hb (show decode cJ1_charAt_3b067 9 = .ok (.sipush 255, 3) by decide +kernel) (by decide) ?_
  refine lv_iand hx hb (show decode cJ1_charAt_3b067 12 = .ok (.iand, 1) by decide +kernel) ?_
  obtain ⟨e8, e9⟩ := zSch_ok i hi k hk
  refine lv_i2c hx hb (show decode cJ1_charAt_3b067 13 = .ok (.i2c, 1) by decide +kernel) e8 ?_
  exact W.zret hx hb hr e9 (fun t ht hWm => ⟨rfl, by rw [ht]; exact hW.moved hWm.alike, hS.F ht⟩) hS.2.2 (show decode cJ1_charAt_3b067 14 = .ok (.ireturn, 1) by decide +kernel)
set_option maxHeartbeats 1000000 in
set_option maxRecDepth 100000 in
theorem zj_charAt (l : Launch) (E : zE) {z : zZ} {h : zH} {i k : Nat} (hi : i < 6) (hk : k < zSlen.getD i 0) : Met l yJ0_charAt_5068e (.code yJ0_charAt_5068e cJ0_charAt_5068e 2 (some .char) :: zgw) (zRm 3 0 0) (zPc E [.ref (E.2.2.2.2.1 i), .int (nI k)] z h) (zQc E z h (some (.int (zSch i k)))) 0 0 (zA E) := by
  refine Met.ofW (cc := cJ0_charAt_5068e) (maxL := 2) (ret := (some .char)) (by decide) rfl ?_
  intro p e s m args below meth c s₁ B hml hv
  obtain ⟨rfl, hW, hK⟩ := hv
  have hx := B.exec
  have hb := B.bytes
  have hr := B.returns
  have hts0 := atoms_spec (ws := .code yJ0_charAt_5068e cJ0_charAt_5068e 2 (some .char) :: zgw) B.pre
  have hts : ∀ w ∈ zgw, w.before _ s = true := fun w hw => hts0 w (List.mem_cons_of_mem _ hw)
  have hown : s.vm.findClass RJ0 = some m.cls := findClass_of_methodNamed B.named
  have hlocks := B.notSynchronized
  have hS : va_S (zA E) s.heap s.heap [] := va_S.rf
  obtain ⟨hs1, hs2, hs3⟩ := hW.2.2.2.2
  have hs0 := hs1
  have hl := lv_entry ([.ref (E.2.2.2.2.1 i), .int (nI k)]) (n := 2) (Nat.le_of_ble_eq_true rfl)
  rw [lg_entry_eq]
  generalize (lg_sl ([.ref (E.2.2.2.2.1 i), .int (nI k)]) ++ List.replicate (2 - (lg_sl ([.ref (E.2.2.2.2.1 i), .int (nI k)])).length) Slot.unset).toArray = ls at hl ⊢
  have hl : lv_has ls 2 [(0, .ref (E.2.2.2.2.1 i)), (1, .int (nI k))] := hl
  refine lv_aload_n hx hb (show decode cJ0_charAt_5068e 0 = .ok (.aload_n 0, 1) by decide +kernel) rfl (lv_at hl 0 rfl) ?_
  have hws : GoodIn zgw (wsV RJ0 492 RJ0 yJ0_isLatin1_aae02 (.code yJ0_isLatin1_aae02 cJ0_isLatin1_aae02 1 (some .boolean) :: zgw)) := fun w hw => by
    rcases List.mem_append.mp hw with hw | hw
    · refine zgoodW w ?_
      simp only [List.mem_cons, List.not_mem_nil, or_false] at hw
      rcases hw with rfl | rfl | rfl | rfl
      · exact zgm 742 (by decide +kernel) rfl
      · exact zgm 743 (by decide +kernel) rfl
      · exact zgm 744 (by decide +kernel) rfl
      · exact zgm 58 (by decide +kernel) rfl
    · exact zgoodC (zgm 745 (by rfl) rfl) w hw
  refine z_cont (va_runV (As := []) (rest := []) ⟨hx, hb, hml, hown, hts⟩ (zj_latin l E hi) (cwV 0 hts hws rfl rfl rfl (by decide +kernel) ⟨Nat.le_of_ble_eq_true rfl, Nat.le_of_ble_eq_true rfl⟩) ⟨zPc_blind, vk_recv hs0 hi hS, fun U hU hWm => ⟨rfl, by rw [hU]; exact hW.moved hWm.alike, hK.moved hWm⟩⟩ rfl rfl hl.1 rfl (lv_room (Nat.le_of_ble_eq_true rfl)) (show decode cJ0_charAt_5068e 1 = .ok (.invokevirtual 492, 3) by decide +kernel) ⟨Nat.le_of_ble_eq_true rfl, Nat.le_of_ble_eq_true rfl⟩) hS (fun H locs hW hS => ?_)
  obtain ⟨hs1, hs2, hs3⟩ := hW.2.2.2.2
  refine lv_if_eq (tgt := 16) hx hb (show decode cJ0_charAt_5068e 4 = .ok (.ifCond .eq 12, 3) by decide +kernel) (by decide) (fun c1 => absurd c1 (by decide)) (fun _ => ?_)
  refine lv_aload_n hx hb (show decode cJ0_charAt_5068e 7 = .ok (.aload_n 0, 1) by decide +kernel) rfl (lv_at hl 0 rfl) ?_
  refine vk_getf (o := "java/lang/String") (n := "value") (d := "[B") (own := RJ0) (ref := "java/lang/String") hx hb (hs0.1 i hi).2.2.1 hS hown (hts _ (zgm 1235 (show lw_tbl[1235]? = some (.fieldLink RJ0 9 "java/lang/String" "value" "[B") by decide +kernel) rfl)) (fun _ h9 => h9) (show decode cJ0_charAt_5068e 8 = .ok (.getfield 9, 3) by decide +kernel) ?_
  refine lv_iload_n hx hb (show decode cJ0_charAt_5068e 11 = .ok (.iload_n 1, 1) by decide +kernel) rfl (lv_at hl 1 rfl) ?_
  have hws : GoodIn zgw (va_wsS RJ0 495 yJ1_charAt_3b067 (.code yJ1_charAt_3b067 cJ1_charAt_3b067 2 (some .char) :: zgw)) := fun w hw => by
    rcases List.mem_append.mp hw with hw | hw
    · refine zgoodW w ?_
      simp only [List.mem_cons, List.not_mem_nil, or_false] at hw
      rcases hw with rfl | rfl | rfl
      · exact zgm 746 (by decide +kernel) rfl
      · exact zgm 747 (by decide +kernel) rfl
      · exact zgm 59 (by decide +kernel) rfl
    · exact zgoodC (zgm 748 (by rfl) rfl) w hw
  refine z_cont (va_runS (As := [.ref (E.2.2.2.2.2 i), .int (nI k)]) (rest := []) ⟨hx, hb, hml, hown, hts⟩ (zj_lchar l E hi hk) (va_cwS 2 hts hws rfl rfl rfl (by decide +kernel) ⟨Nat.le_of_ble_eq_true rfl, Nat.le_of_ble_eq_true rfl⟩) ⟨zPc_blind, fun U hU hWm => ⟨rfl, by rw [hU]; exact hW.moved hWm.alike, hK.moved hWm⟩⟩ rfl rfl hl.1 rfl (lv_room (Nat.le_of_ble_eq_true rfl)) (show decode cJ0_charAt_5068e 12 = .ok (.invokestatic 495, 3) by decide +kernel) ⟨Nat.le_of_ble_eq_true rfl, Nat.le_of_ble_eq_true rfl⟩) hS (fun H locs hW hS => ?_)
  obtain ⟨hs1, hs2, hs3⟩ := hW.2.2.2.2
  obtain ⟨e8, e9⟩ := zSch_ok i hi k hk
  exact W.zret hx hb hr e9 (fun t ht hWm => ⟨rfl, by rw [ht]; exact hW.moved hWm.alike, hS.F ht⟩) hS.2.2 (show decode cJ0_charAt_5068e 15 = .ok (.ireturn, 1) by decide +kernel)
end ZJ
