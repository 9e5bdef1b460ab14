/-! how a run goes on behind a call -/
theorem zgm {w : Jvm.Cond} (i : Nat) (h : lw_tbl[i]? = some w) (g : goodWord w = true) : w ∈ zgw := List.mem_filter.mpr ⟨List.mem_of_getElem? h, g⟩
theorem zgoodW : GoodIn zgw zgw := fun w hw => ⟨hw, good_of_word (List.mem_filter.mp hw).2⟩
theorem zgoodC {w : Jvm.Cond} (h : w ∈ zgw) : GoodIn zgw (w :: zgw) := fun v hv => by
  rcases List.mem_cons.mp hv with e | e
  · rw [e]; exact zgoodW _ h
  · exact zgoodW _ e
def zRm (d mc ms : Nat) : Room := { frames := d, cells := mc, slots := ms, locals := 36 * d }
/-- a method's start and end -/
def zPc (E : zE) (av : List Value) (z : zZ) (h : zH) : Array Value → State → Prop := fun v U => v = av.toArray ∧ zW E U z h U.heap ∧ zK E U
def zQc (E : zE) (z : zZ) (h : zH) (r : Option Value) : Array Value → State → Outcome → State → Prop := fun _ st o t => o = .returned r ∧ zW E t z h t.heap ∧ va_F (zA E) st t
theorem zPc_blind {E : zE} {z : zZ} {h : zH} {av : List Value} : FrameBlind (zPc E av z h) := fun a U g mk k => ⟨k.1, zW.moved (u := U) (U := U.calling g mk a) (Vm.Alike.refl U.vm) k.2.1, zK.moved (s := U) (U := U.calling g mk a) (State.WarmedH.refl U) k.2.2⟩
section ZJ
variable {E : zE} {p : Program} {l : Launch} {e : Env} {R : Room} {s : State} {m : MethodId} {args : Array Value} {below : List Frame} {meth : Method} {c : Code} {H : Heap} {locs : List Loc} {cells slots : Nat} {Q : State → Prop}
variable {pc : Nat} {ls : Array Slot} {z : zZ} {h : zH}
theorem z_cont {z1 : zZ} {h1 : zH} {r1 : Option Value} {mc ms : Nat} {st0 rest : List Value} {a : Array Value} (hr : va_Run p l e R s m args below meth c H locs cells slots mc ms (F0 m pc ls st0) rest (zQc E z1 h1 r1 a) (zA E)) (hS : va_S (zA E) s.heap H locs)
    (kk : ∀ (H1 : Heap) (locs1 : List Loc), zW E s z1 h1 H1 → va_S (zA E) s.heap H1 locs1 → W p l e R s m args below meth c H1 locs1 (cells + mc) (slots + ms) Q (F0 m (pc + 3) ls (r1.toList ++ rest))) : W p l e R s m args below meth c H locs cells slots Q (F0 m pc ls st0) := by
  intro T hT X
  obtain ⟨v, st₀, t, T', L, h0, X', hL, e1, e2, ⟨hv, hw, hz, hk⟩, st⟩ := hr T hT X
  cases hv
  rw [h0] at hz hk
  have hal : s.vm.Alike t.vm := by rw [← e2]; exact X'.warmed.alike
  obtain ⟨t2, a1, b1⟩ := kk T'.heap (locs ++ L) (by rw [e1]; exact hw.moved hal.symm) ⟨Nat.le_trans hS.1 (by rw [e1]; exact hz), fun q h1 h2 => by rw [e1, hk q (Nat.lt_of_lt_of_le h1 hS.1) h2]; exact hS.2.1 q h1 h2, fun q hq => by
      rcases List.mem_append.mp hq with h | h
      · exact hS.2.2 q h
      · exact hL q h⟩ T' rfl X'
  exact ⟨t2, st t2 a1, b1⟩
end ZJ
