/-- from the entry, for every script of at most 260 ints, the law comes to its end with true -/
theorem whole_start {p : Program} {e : Env} {s : State} {m : MethodId} {below : List Frame} {meth : Method} {c : Code} (l : Launch) (hflags : l.flags = flags0) {b L : Nat} {xs : Nat → Int32} (hL : L ≤ 260) (C0 : lw_At p s m meth c b L xs) : W p l e room_1 s m #[Value.ref b] below meth c s.heap [] 0 0 (lw_Z below #[Value.ref b] s) (entryFrame m ([Value.ref b] : List Value).toArray 15) := by
  obtain ⟨hx, hb, hr, hml, hown, hts, hX, hbl, hlocks, hg⟩ := C0
  obtain ⟨E, h0, hE, hK, hW, hw⟩ := zworld hts hX hbl hL
  have hZ := la_all (Q := fun r z _ => r = some (.int (zi 1)) ∧ z = (s.heap.size + 260, 0 + 2648, E.2.2.2.2.1)) hw (fun h => ⟨rfl, rfl⟩)
  obtain ⟨n, r, z', h', hex, hr1, hz1⟩ := hZ
  subst hr1
  subst hz1
  have z1 : zi 1 = 1 := by decide +kernel
  have hC : zC E p room_1 s m #[Value.ref b] meth c 104 zm104 := ⟨rfl, hx, hb, hml, hown, fun h => absurd h (by decide), fun w hw => hts w (List.mem_filter.mp hw).1, hK, by decide, by decide⟩
  have hLs : zL 15 ((lg_sl [Value.ref b] ++ List.replicate (15 - (lg_sl [Value.ref b]).length) Slot.unset).toArray) [.ref b, zJ, zJ, zJ, zJ, zJ, zJ, zJ, zJ, zJ, zJ, zJ, zJ, zJ, zJ] := zL.entry (vs := [Value.ref b]) (n := 15) (Nat.le_of_ble_eq_true rfl)
  have R := z_run l E n 104 0 _ _ _ _ _ _ _ hex (e := e) (below := below) hC hr hlocks s.heap [] _ 599740 7299602 600000 7302250 hW hLs va_S.rf (by show 599740 + (s.heap.size + 260 - s.heap.size) = 600000; omega) (by show 7299602 + (0 + 2648 - 0) = 7302250; omega) (Nat.le_refl _) (Nat.le_refl _)
  rw [lg_entry_eq]
  refine W.widen (k := 599740) (n := 7299602) (Nat.zero_le _) (Nat.zero_le _) ?_
  intro T hT X
  obtain ⟨t, a1, o, b1, b2, b3, L1, b4, b5⟩ := R T hT X
  obtain ⟨f1, f2, g1, g2, g3, g4, g5, g6⟩ := b4
  refine ⟨t, a1, o, b1, b2, ?_, f1, f2, g1, g2, g3, g4, g5, fun a c hc => ?_⟩
  · rw [b3.1, z1]
  · obtain ⟨c', k1, k2, k3, k4⟩ := g6 a c hc
    refine ⟨c', k1, k2, k3, fun i _ => k4 i (fun hm => ?_)⟩
    have q1 : E.1 ≤ a := b5 _ hm
    rw [hE] at q1
    exact absurd (Nat.lt_of_lt_of_le (Array.getElem?_eq_some_iff.mp hc).1 q1) (Nat.lt_irrefl _)
