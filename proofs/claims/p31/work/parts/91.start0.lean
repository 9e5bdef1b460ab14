/-! p31's start: what the tables and the Statement say of the world -/
theorem zrwi_of (xs : Nat → Int32) : zrwi (fun j => (xs j.toNat).toInt) = xs := by
  funext j
  show zi ((xs ((j : Int).toNat)).toInt) = xs j
  rw [show ((j : Int).toNat) = j by omega]
  exact Int32.ofInt_toInt _
section ST0
variable {s : State} {args : Array Value}
theorem zst_cls (hts : ∀ w ∈ lw_tbl, w.before args s = true) : ∃ (dC : Nat → ClassId) (dI : Nat → Nat → Nat), ∀ (k : Nat) (q : vw_C), zCls[k]? = some q → u_Kn s q.1 q.2.1 q.2.2 (dC k) (dI k) := by
  have ins : ∀ (k : Nat) (q : vw_C), zCls[k]? = some q → Jvm.Cond.instantiable q.1 q.2.2 ∈ lw_tbl := by
    intro k q h
    match k, h with
    | 0, h => cases h; decide +kernel
    | 1, h => cases h; decide +kernel
    | 2, h => cases h; decide +kernel
    | 3, h => cases h; decide +kernel
    | 4, h => cases h; decide +kernel
    | 5, h => cases h; decide +kernel
    | 6, h => cases h; decide +kernel
    | 7, h => cases h; decide +kernel
    | 8, h => cases h; decide +kernel
    | 9, h => cases h; decide +kernel
    | 10, h => cases h; decide +kernel
    | n + 11, h => exact absurd h (by simp [zCls])
  have h : ∀ k : Nat, ∃ x : ClassId × (Nat → Nat), ∀ q : vw_C, zCls[k]? = some q → u_Kn s q.1 q.2.1 q.2.2 x.1 x.2 := by
    intro k
    cases hk : zCls[k]? with
    | none => exact ⟨(0, fun _ => 0), fun q hq => by cases hq⟩
    | some q =>
      obtain ⟨cC, iS, hKn⟩ := u_known hts (zTok_all k q hk).1 (hts _ (ins k q hk))
      exact ⟨(cC, iS), fun q2 hq => by cases hq; exact hKn⟩
  obtain ⟨f, hf⟩ := Classical.axiomOfChoice h
  exact ⟨fun k => (f k).1, fun k => (f k).2, fun k q hq => hf k q hq⟩
theorem zst_arr (hts : ∀ w ∈ lw_tbl, w.before args s = true) : ∃ (dA : Nat → ClassId), ∀ t, t < 6 → ArrOfT s (dA t) (zArr t) ∧ va_RA s (dA t) (zArr t) ∧ s.vm.findClass ("[" ++ (zArr t).toString) = some (dA t) := by
  have prim : ∀ t, t < 4 → ∃ c : ClassId, ArrOfT s c (zArr t) ∧ va_RA s c (zArr t) ∧ s.vm.findClass ("[" ++ (zArr t).toString) = some c := by
    intro t ht
    obtain ⟨c, k, comp, h1, h2, h3⟩ := Cond.arrayClass_spec (args := args) (first := s) (o := none) (s := s) (idx := []) (hts _ (List.mem_filter.mp (zarc t ht)).1)
    refine ⟨c, fun N z => ⟨fun k h => (by cases h), k, h2, comp, h3⟩, ?_, h1⟩
    match t, ht with
    | 0, _ => exact h1
    | 1, _ => exact h1
    | 2, _ => exact h1
    | 3, _ => exact h1
    | n + 4, h => exact absurd h (by omega)
  have obj : ∀ C : String, Jvm.Cond.arrayOver (.object C) ∈ lw_tbl → ∃ c : ClassId, ArrOfT s c (.object C) ∧ va_RA s c (.object C) ∧ s.vm.findClass ("[" ++ (FieldType.object C).toString) = some c := by
    intro C hC
    obtain ⟨comp, c, k, h1, -, h2, h3, h4⟩ := Cond.arrayOver_spec (args := args) (first := s) (o := none) (s := s) (idx := []) (hts _ hC)
    exact ⟨c, fun N z => ⟨fun k h => (by cases h), k, h2, comp, h3⟩, ⟨k, comp, h2, h3, h1, h4⟩, h4⟩
  have h : ∀ t : Nat, ∃ c : ClassId, t < 6 → ArrOfT s c (zArr t) ∧ va_RA s c (zArr t) ∧ s.vm.findClass ("[" ++ (zArr t).toString) = some c := by
    intro t
    by_cases h4 : t < 4
    · obtain ⟨c, hc⟩ := prim t h4
      exact ⟨c, fun _ => hc⟩
    · by_cases e4 : t = 4
      · subst e4
        obtain ⟨c, hc⟩ := obj "MirrorPlanner$Mirror" (by decide +kernel)
        exact ⟨c, fun _ => hc⟩
      · by_cases e5 : t = 5
        · subst e5
          obtain ⟨c, hc⟩ := obj "MirrorPlanner$State" (by decide +kernel)
          exact ⟨c, fun _ => hc⟩
        · exact ⟨0, fun h => absurd h (by omega)⟩
  obtain ⟨f, hf⟩ := Classical.axiomOfChoice h
  exact ⟨f, hf⟩
theorem zworld {b L : Nat} {xs : Nat → Int32} (hts : ∀ w ∈ lw_tbl, w.before args s = true) (hX : va_X b L xs s s.heap) (hb : b < s.heap.size) (hL : L ≤ 260) :
    ∃ (E : zE) (h0 : zH), E.1 = s.heap.size ∧ zK E s ∧ zW E s (s.heap.size, 0, E.2.2.2.2.1) h0 s.heap ∧ wS h0 b s.heap.size L (fun j => (xs j.toNat).toInt) := by
  obtain ⟨dC, dI, hK⟩ := zst_cls hts
  obtain ⟨dA, hA⟩ := zst_arr hts
  obtain ⟨scr, x1, x2, x3, x4, x5⟩ := hX
  refine ⟨(s.heap.size, dC, dI, dA, fun _ => 0, fun _ => 0), fun x => if x = b then .inl (9, L, .inl xs) else .inl (99, 0, .inl fun _ => 0), rfl, ⟨hK, hA, ?_, ?_, ?_⟩, ⟨rfl, Nat.le_refl _, rfl, fun a => ?_, trivial⟩, hb, ?_, hL⟩
  · intro q hq
    obtain ⟨w, hw, he⟩ := List.mem_filterMap.mp hq
    cases w <;> try (cases he; done)
    cases he
    exact va_Nw.of rfl (hts _ hw)
  · intro k q hq
    exact absurd hq (by simp [zStr])
  · intro t C hC
    match t, hC with
    | 0, hC => cases hC
    | 1, hC => cases hC
    | 2, hC => cases hC
    | 3, hC => cases hC
    | 4, hC => cases hC; exact va_AO.of (hts _ (by decide +kernel))
    | 5, hC => cases hC; exact va_AO.of (hts _ (by decide +kernel))
    | n + 6, hC => cases hC
  · by_cases c : a = b
    · show zcellP _ s a (if a = b then _ else _) s.heap
      rw [if_pos c]
      refine ⟨fun h => absurd h (by show ¬ (9 < 6); decide), fun _ => ⟨by rw [c]; exact hb, xs, scr, rfl, by rw [c]; exact x1, x2, x3, x4, by show L < 2 ^ 31; omega, x5⟩, fun h => absurd h (by show ¬ ((9 : Nat) = 10); decide)⟩
    · show zcellP _ s a (if a = b then _ else _) s.heap
      rw [if_neg c]
      exact ⟨fun h => absurd h (by show ¬ (99 < 6); decide), fun h => absurd h (by show ¬ ((99 : Nat) = 9); decide), fun h => absurd h (by show ¬ ((99 : Nat) = 10); decide)⟩
  · show (if b = b then _ else _ : va_E) = _
    rw [if_pos rfl, zrwi_of]
end ST0
