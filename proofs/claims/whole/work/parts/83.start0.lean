/-! the start: what the tables and the Statement say of the world -/
/-- the String constants' cells, by their addresses -/
def zlay (ad : Nat → Nat) (x : Nat) : Nat → va_E
  | 0 => .inl (99, 0, .inl fun _ => 0)
  | k + 1 => if x = ad k then .inl (10, zSlen.getD k 0, .inl (zSch k)) else zlay ad x k
theorem zlay_at {ad : Nat → Nat} (hi : ∀ i j : Nat, i < 6 → j < 6 → ad i = ad j → i = j) : ∀ k : Nat, k ≤ 6 → ∀ i : Nat, i < k → zlay ad (ad i) k = .inl (10, zSlen.getD i 0, .inl (zSch i))
  | 0, _, i, h => absurd h (by omega)
  | k + 1, hk, i, h => by
    unfold zlay
    by_cases c : ad i = ad k
    · rw [if_pos c, hi i k (by omega) (by omega) c]
    · rw [if_neg c]
      refine zlay_at hi k (by omega) i ?_
      have : i ≠ k := fun e => c (by rw [e])
      omega
theorem zlay_P {E : zE} {U : State} {H : Heap} {x : Nat} : ∀ k : Nat, k ≤ 6 → zcellP E U x (zlay E.2.2.2.2.1 x k) H
  | 0, _ => ⟨fun h => absurd h (by show ¬ (99 < 6); decide), fun h => absurd h (by show ¬ ((99 : Nat) = 9); decide), fun h => absurd h (by show ¬ ((99 : Nat) = 10); decide)⟩
  | k + 1, hk => by
    unfold zlay
    by_cases c : x = E.2.2.2.2.1 k
    · rw [if_pos c]
      exact ⟨fun h => absurd h (by show ¬ (10 < 6); decide), fun h => absurd h (by show ¬ ((10 : Nat) = 9); decide), fun _ => ⟨k, by omega, c, rfl⟩⟩
    · rw [if_neg c]
      exact zlay_P k (by omega)
theorem zrwi_of (xs : Nat → Int32) : zrwi (fun j => (xs j.toNat).toInt) = xs := by
  funext j
  show zi ((xs ((j : Int).toNat)).toInt) = xs j
  rw [show ((j : Int).toNat) = j by omega]
  exact Int32.ofInt_toInt _
section ST0
variable {s : State} {args : Array Value}
theorem zst_cls (hts : ∀ w ∈ lw_tbl, w.before args s = true) : ∃ (dC : Nat → ClassId) (dI : Nat → Nat → Nat), ∀ (k : Nat) (q : vw_C), zCls[k]? = some q → u_Kn s q.1 q.2.1 q.2.2 (dC k) (dI k) := by
  have ins : ∀ (k : Nat) (q : vw_C), zCls[k]? = some q → Jvm.Cond.instantiable q.1 q.2.2 ∈ lw_tbl := by
    intro k q h
    match k, h with
    | 0, h => cases h; decide +kernel
    | 1, h => cases h; decide +kernel
    | 2, h => cases h; decide +kernel
    | 3, h => cases h; decide +kernel
    | 4, h => cases h; decide +kernel
    | 5, h => cases h; decide +kernel
    | 6, h => cases h; decide +kernel
    | 7, h => cases h; decide +kernel
    | 8, h => cases h; decide +kernel
    | 9, h => cases h; decide +kernel
    | 10, h => cases h; decide +kernel
    | 11, h => cases h; decide +kernel
    | n + 12, h => exact absurd h (by simp [zCls])
  have h : ∀ k : Nat, ∃ x : ClassId × (Nat → Nat), ∀ q : vw_C, zCls[k]? = some q → u_Kn s q.1 q.2.1 q.2.2 x.1 x.2 := by
    intro k
    cases hk : zCls[k]? with
    | none => exact ⟨(0, fun _ => 0), fun q hq => by cases hq⟩
    | some q =>
      obtain ⟨cC, iS, hKn⟩ := u_known hts (zTok_all k q hk).1 (hts _ (ins k q hk))
      exact ⟨(cC, iS), fun q2 hq => by cases hq; exact hKn⟩
  obtain ⟨f, hf⟩ := Classical.axiomOfChoice h
  exact ⟨fun k => (f k).1, fun k => (f k).2, fun k q hq => hf k q hq⟩
theorem zst_arr (hts : ∀ w ∈ lw_tbl, w.before args s = true) : ∃ (dA : Nat → ClassId), ∀ t, t < 6 → ArrOfT s (dA t) (zArr t) ∧ va_RA s (dA t) (zArr t) ∧ s.vm.findClass ("[" ++ (zArr t).toString) = some (dA t) := by
  have prim : ∀ t, t < 4 → ∃ c : ClassId, ArrOfT s c (zArr t) ∧ va_RA s c (zArr t) ∧ s.vm.findClass ("[" ++ (zArr t).toString) = some c := by
    intro t ht
    obtain ⟨c, k, comp, h1, h2, h3⟩ := Cond.arrayClass_spec (args := args) (first := s) (o := none) (s := s) (idx := []) (hts _ (List.mem_filter.mp (zarc t ht)).1)
    refine ⟨c, fun N z => ⟨fun k h => (by cases h), k, h2, comp, h3⟩, ?_, h1⟩
    match t, ht with
    | 0, _ => exact h1
    | 1, _ => exact h1
    | 2, _ => exact h1
    | 3, _ => exact h1
    | n + 4, h => exact absurd h (by omega)
  have obj : ∀ C : String, Jvm.Cond.arrayOver (.object C) ∈ lw_tbl → ∃ c : ClassId, ArrOfT s c (.object C) ∧ va_RA s c (.object C) ∧ s.vm.findClass ("[" ++ (FieldType.object C).toString) = some c := by
    intro C hC
    obtain ⟨comp, c, k, h1, -, h2, h3, h4⟩ := Cond.arrayOver_spec (args := args) (first := s) (o := none) (s := s) (idx := []) (hts _ hC)
    exact ⟨c, fun N z => ⟨fun k h => (by cases h), k, h2, comp, h3⟩, ⟨k, comp, h2, h3, h1, h4⟩, h4⟩
  have h : ∀ t : Nat, ∃ c : ClassId, t < 6 → ArrOfT s c (zArr t) ∧ va_RA s c (zArr t) ∧ s.vm.findClass ("[" ++ (zArr t).toString) = some c := by
    intro t
    by_cases h4 : t < 4
    · obtain ⟨c, hc⟩ := prim t h4
      exact ⟨c, fun _ => hc⟩
    · by_cases e4 : t = 4
      · subst e4
        obtain ⟨c, hc⟩ := obj "MirrorPlanner$Mirror" (by decide +kernel)
        exact ⟨c, fun _ => hc⟩
      · by_cases e5 : t = 5
        · subst e5
          obtain ⟨c, hc⟩ := obj "MirrorPlanner$State" (by decide +kernel)
          exact ⟨c, fun _ => hc⟩
        · exact ⟨0, fun h => absurd h (by omega)⟩
  obtain ⟨f, hf⟩ := Classical.axiomOfChoice h
  exact ⟨f, hf⟩
def zTm (i : Nat) : Term := .string "MirrorPlanner$Orders" (85 + 2 * i)
theorem zst_str (hf : ∀ c ∈ flatC (Jvm.Cond.and given_1 narrow_1), c.before args s = true) : ∃ adK adV : Nat → Nat, vk_S 6 zSlen zSbyt adK adV (fun q => s.heap.size ≤ q) s s.heap ∧ ∀ i : Nat, i < 6 → (zTm i).eval args s none [] s = some (.ref (adK i)) := by
  refine vk_Sof (tm := zTm) ?_ ?_ ?_ ?_ ?_ ?_ ?_ (fun a ha => by omega)
  · decide +kernel
  · have h : ∀ i : Nat, i < 6 → Jvm.Cond.exactly (zTm i) "java/lang/String" ∈ flatC (Jvm.Cond.and given_1 narrow_1) := by decide +kernel
    exact fun i hi => hf _ (h i hi)
  · have h : ∀ i : Nat, i < 6 → Jvm.Cond.eq (.field (zTm i) "java/lang/String" "coder" "B") (.int 0) ∈ flatC (Jvm.Cond.and given_1 narrow_1) := by decide +kernel
    exact fun i hi => hf _ (h i hi)
  · have h : ∀ i : Nat, i < 6 → Jvm.Cond.arrayOf (.field (zTm i) "java/lang/String" "value" "[B") .byte ∈ flatC (Jvm.Cond.and given_1 narrow_1) := by decide +kernel
    exact fun i hi => hf _ (h i hi)
  · have h : ∀ i : Nat, i < 6 → Jvm.Cond.eq (.length (.field (zTm i) "java/lang/String" "value" "[B")) (.int (Int32.ofNat (zSlen.getD i 0))) ∈ flatC (Jvm.Cond.and given_1 narrow_1) := by decide +kernel
    exact fun i hi => hf _ (h i hi)
  · have h : ∀ i : Nat, i < 6 → ∀ j : Nat, j < zSlen.getD i 0 → Jvm.Cond.eq (.elem (.field (zTm i) "java/lang/String" "value" "[B") (.int (Int32.ofNat j))) (.int ((zSbyt.getD i []).getD j 0)) ∈ flatC (Jvm.Cond.and given_1 narrow_1) := by decide +kernel
    exact fun i hi j hj => hf _ (h i hi j hj)
  · have h : ∀ i : Nat, i < 6 → ∀ j : Nat, j < 6 → i ≠ j → Jvm.Cond.not (Jvm.Cond.eq (zTm i) (zTm j)) ∈ flatC (Jvm.Cond.and given_1 narrow_1) ∨ Jvm.Cond.not (Jvm.Cond.eq (zTm j) (zTm i)) ∈ flatC (Jvm.Cond.and given_1 narrow_1) := by decide +kernel
    exact fun i j hi hj hij => (h i hi j hj hij).imp (hf _) (hf _)
theorem zworld {b L : Nat} {xs : Nat → Int32} (hts : ∀ w ∈ lw_tbl, w.before args s = true) (hg : (Jvm.Cond.and given_1 narrow_1).before args s = true) (hX : va_X b L xs s s.heap) (hb : b < s.heap.size) (hL : L ≤ 2048) :
    ∃ (E : zE) (h0 : zH), E.1 = s.heap.size ∧ zK E s ∧ zW E s (s.heap.size, 0, E.2.2.2.2.1) h0 s.heap ∧ wB (s.heap.size, 0, E.2.2.2.2.1) h0 b s.heap.size L (fun j => (xs j.toNat).toInt) := by
  have hf := flat_of_before _ hg
  obtain ⟨dC, dI, hK⟩ := zst_cls hts
  obtain ⟨dA, hA⟩ := zst_arr hts
  obtain ⟨adK, adV, hS, hev⟩ := zst_str hf
  obtain ⟨scr, x1, x2, x3, x4, x5⟩ := hX
  have hne : ∀ i : Nat, i < 6 → adK i ≠ b ∧ adK i < s.heap.size := by
    intro i hi
    obtain ⟨cf, k, fi, f, cell, g0, g1, g2, g3, g4, g5⟩ := (hS.1 i hi).2.2.1
    refine ⟨fun e => ?_, (Array.getElem?_eq_some_iff.mp g2).1⟩
    rw [e] at g2
    have ec := Option.some.inj (g2.symm.trans x1)
    rw [ec] at g4
    have hlt : f.slot < scr.slots.size := (Array.getElem?_eq_some_iff.mp g4).1
    have := x5 f.slot (by omega)
    rw [g4] at this
    cases this
  refine ⟨(s.heap.size, dC, dI, dA, adK, adV), fun x => if x = b then .inl (9, L, .inl xs) else zlay adK x 6, rfl, ⟨hK, hA, ?_, ?_, ?_⟩, ⟨rfl, Nat.le_refl _, rfl, fun a => ?_, ?_, ?_, ?_⟩, hb, ?_, hL, fun j => ⟨Int32.le_toInt _, Int32.toInt_lt _⟩, fun i hi => ⟨(hne i hi).2, ?_⟩⟩
  · intro q hq
    obtain ⟨w, hw, he⟩ := List.mem_filterMap.mp hq
    cases w <;> try (cases he; done)
    cases he
    exact va_Nw.of rfl (hts _ hw)
  · intro k q hq
    have hk : k < 6 := by
      have := (List.getElem?_eq_some_iff.mp hq).1
      exact this
    have hin : ∀ k : Nat, k < 6 → ∀ q, zStr[k]? = some q → Jvm.Cond.stringRef q.1 q.2.1 q.2.2 ∈ lw_tbl ∧ Term.string q.1 q.2.1 = zTm k := by
      intro k hk q hq
      match k, hk, hq with
      | 0, _, hq => cases hq; exact ⟨by decide +kernel, rfl⟩
      | 1, _, hq => cases hq; exact ⟨by decide +kernel, rfl⟩
      | 2, _, hq => cases hq; exact ⟨by decide +kernel, rfl⟩
      | 3, _, hq => cases hq; exact ⟨by decide +kernel, rfl⟩
      | 4, _, hq => cases hq; exact ⟨by decide +kernel, rfl⟩
      | 5, _, hq => cases hq; exact ⟨by decide +kernel, rfl⟩
      | n + 6, h, _ => exact absurd h (by omega)
    obtain ⟨i1, i2⟩ := hin k hk q hq
    refine vk_R.of (hts _ i1) ?_
    rw [i2]
    exact hev k hk
  · intro t C hC
    match t, hC with
    | 0, hC => cases hC
    | 1, hC => cases hC
    | 2, hC => cases hC
    | 3, hC => cases hC
    | 4, hC => cases hC; exact va_AO.of (hts _ (by decide +kernel))
    | 5, hC => cases hC; exact va_AO.of (hts _ (by decide +kernel))
    | n + 6, hC => cases hC
  · by_cases c : a = b
    · show zcellP _ s a (if a = b then _ else _) s.heap
      rw [if_pos c]
      refine ⟨fun h => absurd h (by show ¬ (9 < 6); decide), fun _ => ⟨by rw [c]; exact hb, xs, scr, rfl, by rw [c]; exact x1, x2, x3, x4, by show L < 2 ^ 31; omega, x5⟩, fun h => absurd h (by show ¬ ((9 : Nat) = 10); decide)⟩
    · show zcellP _ s a (if a = b then _ else _) s.heap
      rw [if_neg c]
      exact zlay_P (E := (s.heap.size, dC, dI, dA, adK, adV)) 6 (Nat.le_refl _)
  · exact hS
  · exact va_Zof (hts _ (by decide +kernel)) (hts _ (by decide +kernel)) (va_eqt (hf _ (by decide +kernel))) (fun a ha => by show ¬ (s.heap.size ≤ a); omega)
  · exact va_Zqof (hts _ (by decide +kernel)) (hts _ (by decide +kernel)) (hf _ (by decide +kernel)) (fun a ha => by show ¬ (s.heap.size ≤ a); omega)
  · show (if b = b then _ else _ : va_E) = _
    rw [if_pos rfl, zrwi_of]
  · show (if adK i = b then _ else _ : va_E) = _
    rw [if_neg (hne i hi).1]
    exact zlay_at hS.2 6 (Nat.le_refl _) i hi
end ST0
