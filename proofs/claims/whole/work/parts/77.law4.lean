/-! The cells that the two constructors make, as a world. -/
theorem nodup_rev {l : List Nat} (h : l.Nodup) : l.reverse.Nodup := List.pairwise_reverse.mpr (List.Pairwise.imp (fun h => Ne.symm h) h)
def mupL (M : Mem) : List (Nat × va_E) → Mem
  | [] => M
  | q :: r => mupL (mup M q.1 q.2) r
theorem mupL_o {a : Nat} : ∀ (K : List (Nat × va_E)) (M : Mem), a ∉ K.map Prod.fst → mupL M K a = M a := fun K => by
  induction K with
  | nil => exact fun M _ => rfl
  | cons q r ih =>
    intro M h
    rw [List.map_cons, List.mem_cons, not_or] at h
    exact (ih _ h.2).trans (mup_n h.1)
theorem mupL_at {a : Nat} {e : va_E} : ∀ (K : List (Nat × va_E)) (M : Mem), (K.map Prod.fst).Nodup → (a, e) ∈ K → mupL M K a = some e := fun K => by
  induction K with
  | nil => exact fun M _ h => by cases h
  | cons q r ih =>
    intro M hn h
    rw [List.map_cons, List.nodup_cons] at hn
    rcases List.mem_cons.mp h with h | h
    · subst h
      exact (mupL_o r _ hn.1).trans (mup_s _ _ _)
    · exact ih _ hn.2 h
def PX12i (g : Gp) (M : Mem) (o : Nat) : Mem → Prop := fun M1 => ∃ (b0 b1 b2 b3 b4 b5 b6 b7 : Nat), Fr M [b7, b6, b5, b4, b3, b2, b1, b0] ∧ mup (mup (mup (mup (mup (mup (mup (mup (mup M o (.inr (12, [.int 0, .ref b0, .ref b1, .ref b2, .int 0, .int 0, .int 0, .int 0, .int 0, .int 0, .int 0, .ref b3, .ref b4, .ref b5, .ref b6, .ref b7, .int 0, .int 0, .int 0, .int 0]))) b0 (aI g 929 (upd (fun _ => 0) 15 (-1)))) b1 (aI g 929 (fun _ => 0))) b2 (aI g 9 (fun _ => 0))) b3 (aI g 6 (fun _ => 0))) b4 (aZ g 64 (fun _ => 0))) b5 (aI g 18 (fun _ => 0))) b6 (aI g 12 (fun _ => 0))) b7 (aI g 20 (fun _ => 0)) = M1
def en0 : En := ((0, 0, 0, 0), ((fun _ => 0), (fun _ => none), (fun _ => 0), (fun _ => 0), (fun _ => 0)), ((fun _ => 0), (fun _ => 0), (fun _ => 0)), (0, 1, 0), ((fun _ => 0), (fun _ => 0), (fun _ => 0)))
def r0 : Rf := (en0, (0, fun _ => 0), (0, fun _ => 0), (0, fun _ => 0), (0, fun _ => 0))
def f0_ : Nat → Int32 := upd (fun _ => 0) 15 (-1)
def sLA (g : Gp) (o b0 b1 b2 b3 b4 b5 b6 b7 b8 b9 b10 b11 b12 b13 b14 b15 b16 b17 b18 b19 b20 b21 b22 b23 b24 b25 b26 b27 b28 b29 b30 b31 b32 b33 b34 b35 b36 b37 b38 b39 b40 b41 b42 b43 b44 : Nat) : List (Nat × va_E) := [(o, (.inr (11, [.ref b0, .ref b2, .ref b20, .ref b38, .ref b43, .ref b44, .int 0]))), (b0, (rowsE b1 20 1 0)), (b1, (aI g 20 (fun _ => 0))), (b2, (.inr (4, [.int 0, .int 0, .int 0, .int 0, .ref b3, .ref b4, .ref b5, .ref b6, .ref b7, .ref b8, .ref b12, .ref b14, .ref b16, .ref b18]))), (b3, (aI g 2 (fun _ => 0))), (b4, (aS g 6 (fun _ => none))), (b5, (aI g 6 (fun _ => 0))), (b6, (aI g 6 (fun _ => 0))), (b7, (aI g 24 (fun _ => 0))), (b8, (skyE b9 b10 b11 0 1 0)), (b9, (aI g 100 (fun _ => 0))), (b10, (aI g 100 (fun _ => 0))), (b11, (aI g 100 (fun _ => 0))), (b12, (rowsE b13 100 1 0)), (b13, (aI g 100 (fun _ => 0))), (b14, (rowsE b15 6 3 0)), (b15, (aI g 18 (fun _ => 0))), (b16, (rowsE b17 8 3 0)), (b17, (aI g 24 (fun _ => 0))), (b18, (rowsE b19 8 3 0)), (b19, (aI g 24 (fun _ => 0))), (b20, (.inr (4, [.int 0, .int 0, .int 0, .int 0, .ref b21, .ref b22, .ref b23, .ref b24, .ref b25, .ref b26, .ref b30, .ref b32, .ref b34, .ref b36]))), (b21, (aI g 2 (fun _ => 0))), (b22, (aS g 6 (fun _ => none))), (b23, (aI g 6 (fun _ => 0))), (b24, (aI g 6 (fun _ => 0))), (b25, (aI g 24 (fun _ => 0))), (b26, (skyE b27 b28 b29 0 1 0)), (b27, (aI g 100 (fun _ => 0))), (b28, (aI g 100 (fun _ => 0))), (b29, (aI g 100 (fun _ => 0))), (b30, (rowsE b31 100 1 0)), (b31, (aI g 100 (fun _ => 0))), (b32, (rowsE b33 6 3 0)), (b33, (aI g 18 (fun _ => 0))), (b34, (rowsE b35 8 3 0)), (b35, (aI g 24 (fun _ => 0))), (b36, (rowsE b37 8 3 0)), (b37, (aI g 24 (fun _ => 0))), (b38, (.inr (7, [.ref b12, .ref b39, .int 0, .int (-1), .int (-1)]))), (b39, (skyE b40 b41 b42 0 1 0)), (b40, (aI g 100 (fun _ => 0))), (b41, (aI g 100 (fun _ => 0))), (b42, (aI g 100 (fun _ => 0))), (b43, (aI g 60 (fun _ => 0))), (b44, (aI g 60 (fun _ => 0)))]
def sLB (g : Gp) (o2 c0 c1 c2 c3 c4 c5 c6 c7 : Nat) : List (Nat × va_E) := [(o2, (.inr (12, [.int 0, .ref c0, .ref c1, .ref c2, .int 0, .int 0, .int 0, .int 0, .int 0, .int 0, .int 0, .ref c3, .ref c4, .ref c5, .ref c6, .ref c7, .int 0, .int 0, .int 0, .int 0]))), (c0, (aI g 929 (upd (fun _ => 0) 15 (-1)))), (c1, (aI g 929 (fun _ => 0))), (c2, (aI g 9 (fun _ => 0))), (c3, (aI g 6 (fun _ => 0))), (c4, (aZ g 64 (fun _ => 0))), (c5, (aI g 18 (fun _ => 0))), (c6, (aI g 12 (fun _ => 0))), (c7, (aI g 20 (fun _ => 0)))]
theorem r0_ok : RfT r0 f0_ := ⟨0, 0, 0, 0, 0, ⟨rfl, rfl, by decide, fun j hj => absurd hj (Nat.not_lt_zero j)⟩, ⟨rfl, rfl, by decide, Or.inl ⟨rfl, rfl, rfl, rfl, rfl⟩⟩, fun j hj => absurd hj (Nat.not_lt_zero j), rfl, by decide, by decide, by decide, rfl, rfl, rfl, rfl, rfl, ⟨rfl, by decide, fun i hi => absurd hi (Nat.not_lt_zero i)⟩, ⟨rfl, by decide, fun i hi => absurd hi (Nat.not_lt_zero i)⟩, ⟨rfl, by decide, fun i hi => absurd hi (Nat.not_lt_zero i)⟩, ⟨rfl, by decide, fun i hi => absurd hi (Nat.not_lt_zero i)⟩, fun j hj h6 => ⟨by
  rcases (show j = 0 ∨ j = 1 ∨ j = 2 ∨ j = 3 ∨ j = 4 ∨ j = 5 by omega) with rfl | rfl | rfl | rfl | rfl | rfl <;> decide, fun k hk => rfl⟩⟩
/-- the initial cells, over any addresses of the fixed ones -/
def cel0 (g : Gp) : Nat → va_E := cel g 0 0 (fun _ => 0) r0 r0 (0, -1, -1) ((0, 1, 0), (fun _ => 0), (fun _ => 0), (fun _ => 0)) (fun _ => 0) (fun _ => 0) 0 0 0 0 0 0 0 0 0 0 0 0 f0_ (fun _ => 0) (fun _ => 0) (fun _ => 0) (fun _ => 0) (fun _ => 0) (fun _ => 0)
theorem cel0_no (g : Gp) : ∀ i, i < 55 → noS g (cel0 g i) := by
  apply all55 <;> first | exact noA | exact noO (by decide)
theorem W_of {g : Gp} {M : Mem} (h : ∀ i, i < 55 → M (gA g i) = some (cel0 g i)) : World g M := ⟨0, 0, fun _ => 0, r0, r0, (0, -1, -1), ((0, 1, 0), (fun _ => 0), (fun _ => 0), (fun _ => 0)), fun _ => 0, fun _ => 0, 0, 0, 0, 0, 0, 0, 0, 0, 0, 0, 0, f0_, fun _ => 0, fun _ => 0, fun _ => 0, fun _ => 0, fun _ => 0, fun _ => 0, ⟨h, cel0_no g, ⟨by decide, by decide, fun j hj => absurd hj (Nat.not_lt_zero j)⟩, fun j hj b hb => (by cases hb), ⟨by decide, by decide, fun j hj => absurd hj (Nat.not_lt_zero j)⟩, fun j hj b hb => (by cases hb)⟩, ⟨0, by decide, rfl⟩, r0_ok, Or.inl ⟨rfl, rfl⟩⟩
set_option maxRecDepth 20000 in
theorem W_start {D : va_G} {cs : ClassId × ClassId × ClassId} {H0 : Heap} {K V : Nat → Nat} {M M1 M2 : Mem} {o o2 : Nat} (h1 : PX11i (D, cs, H0, id, K, V) (mup M o (.inr (11, [.null, .null, .null, .null, .null, .null, .int 0]))) o M1) (h12 : M1 o2 = none) (h2 : PX12i (D, cs, H0, id, K, V) (mup M1 o2 (.inr (12, [.int 0, .null, .null, .null, .int 0, .int 0, .int 0, .int 0, .int 0, .int 0, .int 0, .null, .null, .null, .null, .null, .int 0, .int 0, .int 0, .int 0]))) o2 M2) : ∃ A : Nat → Nat, (∀ i j : Nat, i < 55 → j < 55 → A i = A j → i = j) ∧ A 0 = o ∧ A 46 = o2 ∧ World (D, cs, H0, A, K, V) M2 := by
  unfold PX11i at h1
  unfold PX12i at h2
  obtain ⟨b0, b1, b2, b3, b4, b5, b6, b7, b8, b9, b10, b11, b12, b13, b14, b15, b16, b17, b18, b19, b20, b21, b22, b23, b24, b25, b26, b27, b28, b29, b30, b31, b32, b33, b34, b35, b36, b37, b38, b39, b40, b41, b42, b43, b44, ⟨f1, f2⟩, hM1⟩ := h1
  obtain ⟨c0, c1, c2, c3, c4, c5, c6, c7, ⟨k1, k2⟩, hM2⟩ := h2
  have e1 : mupL (mup M o (.inr (11, [.null, .null, .null, .null, .null, .null, .int 0]))) (sLA (D, cs, H0, id, K, V) o b0 b1 b2 b3 b4 b5 b6 b7 b8 b9 b10 b11 b12 b13 b14 b15 b16 b17 b18 b19 b20 b21 b22 b23 b24 b25 b26 b27 b28 b29 b30 b31 b32 b33 b34 b35 b36 b37 b38 b39 b40 b41 b42 b43 b44) = M1 := hM1
  have e2 : mupL (mup M1 o2 (.inr (12, [.int 0, .null, .null, .null, .int 0, .int 0, .int 0, .int 0, .int 0, .int 0, .int 0, .null, .null, .null, .null, .null, .int 0, .int 0, .int 0, .int 0]))) (sLB (D, cs, H0, id, K, V) o2 c0 c1 c2 c3 c4 c5 c6 c7) = M2 := hM2
  have g2 := nodup_rev f2
  have g3 := nodup_rev k2
  have nA : ((sLA (D, cs, H0, id, K, V) o b0 b1 b2 b3 b4 b5 b6 b7 b8 b9 b10 b11 b12 b13 b14 b15 b16 b17 b18 b19 b20 b21 b22 b23 b24 b25 b26 b27 b28 b29 b30 b31 b32 b33 b34 b35 b36 b37 b38 b39 b40 b41 b42 b43 b44).map Prod.fst).Nodup := List.nodup_cons.mpr ⟨fun h => (by
    have h9 := f1 o (List.mem_reverse.mp h)
    rw [mup_s] at h9
    cases h9), g2⟩
  have nB : ((sLB (D, cs, H0, id, K, V) o2 c0 c1 c2 c3 c4 c5 c6 c7).map Prod.fst).Nodup := List.nodup_cons.mpr ⟨fun h => (by
    have h9 := k1 o2 (List.mem_reverse.mp h)
    rw [mup_s] at h9
    cases h9), g3⟩
  clear hM1 hM2 f1 f2
  obtain ⟨LA, hA⟩ : ∃ LA, sLA (D, cs, H0, id, K, V) o b0 b1 b2 b3 b4 b5 b6 b7 b8 b9 b10 b11 b12 b13 b14 b15 b16 b17 b18 b19 b20 b21 b22 b23 b24 b25 b26 b27 b28 b29 b30 b31 b32 b33 b34 b35 b36 b37 b38 b39 b40 b41 b42 b43 b44 = LA := ⟨_, rfl⟩
  obtain ⟨LB, hB⟩ : ∃ LB, sLB (D, cs, H0, id, K, V) o2 c0 c1 c2 c3 c4 c5 c6 c7 = LB := ⟨_, rfl⟩
  have hLB : ∀ a, a ∈ LB.map Prod.fst → a = o2 ∨ a ∈ [c7, c6, c5, c4, c3, c2, c1, c0] := fun a h => by
    rw [← hB] at h
    rcases List.mem_cons.mp h with h | h
    · exact Or.inl h
    · exact Or.inr (List.mem_reverse.mp h)
  have hlen : (LA ++ LB).length = 55 := by
    rw [← hA, ← hB]
    rfl
  have hz : ∀ i, i < 55 → ((LA ++ LB).map Prod.fst)[i]? = some (((LA ++ LB).map Prod.fst).getD i 0) := fun i hi => by
    have : i < ((LA ++ LB).map Prod.fst).length := by rw [List.length_map, hlen]; exact hi
    rw [List.getD_eq_getElem?_getD, List.getElem?_eq_getElem this]
    rfl
  rw [hA] at e1 nA
  rw [hB] at e2 nB
  have m1 : ∀ q ∈ LA, M1 q.1 = some q.2 := fun q hq => by rw [← e1]; exact mupL_at _ _ nA hq
  have dis : ∀ a ∈ LA.map Prod.fst, ∀ b ∈ LB.map Prod.fst, a ≠ b := fun a ha b hb e => by
    obtain ⟨q, hq, rfl⟩ := List.mem_map.mp ha
    have h9 := m1 q hq
    subst e
    have n9 : q.1 ≠ o2 := fun e => by
      rw [e, h12] at h9
      cases h9
    rcases hLB _ hb with h8 | h8
    · exact n9 h8
    · have h7 := k1 _ h8
      rw [mup_n n9, h9] at h7
      cases h7
  have m2 : ∀ q ∈ LA ++ LB, M2 q.1 = some q.2 := fun q hq => by
    rw [← e2]
    rcases List.mem_append.mp hq with h | h
    · rw [mupL_o _ _ (fun h9 => dis _ (List.mem_map.mpr ⟨q, h, rfl⟩) _ h9 rfl), mup_n (fun e => by
        have h9 := m1 q h
        rw [e, h12] at h9
        cases h9)]
      exact m1 q h
    · exact mupL_at _ _ nB h
  have nAB : ((LA ++ LB).map Prod.fst).Nodup := by
    rw [List.map_append]
    exact List.nodup_append.mpr ⟨nA, nB, dis⟩
  refine ⟨fun i => ((LA ++ LB).map Prod.fst).getD i 0, fun i j hi hj e => ?_, ?_, ?_, W_of ?_⟩
  · have hlt : i < ((LA ++ LB).map Prod.fst).length := by rw [List.length_map, hlen]; exact hi
    exact (List.getElem?_inj hlt nAB).mp (by rw [hz i hi, hz j hj]; exact congrArg some e)
  · rw [← hA]
    rfl
  · rw [← hA, ← hB]
    rfl
  · rw [← hA, ← hB] at m2 ⊢
    apply all55
    · exact m2 (o, cel0 (D, cs, H0, _, K, V) 0) (List.mem_of_getElem? (i := 0) rfl)
    · exact m2 (b0, cel0 (D, cs, H0, _, K, V) 1) (List.mem_of_getElem? (i := 1) rfl)
    · exact m2 (b1, cel0 (D, cs, H0, _, K, V) 2) (List.mem_of_getElem? (i := 2) rfl)
    · exact m2 (b2, cel0 (D, cs, H0, _, K, V) 3) (List.mem_of_getElem? (i := 3) rfl)
    · exact m2 (b3, cel0 (D, cs, H0, _, K, V) 4) (List.mem_of_getElem? (i := 4) rfl)
    · exact m2 (b4, cel0 (D, cs, H0, _, K, V) 5) (List.mem_of_getElem? (i := 5) rfl)
    · exact m2 (b5, cel0 (D, cs, H0, _, K, V) 6) (List.mem_of_getElem? (i := 6) rfl)
    · exact m2 (b6, cel0 (D, cs, H0, _, K, V) 7) (List.mem_of_getElem? (i := 7) rfl)
    · exact m2 (b7, cel0 (D, cs, H0, _, K, V) 8) (List.mem_of_getElem? (i := 8) rfl)
    · exact m2 (b8, cel0 (D, cs, H0, _, K, V) 9) (List.mem_of_getElem? (i := 9) rfl)
    · exact m2 (b9, cel0 (D, cs, H0, _, K, V) 10) (List.mem_of_getElem? (i := 10) rfl)
    · exact m2 (b10, cel0 (D, cs, H0, _, K, V) 11) (List.mem_of_getElem? (i := 11) rfl)
    · exact m2 (b11, cel0 (D, cs, H0, _, K, V) 12) (List.mem_of_getElem? (i := 12) rfl)
    · exact m2 (b12, cel0 (D, cs, H0, _, K, V) 13) (List.mem_of_getElem? (i := 13) rfl)
    · exact m2 (b13, cel0 (D, cs, H0, _, K, V) 14) (List.mem_of_getElem? (i := 14) rfl)
    · exact m2 (b14, cel0 (D, cs, H0, _, K, V) 15) (List.mem_of_getElem? (i := 15) rfl)
    · exact m2 (b15, cel0 (D, cs, H0, _, K, V) 16) (List.mem_of_getElem? (i := 16) rfl)
    · exact m2 (b16, cel0 (D, cs, H0, _, K, V) 17) (List.mem_of_getElem? (i := 17) rfl)
    · exact m2 (b17, cel0 (D, cs, H0, _, K, V) 18) (List.mem_of_getElem? (i := 18) rfl)
    · exact m2 (b18, cel0 (D, cs, H0, _, K, V) 19) (List.mem_of_getElem? (i := 19) rfl)
    · exact m2 (b19, cel0 (D, cs, H0, _, K, V) 20) (List.mem_of_getElem? (i := 20) rfl)
    · exact m2 (b20, cel0 (D, cs, H0, _, K, V) 21) (List.mem_of_getElem? (i := 21) rfl)
    · exact m2 (b21, cel0 (D, cs, H0, _, K, V) 22) (List.mem_of_getElem? (i := 22) rfl)
    · exact m2 (b22, cel0 (D, cs, H0, _, K, V) 23) (List.mem_of_getElem? (i := 23) rfl)
    · exact m2 (b23, cel0 (D, cs, H0, _, K, V) 24) (List.mem_of_getElem? (i := 24) rfl)
    · exact m2 (b24, cel0 (D, cs, H0, _, K, V) 25) (List.mem_of_getElem? (i := 25) rfl)
    · exact m2 (b25, cel0 (D, cs, H0, _, K, V) 26) (List.mem_of_getElem? (i := 26) rfl)
    · exact m2 (b26, cel0 (D, cs, H0, _, K, V) 27) (List.mem_of_getElem? (i := 27) rfl)
    · exact m2 (b27, cel0 (D, cs, H0, _, K, V) 28) (List.mem_of_getElem? (i := 28) rfl)
    · exact m2 (b28, cel0 (D, cs, H0, _, K, V) 29) (List.mem_of_getElem? (i := 29) rfl)
    · exact m2 (b29, cel0 (D, cs, H0, _, K, V) 30) (List.mem_of_getElem? (i := 30) rfl)
    · exact m2 (b30, cel0 (D, cs, H0, _, K, V) 31) (List.mem_of_getElem? (i := 31) rfl)
    · exact m2 (b31, cel0 (D, cs, H0, _, K, V) 32) (List.mem_of_getElem? (i := 32) rfl)
    · exact m2 (b32, cel0 (D, cs, H0, _, K, V) 33) (List.mem_of_getElem? (i := 33) rfl)
    · exact m2 (b33, cel0 (D, cs, H0, _, K, V) 34) (List.mem_of_getElem? (i := 34) rfl)
    · exact m2 (b34, cel0 (D, cs, H0, _, K, V) 35) (List.mem_of_getElem? (i := 35) rfl)
    · exact m2 (b35, cel0 (D, cs, H0, _, K, V) 36) (List.mem_of_getElem? (i := 36) rfl)
    · exact m2 (b36, cel0 (D, cs, H0, _, K, V) 37) (List.mem_of_getElem? (i := 37) rfl)
    · exact m2 (b37, cel0 (D, cs, H0, _, K, V) 38) (List.mem_of_getElem? (i := 38) rfl)
    · exact m2 (b38, cel0 (D, cs, H0, _, K, V) 39) (List.mem_of_getElem? (i := 39) rfl)
    · exact m2 (b39, cel0 (D, cs, H0, _, K, V) 40) (List.mem_of_getElem? (i := 40) rfl)
    · exact m2 (b40, cel0 (D, cs, H0, _, K, V) 41) (List.mem_of_getElem? (i := 41) rfl)
    · exact m2 (b41, cel0 (D, cs, H0, _, K, V) 42) (List.mem_of_getElem? (i := 42) rfl)
    · exact m2 (b42, cel0 (D, cs, H0, _, K, V) 43) (List.mem_of_getElem? (i := 43) rfl)
    · exact m2 (b43, cel0 (D, cs, H0, _, K, V) 44) (List.mem_of_getElem? (i := 44) rfl)
    · exact m2 (b44, cel0 (D, cs, H0, _, K, V) 45) (List.mem_of_getElem? (i := 45) rfl)
    · exact m2 (o2, cel0 (D, cs, H0, _, K, V) 46) (List.mem_of_getElem? (i := 46) rfl)
    · exact m2 (c0, cel0 (D, cs, H0, _, K, V) 47) (List.mem_of_getElem? (i := 47) rfl)
    · exact m2 (c1, cel0 (D, cs, H0, _, K, V) 48) (List.mem_of_getElem? (i := 48) rfl)
    · exact m2 (c2, cel0 (D, cs, H0, _, K, V) 49) (List.mem_of_getElem? (i := 49) rfl)
    · exact m2 (c3, cel0 (D, cs, H0, _, K, V) 50) (List.mem_of_getElem? (i := 50) rfl)
    · exact m2 (c4, cel0 (D, cs, H0, _, K, V) 51) (List.mem_of_getElem? (i := 51) rfl)
    · exact m2 (c5, cel0 (D, cs, H0, _, K, V) 52) (List.mem_of_getElem? (i := 52) rfl)
    · exact m2 (c6, cel0 (D, cs, H0, _, K, V) 53) (List.mem_of_getElem? (i := 53) rfl)
    · exact m2 (c7, cel0 (D, cs, H0, _, K, V) 54) (List.mem_of_getElem? (i := 54) rfl)
