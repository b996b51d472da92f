section KKS
variable {p : Program} {s : State} {m : MethodId} {meth : Method} {c : Code} {b L : Nat} {xs : Nat → Int32}
theorem kk_nest (hts : ∀ w ∈ lw_tbl, w.before #[Value.ref b] s = true) : ∀ q ∈ nestP, va_Nw (.methodLinkNest q.1 q.2.1 q.2.2.1 q.2.2.2) s := List.forall_mem_cons.mpr ⟨va_tabs (A' := #[]) rfl rfl (hts _ q_57), List.forall_mem_cons.mpr ⟨va_tabs (A' := #[]) rfl rfl (hts _ q_65), List.forall_mem_cons.mpr ⟨va_tabs (A' := #[]) rfl rfl (hts _ q_158), List.forall_mem_cons.mpr ⟨va_tabs (A' := #[]) rfl rfl (hts _ q_229), List.forall_mem_cons.mpr ⟨va_tabs (A' := #[]) rfl rfl (hts _ q_325), List.forall_mem_cons.mpr ⟨va_tabs (A' := #[]) rfl rfl (hts _ q_336), List.forall_mem_cons.mpr ⟨va_tabs (A' := #[]) rfl rfl (hts _ q_471), List.forall_mem_cons.mpr ⟨va_tabs (A' := #[]) rfl rfl (hts _ q_472), List.forall_mem_cons.mpr ⟨va_tabs (A' := #[]) rfl rfl (hts _ q_492), List.forall_mem_cons.mpr ⟨va_tabs (A' := #[]) rfl rfl (hts _ q_493), List.forall_mem_cons.mpr ⟨va_tabs (A' := #[]) rfl rfl (hts _ q_525), List.forall_mem_cons.mpr ⟨va_tabs (A' := #[]) rfl rfl (hts _ q_602), List.forall_mem_cons.mpr ⟨va_tabs (A' := #[]) rfl rfl (hts _ q_663), List.forall_mem_cons.mpr ⟨va_tabs (A' := #[]) rfl rfl (hts _ q_680), List.forall_mem_cons.mpr ⟨va_tabs (A' := #[]) rfl rfl (hts _ q_815), List.forall_mem_cons.mpr ⟨va_tabs (A' := #[]) rfl rfl (hts _ q_821), fun _ h => absurd h List.not_mem_nil⟩⟩⟩⟩⟩⟩⟩⟩⟩⟩⟩⟩⟩⟩⟩⟩
theorem kk_ca (hts : ∀ w ∈ lw_tbl, w.before #[Value.ref b] s = true) : ∀ q ∈ caP, va_Nw (.castable q.1 q.2) s := List.forall_mem_cons.mpr ⟨va_tabs (A' := #[]) rfl rfl (hts _ q_1220), List.forall_mem_cons.mpr ⟨va_tabs (A' := #[]) rfl rfl (hts _ q_1221), List.forall_mem_cons.mpr ⟨va_tabs (A' := #[]) rfl rfl (hts _ q_1222), List.forall_mem_cons.mpr ⟨va_tabs (A' := #[]) rfl rfl (hts _ q_1223), List.forall_mem_cons.mpr ⟨va_tabs (A' := #[]) rfl rfl (hts _ q_1224), List.forall_mem_cons.mpr ⟨va_tabs (A' := #[]) rfl rfl (hts _ q_1225), List.forall_mem_cons.mpr ⟨va_tabs (A' := #[]) rfl rfl (hts _ q_1226), List.forall_mem_cons.mpr ⟨va_tabs (A' := #[]) rfl rfl (hts _ q_1227), List.forall_mem_cons.mpr ⟨va_tabs (A' := #[]) rfl rfl (hts _ q_1228), fun _ h => absurd h List.not_mem_nil⟩⟩⟩⟩⟩⟩⟩⟩⟩
set_option maxHeartbeats 4000000 in
set_option maxRecDepth 100000 in
theorem kk_nc (hgv : (Jvm.Cond.and given_1 narrow_1).before #[Value.ref b] s = true) : ∀ q ∈ ncP, va_Nc q.1 q.2 s := by
  have hs := flat_of_before _ hgv
  exact List.forall_mem_cons.mpr ⟨va_Nc.of (hs (Cond.not (.castable "StarCustody$Comet" "StarCustody$Moon")) (by decide +kernel)), List.forall_mem_cons.mpr ⟨va_Nc.of (hs (Cond.not (.castable "StarCustody$Nebula" "StarCustody$Moon")) (by decide +kernel)), List.forall_mem_cons.mpr ⟨va_Nc.of (hs (Cond.not (.castable "StarCustody$Guest" "StarCustody$Moon")) (by decide +kernel)), List.forall_mem_cons.mpr ⟨va_Nc.of (hs (Cond.not (.castable "StarCustody$Told" "StarCustody$Moon")) (by decide +kernel)), List.forall_mem_cons.mpr ⟨va_Nc.of (hs (Cond.not (.castable "StarCustody$Star" "StarCustody$Moon")) (by decide +kernel)), List.forall_mem_cons.mpr ⟨va_Nc.of (hs (Cond.not (.castable "StarCustody$Moon" "StarCustody$Comet")) (by decide +kernel)), List.forall_mem_cons.mpr ⟨va_Nc.of (hs (Cond.not (.castable "StarCustody$Nebula" "StarCustody$Comet")) (by decide +kernel)), List.forall_mem_cons.mpr ⟨va_Nc.of (hs (Cond.not (.castable "StarCustody$Twin" "StarCustody$Comet")) (by decide +kernel)), List.forall_mem_cons.mpr ⟨va_Nc.of (hs (Cond.not (.castable "StarCustody$Told" "StarCustody$Comet")) (by decide +kernel)), List.forall_mem_cons.mpr ⟨va_Nc.of (hs (Cond.not (.castable "StarCustody$Star" "StarCustody$Comet")) (by decide +kernel)), List.forall_mem_cons.mpr ⟨va_Nc.of (hs (Cond.not (.castable "StarCustody$Moon" "StarCustody$Nebula")) (by decide +kernel)), List.forall_mem_cons.mpr ⟨va_Nc.of (hs (Cond.not (.castable "StarCustody$Comet" "StarCustody$Nebula")) (by decide +kernel)), List.forall_mem_cons.mpr ⟨va_Nc.of (hs (Cond.not (.castable "StarCustody$Twin" "StarCustody$Nebula")) (by decide +kernel)), List.forall_mem_cons.mpr ⟨va_Nc.of (hs (Cond.not (.castable "StarCustody$Guest" "StarCustody$Nebula")) (by decide +kernel)), List.forall_mem_cons.mpr ⟨va_Nc.of (hs (Cond.not (.castable "StarCustody$Star" "StarCustody$Nebula")) (by decide +kernel)), List.forall_mem_cons.mpr ⟨va_Nc.of (hs (Cond.not (.castable "StarCustody$Moon" "StarCustody$Twin")) (by decide +kernel)), List.forall_mem_cons.mpr ⟨va_Nc.of (hs (Cond.not (.castable "StarCustody$Comet" "StarCustody$Twin")) (by decide +kernel)), List.forall_mem_cons.mpr ⟨va_Nc.of (hs (Cond.not (.castable "StarCustody$Nebula" "StarCustody$Twin")) (by decide +kernel)), List.forall_mem_cons.mpr ⟨va_Nc.of (hs (Cond.not (.castable "StarCustody$Guest" "StarCustody$Twin")) (by decide +kernel)), List.forall_mem_cons.mpr ⟨va_Nc.of (hs (Cond.not (.castable "StarCustody$Told" "StarCustody$Twin")) (by decide +kernel)), List.forall_mem_cons.mpr ⟨va_Nc.of (hs (Cond.not (.castable "StarCustody$Star" "StarCustody$Twin")) (by decide +kernel)), List.forall_mem_cons.mpr ⟨va_Nc.of (hs (Cond.not (.castable "StarCustody$Moon" "StarCustody$Guest")) (by decide +kernel)), List.forall_mem_cons.mpr ⟨va_Nc.of (hs (Cond.not (.castable "StarCustody$Comet" "StarCustody$Guest")) (by decide +kernel)), List.forall_mem_cons.mpr ⟨va_Nc.of (hs (Cond.not (.castable "StarCustody$Nebula" "StarCustody$Guest")) (by decide +kernel)), List.forall_mem_cons.mpr ⟨va_Nc.of (hs (Cond.not (.castable "StarCustody$Twin" "StarCustody$Guest")) (by decide +kernel)), List.forall_mem_cons.mpr ⟨va_Nc.of (hs (Cond.not (.castable "StarCustody$Told" "StarCustody$Guest")) (by decide +kernel)), List.forall_mem_cons.mpr ⟨va_Nc.of (hs (Cond.not (.castable "StarCustody$Star" "StarCustody$Guest")) (by decide +kernel)), List.forall_mem_cons.mpr ⟨va_Nc.of (hs (Cond.not (.castable "StarCustody$Moon" "StarCustody$Told")) (by decide +kernel)), List.forall_mem_cons.mpr ⟨va_Nc.of (hs (Cond.not (.castable "StarCustody$Comet" "StarCustody$Told")) (by decide +kernel)), List.forall_mem_cons.mpr ⟨va_Nc.of (hs (Cond.not (.castable "StarCustody$Nebula" "StarCustody$Told")) (by decide +kernel)), List.forall_mem_cons.mpr ⟨va_Nc.of (hs (Cond.not (.castable "StarCustody$Twin" "StarCustody$Told")) (by decide +kernel)), List.forall_mem_cons.mpr ⟨va_Nc.of (hs (Cond.not (.castable "StarCustody$Guest" "StarCustody$Told")) (by decide +kernel)), List.forall_mem_cons.mpr ⟨va_Nc.of (hs (Cond.not (.castable "StarCustody$Star" "StarCustody$Told")) (by decide +kernel)), fun _ h => absurd h List.not_mem_nil⟩⟩⟩⟩⟩⟩⟩⟩⟩⟩⟩⟩⟩⟩⟩⟩⟩⟩⟩⟩⟩⟩⟩⟩⟩⟩⟩⟩⟩⟩⟩⟩⟩
set_option maxRecDepth 100000 in
theorem kk_K (hts : ∀ w ∈ lw_tbl, w.before #[Value.ref b] s = true) : ∃ (D : va_G) (cI cZ cS : ClassId), va_K D vwCl [(cI, .int), (cZ, .boolean), (cS, .object "StarCustody$Star")] s := by
  have htg : ∀ w ∈ gT, w.before #[Value.ref b] s = true := fun w h => hts w (gsub h)
  obtain ⟨c0, i0, h0⟩ := u_known (C := RX0) (T := TX0) (N := 4) (n := 4) htg iX0 (htg _ q_405)
  obtain ⟨c1, i1, h1⟩ := u_known (C := RX1) (T := TX1) (N := 4) (n := 4) htg iX1 (htg _ q_438)
  obtain ⟨c2, i2, h2⟩ := u_known (C := RX2) (T := TX2) (N := 4) (n := 4) htg iX2 (htg _ q_355)
  obtain ⟨c3, i3, h3⟩ := u_known (C := RX3) (T := TX3) (N := 4) (n := 4) htg iX3 (htg _ q_416)
  obtain ⟨c4, i4, h4⟩ := u_known (C := RX4) (T := TX4) (N := 14) (n := 14) htg iX4 (htg _ q_56)
  obtain ⟨c5, i5, h5⟩ := u_known (C := RX5) (T := TX5) (N := 4) (n := 4) htg iX5 (htg _ q_30)
  obtain ⟨c6, i6, h6⟩ := u_known (C := RX6) (T := TX6) (N := 6) (n := 6) htg iX6 (htg _ q_64)
  obtain ⟨c7, i7, h7⟩ := u_known (C := RX7) (T := TX7) (N := 5) (n := 5) htg iX7 (htg _ q_152)
  obtain ⟨c8, i8, h8⟩ := u_known (C := RX8) (T := TX8) (N := 4) (n := 4) htg iX8 (htg _ q_460)
  obtain ⟨c9, i9, h9⟩ := u_known (C := RX9) (T := TX9) (N := 4) (n := 4) htg iX9 (htg _ q_449)
  obtain ⟨c10, i10, h10⟩ := u_known (C := RX10) (T := TX10) (N := 4) (n := 4) htg iX10 (htg _ q_427)
  obtain ⟨c11, i11, h11⟩ := u_known (C := RX11) (T := TX11) (N := 7) (n := 7) htg iX11 (htg _ q_22)
  obtain ⟨c12, i12, h12⟩ := u_known (C := RX12) (T := TX12) (N := 20) (n := 20) htg iX12 (htg _ q_831)
  obtain ⟨aI_, kI, pI, eI1, eI2, eI3⟩ := Cond.arrayClass_spec (htg _ q_54)
  obtain ⟨aZ_, kZ, pZ, eZ1, eZ2, eZ3⟩ := Cond.arrayClass_spec (htg _ q_896)
  obtain ⟨pS, aS_, kS, eS1, eS2, eS3, eS4, eS5⟩ := Cond.arrayOver_spec (hts _ q_62)
  refine ⟨(fun k => match k with | 0 => c0 | 1 => c1 | 2 => c2 | 3 => c3 | 4 => c4 | 5 => c5 | 6 => c6 | 7 => c7 | 8 => c8 | 9 => c9 | 10 => c10 | 11 => c11 | _ => c12, fun k => match k with | 0 => i0 | 1 => i1 | 2 => i2 | 3 => i3 | 4 => i4 | 5 => i5 | 6 => i6 | 7 => i7 | 8 => i8 | 9 => i9 | 10 => i10 | 11 => i11 | _ => i12), aI_, aZ_, aS_, ?_, ?_⟩
  · intro k q hq
    match k, hq with
    | 0, hq => cases hq; exact h0
    | 1, hq => cases hq; exact h1
    | 2, hq => cases hq; exact h2
    | 3, hq => cases hq; exact h3
    | 4, hq => cases hq; exact h4
    | 5, hq => cases hq; exact h5
    | 6, hq => cases hq; exact h6
    | 7, hq => cases hq; exact h7
    | 8, hq => cases hq; exact h8
    | 9, hq => cases hq; exact h9
    | 10, hq => cases hq; exact h10
    | 11, hq => cases hq; exact h11
    | 12, hq => cases hq; exact h12
    | k + 13, hq => exact absurd hq (by simp [vwCl])
  · intro k q hq
    match k, hq with
    | 0, hq => cases hq; exact ⟨fun n z => ⟨fun k h => (by cases h), kI, eI2, pI, eI3⟩, eI1⟩
    | 1, hq => cases hq; exact ⟨fun n z => ⟨fun k h => (by cases h), kZ, eZ2, pZ, eZ3⟩, eZ1⟩
    | 2, hq => cases hq; exact ⟨fun n z => ⟨fun k h => (by cases h), kS, eS3, pS, eS4⟩, kS, pS, eS3, eS4, eS1, eS5⟩
    | k + 3, hq => exact absurd hq (by simp)
def tmS (i : Nat) : Term := Term.string (sW.getD i ("", 0, "")).1 (sW.getD i ("", 0, "")).2.1
set_option maxHeartbeats 40000000 in
set_option maxRecDepth 100000 in
theorem kk_S (hgv : (Jvm.Cond.and given_1 narrow_1).before #[Value.ref b] s = true) : ∃ adK adV : Nat → Nat, vk_S 10 lenS bytS adK adV (fun q => s.heap.size ≤ q) s s.heap ∧ ∀ i : Nat, i < 10 → (tmS i).eval #[Value.ref b] s none [] s = some (.ref (adK i)) := by
  have hs := flat_of_before _ hgv
  refine vk_Sof (tm := tmS) (by decide) ?_ ?_ ?_ ?_ ?_ ?_ (fun a h q => absurd h (by omega))
  · intro i hi
    rcases (show i = 0 ∨ i = 1 ∨ i = 2 ∨ i = 3 ∨ i = 4 ∨ i = 5 ∨ i = 6 ∨ i = 7 ∨ i = 8 ∨ i = 9 by omega) with rfl | rfl | rfl | rfl | rfl | rfl | rfl | rfl | rfl | rfl <;> exact hs _ (by decide +kernel)
  · intro i hi
    rcases (show i = 0 ∨ i = 1 ∨ i = 2 ∨ i = 3 ∨ i = 4 ∨ i = 5 ∨ i = 6 ∨ i = 7 ∨ i = 8 ∨ i = 9 by omega) with rfl | rfl | rfl | rfl | rfl | rfl | rfl | rfl | rfl | rfl <;> exact hs _ (by decide +kernel)
  · intro i hi
    rcases (show i = 0 ∨ i = 1 ∨ i = 2 ∨ i = 3 ∨ i = 4 ∨ i = 5 ∨ i = 6 ∨ i = 7 ∨ i = 8 ∨ i = 9 by omega) with rfl | rfl | rfl | rfl | rfl | rfl | rfl | rfl | rfl | rfl <;> exact hs _ (by decide +kernel)
  · intro i hi
    rcases (show i = 0 ∨ i = 1 ∨ i = 2 ∨ i = 3 ∨ i = 4 ∨ i = 5 ∨ i = 6 ∨ i = 7 ∨ i = 8 ∨ i = 9 by omega) with rfl | rfl | rfl | rfl | rfl | rfl | rfl | rfl | rfl | rfl <;> exact hs _ (by decide +kernel)
  · intro i hi
    rcases (show i = 0 ∨ i = 1 ∨ i = 2 ∨ i = 3 ∨ i = 4 ∨ i = 5 ∨ i = 6 ∨ i = 7 ∨ i = 8 ∨ i = 9 by omega) with rfl | rfl | rfl | rfl | rfl | rfl | rfl | rfl | rfl | rfl
    · intro j hj
      have hj : j < 5 := hj
      rcases (show j = 0 ∨ j = 1 ∨ j = 2 ∨ j = 3 ∨ j = 4 by omega) with rfl | rfl | rfl | rfl | rfl <;> exact hs _ (by decide +kernel)
    · intro j hj
      have hj : j < 6 := hj
      rcases (show j = 0 ∨ j = 1 ∨ j = 2 ∨ j = 3 ∨ j = 4 ∨ j = 5 by omega) with rfl | rfl | rfl | rfl | rfl | rfl <;> exact hs _ (by decide +kernel)
    · intro j hj
      have hj : j < 3 := hj
      rcases (show j = 0 ∨ j = 1 ∨ j = 2 by omega) with rfl | rfl | rfl <;> exact hs _ (by decide +kernel)
    · intro j hj
      have hj : j < 4 := hj
      rcases (show j = 0 ∨ j = 1 ∨ j = 2 ∨ j = 3 by omega) with rfl | rfl | rfl | rfl <;> exact hs _ (by decide +kernel)
    · intro j hj
      have hj : j < 5 := hj
      rcases (show j = 0 ∨ j = 1 ∨ j = 2 ∨ j = 3 ∨ j = 4 by omega) with rfl | rfl | rfl | rfl | rfl <;> exact hs _ (by decide +kernel)
    · intro j hj
      have hj : j < 6 := hj
      rcases (show j = 0 ∨ j = 1 ∨ j = 2 ∨ j = 3 ∨ j = 4 ∨ j = 5 by omega) with rfl | rfl | rfl | rfl | rfl | rfl <;> exact hs _ (by decide +kernel)
    · intro j hj
      have hj : j < 4 := hj
      rcases (show j = 0 ∨ j = 1 ∨ j = 2 ∨ j = 3 by omega) with rfl | rfl | rfl | rfl <;> exact hs _ (by decide +kernel)
    · intro j hj
      have hj : j < 6 := hj
      rcases (show j = 0 ∨ j = 1 ∨ j = 2 ∨ j = 3 ∨ j = 4 ∨ j = 5 by omega) with rfl | rfl | rfl | rfl | rfl | rfl <;> exact hs _ (by decide +kernel)
    · intro j hj
      have hj : j < 3 := hj
      rcases (show j = 0 ∨ j = 1 ∨ j = 2 by omega) with rfl | rfl | rfl <;> exact hs _ (by decide +kernel)
    · intro j hj
      have hj : j < 3 := hj
      rcases (show j = 0 ∨ j = 1 ∨ j = 2 by omega) with rfl | rfl | rfl <;> exact hs _ (by decide +kernel)
  · intro i j hi hj hij
    rcases (show i = 0 ∨ i = 1 ∨ i = 2 ∨ i = 3 ∨ i = 4 ∨ i = 5 ∨ i = 6 ∨ i = 7 ∨ i = 8 ∨ i = 9 by omega) with rfl | rfl | rfl | rfl | rfl | rfl | rfl | rfl | rfl | rfl <;> rcases (show j = 0 ∨ j = 1 ∨ j = 2 ∨ j = 3 ∨ j = 4 ∨ j = 5 ∨ j = 6 ∨ j = 7 ∨ j = 8 ∨ j = 9 by omega) with rfl | rfl | rfl | rfl | rfl | rfl | rfl | rfl | rfl | rfl <;> first | exact absurd rfl hij | exact Or.inl (hs _ (by decide +kernel)) | exact Or.inr (hs _ (by decide +kernel))
/-- what holds of the machine at the law's entry, for any addresses of the fixed cells -/
theorem kk_start (C0 : lw_At p s m meth c b L xs) : ∃ (D : va_G) (cs : ClassId × ClassId × ClassId) (K V : Nat → Nat), ∀ A : Nat → Nat, (∀ i j : Nat, i < 55 → j < 55 → A i = A j → i = j) → KK (D, cs, s.heap, A, K, V) s := by
  obtain ⟨hx, hb, hr, hml, hown, hts, hX, hbl, hlocks, hgv⟩ := id C0
  have hs := flat_of_before _ hgv
  obtain ⟨D, cI, cZ, cS, hK⟩ := kk_K hts
  obtain ⟨K, V, hS, hE⟩ := kk_S hgv
  refine ⟨D, (cI, cZ, cS), K, V, fun A hA => ⟨hK, kk_nest hts, va_AO.of (hts _ q_62), kk_nc hgv, kk_ca hts, ?_, hS, ?_, ?_, hA⟩⟩
  · intro i q hq
    match i, hq with
    | 0, hq => cases hq; exact vk_R.of (hts _ q_236) (hE 0 (by decide))
    | 1, hq => cases hq; exact vk_R.of (hts _ q_302) (hE 1 (by decide))
    | 2, hq => cases hq; exact vk_R.of (hts _ q_303) (hE 2 (by decide))
    | 3, hq => cases hq; exact vk_R.of (hts _ q_304) (hE 3 (by decide))
    | 4, hq => cases hq; exact vk_R.of (hts _ q_916) (hE 4 (by decide))
    | 5, hq => cases hq; exact vk_R.of (hts _ q_935) (hE 5 (by decide))
    | 6, hq => cases hq; exact vk_R.of (hts _ q_940) (hE 6 (by decide))
    | 7, hq => cases hq; exact vk_R.of (hts _ q_961) (hE 7 (by decide))
    | 8, hq => cases hq; exact vk_R.of (hts _ q_966) (hE 8 (by decide))
    | 9, hq => cases hq; exact vk_R.of (hts _ q_967) (hE 9 (by decide))
    | i + 10, hq => exact absurd hq (by simp [sW])
  · exact va_Zof (hts _ q_250) (hts _ (gsub q_8)) (va_eqt (hs (Jvm.Cond.eq (Jvm.Term.static "java/lang/String" "COMPACT_STRINGS" "Z") (Jvm.Term.int (1 : Int32))) (by decide +kernel))) (fun a h q => absurd h (Nat.not_lt.mpr q))
  · exact va_Zqof (hts _ q_266) (hts _ (gsub q_10)) (hs (Jvm.Cond.isRef (Jvm.Term.static "jdk/internal/util/Preconditions" "SIOOBE_FORMATTER" "Ljava/util/function/BiFunction;")) (by decide +kernel)) (fun a h q => absurd h (Nat.not_lt.mpr q))
end KKS
