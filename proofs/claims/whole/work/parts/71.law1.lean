section KKS
variable {p : Program} {s : State} {m : MethodId} {meth : Method} {c : Code} {b L : Nat} {xs : Nat → Int32}
theorem kk_nest (hts : ∀ w ∈ lw_tbl, w.before #[Value.ref b] s = true) : ∀ q ∈ nestP, va_Nw (.methodLinkNest q.1 q.2.1 q.2.2.1 q.2.2.2) s := List.forall_mem_cons.mpr ⟨va_tabs (A' := #[]) rfl rfl (hts _ q_57), List.forall_mem_cons.mpr ⟨va_tabs (A' := #[]) rfl rfl (hts _ q_65), List.forall_mem_cons.mpr ⟨va_tabs (A' := #[]) rfl rfl (hts _ q_158), List.forall_mem_cons.mpr ⟨va_tabs (A' := #[]) rfl rfl (hts _ q_229), List.forall_mem_cons.mpr ⟨va_tabs (A' := #[]) rfl rfl (hts _ q_325), List.forall_mem_cons.mpr ⟨va_tabs (A' := #[]) rfl rfl (hts _ q_336), List.forall_mem_cons.mpr ⟨va_tabs (A' := #[]) rfl rfl (hts _ q_471), List.forall_mem_cons.mpr ⟨va_tabs (A' := #[]) rfl rfl (hts _ q_489), List.forall_mem_cons.mpr ⟨va_tabs (A' := #[]) rfl rfl (hts _ q_490), List.forall_mem_cons.mpr ⟨va_tabs (A' := #[]) rfl rfl (hts _ q_522), List.forall_mem_cons.mpr ⟨va_tabs (A' := #[]) rfl rfl (hts _ q_597), List.forall_mem_cons.mpr ⟨va_tabs (A' := #[]) rfl rfl (hts _ q_602), List.forall_mem_cons.mpr ⟨va_tabs (A' := #[]) rfl rfl (hts _ q_663), List.forall_mem_cons.mpr ⟨va_tabs (A' := #[]) rfl rfl (hts _ q_680), List.forall_mem_cons.mpr ⟨va_tabs (A' := #[]) rfl rfl (hts _ q_815), List.forall_mem_cons.mpr ⟨va_tabs (A' := #[]) rfl rfl (hts _ q_821), fun _ h => absurd h List.not_mem_nil⟩⟩⟩⟩⟩⟩⟩⟩⟩⟩⟩⟩⟩⟩⟩⟩
theorem kk_ca (hts : ∀ w ∈ lw_tbl, w.before #[Value.ref b] s = true) : ∀ q ∈ caP, va_Nw (.castable q.1 q.2) s := List.forall_mem_cons.mpr ⟨va_tabs (A' := #[]) rfl rfl (hts _ q_1220), List.forall_mem_cons.mpr ⟨va_tabs (A' := #[]) rfl rfl (hts _ q_1221), List.forall_mem_cons.mpr ⟨va_tabs (A' := #[]) rfl rfl (hts _ q_1222), List.forall_mem_cons.mpr ⟨va_tabs (A' := #[]) rfl rfl (hts _ q_1223), List.forall_mem_cons.mpr ⟨va_tabs (A' := #[]) rfl rfl (hts _ q_1224), List.forall_mem_cons.mpr ⟨va_tabs (A' := #[]) rfl rfl (hts _ q_1225), List.forall_mem_cons.mpr ⟨va_tabs (A' := #[]) rfl rfl (hts _ q_1226), List.forall_mem_cons.mpr ⟨va_tabs (A' := #[]) rfl rfl (hts _ q_1227), List.forall_mem_cons.mpr ⟨va_tabs (A' := #[]) rfl rfl (hts _ q_1228), fun _ h => absurd h List.not_mem_nil⟩⟩⟩⟩⟩⟩⟩⟩⟩
set_option maxHeartbeats 4000000 in
set_option maxRecDepth 100000 in
theorem kk_nc (hgv : (Jvm.Cond.and given_1 narrow_1).before #[Value.ref b] s = true) : ∀ q ∈ ncP, va_Nc q.1 q.2 s := by
  have hs := flat_of_before _ hgv
  exact List.forall_mem_cons.mpr ⟨va_Nc.of (hs (Cond.not (.castable "StarCustody$Comet" "StarCustody$Moon")) (by decide +kernel)), List.forall_mem_cons.mpr ⟨va_Nc.of (hs (Cond.not (.castable "StarCustody$Nebula" "StarCustody$Moon")) (by decide +kernel)), List.forall_mem_cons.mpr ⟨va_Nc.of (hs (Cond.not (.castable "StarCustody$Guest" "StarCustody$Moon")) (by decide +kernel)), List.forall_mem_cons.mpr ⟨va_Nc.of (hs (Cond.not (.castable "StarCustody$Told" "StarCustody$Moon")) (by decide +kernel)), List.forall_mem_cons.mpr ⟨va_Nc.of (hs (Cond.not (.castable "StarCustody$Star" "StarCustody$Moon")) (by decide +kernel)), List.forall_mem_cons.mpr ⟨va_Nc.of (hs (Cond.not (.castable "StarCustody$Moon" "StarCustody$Comet")) (by decide +kernel)), List.forall_mem_cons.mpr ⟨va_Nc.of (hs (Cond.not (.castable "StarCustody$Nebula" "StarCustody$Comet")) (by decide +kernel)), List.forall_mem_cons.mpr ⟨va_Nc.of (hs (Cond.not (.castable "StarCustody$Twin" "StarCustody$Comet")) (by decide +kernel)), List.forall_mem_cons.mpr ⟨va_Nc.of (hs (Cond.not (.castable "StarCustody$Told" "StarCustody$Comet")) (by decide +kernel)), List.forall_mem_cons.mpr ⟨va_Nc.of (hs (Cond.not (.castable "StarCustody$Star" "StarCustody$Comet")) (by decide +kernel)), List.forall_mem_cons.mpr ⟨va_Nc.of (hs (Cond.not (.castable "StarCustody$Moon" "StarCustody$Nebula")) (by decide +kernel)), List.forall_mem_cons.mpr ⟨va_Nc.of (hs (Cond.not (.castable "StarCustody$Comet" "StarCustody$Nebula")) (by decide +kernel)), List.forall_mem_cons.mpr ⟨va_Nc.of (hs (Cond.not (.castable "StarCustody$Twin" "StarCustody$Nebula")) (by decide +kernel)), List.forall_mem_cons.mpr ⟨va_Nc.of (hs (Cond.not (.castable "StarCustody$Guest" "StarCustody$Nebula")) (by decide +kernel)), List.forall_mem_cons.mpr ⟨va_Nc.of (hs (Cond.not (.castable "StarCustody$Star" "StarCustody$Nebula")) (by decide +kernel)), List.forall_mem_cons.mpr ⟨va_Nc.of (hs (Cond.not (.castable "StarCustody$Moon" "StarCustody$Twin")) (by decide +kernel)), List.forall_mem_cons.mpr ⟨va_Nc.of (hs (Cond.not (.castable "StarCustody$Comet" "StarCustody$Twin")) (by decide +kernel)), List.forall_mem_cons.mpr ⟨va_Nc.of (hs (Cond.not (.castable "StarCustody$Nebula" "StarCustody$Twin")) (by decide +kernel)), List.forall_mem_cons.mpr ⟨va_Nc.of (hs (Cond.not (.castable "StarCustody$Guest" "StarCustody$Twin")) (by decide +kernel)), List.forall_mem_cons.mpr ⟨va_Nc.of (hs (Cond.not (.castable "StarCustody$Told" "StarCustody$Twin")) (by decide +kernel)), List.forall_mem_cons.mpr ⟨va_Nc.of (hs (Cond.not (.castable "StarCustody$Star" "StarCustody$Twin")) (by decide +kernel)), List.forall_mem_cons.mpr ⟨va_Nc.of (hs (Cond.not (.castable "StarCustody$Moon" "StarCustody$Guest")) (by decide +kernel)), List.forall_mem_cons.mpr ⟨va_Nc.of (hs (Cond.not (.castable "StarCustody$Comet" "StarCustody$Guest")) (by decide +kernel)), List.forall_mem_cons.mpr ⟨va_Nc.of (hs (Cond.not (.castable "StarCustody$Nebula" "StarCustody$Guest")) (by decide +kernel)), List.forall_mem_cons.mpr ⟨va_Nc.of (hs (Cond.not (.castable "StarCustody$Twin" "StarCustody$Guest")) (by decide +kernel)), List.forall_mem_cons.mpr ⟨va_Nc.of (hs (Cond.not (.castable "StarCustody$Told" "StarCustody$Guest")) (by decide +kernel)), List.forall_mem_cons.mpr ⟨va_Nc.of (hs (Cond.not (.castable "StarCustody$Star" "StarCustody$Guest")) (by decide +kernel)), List.forall_mem_cons.mpr ⟨va_Nc.of (hs (Cond.not (.castable "StarCustody$Moon" "StarCustody$Told")) (by decide +kernel)), List.forall_mem_cons.mpr ⟨va_Nc.of (hs (Cond.not (.castable "StarCustody$Comet" "StarCustody$Told")) (by decide +kernel)), List.forall_mem_cons.mpr ⟨va_Nc.of (hs (Cond.not (.castable "StarCustody$Nebula" "StarCustody$Told")) (by decide +kernel)), List.forall_mem_cons.mpr ⟨va_Nc.of (hs (Cond.not (.castable "StarCustody$Twin" "StarCustody$Told")) (by decide +kernel)), List.forall_mem_cons.mpr ⟨va_Nc.of (hs (Cond.not (.castable "StarCustody$Guest" "StarCustody$Told")) (by decide +kernel)), List.forall_mem_cons.mpr ⟨va_Nc.of (hs (Cond.not (.castable "StarCustody$Star" "StarCustody$Told")) (by decide +kernel)), fun _ h => absurd h List.not_mem_nil⟩⟩⟩⟩⟩⟩⟩⟩⟩⟩⟩⟩⟩⟩⟩⟩⟩⟩⟩⟩⟩⟩⟩⟩⟩⟩⟩⟩⟩⟩⟩⟩⟩
set_option maxRecDepth 100000 in
theorem kk_K (hts : ∀ w ∈ lw_tbl, w.before #[Value.ref b] s = true) : ∃ (D : va_G) (cI cZ cS : ClassId), va_K D vwCl [(cI, .int), (cZ, .boolean), (cS, .object "StarCustody$Star")] s := by
  have htg : ∀ w ∈ gT, w.before #[Value.ref b] s = true := fun w h => hts w (gsub h)
  obtain ⟨c0, i0, h0⟩ := u_known (C := RX0) (T := TX0) (N := 4) (n := 4) htg iX0 (htg _ q_405)
  obtain ⟨c1, i1, h1⟩ := u_known (C := RX1) (T := TX1) (N := 4) (n := 4) htg iX1 (htg _ q_438)
  obtain ⟨c2, i2, h2⟩ := u_known (C := RX2) (T := TX2) (N := 4) (n := 4) htg iX2 (htg _ q_355)
  obtain ⟨c3, i3, h3⟩ := u_known (C := RX3) (T := TX3) (N := 4) (n := 4) htg iX3 (htg _ q_416)
  obtain ⟨c4, i4, h4⟩ := u_known (C := RX4) (T := TX4) (N := 14) (n := 14) htg iX4 (htg _ q_56)
  obtain ⟨c5, i5, h5⟩ := u_known (C := RX5) (T := TX5) (N := 4) (n := 4) htg iX5 (htg _ q_30)
  obtain ⟨c6, i6, h6⟩ := u_known (C := RX6) (T := TX6) (N := 6) (n := 6) htg iX6 (htg _ q_64)
  obtain ⟨c7, i7, h7⟩ := u_known (C := RX7) (T := TX7) (N := 5) (n := 5) htg iX7 (htg _ q_152)
  obtain ⟨c8, i8, h8⟩ := u_known (C := RX8) (T := TX8) (N := 4) (n := 4) htg iX8 (htg _ q_460)
  obtain ⟨c9, i9, h9⟩ := u_known (C := RX9) (T := TX9) (N := 4) (n := 4) htg iX9 (htg _ q_449)
  obtain ⟨c10, i10, h10⟩ := u_known (C := RX10) (T := TX10) (N := 4) (n := 4) htg iX10 (htg _ q_427)
  obtain ⟨c11, i11, h11⟩ := u_known (C := RX11) (T := TX11) (N := 7) (n := 7) htg iX11 (htg _ q_22)
  obtain ⟨c12, i12, h12⟩ := u_known (C := RX12) (T := TX12) (N := 20) (n := 20) htg iX12 (htg _ q_831)
  obtain ⟨aI_, kI, pI, eI1, eI2, eI3⟩ := Cond.arrayClass_spec (htg _ q_54)
  obtain ⟨aZ_, kZ, pZ, eZ1, eZ2, eZ3⟩ := Cond.arrayClass_spec (htg _ q_896)
  obtain ⟨pS, aS_, kS, eS1, eS2, eS3, eS4, eS5⟩ := Cond.arrayOver_spec (hts _ q_62)
  refine ⟨(fun k => match k with | 0 => c0 | 1 => c1 | 2 => c2 | 3 => c3 | 4 => c4 | 5 => c5 | 6 => c6 | 7 => c7 | 8 => c8 | 9 => c9 | 10 => c10 | 11 => c11 | _ => c12, fun k => match k with | 0 => i0 | 1 => i1 | 2 => i2 | 3 => i3 | 4 => i4 | 5 => i5 | 6 => i6 | 7 => i7 | 8 => i8 | 9 => i9 | 10 => i10 | 11 => i11 | _ => i12), aI_, aZ_, aS_, ?_, ?_⟩
  · intro k q hq
    match k, hq with
    | 0, hq => cases hq; exact h0
    | 1, hq => cases hq; exact h1
    | 2, hq => cases hq; exact h2
    | 3, hq => cases hq; exact h3
    | 4, hq => cases hq; exact h4
    | 5, hq => cases hq; exact h5
    | 6, hq => cases hq; exact h6
    | 7, hq => cases hq; exact h7
    | 8, hq => cases hq; exact h8
    | 9, hq => cases hq; exact h9
    | 10, hq => cases hq; exact h10
    | 11, hq => cases hq; exact h11
    | 12, hq => cases hq; exact h12
    | k + 13, hq => exact absurd hq (by simp [vwCl])
  · intro k q hq
    match k, hq with
    | 0, hq => cases hq; exact ⟨fun n z => ⟨fun k h => (by cases h), kI, eI2, pI, eI3⟩, eI1⟩
    | 1, hq => cases hq; exact ⟨fun n z => ⟨fun k h => (by cases h), kZ, eZ2, pZ, eZ3⟩, eZ1⟩
    | 2, hq => cases hq; exact ⟨fun n z => ⟨fun k h => (by cases h), kS, eS3, pS, eS4⟩, kS, pS, eS3, eS4, eS1, eS5⟩
    | k + 3, hq => exact absurd hq (by simp)
def tmS (i : Nat) : Term := Term.string (sW.getD i ("", 0, "")).1 (sW.getD i ("", 0, "")).2.1
def kS1 (k a t : Nat) (A : Nat → Prop) (U : State) (H : Heap) : Prop := va_O "java/lang/String" a A U H ∧ va_OF "java/lang/String" "coder" "B" (.int 0) a A U H ∧ va_OF "java/lang/String" "value" "[B" (.ref t) a A U H ∧ va_T .byte t (lenS.getD k 0) (fun j => .int ((bytS.getD k []).getD j 0)) A U H
set_option maxHeartbeats 4000000 in
set_option maxRecDepth 100000 in
theorem kk_S0 (hgv : (Jvm.Cond.and given_1 narrow_1).before #[Value.ref b] s = true) : ∃ a t : Nat, kS1 0 a t (fun q => s.heap.size ≤ q) s s.heap ∧ (tmS 0).eval #[Value.ref b] s none [] s = some (.ref a) := by
  have hs := flat_of_before _ hgv
  have h := vk_Sof (args := #[Value.ref b]) (s := s) (N := 1) (tm := fun _ => tmS 0) (len := [lenS.getD 0 0]) (byt := [bytS.getD 0 []]) (A := fun q => s.heap.size ≤ q) (by decide) ?_ ?_ ?_ ?_ ?_ (fun i j hi hj hij => absurd (show i = j by omega) hij) (fun a h q => absurd h (by omega))
  · obtain ⟨K, V, hS, hE⟩ := h
    exact ⟨K 0, V 0, hS.1 0 (by decide), hE 0 (by decide)⟩
  · intro i hi
    exact hs _ (by decide +kernel)
  · intro i hi
    exact hs _ (by decide +kernel)
  · intro i hi
    exact hs _ (by decide +kernel)
  · intro i hi
    obtain rfl : i = 0 := by omega
    exact hs _ (by decide +kernel)
  · intro i hi
    obtain rfl : i = 0 := by omega
    intro j hj
    have hj : j < 5 := hj
    rcases (show j = 0 ∨ j = 1 ∨ j = 2 ∨ j = 3 ∨ j = 4 by omega) with rfl | rfl | rfl | rfl | rfl <;> exact hs _ (by decide +kernel)
set_option maxHeartbeats 4000000 in
set_option maxRecDepth 100000 in
theorem kk_S1 (hgv : (Jvm.Cond.and given_1 narrow_1).before #[Value.ref b] s = true) : ∃ a t : Nat, kS1 1 a t (fun q => s.heap.size ≤ q) s s.heap ∧ (tmS 1).eval #[Value.ref b] s none [] s = some (.ref a) := by
  have hs := flat_of_before _ hgv
  have h := vk_Sof (args := #[Value.ref b]) (s := s) (N := 1) (tm := fun _ => tmS 1) (len := [lenS.getD 1 0]) (byt := [bytS.getD 1 []]) (A := fun q => s.heap.size ≤ q) (by decide) ?_ ?_ ?_ ?_ ?_ (fun i j hi hj hij => absurd (show i = j by omega) hij) (fun a h q => absurd h (by omega))
  · obtain ⟨K, V, hS, hE⟩ := h
    exact ⟨K 0, V 0, hS.1 0 (by decide), hE 0 (by decide)⟩
  · intro i hi
    exact hs _ (by decide +kernel)
  · intro i hi
    exact hs _ (by decide +kernel)
  · intro i hi
    exact hs _ (by decide +kernel)
  · intro i hi
    obtain rfl : i = 0 := by omega
    exact hs _ (by decide +kernel)
  · intro i hi
    obtain rfl : i = 0 := by omega
    intro j hj
    have hj : j < 6 := hj
    rcases (show j = 0 ∨ j = 1 ∨ j = 2 ∨ j = 3 ∨ j = 4 ∨ j = 5 by omega) with rfl | rfl | rfl | rfl | rfl | rfl <;> exact hs _ (by decide +kernel)
set_option maxHeartbeats 4000000 in
set_option maxRecDepth 100000 in
theorem kk_S2 (hgv : (Jvm.Cond.and given_1 narrow_1).before #[Value.ref b] s = true) : ∃ a t : Nat, kS1 2 a t (fun q => s.heap.size ≤ q) s s.heap ∧ (tmS 2).eval #[Value.ref b] s none [] s = some (.ref a) := by
  have hs := flat_of_before _ hgv
  have h := vk_Sof (args := #[Value.ref b]) (s := s) (N := 1) (tm := fun _ => tmS 2) (len := [lenS.getD 2 0]) (byt := [bytS.getD 2 []]) (A := fun q => s.heap.size ≤ q) (by decide) ?_ ?_ ?_ ?_ ?_ (fun i j hi hj hij => absurd (show i = j by omega) hij) (fun a h q => absurd h (by omega))
  · obtain ⟨K, V, hS, hE⟩ := h
    exact ⟨K 0, V 0, hS.1 0 (by decide), hE 0 (by decide)⟩
  · intro i hi
    exact hs _ (by decide +kernel)
  · intro i hi
    exact hs _ (by decide +kernel)
  · intro i hi
    exact hs _ (by decide +kernel)
  · intro i hi
    obtain rfl : i = 0 := by omega
    exact hs _ (by decide +kernel)
  · intro i hi
    obtain rfl : i = 0 := by omega
    intro j hj
    have hj : j < 3 := hj
    rcases (show j = 0 ∨ j = 1 ∨ j = 2 by omega) with rfl | rfl | rfl <;> exact hs _ (by decide +kernel)
set_option maxHeartbeats 4000000 in
set_option maxRecDepth 100000 in
theorem kk_S3 (hgv : (Jvm.Cond.and given_1 narrow_1).before #[Value.ref b] s = true) : ∃ a t : Nat, kS1 3 a t (fun q => s.heap.size ≤ q) s s.heap ∧ (tmS 3).eval #[Value.ref b] s none [] s = some (.ref a) := by
  have hs := flat_of_before _ hgv
  have h := vk_Sof (args := #[Value.ref b]) (s := s) (N := 1) (tm := fun _ => tmS 3) (len := [lenS.getD 3 0]) (byt := [bytS.getD 3 []]) (A := fun q => s.heap.size ≤ q) (by decide) ?_ ?_ ?_ ?_ ?_ (fun i j hi hj hij => absurd (show i = j by omega) hij) (fun a h q => absurd h (by omega))
  · obtain ⟨K, V, hS, hE⟩ := h
    exact ⟨K 0, V 0, hS.1 0 (by decide), hE 0 (by decide)⟩
  · intro i hi
    exact hs _ (by decide +kernel)
  · intro i hi
    exact hs _ (by decide +kernel)
  · intro i hi
    exact hs _ (by decide +kernel)
  · intro i hi
    obtain rfl : i = 0 := by omega
    exact hs _ (by decide +kernel)
  · intro i hi
    obtain rfl : i = 0 := by omega
    intro j hj
    have hj : j < 4 := hj
    rcases (show j = 0 ∨ j = 1 ∨ j = 2 ∨ j = 3 by omega) with rfl | rfl | rfl | rfl <;> exact hs _ (by decide +kernel)
set_option maxHeartbeats 4000000 in
set_option maxRecDepth 100000 in
theorem kk_S4 (hgv : (Jvm.Cond.and given_1 narrow_1).before #[Value.ref b] s = true) : ∃ a t : Nat, kS1 4 a t (fun q => s.heap.size ≤ q) s s.heap ∧ (tmS 4).eval #[Value.ref b] s none [] s = some (.ref a) := by
  have hs := flat_of_before _ hgv
  have h := vk_Sof (args := #[Value.ref b]) (s := s) (N := 1) (tm := fun _ => tmS 4) (len := [lenS.getD 4 0]) (byt := [bytS.getD 4 []]) (A := fun q => s.heap.size ≤ q) (by decide) ?_ ?_ ?_ ?_ ?_ (fun i j hi hj hij => absurd (show i = j by omega) hij) (fun a h q => absurd h (by omega))
  · obtain ⟨K, V, hS, hE⟩ := h
    exact ⟨K 0, V 0, hS.1 0 (by decide), hE 0 (by decide)⟩
  · intro i hi
    exact hs _ (by decide +kernel)
  · intro i hi
    exact hs _ (by decide +kernel)
  · intro i hi
    exact hs _ (by decide +kernel)
  · intro i hi
    obtain rfl : i = 0 := by omega
    exact hs _ (by decide +kernel)
  · intro i hi
    obtain rfl : i = 0 := by omega
    intro j hj
    have hj : j < 5 := hj
    rcases (show j = 0 ∨ j = 1 ∨ j = 2 ∨ j = 3 ∨ j = 4 by omega) with rfl | rfl | rfl | rfl | rfl <;> exact hs _ (by decide +kernel)
set_option maxHeartbeats 4000000 in
set_option maxRecDepth 100000 in
theorem kk_S5 (hgv : (Jvm.Cond.and given_1 narrow_1).before #[Value.ref b] s = true) : ∃ a t : Nat, kS1 5 a t (fun q => s.heap.size ≤ q) s s.heap ∧ (tmS 5).eval #[Value.ref b] s none [] s = some (.ref a) := by
  have hs := flat_of_before _ hgv
  have h := vk_Sof (args := #[Value.ref b]) (s := s) (N := 1) (tm := fun _ => tmS 5) (len := [lenS.getD 5 0]) (byt := [bytS.getD 5 []]) (A := fun q => s.heap.size ≤ q) (by decide) ?_ ?_ ?_ ?_ ?_ (fun i j hi hj hij => absurd (show i = j by omega) hij) (fun a h q => absurd h (by omega))
  · obtain ⟨K, V, hS, hE⟩ := h
    exact ⟨K 0, V 0, hS.1 0 (by decide), hE 0 (by decide)⟩
  · intro i hi
    exact hs _ (by decide +kernel)
  · intro i hi
    exact hs _ (by decide +kernel)
  · intro i hi
    exact hs _ (by decide +kernel)
  · intro i hi
    obtain rfl : i = 0 := by omega
    exact hs _ (by decide +kernel)
  · intro i hi
    obtain rfl : i = 0 := by omega
    intro j hj
    have hj : j < 6 := hj
    rcases (show j = 0 ∨ j = 1 ∨ j = 2 ∨ j = 3 ∨ j = 4 ∨ j = 5 by omega) with rfl | rfl | rfl | rfl | rfl | rfl <;> exact hs _ (by decide +kernel)
set_option maxHeartbeats 4000000 in
set_option maxRecDepth 100000 in
theorem kk_S6 (hgv : (Jvm.Cond.and given_1 narrow_1).before #[Value.ref b] s = true) : ∃ a t : Nat, kS1 6 a t (fun q => s.heap.size ≤ q) s s.heap ∧ (tmS 6).eval #[Value.ref b] s none [] s = some (.ref a) := by
  have hs := flat_of_before _ hgv
  have h := vk_Sof (args := #[Value.ref b]) (s := s) (N := 1) (tm := fun _ => tmS 6) (len := [lenS.getD 6 0]) (byt := [bytS.getD 6 []]) (A := fun q => s.heap.size ≤ q) (by decide) ?_ ?_ ?_ ?_ ?_ (fun i j hi hj hij => absurd (show i = j by omega) hij) (fun a h q => absurd h (by omega))
  · obtain ⟨K, V, hS, hE⟩ := h
    exact ⟨K 0, V 0, hS.1 0 (by decide), hE 0 (by decide)⟩
  · intro i hi
    exact hs _ (by decide +kernel)
  · intro i hi
    exact hs _ (by decide +kernel)
  · intro i hi
    exact hs _ (by decide +kernel)
  · intro i hi
    obtain rfl : i = 0 := by omega
    exact hs _ (by decide +kernel)
  · intro i hi
    obtain rfl : i = 0 := by omega
    intro j hj
    have hj : j < 4 := hj
    rcases (show j = 0 ∨ j = 1 ∨ j = 2 ∨ j = 3 by omega) with rfl | rfl | rfl | rfl <;> exact hs _ (by decide +kernel)
set_option maxHeartbeats 4000000 in
set_option maxRecDepth 100000 in
theorem kk_S7 (hgv : (Jvm.Cond.and given_1 narrow_1).before #[Value.ref b] s = true) : ∃ a t : Nat, kS1 7 a t (fun q => s.heap.size ≤ q) s s.heap ∧ (tmS 7).eval #[Value.ref b] s none [] s = some (.ref a) := by
  have hs := flat_of_before _ hgv
  have h := vk_Sof (args := #[Value.ref b]) (s := s) (N := 1) (tm := fun _ => tmS 7) (len := [lenS.getD 7 0]) (byt := [bytS.getD 7 []]) (A := fun q => s.heap.size ≤ q) (by decide) ?_ ?_ ?_ ?_ ?_ (fun i j hi hj hij => absurd (show i = j by omega) hij) (fun a h q => absurd h (by omega))
  · obtain ⟨K, V, hS, hE⟩ := h
    exact ⟨K 0, V 0, hS.1 0 (by decide), hE 0 (by decide)⟩
  · intro i hi
    exact hs _ (by decide +kernel)
  · intro i hi
    exact hs _ (by decide +kernel)
  · intro i hi
    exact hs _ (by decide +kernel)
  · intro i hi
    obtain rfl : i = 0 := by omega
    exact hs _ (by decide +kernel)
  · intro i hi
    obtain rfl : i = 0 := by omega
    intro j hj
    have hj : j < 6 := hj
    rcases (show j = 0 ∨ j = 1 ∨ j = 2 ∨ j = 3 ∨ j = 4 ∨ j = 5 by omega) with rfl | rfl | rfl | rfl | rfl | rfl <;> exact hs _ (by decide +kernel)
set_option maxHeartbeats 4000000 in
set_option maxRecDepth 100000 in
theorem kk_S8 (hgv : (Jvm.Cond.and given_1 narrow_1).before #[Value.ref b] s = true) : ∃ a t : Nat, kS1 8 a t (fun q => s.heap.size ≤ q) s s.heap ∧ (tmS 8).eval #[Value.ref b] s none [] s = some (.ref a) := by
  have hs := flat_of_before _ hgv
  have h := vk_Sof (args := #[Value.ref b]) (s := s) (N := 1) (tm := fun _ => tmS 8) (len := [lenS.getD 8 0]) (byt := [bytS.getD 8 []]) (A := fun q => s.heap.size ≤ q) (by decide) ?_ ?_ ?_ ?_ ?_ (fun i j hi hj hij => absurd (show i = j by omega) hij) (fun a h q => absurd h (by omega))
  · obtain ⟨K, V, hS, hE⟩ := h
    exact ⟨K 0, V 0, hS.1 0 (by decide), hE 0 (by decide)⟩
  · intro i hi
    exact hs _ (by decide +kernel)
  · intro i hi
    exact hs _ (by decide +kernel)
  · intro i hi
    exact hs _ (by decide +kernel)
  · intro i hi
    obtain rfl : i = 0 := by omega
    exact hs _ (by decide +kernel)
  · intro i hi
    obtain rfl : i = 0 := by omega
    intro j hj
    have hj : j < 3 := hj
    rcases (show j = 0 ∨ j = 1 ∨ j = 2 by omega) with rfl | rfl | rfl <;> exact hs _ (by decide +kernel)
set_option maxHeartbeats 4000000 in
set_option maxRecDepth 100000 in
theorem kk_S9 (hgv : (Jvm.Cond.and given_1 narrow_1).before #[Value.ref b] s = true) : ∃ a t : Nat, kS1 9 a t (fun q => s.heap.size ≤ q) s s.heap ∧ (tmS 9).eval #[Value.ref b] s none [] s = some (.ref a) := by
  have hs := flat_of_before _ hgv
  have h := vk_Sof (args := #[Value.ref b]) (s := s) (N := 1) (tm := fun _ => tmS 9) (len := [lenS.getD 9 0]) (byt := [bytS.getD 9 []]) (A := fun q => s.heap.size ≤ q) (by decide) ?_ ?_ ?_ ?_ ?_ (fun i j hi hj hij => absurd (show i = j by omega) hij) (fun a h q => absurd h (by omega))
  · obtain ⟨K, V, hS, hE⟩ := h
    exact ⟨K 0, V 0, hS.1 0 (by decide), hE 0 (by decide)⟩
  · intro i hi
    exact hs _ (by decide +kernel)
  · intro i hi
    exact hs _ (by decide +kernel)
  · intro i hi
    exact hs _ (by decide +kernel)
  · intro i hi
    obtain rfl : i = 0 := by omega
    exact hs _ (by decide +kernel)
  · intro i hi
    obtain rfl : i = 0 := by omega
    intro j hj
    have hj : j < 3 := hj
    rcases (show j = 0 ∨ j = 1 ∨ j = 2 by omega) with rfl | rfl | rfl <;> exact hs _ (by decide +kernel)
theorem kk_S (hgv : (Jvm.Cond.and given_1 narrow_1).before #[Value.ref b] s = true) : ∃ adK adV : Nat → Nat, kS adK adV (fun q => s.heap.size ≤ q) s s.heap ∧ ∀ i : Nat, i < 10 → (tmS i).eval #[Value.ref b] s none [] s = some (.ref (adK i)) := by
  have h0 : ∀ i : Nat, ∃ q : Nat × Nat, i < 10 → kS1 i q.1 q.2 (fun q => s.heap.size ≤ q) s s.heap ∧ (tmS i).eval #[Value.ref b] s none [] s = some (.ref q.1) := by
    intro i
    match i with
    | 0 => obtain ⟨a, t, h1, h2⟩ := kk_S0 hgv; exact ⟨(a, t), fun _ => ⟨h1, h2⟩⟩
    | 1 => obtain ⟨a, t, h1, h2⟩ := kk_S1 hgv; exact ⟨(a, t), fun _ => ⟨h1, h2⟩⟩
    | 2 => obtain ⟨a, t, h1, h2⟩ := kk_S2 hgv; exact ⟨(a, t), fun _ => ⟨h1, h2⟩⟩
    | 3 => obtain ⟨a, t, h1, h2⟩ := kk_S3 hgv; exact ⟨(a, t), fun _ => ⟨h1, h2⟩⟩
    | 4 => obtain ⟨a, t, h1, h2⟩ := kk_S4 hgv; exact ⟨(a, t), fun _ => ⟨h1, h2⟩⟩
    | 5 => obtain ⟨a, t, h1, h2⟩ := kk_S5 hgv; exact ⟨(a, t), fun _ => ⟨h1, h2⟩⟩
    | 6 => obtain ⟨a, t, h1, h2⟩ := kk_S6 hgv; exact ⟨(a, t), fun _ => ⟨h1, h2⟩⟩
    | 7 => obtain ⟨a, t, h1, h2⟩ := kk_S7 hgv; exact ⟨(a, t), fun _ => ⟨h1, h2⟩⟩
    | 8 => obtain ⟨a, t, h1, h2⟩ := kk_S8 hgv; exact ⟨(a, t), fun _ => ⟨h1, h2⟩⟩
    | 9 => obtain ⟨a, t, h1, h2⟩ := kk_S9 hgv; exact ⟨(a, t), fun _ => ⟨h1, h2⟩⟩
    | i + 10 => exact ⟨(0, 0), fun h => absurd h (by omega)⟩
  obtain ⟨ad, had⟩ := Classical.axiomOfChoice h0
  exact ⟨fun i => (ad i).1, fun i => (ad i).2, ⟨fun i hi => (had i hi).1, trivial⟩, fun i hi => (had i hi).2⟩
/-- what holds of the machine at the law's entry, for any addresses of the fixed cells -/
theorem kk_start (C0 : lw_At p s m meth c b L xs) : ∃ (D : va_G) (cs : ClassId × ClassId × ClassId) (K V : Nat → Nat), ∀ A : Nat → Nat, (∀ i j : Nat, i < 55 → j < 55 → A i = A j → i = j) → KK (D, cs, s.heap, A, K, V) s := by
  obtain ⟨hx, hb, hr, hml, hown, hts, hX, hbl, hlocks, hgv⟩ := id C0
  have hs := flat_of_before _ hgv
  obtain ⟨D, cI, cZ, cS, hK⟩ := kk_K hts
  obtain ⟨K, V, hS, hE⟩ := kk_S hgv
  refine ⟨D, (cI, cZ, cS), K, V, fun A hA => ⟨hK, kk_nest hts, va_AO.of (hts _ q_62), kk_nc hgv, kk_ca hts, ?_, hS, ?_, ?_, hA⟩⟩
  · intro i q hq
    match i, hq with
    | 0, hq => cases hq; exact vk_R.of (hts _ q_236) (hE 0 (by decide))
    | 1, hq => cases hq; exact vk_R.of (hts _ q_302) (hE 1 (by decide))
    | 2, hq => cases hq; exact vk_R.of (hts _ q_303) (hE 2 (by decide))
    | 3, hq => cases hq; exact vk_R.of (hts _ q_304) (hE 3 (by decide))
    | 4, hq => cases hq; exact vk_R.of (hts _ q_916) (hE 4 (by decide))
    | 5, hq => cases hq; exact vk_R.of (hts _ q_935) (hE 5 (by decide))
    | 6, hq => cases hq; exact vk_R.of (hts _ q_940) (hE 6 (by decide))
    | 7, hq => cases hq; exact vk_R.of (hts _ q_961) (hE 7 (by decide))
    | 8, hq => cases hq; exact vk_R.of (hts _ q_966) (hE 8 (by decide))
    | 9, hq => cases hq; exact vk_R.of (hts _ q_967) (hE 9 (by decide))
    | i + 10, hq => exact absurd hq (by simp [sW])
  · exact va_Zof (hts _ q_250) (hts _ (gsub q_8)) (va_eqt (hs (Jvm.Cond.eq (Jvm.Term.static "java/lang/String" "COMPACT_STRINGS" "Z") (Jvm.Term.int (1 : Int32))) (by decide +kernel))) (fun a h q => absurd h (Nat.not_lt.mpr q))
  · exact va_Zqof (hts _ q_266) (hts _ (gsub q_10)) (hs (Jvm.Cond.isRef (Jvm.Term.static "jdk/internal/util/Preconditions" "SIOOBE_FORMATTER" "Ljava/util/function/BiFunction;")) (by decide +kernel)) (fun a h q => absurd h (Nat.not_lt.mpr q))
end KKS
