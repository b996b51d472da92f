theorem lk_L_9 : LkI RL 9 yX11_init cX11_init 1 0 := lkI_of q_23 q_24 q_1 q_25 rfl ⟨by decide, by decide, by decide +kernel⟩ (by decide)
theorem lk_L_12 : LkI RL 12 yX12_init cX12_init 1 0 := lkI_of q_832 q_833 q_7 q_834 rfl ⟨by decide, by decide, by decide +kernel⟩ (by decide)
section LAWR
variable {p : Program} {l : Launch} {e : Env} {s : State} {m : MethodId} {args : Array Value} {below : List Frame} {meth : Method} {c : Code} {H : Heap} {locs : List Loc} {cells slots : Nat} {Q : State → Prop}
variable {g : Gp} {cc : ByteArray} {nL : Nat} {own : String} {M : Mem} {pc : Nat} {ls : Array Slot} {rest : List Value} {y : MethodName} {bytes : ByteArray} {maxL mc ms n idx d' : Nat} {ret0 : Option FieldType} {Qc : Array Value → State → Outcome → State → Prop} {As st0 : List Value} {a b ci N : Nat} {T : u_T} {fs : List Value}

theorem L_start {g : Gp} (X : Cx g p m c cL_law 4 s #[Value.ref b] RL) (hM : MW g (fun _ => none) s.heap []) (hl : lv_has ls 4 [(0, .ref b)])
    (kk : ∀ (o o2 : Nat) (M1 M2 : Mem) (H : Heap) (locs : List Loc) (ls : Array Slot), PX11i g (mup (fun _ => none) o (.inr (11, [.null, .null, .null, .null, .null, .null, .int 0]))) o M1 → M1 o2 = none → PX12i g (mup M1 o2 (.inr (12, [.int 0, .null, .null, .null, .int 0, .int 0, .int 0, .int 0, .int 0, .int 0, .int 0, .null, .null, .null, .null, .null, .int 0, .int 0, .int 0, .int 0]))) o2 M2 → MW g M2 H locs → lv_has ls 4 [(2, .ref o2), (1, .ref o), (0, .ref b)] → W p l e room_1 s m #[Value.ref b] below meth c H locs 55 3561 Q (F0 m 16 ls [])) : W p l e room_1 s m #[Value.ref b] below meth c s.heap [] 0 0 Q (F0 m 0 ls []) := by
  have hx := X.1.1
  have hb := X.1.2.1
  refine r_new (T := TX11) (N := 7) (ci := 11) (fs := [.null, .null, .null, .null, .null, .null, .int 0]) X hM iX11 tyX11 tyX11_ok q_21 q_22 q_1 rfl (fun j hj => by rcases (show j = 0 ∨ j = 1 ∨ j = 2 ∨ j = 3 ∨ j = 4 ∨ j = 5 ∨ j = 6 by omega) with rfl | rfl | rfl | rfl | rfl | rfl | rfl <;> rfl) (Nat.le_of_ble_eq_true rfl) (Nat.le_of_ble_eq_true rfl) dL_law_0 (fun H1 hz1 hM1 => ?_)
  obtain ⟨o, eo⟩ : ∃ z, z = s.heap.size := ⟨_, rfl⟩
  rw [← eo] at hM1 ⊢
  refine lv_dup hx hb dL_law_3 rfl ?_
  refine K_v (L_I (As := []) (rest := [.ref o]) X hM1 (c_X11_init l g _ o (mup_s _ _ _)) lk_L_9 rfl hl.1 rfl (Nat.le_of_ble_eq_true rfl) (by decide) dL_law_4 ⟨Nat.le_of_ble_eq_true rfl, Nat.le_of_ble_eq_true rfl⟩) hM1 (fun M1 H2 locs2 hM2 hp1 => ?_)
  refine lv_astore_n (lv' := [(1, .ref o), (0, .ref b)]) hx hb dL_law_7 rfl hl (by decide) rfl (fun ls hl => ?_)
  refine r_new (T := TX12) (N := 20) (ci := 12) (fs := [.int 0, .null, .null, .null, .int 0, .int 0, .int 0, .int 0, .int 0, .int 0, .int 0, .null, .null, .null, .null, .null, .int 0, .int 0, .int 0, .int 0]) X hM2 iX12 tyX12 tyX12_ok q_830 q_831 q_7 rfl (fun j hj => by rcases (show j = 0 ∨ j = 1 ∨ j = 2 ∨ j = 3 ∨ j = 4 ∨ j = 5 ∨ j = 6 ∨ j = 7 ∨ j = 8 ∨ j = 9 ∨ j = 10 ∨ j = 11 ∨ j = 12 ∨ j = 13 ∨ j = 14 ∨ j = 15 ∨ j = 16 ∨ j = 17 ∨ j = 18 ∨ j = 19 by omega) with rfl | rfl | rfl | rfl | rfl | rfl | rfl | rfl | rfl | rfl | rfl | rfl | rfl | rfl | rfl | rfl | rfl | rfl | rfl | rfl <;> rfl) (Nat.le_of_ble_eq_true rfl) (Nat.le_of_ble_eq_true rfl) dL_law_8 (fun H3 hz3 hM3 => ?_)
  obtain ⟨o2, eo2⟩ : ∃ z, z = H2.size := ⟨_, rfl⟩
  have hN : M1 o2 = none := hM2.fresh eo2
  rw [← eo2] at hM3 ⊢
  refine lv_dup hx hb dL_law_11 rfl ?_
  refine K_v (L_I (As := []) (rest := [.ref o2]) X hM3 (c_X12_init l g _ o2 (mup_s _ _ _)) lk_L_12 rfl hl.1 rfl (Nat.le_of_ble_eq_true rfl) (by decide) dL_law_12 ⟨Nat.le_of_ble_eq_true rfl, Nat.le_of_ble_eq_true rfl⟩) hM3 (fun M2 H4 locs4 hM4 hp2 => ?_)
  refine lv_astore_n (lv' := [(2, .ref o2), (1, .ref o), (0, .ref b)]) hx hb dL_law_15 rfl hl (by decide) rfl (fun ls hl => ?_)
  exact kk o o2 M1 M2 H4 locs4 ls hp1 hN hp2 hM4 hl
set_option maxHeartbeats 4000000 in
theorem L_loop {L : Nat} {xs : Nat → Int32} (C : LwC g p s m c b L xs) (hr : meth.sig.returnType = ret) (hlk : meth.locks = false) : ∀ (fu i cells slots : Nat) (M : Mem) (H : Heap) (locs : List Loc) (ls : Array Slot), World g M → MW g M H locs → i ≤ L → L < i + 5 * fu → lv_has ls 4 (lawL g b i) → cells + fu ≤ 600000 → slots + 4 * fu ≤ 7302250 → W p l e room_1 s m #[Value.ref b] below meth c H locs cells slots (lw_Z below #[Value.ref b] s) (F0 m 18 ls []) := by
  intro fu
  induction fu with
  | zero => exact fun i cells slots M H locs ls hW hM h1 h2 => absurd h2 (by omega)
  | succ fu ih =>
    intro i cells slots M H locs ls hW hM h1 h2 hl hcc hss
    have hx := C.1.1.1
    have hb := C.1.1.2.1
    have hL := C.2.2.2.2.1
    refine lv_iload_n hx hb dL_law_18 rfl (lv_at hl 0 rfl) ?_
    refine lv_aload_n hx hb dL_law_19 rfl (lv_at hl 3 rfl) ?_
    refine va_slen hx hb C.2.1 C.2.2.1 (Nat.not_le.mpr C.2.2.1) hM.S dL_law_20 ?_
    refine lv_iconst (v := 5) hx hb dL_law_21 (by decide) ?_
    refine lv_isub hx hb dL_law_22 ?_
    refine lv_icmp_gt (tgt := 1222) hx hb dL_law_23 (by decide) (fun c_1 => ?_) (fun c_1 => ?_)
    · refine lv_iconst (v := 1) hx hb dL_law_1222 (by decide) ?_
      refine va_forget (fun q hq => by rw [← C.2.2.2.2.2]; exact hM.2.2.2 q hq) ?_
      refine W.widen (k := 600000) (n := 7302250) (by omega) (by omega) ?_
      exact lw_ret hx hb hr hlk dL_law_1223
    · have h5 : i + 5 ≤ L := gt5 (by omega) hL c_1
      refine lv_aload_n hx hb dL_law_26 rfl (lv_at hl 3 rfl) ?_
      refine lv_iload_n hx hb dL_law_27 rfl (lv_at hl 0 rfl) ?_
      refine L_ld C hM (vp_in_nI (by omega) (by omega)) dL_law_28 ?_
      refine lv_bipush (v := 31) hx hb dL_law_29 (by decide) ?_
      refine lv_iand hx hb dL_law_31 ?_
      obtain ⟨j, hj, e9⟩ := and31 (xs (nI i).toNatClampNeg)
      rw [e9]
      have kk : ∀ (M1 : Mem) (H1 : Heap) (locs1 : List Loc), World g M1 → MW g M1 H1 locs1 → W p l e room_1 s m #[Value.ref b] below meth c H1 locs1 (cells + 1) (slots + 4) (lw_Z below #[Value.ref b] s) (F0 m 1216 ls []) := fun M1 H1 locs1 hW1 hM1 => by
        refine lv_iinc (lv' := lawL g b (i + 5)) hx hb dL_law_1216 hl (k := 0) rfl (nI_add i 5) (by decide) rfl (fun ls1 hl1 => ?_)
        refine lv_goto (tgt := 18) hx hb dL_law_1219 (by decide) ?_
        exact ih (i + 5) _ _ M1 H1 locs1 ls1 hW1 hM1 h5 (by omega) hl1 (by omega) (by omega)
      rcases (show j = 0 ∨ j = 1 ∨ j = 2 ∨ j = 3 ∨ j = 4 ∨ j = 5 ∨ j = 6 ∨ j = 7 ∨ j = 8 ∨ j = 9 ∨ j = 10 ∨ j = 11 ∨ j = 12 ∨ j = 13 ∨ j = 14 ∨ j = 15 ∨ j = 16 ∨ j = 17 ∨ j = 18 ∨ j = 19 ∨ j = 20 ∨ j = 21 ∨ j = 22 ∨ j = 23 ∨ j = 24 ∨ j = 25 ∨ j = 26 ∨ j = 27 ∨ j = 28 ∨ j = 29 ∨ j = 30 ∨ j = 31 by omega) with rfl | rfl | rfl | rfl | rfl | rfl | rfl | rfl | rfl | rfl | rfl | rfl | rfl | rfl | rfl | rfl | rfl | rfl | rfl | rfl | rfl | rfl | rfl | rfl | rfl | rfl | rfl | rfl | rfl | rfl | rfl | rfl
      · exact lv_tableIn (tgt := 176) hx hb dL_law_32 (by decide) (by decide) rfl (by decide) (L_case_176 C hW hM h5 hl (by omega) (by omega) kk)
      · exact lv_tableIn (tgt := 199) hx hb dL_law_32 (by decide) (by decide) rfl (by decide) (L_case_199 C hW hM h5 hl (by omega) (by omega) kk)
      · exact lv_tableIn (tgt := 212) hx hb dL_law_32 (by decide) (by decide) rfl (by decide) (L_case_212 C hW hM h5 hl (by omega) (by omega) kk)
      · exact lv_tableIn (tgt := 265) hx hb dL_law_32 (by decide) (by decide) rfl (by decide) (L_case_265 C hW hM h5 hl (by omega) (by omega) kk)
      · exact lv_tableIn (tgt := 298) hx hb dL_law_32 (by decide) (by decide) rfl (by decide) (L_case_298 C hW hM h5 hl (by omega) (by omega) kk)
      · exact lv_tableIn (tgt := 341) hx hb dL_law_32 (by decide) (by decide) rfl (by decide) (L_case_341 C hW hM h5 hl (by omega) (by omega) kk)
      · exact lv_tableIn (tgt := 384) hx hb dL_law_32 (by decide) (by decide) rfl (by decide) (L_case_384 C hW hM h5 hl (by omega) (by omega) kk)
      · exact lv_tableIn (tgt := 427) hx hb dL_law_32 (by decide) (by decide) rfl (by decide) (L_case_427 C hW hM h5 hl (by omega) (by omega) kk)
      · exact lv_tableIn (tgt := 470) hx hb dL_law_32 (by decide) (by decide) rfl (by decide) (L_case_470 C hW hM h5 hl (by omega) (by omega) kk)
      · exact lv_tableIn (tgt := 519) hx hb dL_law_32 (by decide) (by decide) rfl (by decide) (L_case_519 C hW hM h5 hl (by omega) (by omega) kk)
      · exact lv_tableIn (tgt := 542) hx hb dL_law_32 (by decide) (by decide) rfl (by decide) (L_case_542 C hW hM h5 hl (by omega) (by omega) kk)
      · exact lv_tableIn (tgt := 565) hx hb dL_law_32 (by decide) (by decide) rfl (by decide) (L_case_565 C hW hM h5 hl (by omega) (by omega) kk)
      · exact lv_tableIn (tgt := 598) hx hb dL_law_32 (by decide) (by decide) rfl (by decide) (L_case_598 C hW hM h5 hl (by omega) (by omega) kk)
      · exact lv_tableIn (tgt := 621) hx hb dL_law_32 (by decide) (by decide) rfl (by decide) (L_case_621 C hW hM h5 hl (by omega) (by omega) kk)
      · exact lv_tableIn (tgt := 654) hx hb dL_law_32 (by decide) (by decide) rfl (by decide) (L_case_654 C hW hM h5 hl (by omega) (by omega) kk)
      · exact lv_tableIn (tgt := 697) hx hb dL_law_32 (by decide) (by decide) rfl (by decide) (L_case_697 C hW hM h5 hl (by omega) (by omega) kk)
      · exact lv_tableIn (tgt := 720) hx hb dL_law_32 (by decide) (by decide) rfl (by decide) (L_case_720 C hW hM h5 hl (by omega) (by omega) kk)
      · exact lv_tableIn (tgt := 779) hx hb dL_law_32 (by decide) (by decide) rfl (by decide) (L_case_779 C hW hM h5 hl (by omega) (by omega) kk)
      · exact lv_tableIn (tgt := 812) hx hb dL_law_32 (by decide) (by decide) rfl (by decide) (L_case_812 C hW hM h5 hl (by omega) (by omega) kk)
      · exact lv_tableIn (tgt := 845) hx hb dL_law_32 (by decide) (by decide) rfl (by decide) (L_case_845 C hW hM h5 hl (by omega) (by omega) kk)
      · exact lv_tableIn (tgt := 878) hx hb dL_law_32 (by decide) (by decide) rfl (by decide) (L_case_878 C hW hM h5 hl (by omega) (by omega) kk)
      · exact lv_tableIn (tgt := 932) hx hb dL_law_32 (by decide) (by decide) rfl (by decide) (L_case_932 C hW hM h5 hl (by omega) (by omega) kk)
      · exact lv_tableIn (tgt := 966) hx hb dL_law_32 (by decide) (by decide) rfl (by decide) (L_case_966 C hW hM h5 hl (by omega) (by omega) kk)
      · exact lv_tableIn (tgt := 999) hx hb dL_law_32 (by decide) (by decide) rfl (by decide) (L_case_999 C hW hM h5 hl (by omega) (by omega) kk)
      · exact lv_tableIn (tgt := 1022) hx hb dL_law_32 (by decide) (by decide) rfl (by decide) (L_case_1022 C hW hM h5 hl (by omega) (by omega) kk)
      · exact lv_tableIn (tgt := 1055) hx hb dL_law_32 (by decide) (by decide) rfl (by decide) (L_case_1055 C hW hM h5 hl (by omega) (by omega) kk)
      · exact lv_tableIn (tgt := 1068) hx hb dL_law_32 (by decide) (by decide) rfl (by decide) (L_case_1068 C hW hM h5 hl (by omega) (by omega) kk)
      · exact lv_tableIn (tgt := 1111) hx hb dL_law_32 (by decide) (by decide) rfl (by decide) (L_case_1111 C hW hM h5 hl (by omega) (by omega) kk)
      · exact lv_tableIn (tgt := 1134) hx hb dL_law_32 (by decide) (by decide) rfl (by decide) (L_case_1134 C hW hM h5 hl (by omega) (by omega) kk)
      · exact lv_tableIn (tgt := 1167) hx hb dL_law_32 (by decide) (by decide) rfl (by decide) (L_case_1167 C hW hM h5 hl (by omega) (by omega) kk)
      · exact lv_tableIn (tgt := 1180) hx hb dL_law_32 (by decide) (by decide) rfl (by decide) (L_case_1180 C hW hM h5 hl (by omega) (by omega) kk)
      · exact lv_tableIn (tgt := 1193) hx hb dL_law_32 (by decide) (by decide) rfl (by decide) (L_case_1193 C hW hM h5 hl (by omega) (by omega) kk)
end LAWR
/-- the law comes to its end with true -/
theorem whole_start {p : Program} {e : Env} {s : State} {m : MethodId} {below : List Frame} {meth : Method} {c : Code} (l : Launch) (hflags : l.flags = flags0) {b L : Nat} {xs : Nat → Int32} (hL : L ≤ 2560) (C0 : lw_At p s m meth c b L xs) : W p l e room_1 s m #[Value.ref b] below meth c s.heap [] 0 0 (lw_Z below #[Value.ref b] s) (entryFrame m ([Value.ref b] : List Value).toArray 4) := by
  obtain ⟨D, cs, K, V, hK⟩ := kk_start C0
  obtain ⟨hx, hb, hr, hml, hown, hts, hX, hbl, hlocks, hgv⟩ := id C0
  have hl := lv_entry [Value.ref b] (n := 4) (Nat.le_of_ble_eq_true rfl)
  rw [lg_entry_eq]
  have X0 : Cx (D, cs, s.heap, id, K, V) p m c cL_law 4 s #[Value.ref b] RL := ⟨⟨hx, hb, hml, hown, fun w hw => hts w (gsub hw)⟩, hK id (fun i j _ _ h => h)⟩
  refine L_start X0 ⟨Nat.le_refl _, fun q _ => rfl, fun a e h => (by cases h), fun q h => (by cases h)⟩ hl fun o o2 M1 M2 H locs ls hp1 hN hp2 hM hl => ?_
  obtain ⟨A, hA, rfl, rfl, hW⟩ := W_start hp1 hN hp2
  have C : LwC (D, cs, s.heap, A, K, V) p s m c b L xs := ⟨⟨⟨hx, hb, hml, hown, fun w hw => hts w (gsub hw)⟩, hK A hA⟩, hX, hbl, hA, hL, rfl⟩
  have hM1 : MW (D, cs, s.heap, A, K, V) M2 H locs := hM
  refine lv_iconst (v := 0) hx hb dL_law_16 (by decide) ?_
  refine lv_istore_n (lv' := lawL (D, cs, s.heap, A, K, V) b 0) hx hb dL_law_17 rfl hl (by decide) rfl (fun ls hl => ?_)
  exact L_loop C hr hlocks 513 0 55 3561 M2 H locs ls hW hM1 (Nat.zero_le _) (by omega) hl (by decide) (by decide)
