section STRINGS
variable {g : Gp} {p : Program} {l : Launch} {e : Env} {R : Room} {s : State} {m : MethodId} {args : Array Value} {below : List Frame} {meth : Method} {c : Code} {H : Heap} {locs : List Loc} {cells slots : Nat} {Q : State → Prop}
variable {cc : ByteArray} {nL : Nat} {own : String} {M : Mem} {pc : Nat} {ls : Array Slot} {rest : List Value} {a : Nat}
theorem MW.same (hM : MW g M H locs) : ∀ a : Nat, a < (gH g).size → ¬ gF g a → H[a]? = (gH g)[a]? := fun a ha _ => hM.2.1 a ha
theorem r_scoder {index k : Nat} (X : Cx g p m c cc nL s args own) (hM : MW g M H locs) (hk : k < 10) (hlink : Cond.fieldLink own index "java/lang/String" "coder" "B" ∈ gT) (hdg : decode cc pc = .ok (.getfield index, 3))
    (kk : W p l e R s m args below meth c H locs cells slots Q (F0 m (pc + 3) ls (.int 0 :: rest))) : W p l e R s m args below meth c H locs cells slots Q (F0 m pc ls (.ref (gK g k) :: rest)) := by
  obtain ⟨cf, k9, fi, f, cell, h1, h2, h3, h4, h5, h6⟩ := (X.2.2.2.2.2.2.2.1.1 k hk).2.1.kept hM.same
  exact W.getf X.1.1 X.1.2.1 X.1.2.2.2.1 (X.1.2.2.2.2 _ hlink) h1 h2 h3 h4 (v := .int 0) h5 rfl rfl hdg kk
theorem r_svalue {index k : Nat} (X : Cx g p m c cc nL s args own) (hM : MW g M H locs) (hk : k < 10) (hlink : Cond.fieldLink own index "java/lang/String" "value" "[B" ∈ gT) (hdg : decode cc pc = .ok (.getfield index, 3))
    (kk : W p l e R s m args below meth c H locs cells slots Q (F0 m (pc + 3) ls (.ref (gV g k) :: rest))) : W p l e R s m args below meth c H locs cells slots Q (F0 m pc ls (.ref (gK g k) :: rest)) := by
  obtain ⟨cf, k9, fi, f, cell, h1, h2, h3, h4, h5, h6⟩ := (X.2.2.2.2.2.2.2.1.1 k hk).2.2.1.kept hM.same
  exact W.getf X.1.1 X.1.2.1 X.1.2.2.2.1 (X.1.2.2.2.2 _ hlink) h1 h2 h3 h4 (v := .ref (gV g k)) h5 rfl rfl hdg kk
theorem r_slen {k : Nat} (X : Cx g p m c cc nL s args own) (hM : MW g M H locs) (hk : k < 10) (hdg : decode cc pc = .ok (.arraylength, 1))
    (kk : W p l e R s m args below meth c H locs cells slots Q (F0 m (pc + 1) ls (.int (nI (lenS.getD k 0)) :: rest))) : W p l e R s m args below meth c H locs cells slots Q (F0 m pc ls (.ref (gV g k) :: rest)) := by
  obtain ⟨cell, h1, h2, h3, h4, h5, h6, h7⟩ := (X.2.2.2.2.2.2.2.1.1 k hk).2.2.2.kept hM.same
  exact W.alen (n := Int32.ofNat (lenS.getD k 0)) X.1.1 X.1.2.1 h1 h2 h5 rfl rfl hdg kk
theorem r_sbald {k : Nat} {i : Int32} (X : Cx g p m c cc nL s args own) (hM : MW g M H locs) (hk : k < 10) (hin : vp_in i (lenS.getD k 0)) (hdg : decode cc pc = .ok (.baload, 1))
    (kk : W p l e R s m args below meth c H locs cells slots Q (F0 m (pc + 1) ls (.int ((bytS.getD k []).getD i.toNatClampNeg 0) :: rest))) : W p l e R s m args below meth c H locs cells slots Q (F0 m pc ls (.int i :: .ref (gV g k) :: rest)) := by
  obtain ⟨cell, h1, h2, h3, h4, h5, h6, h7⟩ := (X.2.2.2.2.2.2.2.1.1 k hk).2.2.2.kept hM.same
  have hlt : i.toNatClampNeg < lenS.getD k 0 := Nat.not_le.mp fun q => hin (Or.inr q)
  have hin' : ¬ (i < 0 ∨ cell.slots.size ≤ i.toNatClampNeg) := by
    intro q
    rcases q with q | q
    · exact hin (Or.inl q)
    · omega
  exact W.bald (v := .int ((bytS.getD k []).getD i.toNatClampNeg 0)) X.1.1 X.1.2.1 h1 h2 h3 hin' (h6 _ hlt) rfl rfl hdg kk
theorem r_gcomp {index : Nat} (X : Cx g p m c cc nL s args own) (hM : MW g M H locs) (hlink : Cond.fieldLink own index "java/lang/String" "COMPACT_STRINGS" "Z" ∈ gT) (hdg : decode cc pc = .ok (.getstatic index, 3))
    (kk : W p l e R s m args below meth c H locs cells slots Q (F0 m (pc + 3) ls (.int 1 :: rest))) : W p l e R s m args below meth c H locs cells slots Q (F0 m pc ls rest) := by
  obtain ⟨cf, kf, fi, f, a, cell, h1, h2, h3, h4, h5, h6, h7, h8⟩ := X.2.2.2.2.2.2.2.2.1.kept hM.same
  exact W.gets X.1.1 X.1.2.1 X.1.2.2.2.1 (X.1.2.2.2.2 _ hlink) h1 h2 h3 h4 h5 (fun e => by rw [e] at h6; cases h6) h7 rfl hdg kk
theorem r_gsio {index : Nat} (X : Cx g p m c cc nL s args own) (hM : MW g M H locs) (hlink : Cond.fieldLink own index "jdk/internal/util/Preconditions" "SIOOBE_FORMATTER" "Ljava/util/function/BiFunction;" ∈ gT) (hdg : decode cc pc = .ok (.getstatic index, 3))
    (kk : ∀ w : Option Nat, W p l e R s m args below meth c H locs cells slots Q (F0 m (pc + 3) ls (va_rf w :: rest))) : W p l e R s m args below meth c H locs cells slots Q (F0 m pc ls rest) := by
  have hz : ∃ w : Option Nat, va_Z "jdk/internal/util/Preconditions" "SIOOBE_FORMATTER" "Ljava/util/function/BiFunction;" (va_rf w) (gF g) s H := by
    rcases X.2.2.2.2.2.2.2.2.2.1 with h | ⟨t, h⟩
    · exact ⟨none, h.kept hM.same⟩
    · exact ⟨some t, h.kept hM.same⟩
  obtain ⟨w, cf, kf, fi, f, a, cell, h1, h2, h3, h4, h5, h6, h7, h8⟩ := hz
  exact W.gets X.1.1 X.1.2.1 X.1.2.2.2.1 (X.1.2.2.2.2 _ hlink) h1 h2 h3 h4 h5 (fun e => by rw [e] at h6; cases h6) h7 (by cases w <;> rfl) hdg (kk w)
variable {y : MethodName} {bytes : ByteArray} {maxL mc ms n idx d d' mcR msR : Nat} {ret : Option FieldType} {Qc : Array Value → State → Outcome → State → Prop} {As st0 : List Value}
theorem G_K {k : Nat} (X : Cx g p m c cc nL s args own) (hM : MW g M H locs) (met : Met l y (wsM y bytes maxL ret) (rmD d' mc ms) (Pre g M (.ref (gK g k) :: As)) Qc mc ms (gF g)) (hG : LkV own idx y bytes maxL ret n) (hk : k < 10) (hy : y.cls = "java/lang/String") (hn : As.length = n) (hls : ls.size = nL) (hst : st0 = As.reverse ++ .ref (gK g k) :: rest) (hW : (rest.map fun v => v.category).sum ≤ 8) (hd : d' + 1 ≤ d) (hdg : decode cc pc = .ok (.invokevirtual idx, 3)) (hf : cells + mc ≤ mcR ∧ slots + ms ≤ msR) :
    va_Run p l e (rmD d mcR msR) s m args below meth c H locs cells slots mc ms (F0 m pc ls st0) rest (Qc (Value.ref (gK g k) :: As).toArray) (gF g) := by
  have hr : ∃ cell : Cell, H[gK g k]? = some cell ∧ cell.vm.isStatics = false ∧ s.vm.findClass y.cls = some cell.cls := by
    obtain ⟨cell, h1, h2, h3, -⟩ := (X.2.2.2.2.2.2.2.1.1 k hk).1.kept hM.same
    exact ⟨cell, h1, h2, by rw [hy]; exact h3⟩
  exact va_runV X.1 met (cwV n X.1.2.2.2.2 hG.1 rfl rfl rfl ⟨rfl, hG.2.1⟩ (room_ok hd hG.2.2)) ⟨Pre.blind, hr, fun U hU hw => ⟨rfl, by rw [hU]; exact hM.nil, KK.warm hw X.2⟩⟩ rfl hn hls hst (by show 2 * 0 + _ ≤ 8; omega) hdg hf
end STRINGS
/-- the signs of a constant -/
def chS (k j : Nat) : Int32 := (((bytS.getD k []).getD j 0 &&& 255).toUInt32 % 65536).toInt32
theorem lenS_sh : ∀ k : Nat, k < 10 → nI (lenS.getD k 0) >>> ((0 : Int32) &&& 31) = nI (lenS.getD k 0) := by decide
theorem lenS_le : ∀ k : Nat, k < 10 → lenS.getD k 0 ≤ 6 := by decide
theorem chS_nar : ∀ k : Nat, k < 10 → ∀ j : Nat, j < lenS.getD k 0 → (chS k j).toInt = ((bytS.getD k []).getD j 0).toInt ∧ 0 ≤ (chS k j).toInt ∧ (chS k j).toInt < 128 := by decide
theorem chS_fit : ∀ k : Nat, k < 10 → ∀ j : Nat, j < lenS.getD k 0 → narrow .char (.int (chS k j)) = .int (chS k j) := by decide

theorem lk_J0_335 : LkV RJ0 335 yJ0_coder_7d493 cJ0_coder_7d493 1 (some .byte) 0 := lkV_of q_245 q_246 q_247 q_8 q_248 ⟨by decide, by decide, by decide +kernel⟩ (by decide)
theorem lk_J0_1059 : LkT RJ0 1059 yJ3_checkIndex_8e157 cJ3_checkIndex_8e157 3 (some .int) 3 := lkT_of q_267 q_268 q_10 q_269 ⟨by decide, by decide, by decide +kernel⟩ (by decide)
theorem lk_J1_9 : LkT RJ1 9 yJ0_checkIndex_df160 cJ0_checkIndex_df160 2 none 2 := lkT_of q_262 q_263 q_8 q_264 ⟨by decide, by decide, by decide +kernel⟩ (by decide)
theorem lk_J0_492 : LkV RJ0 492 yJ0_isLatin1_aae02 cJ0_isLatin1_aae02 1 (some .boolean) 0 := lkV_of q_255 q_256 q_257 q_8 q_258 ⟨by decide, by decide, by decide +kernel⟩ (by decide)
theorem lk_J0_495 : LkT RJ0 495 yJ1_charAt_3b067 cJ1_charAt_3b067 2 (some .char) 2 := lkT_of q_259 q_260 q_9 q_261 ⟨by decide, by decide, by decide +kernel⟩ (by decide)
set_option maxHeartbeats 4000000 in
set_option maxRecDepth 100000 in
theorem c_J0_coder_7d493 (l : Launch) (g : Gp) (M : Mem) (k : Nat) (hK : k < 10) : Met l yJ0_coder_7d493 (wsM yJ0_coder_7d493 cJ0_coder_7d493 1 (some .byte)) (rmD 1 0 0) (Pre g M [.ref (gK g k)]) (Qi g (fun r M1 => 0 = r ∧ M = M1)) 0 0 (gF g) := M_start (by decide +kernel) (Nat.le_of_ble_eq_true rfl) fun p e s m args below meth c ls X hr hk hnm hM hl => by
  have X : Cx g p m c cJ0_coder_7d493 1 s args RJ0 := X
  have hx := X.1.1
  have hb := X.1.2.1
  have hl : lv_has ls 1 [(0, .ref (gK g k))] := hl
  refine r_gcomp X hM q_249 dJ0_coder_7d493_0 ?_
  refine lv_if_eq (tgt := 13) hx hb dJ0_coder_7d493_3 (by decide) (fun c_1 => ?_) (fun c_1 => ?_)
  · exact absurd c_1 (by decide)
  · skip
    refine lv_aload_n hx hb dJ0_coder_7d493_6 rfl (lv_at hl 0 rfl) ?_
    refine r_scoder (k := k) X hM hK q_1230 dJ0_coder_7d493_7 ?_
    refine lv_goto (tgt := 14) hx hb dJ0_coder_7d493_10 (by decide) ?_
    exact R_n X hr hk rfl hM ⟨rfl, rfl⟩ dJ0_coder_7d493_14
set_option maxHeartbeats 4000000 in
set_option maxRecDepth 100000 in
theorem c_J0_isLatin1_aae02 (l : Launch) (g : Gp) (M : Mem) (k : Nat) (hK : k < 10) : Met l yJ0_isLatin1_aae02 (wsM yJ0_isLatin1_aae02 cJ0_isLatin1_aae02 1 (some .boolean)) (rmD 1 0 0) (Pre g M [.ref (gK g k)]) (Qi g (fun r M1 => 1 = r ∧ M = M1)) 0 0 (gF g) := M_start (by decide +kernel) (Nat.le_of_ble_eq_true rfl) fun p e s m args below meth c ls X hr hk hnm hM hl => by
  have X : Cx g p m c cJ0_isLatin1_aae02 1 s args RJ0 := X
  have hx := X.1.1
  have hb := X.1.2.1
  have hl : lv_has ls 1 [(0, .ref (gK g k))] := hl
  refine r_gcomp X hM q_249 dJ0_isLatin1_aae02_0 ?_
  refine lv_if_eq (tgt := 17) hx hb dJ0_isLatin1_aae02_3 (by decide) (fun c_1 => ?_) (fun c_1 => ?_)
  · exact absurd c_1 (by decide)
  · skip
    refine lv_aload_n hx hb dJ0_isLatin1_aae02_6 rfl (lv_at hl 0 rfl) ?_
    refine r_scoder (k := k) X hM hK q_1230 dJ0_isLatin1_aae02_7 ?_
    refine lv_if_ne (tgt := 17) hx hb dJ0_isLatin1_aae02_10 (by decide) (fun c_2 => ?_) (fun c_2 => ?_)
    · exact absurd c_2 (by decide)
    · skip
      refine lv_iconst (v := 1) hx hb dJ0_isLatin1_aae02_13 (by decide) ?_
      refine lv_goto (tgt := 18) hx hb dJ0_isLatin1_aae02_14 (by decide) ?_
      exact R_z X hr hk (Or.inr rfl) hM ⟨rfl, rfl⟩ dJ0_isLatin1_aae02_18
set_option maxHeartbeats 4000000 in
set_option maxRecDepth 100000 in
theorem c_J0_length_8abf5 (l : Launch) (g : Gp) (M : Mem) (k : Nat) (hK : k < 10) : Met l yJ0_length_8abf5 (wsM yJ0_length_8abf5 cJ0_length_8abf5 1 (some .int)) (rmD 2 0 0) (Pre g M [.ref (gK g k)]) (Qi g (fun r M1 => (nI (lenS.getD k 0)) = r ∧ M = M1)) 0 0 (gF g) := M_start (by decide +kernel) (Nat.le_of_ble_eq_true rfl) fun p e s m args below meth c ls X hr hk hnm hM hl => by
  have X : Cx g p m c cJ0_length_8abf5 1 s args RJ0 := X
  have hx := X.1.1
  have hb := X.1.2.1
  have hl : lv_has ls 1 [(0, .ref (gK g k))] := hl
  refine lv_aload_n hx hb dJ0_length_8abf5_0 rfl (lv_at hl 0 rfl) ?_
  refine r_svalue (k := k) X hM hK q_1229 dJ0_length_8abf5_1 ?_
  refine r_slen (k := k) X hM hK dJ0_length_8abf5_4 ?_
  refine lv_aload_n hx hb dJ0_length_8abf5_5 rfl (lv_at hl 0 rfl) ?_
  refine K_i (G_K (k := k) (As := []) (rest := [.int (nI (lenS.getD k 0))]) X hM (c_J0_coder_7d493 l g _ k  hK) lk_J0_335 hK rfl rfl hl.1 rfl (Nat.le_of_ble_eq_true rfl) (by decide) dJ0_length_8abf5_6 ⟨Nat.le_of_ble_eq_true rfl, Nat.le_of_ble_eq_true rfl⟩) hM (fun r M1 H locs hM hp => ?_)
  obtain ⟨rfl, rfl⟩ := hp
  refine lv_ishr hx hb dJ0_length_8abf5_9 ?_
  exact R_i X hr hk hM ⟨(lenS_sh k hK).symm, rfl⟩ dJ0_length_8abf5_10
set_option maxHeartbeats 4000000 in
set_option maxRecDepth 100000 in
theorem c_J3_checkIndex_8e157 (l : Launch) (g : Gp) (M : Mem) (i n : Int32) (w : Option Nat) (hi0 : ¬ i < 0) (hin : i < n) : Met l yJ3_checkIndex_8e157 (wsM yJ3_checkIndex_8e157 cJ3_checkIndex_8e157 3 (some .int)) (rmD 1 0 0) (Pre g M [.int i, .int n, va_rf w]) (Qi g (fun r M1 => i = r ∧ M = M1)) 0 0 (gF g) := M_start (by decide +kernel) (by cases w <;>  exact Nat.le_of_ble_eq_true rfl) fun p e s m args below meth c ls X hr hk hnm hM hl => by
  have X : Cx g p m c cJ3_checkIndex_8e157 3 s args RJ3 := X
  have hx := X.1.1
  have hb := X.1.2.1
  have hl : lv_has ls 3 [(0, .int i), (1, .int n), (2, va_rf w)] := hl
  refine lv_iload_n hx hb dJ3_checkIndex_8e157_0 rfl (lv_at hl 0 rfl) ?_
  refine lv_if_lt (tgt := 9) hx hb dJ3_checkIndex_8e157_1 (by decide) (fun c_1 => ?_) (fun c_1 => ?_)
  · skip
    exact absurd c_1 hi0
  · skip
    refine lv_iload_n hx hb dJ3_checkIndex_8e157_4 rfl (lv_at hl 0 rfl) ?_
    refine lv_iload_n hx hb dJ3_checkIndex_8e157_5 rfl (lv_at hl 1 rfl) ?_
    refine lv_icmp_lt (tgt := 16) hx hb dJ3_checkIndex_8e157_6 (by decide) (fun c_2 => ?_) (fun c_2 => ?_)
    · skip
      refine lv_iload_n hx hb dJ3_checkIndex_8e157_16 rfl (lv_at hl 0 rfl) ?_
      exact R_i X hr hk hM ⟨rfl, rfl⟩ dJ3_checkIndex_8e157_17
    · skip
      exact absurd hin c_2
set_option maxHeartbeats 4000000 in
set_option maxRecDepth 100000 in
theorem c_J0_checkIndex_df160 (l : Launch) (g : Gp) (M : Mem) (i n : Int32) (hi0 : ¬ i < 0) (hin : i < n) : Met l yJ0_checkIndex_df160 (wsM yJ0_checkIndex_df160 cJ0_checkIndex_df160 2 none) (rmD 2 0 0) (Pre g M [.int i, .int n]) (Qv g (fun M1 => M = M1)) 0 0 (gF g) := M_start (by decide +kernel) (Nat.le_of_ble_eq_true rfl) fun p e s m args below meth c ls X hr hk hnm hM hl => by
  have X : Cx g p m c cJ0_checkIndex_df160 2 s args RJ0 := X
  have hx := X.1.1
  have hb := X.1.2.1
  have hl : lv_has ls 2 [(0, .int i), (1, .int n)] := hl
  refine lv_iload_n hx hb dJ0_checkIndex_df160_0 rfl (lv_at hl 0 rfl) ?_
  refine lv_iload_n hx hb dJ0_checkIndex_df160_1 rfl (lv_at hl 1 rfl) ?_
  refine r_gsio X hM q_265 dJ0_checkIndex_df160_2 (fun w_1 => ?_)
  refine K_i (G_T (As := [.int i, .int n, va_rf w_1]) (rest := []) X hM (c_J3_checkIndex_8e157 l g _ i n w_1  hi0 hin) lk_J0_1059 rfl hl.1 rfl (Nat.le_of_ble_eq_true rfl) (by decide) dJ0_checkIndex_df160_5 ⟨Nat.le_of_ble_eq_true rfl, Nat.le_of_ble_eq_true rfl⟩) hM (fun r M1 H locs hM hp => ?_)
  obtain ⟨rfl, rfl⟩ := hp
  refine lv_pop hx hb dJ0_checkIndex_df160_8 rfl ?_
  exact R_v X hr hk hM rfl dJ0_checkIndex_df160_9
set_option maxHeartbeats 4000000 in
set_option maxRecDepth 100000 in
theorem c_J1_charAt_3b067 (l : Launch) (g : Gp) (M : Mem) (k j : Nat) (hK : k < 10) (hj : j < lenS.getD k 0) : Met l yJ1_charAt_3b067 (wsM yJ1_charAt_3b067 cJ1_charAt_3b067 2 (some .char)) (rmD 3 0 0) (Pre g M [.ref (gV g k), .int (nI j)]) (Qi g (fun r M1 => (chS k j) = r ∧ M = M1)) 0 0 (gF g) := M_start (by decide +kernel) (Nat.le_of_ble_eq_true rfl) fun p e s m args below meth c ls X hr hk hnm hM hl => by
  have X : Cx g p m c cJ1_charAt_3b067 2 s args RJ1 := X
  have hx := X.1.1
  have hb := X.1.2.1
  have hl : lv_has ls 2 [(0, .ref (gV g k)), (1, .int (nI j))] := hl
  refine lv_iload_n hx hb dJ1_charAt_3b067_0 rfl (lv_at hl 1 rfl) ?_
  refine lv_aload_n hx hb dJ1_charAt_3b067_1 rfl (lv_at hl 0 rfl) ?_
  refine r_slen (k := k) X hM hK dJ1_charAt_3b067_2 ?_
  refine K_v (G_T (As := [.int (nI j), .int (nI (lenS.getD k 0))]) (rest := []) X hM (c_J0_checkIndex_df160 l g _ (nI j) (nI (lenS.getD k 0))  (nI_pos (by have := lenS_le k hK; omega)) (nI_lt hj (by have := lenS_le k hK; omega))) lk_J1_9 rfl hl.1 rfl (Nat.le_of_ble_eq_true rfl) (by decide) dJ1_charAt_3b067_3 ⟨Nat.le_of_ble_eq_true rfl, Nat.le_of_ble_eq_true rfl⟩) hM (fun M1 H locs hM hp => ?_)
  subst hp
  refine lv_aload_n hx hb dJ1_charAt_3b067_6 rfl (lv_at hl 0 rfl) ?_
  refine lv_iload_n hx hb dJ1_charAt_3b067_7 rfl (lv_at hl 1 rfl) ?_
  refine r_sbald (k := k) (i := nI j) X hM hK (vp_in_nI hj (by have := lenS_le k hK; omega)) dJ1_charAt_3b067_8 ?_
  refine lv_sipush (v := 255) hx hb dJ1_charAt_3b067_9 (by decide) ?_
  refine lv_iand hx hb dJ1_charAt_3b067_12 ?_
  refine lv_i2c (v := ((((bytS.getD k []).getD (nI j).toNatClampNeg 0) &&& 255).toUInt32 % 65536).toInt32) hx hb dJ1_charAt_3b067_13 rfl ?_
  exact R_n X hr hk (by rw [nI_clamp (by have := lenS_le k hK; omega)]; exact chS_fit k hK j hj) hM ⟨(by rw [nI_clamp (by have := lenS_le k hK; omega)]; rfl), rfl⟩ dJ1_charAt_3b067_14
set_option maxHeartbeats 4000000 in
set_option maxRecDepth 100000 in
theorem c_J0_charAt_5068e (l : Launch) (g : Gp) (M : Mem) (k j : Nat) (hK : k < 10) (hj : j < lenS.getD k 0) : Met l yJ0_charAt_5068e (wsM yJ0_charAt_5068e cJ0_charAt_5068e 2 (some .char)) (rmD 4 0 0) (Pre g M [.ref (gK g k), .int (nI j)]) (Qi g (fun r M1 => (chS k j) = r ∧ M = M1)) 0 0 (gF g) := M_start (by decide +kernel) (Nat.le_of_ble_eq_true rfl) fun p e s m args below meth c ls X hr hk hnm hM hl => by
  have X : Cx g p m c cJ0_charAt_5068e 2 s args RJ0 := X
  have hx := X.1.1
  have hb := X.1.2.1
  have hl : lv_has ls 2 [(0, .ref (gK g k)), (1, .int (nI j))] := hl
  refine lv_aload_n hx hb dJ0_charAt_5068e_0 rfl (lv_at hl 0 rfl) ?_
  refine K_i (G_K (k := k) (As := []) (rest := []) X hM (c_J0_isLatin1_aae02 l g _ k  hK) lk_J0_492 hK rfl rfl hl.1 rfl (Nat.le_of_ble_eq_true rfl) (by decide) dJ0_charAt_5068e_1 ⟨Nat.le_of_ble_eq_true rfl, Nat.le_of_ble_eq_true rfl⟩) hM (fun r M1 H locs hM hp => ?_)
  obtain ⟨rfl, rfl⟩ := hp
  refine lv_if_eq (tgt := 16) hx hb dJ0_charAt_5068e_4 (by decide) (fun c_1 => ?_) (fun c_1 => ?_)
  · exact absurd c_1 (by decide)
  · skip
    refine lv_aload_n hx hb dJ0_charAt_5068e_7 rfl (lv_at hl 0 rfl) ?_
    refine r_svalue (k := k) X hM hK q_1229 dJ0_charAt_5068e_8 ?_
    refine lv_iload_n hx hb dJ0_charAt_5068e_11 rfl (lv_at hl 1 rfl) ?_
    refine K_i (G_T (As := [.ref (gV g k), .int (nI j)]) (rest := []) X hM (c_J1_charAt_3b067 l g _ k j  hK hj) lk_J0_495 rfl hl.1 rfl (Nat.le_of_ble_eq_true rfl) (by decide) dJ0_charAt_5068e_12 ⟨Nat.le_of_ble_eq_true rfl, Nat.le_of_ble_eq_true rfl⟩) hM (fun r M1 H locs hM hp => ?_)
    obtain ⟨rfl, rfl⟩ := hp
    exact R_n X hr hk (chS_fit k hK j hj) hM ⟨rfl, rfl⟩ dJ0_charAt_5068e_15
