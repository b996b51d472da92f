theorem MW.fresh {g : Gp} {M : Mem} {H : Heap} {locs : List Loc} (h : MW g M H locs) {q : Nat} (e : q = H.size) : M q = none := by
  cases k : M q with
  | none => rfl
  | some x => exact absurd (h.lt k) (by rw [e]; exact Nat.lt_irrefl _)
theorem ne_none {M : Mem} {a b : Nat} {x : va_E} (ha : M a = none) (hb : M b = some x) : b ≠ a := fun e => by
  rw [e, ha] at hb
  cases hb
def StQ (g : Gp) (M : Mem) (w : Option Nat) : Prop := ∀ b, w = some b → ∃ (kd : Nat) (nu v : Int32), kd ≤ 6 ∧ M b = some (starC g kd nu v)
theorem StQ.one {g : Gp} {M : Mem} {b kd : Nat} {nu v : Int32} (h : M b = some (starC g kd nu v)) (hkd : kd ≤ 6) : StQ g M (some b) := fun c e => by
  cases e
  exact ⟨kd, nu, v, hkd, h⟩
theorem StQ.up {g : Gp} {M : Mem} {w : Option Nat} {a : Nat} {x e : va_E} (h : StQ g M w) (ha : M a = some x) (hx : ∀ kd nu v, x ≠ starC g kd nu v) : StQ g (mup M a e) w := fun b hb => by
  obtain ⟨kd, nu, v, h1, h2⟩ := h b hb
  exact ⟨kd, nu, v, h1, mup_r (fun q => hx _ _ _ (Option.some.inj (ha.symm.trans (q ▸ h2)))) h2⟩
theorem r_aastC {g : Gp} {p : Program} {l : Launch} {e : Env} {R : Room} {s : State} {m : MethodId} {args : Array Value} {below : List Frame} {meth : Method} {c : Code} {H : Heap} {locs : List Loc} {cells slots : Nat} {Q : State → Prop} {cc : ByteArray} {nL : Nat} {own : String} {M : Mem} {pc : Nat} {ls : Array Slot} {rest : List Value} {a n b kd : Nat} {nu v : Int32} {f : Nat → Option Nat} {i : Int32} (X : Cx g p m c cc nL s args own) (hM : MW g M H locs) (he : M a = some (aS g n f)) (hb : M b = some (starC g kd nu v)) (hkd : kd ≤ 6) (hin : vp_in i n) (hdg : decode cc pc = .ok (.aastore, 1))
    (kk : ∀ (H1 : Heap) (locs1 : List Loc), MW g (mup M a (aS g n (va_up f i.toNatClampNeg (some b)))) H1 locs1 → W p l e R s m args below meth c H1 locs1 cells slots Q (F0 m (pc + 1) ls rest)) : W p l e R s m args below meth c H locs cells slots Q (F0 m pc ls (.ref b :: .int i :: .ref a :: rest)) := by
  rcases (show kd = 0 ∨ kd = 1 ∨ kd = 2 ∨ kd = 3 ∨ kd = 4 ∨ kd = 5 ∨ kd = 6 by omega) with rfl | rfl | rfl | rfl | rfl | rfl | rfl
  · exact r_aast (ci := 8) X hM he hb rfl (Or.inl rfl) hin hdg kk
  · exact r_aast (ci := 2) X hM he hb rfl (Or.inr (by decide +kernel)) hin hdg kk
  · exact r_aast (ci := 0) X hM he hb rfl (Or.inr (by decide +kernel)) hin hdg kk
  · exact r_aast (ci := 3) X hM he hb rfl (Or.inr (by decide +kernel)) hin hdg kk
  · exact r_aast (ci := 10) X hM he hb rfl (Or.inr (by decide +kernel)) hin hdg kk
  · exact r_aast (ci := 1) X hM he hb rfl (Or.inr (by decide +kernel)) hin hdg kk
  · exact r_aast (ci := 9) X hM he hb rfl (Or.inr (by decide +kernel)) hin hdg kk
theorem r_aastQ {g : Gp} {p : Program} {l : Launch} {e : Env} {R : Room} {s : State} {m : MethodId} {args : Array Value} {below : List Frame} {meth : Method} {c : Code} {H : Heap} {locs : List Loc} {cells slots : Nat} {Q : State → Prop} {cc : ByteArray} {nL : Nat} {own : String} {M : Mem} {pc : Nat} {ls : Array Slot} {rest : List Value} {a n : Nat} {w : Option Nat} {f : Nat → Option Nat} {i : Int32} (X : Cx g p m c cc nL s args own) (hM : MW g M H locs) (he : M a = some (aS g n f)) (hw : StQ g M w) (hin : vp_in i n) (hdg : decode cc pc = .ok (.aastore, 1))
    (kk : ∀ (H1 : Heap) (locs1 : List Loc), MW g (mup M a (aS g n (va_up f i.toNatClampNeg w))) H1 locs1 → W p l e R s m args below meth c H1 locs1 cells slots Q (F0 m (pc + 1) ls rest)) : W p l e R s m args below meth c H locs cells slots Q (F0 m pc ls (va_rf w :: .int i :: .ref a :: rest)) := by
  cases w with
  | none => exact r_aastN X hM he hin hdg kk
  | some b =>
    obtain ⟨kd, nu, v, h1, h2⟩ := hw b rfl
    exact r_aastC X hM he h2 h1 hin hdg kk
def opLi (en : En) (k v r h : Int32) : Int32 := if fIn k 0 6 = 0 then -1 else if fIn v 0 9 = 0 then -2 else if fIn r 1 30 = 0 then -2 else if fIn h 0 29 = 0 then -2 else if eL en < 6 then 0 else -4
def lightM (g : Gp) (M : Mem) (en : En) (a : Nat) (k v r h : Int32) : Mem := mup (mup (mup (mup (mup M a (starC g k.toNatClampNeg (nI (eL en)) v)) (gA g 5) (aS g 6 (va_up (eS en) (eL en) (some a)))) (gA g 6) (aI g 6 (fPut 6 (eRo en) (nI (eL en)) r))) (gA g 7) (aI g 6 (fPut 6 (ePh en) (nI (eL en)) h))) (gA g 3) (roofN g (eNi en) (nI (eL en) + 1) (eSk en) (eHi en))
theorem i32_add_sub (x : Int32) : x + 1 - 1 = x := Int32.toBitVec_inj.mp (by simp)
def fMix (i : Nat) (k f : Nat → Option Nat) : Nat → Option Nat := fun q => if q < i then k q else f q
theorem fMix_0 (k f : Nat → Option Nat) : fMix 0 k f = f := funext fun q => if_neg (Nat.not_lt_zero q)
theorem fMix_s (i : Nat) (k f : Nat → Option Nat) : va_up (fMix i k f) i (k i) = fMix (i + 1) k f := by
  funext q
  unfold va_up fMix
  by_cases h : q = i
  · subst h
    rw [if_pos rfl, if_pos (Nat.lt_succ_self _)]
  · rw [if_neg h]
    by_cases h2 : q < i
    · rw [if_pos h2, if_pos (by omega)]
    · rw [if_neg h2, if_neg (by omega)]

theorem lk_X2_1 : LkI RX2 1 yX8_init cX8_init 5 4 := lkI_of q_359 q_360 q_13 q_361 rfl ⟨by decide, by decide, by decide +kernel⟩ (by decide)
theorem lk_X0_1 : LkI RX0 1 yX8_init cX8_init 5 4 := lkI_of q_409 q_360 q_13 q_361 rfl ⟨by decide, by decide, by decide +kernel⟩ (by decide)
theorem lk_X3_1 : LkI RX3 1 yX8_init cX8_init 5 4 := lkI_of q_420 q_360 q_13 q_361 rfl ⟨by decide, by decide, by decide +kernel⟩ (by decide)
theorem lk_X10_1 : LkI RX10 1 yX2_init cX2_init 5 4 := lkI_of q_431 q_357 q_14 q_358 rfl ⟨by decide, by decide, by decide +kernel⟩ (by decide)
theorem lk_X1_1 : LkI RX1 1 yX0_init cX0_init 5 4 := lkI_of q_442 q_407 q_15 q_408 rfl ⟨by decide, by decide, by decide +kernel⟩ (by decide)
theorem lk_X9_1 : LkI RX9 1 yX3_init cX3_init 5 4 := lkI_of q_453 q_418 q_16 q_419 rfl ⟨by decide, by decide, by decide +kernel⟩ (by decide)
theorem lk_X11_259 : LkI RX11 259 yX2_init cX2_init 5 4 := lkI_of q_356 q_357 q_14 q_358 rfl ⟨by decide, by decide, by decide +kernel⟩ (by decide)
theorem lk_X11_264 : LkI RX11 264 yX0_init cX0_init 5 4 := lkI_of q_406 q_407 q_15 q_408 rfl ⟨by decide, by decide, by decide +kernel⟩ (by decide)
theorem lk_X11_267 : LkI RX11 267 yX3_init cX3_init 5 4 := lkI_of q_417 q_418 q_16 q_419 rfl ⟨by decide, by decide, by decide +kernel⟩ (by decide)
theorem lk_X11_270 : LkI RX11 270 yX10_init cX10_init 5 4 := lkI_of q_428 q_429 q_17 q_430 rfl ⟨by decide, by decide, by decide +kernel⟩ (by decide)
theorem lk_X11_273 : LkI RX11 273 yX1_init cX1_init 5 4 := lkI_of q_439 q_440 q_18 q_441 rfl ⟨by decide, by decide, by decide +kernel⟩ (by decide)
theorem lk_X11_276 : LkI RX11 276 yX9_init cX9_init 5 4 := lkI_of q_450 q_451 q_19 q_452 rfl ⟨by decide, by decide, by decide +kernel⟩ (by decide)
theorem lk_X11_277 : LkI RX11 277 yX8_init cX8_init 5 4 := lkI_of q_461 q_360 q_13 q_361 rfl ⟨by decide, by decide, by decide +kernel⟩ (by decide)
theorem lk_X4_79 : LkN RX4 79 yX11_put RX11 cX11_put 3 none 3 := lkNS_of (by decide +kernel) q_326 q_1 q_327 ⟨by decide, by decide, by decide +kernel⟩ (by decide)
theorem lk_X11_90 : LkV RX11 90 yX11_newStar cX11_newStar 4 (some (.object "StarCustody$Star")) 3 := lkV_of q_350 q_352 qs_4 q_1 q_353 ⟨by decide, by decide, by decide +kernel⟩ (by decide)
theorem lk_X11_94 : LkV RX11 94 yX4_come cX4_come 5 none 3 := lkV_of q_467 q_468 q_469 q_4 q_470 ⟨by decide, by decide, by decide +kernel⟩ (by decide)
set_option maxHeartbeats 4000000 in
set_option maxRecDepth 100000 in
theorem c_X8_init_k0 (l : Launch) (g : Gp) (M : Mem) (o : Nat) (kn nu v : Int32) (h_o : M o = some (.inr (8, [.int 0, .int 0, .int 0, .null]))) : Met l yX8_init (wsM yX8_init cX8_init 5 none) (rmD 2 0 0) (Pre g M [.ref o, .int kn, .int nu, .int v, .ref (gA g 1)]) (Qv g (fun M1 => mup M o (starE0 g kn nu v) = M1)) 0 0 (gF g) := M_start (by decide +kernel) (Nat.le_of_ble_eq_true rfl) fun p e s m args below meth c ls X hr hk hnm hM hl => by
  have X : Cx g p m c cX8_init 5 s args RX8 := X
  have hx := X.1.1
  have hb := X.1.2.1
  have hl : lv_has ls 5 [(0, .ref o), (1, .int kn), (2, .int nu), (3, .int v), (4, .ref (gA g 1))] := hl
  refine lv_aload_n hx hb dX8_init_0 rfl (lv_at hl 0 rfl) ?_
  refine r_objI X hl.1 q_362 q_27 q_28 (by decide) (Nat.le_of_ble_eq_true rfl) dX8_init_1 ?_
  refine lv_aload_n hx hb dX8_init_4 rfl (lv_at hl 0 rfl) ?_
  refine lv_iload_n hx hb dX8_init_5 rfl (lv_at hl 1 rfl) ?_
  refine r_put (T := TX8) (N := 4) (ci := 8) X hM iX8 tyX8 tyX8_ok nmX8 rfl 0 (by decide) q_363 rfl (Or.inr ⟨hnm, rfl⟩) h_o rfl rfl (Nat.le_of_ble_eq_true rfl) dX8_init_6 (fun H locs hM => ?_)
  have hM : MW g (mup M o (.inr (8, [.int kn, .int 0, .int 0, .null]))) H locs := hM
  refine lv_aload_n hx hb dX8_init_9 rfl (lv_at hl 0 rfl) ?_
  refine lv_iload_n hx hb dX8_init_10 rfl (lv_at hl 2 rfl) ?_
  refine r_put (T := TX8) (N := 4) (ci := 8) X hM iX8 tyX8 tyX8_ok nmX8 rfl 1 (by decide) q_366 rfl (Or.inr ⟨hnm, rfl⟩) (mup_s _ _ _) rfl rfl (Nat.le_of_ble_eq_true rfl) dX8_init_11 (fun H locs hM => ?_)
  rw [mup_i] at hM
  have hM : MW g (mup M o (.inr (8, [.int kn, .int nu, .int 0, .null]))) H locs := hM
  refine lv_aload_n hx hb dX8_init_14 rfl (lv_at hl 0 rfl) ?_
  refine lv_iload_n hx hb dX8_init_15 rfl (lv_at hl 3 rfl) ?_
  refine r_put (T := TX8) (N := 4) (ci := 8) X hM iX8 tyX8 tyX8_ok nmX8 rfl 2 (by decide) q_372 rfl (Or.inr ⟨hnm, rfl⟩) (mup_s _ _ _) rfl rfl (Nat.le_of_ble_eq_true rfl) dX8_init_16 (fun H locs hM => ?_)
  rw [mup_i] at hM
  have hM : MW g (mup M o (.inr (8, [.int kn, .int nu, .int v, .null]))) H locs := hM
  refine lv_aload_n hx hb dX8_init_19 rfl (lv_at hl 0 rfl) ?_
  refine lv_aload hx hb dX8_init_20 (lv_at hl 4 rfl) ?_
  refine r_put (T := TX8) (N := 4) (ci := 8) X hM iX8 tyX8 tyX8_ok nmX8 rfl 3 (by decide) q_382 rfl (Or.inr ⟨hnm, rfl⟩) (mup_s _ _ _) rfl rfl (Nat.le_of_ble_eq_true rfl) dX8_init_22 (fun H locs hM => ?_)
  rw [mup_i] at hM
  have hM : MW g (mup M o (.inr (8, [.int kn, .int nu, .int v, .ref (gA g 1)]))) H locs := hM
  exact R_v X hr hk hM rfl dX8_init_25
set_option maxHeartbeats 4000000 in
set_option maxRecDepth 100000 in
theorem c_X8_init_k1 (l : Launch) (g : Gp) (M : Mem) (o : Nat) (kn nu v : Int32) (h_o : M o = some (.inr (2, [.int 0, .int 0, .int 0, .null]))) : Met l yX8_init (wsM yX8_init cX8_init 5 none) (rmD 2 0 0) (Pre g M [.ref o, .int kn, .int nu, .int v, .ref (gA g 1)]) (Qv g (fun M1 => mup M o (starE1 g kn nu v) = M1)) 0 0 (gF g) := M_start (by decide +kernel) (Nat.le_of_ble_eq_true rfl) fun p e s m args below meth c ls X hr hk hnm hM hl => by
  have X : Cx g p m c cX8_init 5 s args RX8 := X
  have hx := X.1.1
  have hb := X.1.2.1
  have hl : lv_has ls 5 [(0, .ref o), (1, .int kn), (2, .int nu), (3, .int v), (4, .ref (gA g 1))] := hl
  refine lv_aload_n hx hb dX8_init_0 rfl (lv_at hl 0 rfl) ?_
  refine r_objI X hl.1 q_362 q_27 q_28 (by decide) (Nat.le_of_ble_eq_true rfl) dX8_init_1 ?_
  refine lv_aload_n hx hb dX8_init_4 rfl (lv_at hl 0 rfl) ?_
  refine lv_iload_n hx hb dX8_init_5 rfl (lv_at hl 1 rfl) ?_
  refine r_put (T := TX2) (N := 4) (ci := 2) X hM iX2 tyX2 tyX2_ok nmX2 rfl 0 (by decide) q_363 rfl (Or.inr ⟨hnm, rfl⟩) h_o rfl rfl (Nat.le_of_ble_eq_true rfl) dX8_init_6 (fun H locs hM => ?_)
  have hM : MW g (mup M o (.inr (2, [.int kn, .int 0, .int 0, .null]))) H locs := hM
  refine lv_aload_n hx hb dX8_init_9 rfl (lv_at hl 0 rfl) ?_
  refine lv_iload_n hx hb dX8_init_10 rfl (lv_at hl 2 rfl) ?_
  refine r_put (T := TX2) (N := 4) (ci := 2) X hM iX2 tyX2 tyX2_ok nmX2 rfl 1 (by decide) q_366 rfl (Or.inr ⟨hnm, rfl⟩) (mup_s _ _ _) rfl rfl (Nat.le_of_ble_eq_true rfl) dX8_init_11 (fun H locs hM => ?_)
  rw [mup_i] at hM
  have hM : MW g (mup M o (.inr (2, [.int kn, .int nu, .int 0, .null]))) H locs := hM
  refine lv_aload_n hx hb dX8_init_14 rfl (lv_at hl 0 rfl) ?_
  refine lv_iload_n hx hb dX8_init_15 rfl (lv_at hl 3 rfl) ?_
  refine r_put (T := TX2) (N := 4) (ci := 2) X hM iX2 tyX2 tyX2_ok nmX2 rfl 2 (by decide) q_372 rfl (Or.inr ⟨hnm, rfl⟩) (mup_s _ _ _) rfl rfl (Nat.le_of_ble_eq_true rfl) dX8_init_16 (fun H locs hM => ?_)
  rw [mup_i] at hM
  have hM : MW g (mup M o (.inr (2, [.int kn, .int nu, .int v, .null]))) H locs := hM
  refine lv_aload_n hx hb dX8_init_19 rfl (lv_at hl 0 rfl) ?_
  refine lv_aload hx hb dX8_init_20 (lv_at hl 4 rfl) ?_
  refine r_put (T := TX2) (N := 4) (ci := 2) X hM iX2 tyX2 tyX2_ok nmX2 rfl 3 (by decide) q_382 rfl (Or.inr ⟨hnm, rfl⟩) (mup_s _ _ _) rfl rfl (Nat.le_of_ble_eq_true rfl) dX8_init_22 (fun H locs hM => ?_)
  rw [mup_i] at hM
  have hM : MW g (mup M o (.inr (2, [.int kn, .int nu, .int v, .ref (gA g 1)]))) H locs := hM
  exact R_v X hr hk hM rfl dX8_init_25
set_option maxHeartbeats 4000000 in
set_option maxRecDepth 100000 in
theorem c_X2_init_k1 (l : Launch) (g : Gp) (M : Mem) (o : Nat) (kn nu v : Int32) (h_o : M o = some (.inr (2, [.int 0, .int 0, .int 0, .null]))) : Met l yX2_init (wsM yX2_init cX2_init 5 none) (rmD 3 0 0) (Pre g M [.ref o, .int kn, .int nu, .int v, .ref (gA g 1)]) (Qv g (fun M1 => mup M o (starE1 g kn nu v) = M1)) 0 0 (gF g) := M_start (by decide +kernel) (Nat.le_of_ble_eq_true rfl) fun p e s m args below meth c ls X hr hk hnm hM hl => by
  have X : Cx g p m c cX2_init 5 s args RX2 := X
  have hx := X.1.1
  have hb := X.1.2.1
  have hl : lv_has ls 5 [(0, .ref o), (1, .int kn), (2, .int nu), (3, .int v), (4, .ref (gA g 1))] := hl
  refine lv_aload_n hx hb dX2_init_0 rfl (lv_at hl 0 rfl) ?_
  refine lv_iload_n hx hb dX2_init_1 rfl (lv_at hl 1 rfl) ?_
  refine lv_iload_n hx hb dX2_init_2 rfl (lv_at hl 2 rfl) ?_
  refine lv_iload_n hx hb dX2_init_3 rfl (lv_at hl 3 rfl) ?_
  refine lv_aload hx hb dX2_init_4 (lv_at hl 4 rfl) ?_
  refine K_v (G_I (As := [.int kn, .int nu, .int v, .ref (gA g 1)]) (rest := []) X hM (c_X8_init_k1 l g _ o kn nu v h_o ) lk_X2_1 rfl hl.1 rfl (Nat.le_of_ble_eq_true rfl) (by decide) dX2_init_6 ⟨Nat.le_of_ble_eq_true rfl, Nat.le_of_ble_eq_true rfl⟩) hM (fun M1 H locs hM hp => ?_)
  subst hp
  have hM : MW g (mup M o (starE1 g kn nu v)) H locs := hM
  exact R_v X hr hk hM rfl dX2_init_9
set_option maxHeartbeats 4000000 in
set_option maxRecDepth 100000 in
theorem c_X8_init_k2 (l : Launch) (g : Gp) (M : Mem) (o : Nat) (kn nu v : Int32) (h_o : M o = some (.inr (0, [.int 0, .int 0, .int 0, .null]))) : Met l yX8_init (wsM yX8_init cX8_init 5 none) (rmD 2 0 0) (Pre g M [.ref o, .int kn, .int nu, .int v, .ref (gA g 1)]) (Qv g (fun M1 => mup M o (starE2 g kn nu v) = M1)) 0 0 (gF g) := M_start (by decide +kernel) (Nat.le_of_ble_eq_true rfl) fun p e s m args below meth c ls X hr hk hnm hM hl => by
  have X : Cx g p m c cX8_init 5 s args RX8 := X
  have hx := X.1.1
  have hb := X.1.2.1
  have hl : lv_has ls 5 [(0, .ref o), (1, .int kn), (2, .int nu), (3, .int v), (4, .ref (gA g 1))] := hl
  refine lv_aload_n hx hb dX8_init_0 rfl (lv_at hl 0 rfl) ?_
  refine r_objI X hl.1 q_362 q_27 q_28 (by decide) (Nat.le_of_ble_eq_true rfl) dX8_init_1 ?_
  refine lv_aload_n hx hb dX8_init_4 rfl (lv_at hl 0 rfl) ?_
  refine lv_iload_n hx hb dX8_init_5 rfl (lv_at hl 1 rfl) ?_
  refine r_put (T := TX0) (N := 4) (ci := 0) X hM iX0 tyX0 tyX0_ok nmX0 rfl 0 (by decide) q_363 rfl (Or.inr ⟨hnm, rfl⟩) h_o rfl rfl (Nat.le_of_ble_eq_true rfl) dX8_init_6 (fun H locs hM => ?_)
  have hM : MW g (mup M o (.inr (0, [.int kn, .int 0, .int 0, .null]))) H locs := hM
  refine lv_aload_n hx hb dX8_init_9 rfl (lv_at hl 0 rfl) ?_
  refine lv_iload_n hx hb dX8_init_10 rfl (lv_at hl 2 rfl) ?_
  refine r_put (T := TX0) (N := 4) (ci := 0) X hM iX0 tyX0 tyX0_ok nmX0 rfl 1 (by decide) q_366 rfl (Or.inr ⟨hnm, rfl⟩) (mup_s _ _ _) rfl rfl (Nat.le_of_ble_eq_true rfl) dX8_init_11 (fun H locs hM => ?_)
  rw [mup_i] at hM
  have hM : MW g (mup M o (.inr (0, [.int kn, .int nu, .int 0, .null]))) H locs := hM
  refine lv_aload_n hx hb dX8_init_14 rfl (lv_at hl 0 rfl) ?_
  refine lv_iload_n hx hb dX8_init_15 rfl (lv_at hl 3 rfl) ?_
  refine r_put (T := TX0) (N := 4) (ci := 0) X hM iX0 tyX0 tyX0_ok nmX0 rfl 2 (by decide) q_372 rfl (Or.inr ⟨hnm, rfl⟩) (mup_s _ _ _) rfl rfl (Nat.le_of_ble_eq_true rfl) dX8_init_16 (fun H locs hM => ?_)
  rw [mup_i] at hM
  have hM : MW g (mup M o (.inr (0, [.int kn, .int nu, .int v, .null]))) H locs := hM
  refine lv_aload_n hx hb dX8_init_19 rfl (lv_at hl 0 rfl) ?_
  refine lv_aload hx hb dX8_init_20 (lv_at hl 4 rfl) ?_
  refine r_put (T := TX0) (N := 4) (ci := 0) X hM iX0 tyX0 tyX0_ok nmX0 rfl 3 (by decide) q_382 rfl (Or.inr ⟨hnm, rfl⟩) (mup_s _ _ _) rfl rfl (Nat.le_of_ble_eq_true rfl) dX8_init_22 (fun H locs hM => ?_)
  rw [mup_i] at hM
  have hM : MW g (mup M o (.inr (0, [.int kn, .int nu, .int v, .ref (gA g 1)]))) H locs := hM
  exact R_v X hr hk hM rfl dX8_init_25
set_option maxHeartbeats 4000000 in
set_option maxRecDepth 100000 in
theorem c_X0_init_k2 (l : Launch) (g : Gp) (M : Mem) (o : Nat) (kn nu v : Int32) (h_o : M o = some (.inr (0, [.int 0, .int 0, .int 0, .null]))) : Met l yX0_init (wsM yX0_init cX0_init 5 none) (rmD 3 0 0) (Pre g M [.ref o, .int kn, .int nu, .int v, .ref (gA g 1)]) (Qv g (fun M1 => mup M o (starE2 g kn nu v) = M1)) 0 0 (gF g) := M_start (by decide +kernel) (Nat.le_of_ble_eq_true rfl) fun p e s m args below meth c ls X hr hk hnm hM hl => by
  have X : Cx g p m c cX0_init 5 s args RX0 := X
  have hx := X.1.1
  have hb := X.1.2.1
  have hl : lv_has ls 5 [(0, .ref o), (1, .int kn), (2, .int nu), (3, .int v), (4, .ref (gA g 1))] := hl
  refine lv_aload_n hx hb dX0_init_0 rfl (lv_at hl 0 rfl) ?_
  refine lv_iload_n hx hb dX0_init_1 rfl (lv_at hl 1 rfl) ?_
  refine lv_iload_n hx hb dX0_init_2 rfl (lv_at hl 2 rfl) ?_
  refine lv_iload_n hx hb dX0_init_3 rfl (lv_at hl 3 rfl) ?_
  refine lv_aload hx hb dX0_init_4 (lv_at hl 4 rfl) ?_
  refine K_v (G_I (As := [.int kn, .int nu, .int v, .ref (gA g 1)]) (rest := []) X hM (c_X8_init_k2 l g _ o kn nu v h_o ) lk_X0_1 rfl hl.1 rfl (Nat.le_of_ble_eq_true rfl) (by decide) dX0_init_6 ⟨Nat.le_of_ble_eq_true rfl, Nat.le_of_ble_eq_true rfl⟩) hM (fun M1 H locs hM hp => ?_)
  subst hp
  have hM : MW g (mup M o (starE2 g kn nu v)) H locs := hM
  exact R_v X hr hk hM rfl dX0_init_9
set_option maxHeartbeats 4000000 in
set_option maxRecDepth 100000 in
theorem c_X8_init_k3 (l : Launch) (g : Gp) (M : Mem) (o : Nat) (kn nu v : Int32) (h_o : M o = some (.inr (3, [.int 0, .int 0, .int 0, .null]))) : Met l yX8_init (wsM yX8_init cX8_init 5 none) (rmD 2 0 0) (Pre g M [.ref o, .int kn, .int nu, .int v, .ref (gA g 1)]) (Qv g (fun M1 => mup M o (starE3 g kn nu v) = M1)) 0 0 (gF g) := M_start (by decide +kernel) (Nat.le_of_ble_eq_true rfl) fun p e s m args below meth c ls X hr hk hnm hM hl => by
  have X : Cx g p m c cX8_init 5 s args RX8 := X
  have hx := X.1.1
  have hb := X.1.2.1
  have hl : lv_has ls 5 [(0, .ref o), (1, .int kn), (2, .int nu), (3, .int v), (4, .ref (gA g 1))] := hl
  refine lv_aload_n hx hb dX8_init_0 rfl (lv_at hl 0 rfl) ?_
  refine r_objI X hl.1 q_362 q_27 q_28 (by decide) (Nat.le_of_ble_eq_true rfl) dX8_init_1 ?_
  refine lv_aload_n hx hb dX8_init_4 rfl (lv_at hl 0 rfl) ?_
  refine lv_iload_n hx hb dX8_init_5 rfl (lv_at hl 1 rfl) ?_
  refine r_put (T := TX3) (N := 4) (ci := 3) X hM iX3 tyX3 tyX3_ok nmX3 rfl 0 (by decide) q_363 rfl (Or.inr ⟨hnm, rfl⟩) h_o rfl rfl (Nat.le_of_ble_eq_true rfl) dX8_init_6 (fun H locs hM => ?_)
  have hM : MW g (mup M o (.inr (3, [.int kn, .int 0, .int 0, .null]))) H locs := hM
  refine lv_aload_n hx hb dX8_init_9 rfl (lv_at hl 0 rfl) ?_
  refine lv_iload_n hx hb dX8_init_10 rfl (lv_at hl 2 rfl) ?_
  refine r_put (T := TX3) (N := 4) (ci := 3) X hM iX3 tyX3 tyX3_ok nmX3 rfl 1 (by decide) q_366 rfl (Or.inr ⟨hnm, rfl⟩) (mup_s _ _ _) rfl rfl (Nat.le_of_ble_eq_true rfl) dX8_init_11 (fun H locs hM => ?_)
  rw [mup_i] at hM
  have hM : MW g (mup M o (.inr (3, [.int kn, .int nu, .int 0, .null]))) H locs := hM
  refine lv_aload_n hx hb dX8_init_14 rfl (lv_at hl 0 rfl) ?_
  refine lv_iload_n hx hb dX8_init_15 rfl (lv_at hl 3 rfl) ?_
  refine r_put (T := TX3) (N := 4) (ci := 3) X hM iX3 tyX3 tyX3_ok nmX3 rfl 2 (by decide) q_372 rfl (Or.inr ⟨hnm, rfl⟩) (mup_s _ _ _) rfl rfl (Nat.le_of_ble_eq_true rfl) dX8_init_16 (fun H locs hM => ?_)
  rw [mup_i] at hM
  have hM : MW g (mup M o (.inr (3, [.int kn, .int nu, .int v, .null]))) H locs := hM
  refine lv_aload_n hx hb dX8_init_19 rfl (lv_at hl 0 rfl) ?_
  refine lv_aload hx hb dX8_init_20 (lv_at hl 4 rfl) ?_
  refine r_put (T := TX3) (N := 4) (ci := 3) X hM iX3 tyX3 tyX3_ok nmX3 rfl 3 (by decide) q_382 rfl (Or.inr ⟨hnm, rfl⟩) (mup_s _ _ _) rfl rfl (Nat.le_of_ble_eq_true rfl) dX8_init_22 (fun H locs hM => ?_)
  rw [mup_i] at hM
  have hM : MW g (mup M o (.inr (3, [.int kn, .int nu, .int v, .ref (gA g 1)]))) H locs := hM
  exact R_v X hr hk hM rfl dX8_init_25
set_option maxHeartbeats 4000000 in
set_option maxRecDepth 100000 in
theorem c_X3_init_k3 (l : Launch) (g : Gp) (M : Mem) (o : Nat) (kn nu v : Int32) (h_o : M o = some (.inr (3, [.int 0, .int 0, .int 0, .null]))) : Met l yX3_init (wsM yX3_init cX3_init 5 none) (rmD 3 0 0) (Pre g M [.ref o, .int kn, .int nu, .int v, .ref (gA g 1)]) (Qv g (fun M1 => mup M o (starE3 g kn nu v) = M1)) 0 0 (gF g) := M_start (by decide +kernel) (Nat.le_of_ble_eq_true rfl) fun p e s m args below meth c ls X hr hk hnm hM hl => by
  have X : Cx g p m c cX3_init 5 s args RX3 := X
  have hx := X.1.1
  have hb := X.1.2.1
  have hl : lv_has ls 5 [(0, .ref o), (1, .int kn), (2, .int nu), (3, .int v), (4, .ref (gA g 1))] := hl
  refine lv_aload_n hx hb dX3_init_0 rfl (lv_at hl 0 rfl) ?_
  refine lv_iload_n hx hb dX3_init_1 rfl (lv_at hl 1 rfl) ?_
  refine lv_iload_n hx hb dX3_init_2 rfl (lv_at hl 2 rfl) ?_
  refine lv_iload_n hx hb dX3_init_3 rfl (lv_at hl 3 rfl) ?_
  refine lv_aload hx hb dX3_init_4 (lv_at hl 4 rfl) ?_
  refine K_v (G_I (As := [.int kn, .int nu, .int v, .ref (gA g 1)]) (rest := []) X hM (c_X8_init_k3 l g _ o kn nu v h_o ) lk_X3_1 rfl hl.1 rfl (Nat.le_of_ble_eq_true rfl) (by decide) dX3_init_6 ⟨Nat.le_of_ble_eq_true rfl, Nat.le_of_ble_eq_true rfl⟩) hM (fun M1 H locs hM hp => ?_)
  subst hp
  have hM : MW g (mup M o (starE3 g kn nu v)) H locs := hM
  exact R_v X hr hk hM rfl dX3_init_9
set_option maxHeartbeats 4000000 in
set_option maxRecDepth 100000 in
theorem c_X8_init_k4 (l : Launch) (g : Gp) (M : Mem) (o : Nat) (kn nu v : Int32) (h_o : M o = some (.inr (10, [.int 0, .int 0, .int 0, .null]))) : Met l yX8_init (wsM yX8_init cX8_init 5 none) (rmD 2 0 0) (Pre g M [.ref o, .int kn, .int nu, .int v, .ref (gA g 1)]) (Qv g (fun M1 => mup M o (starE4 g kn nu v) = M1)) 0 0 (gF g) := M_start (by decide +kernel) (Nat.le_of_ble_eq_true rfl) fun p e s m args below meth c ls X hr hk hnm hM hl => by
  have X : Cx g p m c cX8_init 5 s args RX8 := X
  have hx := X.1.1
  have hb := X.1.2.1
  have hl : lv_has ls 5 [(0, .ref o), (1, .int kn), (2, .int nu), (3, .int v), (4, .ref (gA g 1))] := hl
  refine lv_aload_n hx hb dX8_init_0 rfl (lv_at hl 0 rfl) ?_
  refine r_objI X hl.1 q_362 q_27 q_28 (by decide) (Nat.le_of_ble_eq_true rfl) dX8_init_1 ?_
  refine lv_aload_n hx hb dX8_init_4 rfl (lv_at hl 0 rfl) ?_
  refine lv_iload_n hx hb dX8_init_5 rfl (lv_at hl 1 rfl) ?_
  refine r_put (T := TX10) (N := 4) (ci := 10) X hM iX10 tyX10 tyX10_ok nmX10 rfl 0 (by decide) q_363 rfl (Or.inr ⟨hnm, rfl⟩) h_o rfl rfl (Nat.le_of_ble_eq_true rfl) dX8_init_6 (fun H locs hM => ?_)
  have hM : MW g (mup M o (.inr (10, [.int kn, .int 0, .int 0, .null]))) H locs := hM
  refine lv_aload_n hx hb dX8_init_9 rfl (lv_at hl 0 rfl) ?_
  refine lv_iload_n hx hb dX8_init_10 rfl (lv_at hl 2 rfl) ?_
  refine r_put (T := TX10) (N := 4) (ci := 10) X hM iX10 tyX10 tyX10_ok nmX10 rfl 1 (by decide) q_366 rfl (Or.inr ⟨hnm, rfl⟩) (mup_s _ _ _) rfl rfl (Nat.le_of_ble_eq_true rfl) dX8_init_11 (fun H locs hM => ?_)
  rw [mup_i] at hM
  have hM : MW g (mup M o (.inr (10, [.int kn, .int nu, .int 0, .null]))) H locs := hM
  refine lv_aload_n hx hb dX8_init_14 rfl (lv_at hl 0 rfl) ?_
  refine lv_iload_n hx hb dX8_init_15 rfl (lv_at hl 3 rfl) ?_
  refine r_put (T := TX10) (N := 4) (ci := 10) X hM iX10 tyX10 tyX10_ok nmX10 rfl 2 (by decide) q_372 rfl (Or.inr ⟨hnm, rfl⟩) (mup_s _ _ _) rfl rfl (Nat.le_of_ble_eq_true rfl) dX8_init_16 (fun H locs hM => ?_)
  rw [mup_i] at hM
  have hM : MW g (mup M o (.inr (10, [.int kn, .int nu, .int v, .null]))) H locs := hM
  refine lv_aload_n hx hb dX8_init_19 rfl (lv_at hl 0 rfl) ?_
  refine lv_aload hx hb dX8_init_20 (lv_at hl 4 rfl) ?_
  refine r_put (T := TX10) (N := 4) (ci := 10) X hM iX10 tyX10 tyX10_ok nmX10 rfl 3 (by decide) q_382 rfl (Or.inr ⟨hnm, rfl⟩) (mup_s _ _ _) rfl rfl (Nat.le_of_ble_eq_true rfl) dX8_init_22 (fun H locs hM => ?_)
  rw [mup_i] at hM
  have hM : MW g (mup M o (.inr (10, [.int kn, .int nu, .int v, .ref (gA g 1)]))) H locs := hM
  exact R_v X hr hk hM rfl dX8_init_25
set_option maxHeartbeats 4000000 in
set_option maxRecDepth 100000 in
theorem c_X2_init_k4 (l : Launch) (g : Gp) (M : Mem) (o : Nat) (kn nu v : Int32) (h_o : M o = some (.inr (10, [.int 0, .int 0, .int 0, .null]))) : Met l yX2_init (wsM yX2_init cX2_init 5 none) (rmD 3 0 0) (Pre g M [.ref o, .int kn, .int nu, .int v, .ref (gA g 1)]) (Qv g (fun M1 => mup M o (starE4 g kn nu v) = M1)) 0 0 (gF g) := M_start (by decide +kernel) (Nat.le_of_ble_eq_true rfl) fun p e s m args below meth c ls X hr hk hnm hM hl => by
  have X : Cx g p m c cX2_init 5 s args RX2 := X
  have hx := X.1.1
  have hb := X.1.2.1
  have hl : lv_has ls 5 [(0, .ref o), (1, .int kn), (2, .int nu), (3, .int v), (4, .ref (gA g 1))] := hl
  refine lv_aload_n hx hb dX2_init_0 rfl (lv_at hl 0 rfl) ?_
  refine lv_iload_n hx hb dX2_init_1 rfl (lv_at hl 1 rfl) ?_
  refine lv_iload_n hx hb dX2_init_2 rfl (lv_at hl 2 rfl) ?_
  refine lv_iload_n hx hb dX2_init_3 rfl (lv_at hl 3 rfl) ?_
  refine lv_aload hx hb dX2_init_4 (lv_at hl 4 rfl) ?_
  refine K_v (G_I (As := [.int kn, .int nu, .int v, .ref (gA g 1)]) (rest := []) X hM (c_X8_init_k4 l g _ o kn nu v h_o ) lk_X2_1 rfl hl.1 rfl (Nat.le_of_ble_eq_true rfl) (by decide) dX2_init_6 ⟨Nat.le_of_ble_eq_true rfl, Nat.le_of_ble_eq_true rfl⟩) hM (fun M1 H locs hM hp => ?_)
  subst hp
  have hM : MW g (mup M o (starE4 g kn nu v)) H locs := hM
  exact R_v X hr hk hM rfl dX2_init_9
set_option maxHeartbeats 4000000 in
set_option maxRecDepth 100000 in
theorem c_X10_init_k4 (l : Launch) (g : Gp) (M : Mem) (o : Nat) (kn nu v : Int32) (h_o : M o = some (.inr (10, [.int 0, .int 0, .int 0, .null]))) : Met l yX10_init (wsM yX10_init cX10_init 5 none) (rmD 4 0 0) (Pre g M [.ref o, .int kn, .int nu, .int v, .ref (gA g 1)]) (Qv g (fun M1 => mup M o (starE4 g kn nu v) = M1)) 0 0 (gF g) := M_start (by decide +kernel) (Nat.le_of_ble_eq_true rfl) fun p e s m args below meth c ls X hr hk hnm hM hl => by
  have X : Cx g p m c cX10_init 5 s args RX10 := X
  have hx := X.1.1
  have hb := X.1.2.1
  have hl : lv_has ls 5 [(0, .ref o), (1, .int kn), (2, .int nu), (3, .int v), (4, .ref (gA g 1))] := hl
  refine lv_aload_n hx hb dX10_init_0 rfl (lv_at hl 0 rfl) ?_
  refine lv_iload_n hx hb dX10_init_1 rfl (lv_at hl 1 rfl) ?_
  refine lv_iload_n hx hb dX10_init_2 rfl (lv_at hl 2 rfl) ?_
  refine lv_iload_n hx hb dX10_init_3 rfl (lv_at hl 3 rfl) ?_
  refine lv_aload hx hb dX10_init_4 (lv_at hl 4 rfl) ?_
  refine K_v (G_I (As := [.int kn, .int nu, .int v, .ref (gA g 1)]) (rest := []) X hM (c_X2_init_k4 l g _ o kn nu v h_o ) lk_X10_1 rfl hl.1 rfl (Nat.le_of_ble_eq_true rfl) (by decide) dX10_init_6 ⟨Nat.le_of_ble_eq_true rfl, Nat.le_of_ble_eq_true rfl⟩) hM (fun M1 H locs hM hp => ?_)
  subst hp
  have hM : MW g (mup M o (starE4 g kn nu v)) H locs := hM
  exact R_v X hr hk hM rfl dX10_init_9
set_option maxHeartbeats 4000000 in
set_option maxRecDepth 100000 in
theorem c_X8_init_k5 (l : Launch) (g : Gp) (M : Mem) (o : Nat) (kn nu v : Int32) (h_o : M o = some (.inr (1, [.int 0, .int 0, .int 0, .null]))) : Met l yX8_init (wsM yX8_init cX8_init 5 none) (rmD 2 0 0) (Pre g M [.ref o, .int kn, .int nu, .int v, .ref (gA g 1)]) (Qv g (fun M1 => mup M o (starE5 g kn nu v) = M1)) 0 0 (gF g) := M_start (by decide +kernel) (Nat.le_of_ble_eq_true rfl) fun p e s m args below meth c ls X hr hk hnm hM hl => by
  have X : Cx g p m c cX8_init 5 s args RX8 := X
  have hx := X.1.1
  have hb := X.1.2.1
  have hl : lv_has ls 5 [(0, .ref o), (1, .int kn), (2, .int nu), (3, .int v), (4, .ref (gA g 1))] := hl
  refine lv_aload_n hx hb dX8_init_0 rfl (lv_at hl 0 rfl) ?_
  refine r_objI X hl.1 q_362 q_27 q_28 (by decide) (Nat.le_of_ble_eq_true rfl) dX8_init_1 ?_
  refine lv_aload_n hx hb dX8_init_4 rfl (lv_at hl 0 rfl) ?_
  refine lv_iload_n hx hb dX8_init_5 rfl (lv_at hl 1 rfl) ?_
  refine r_put (T := TX1) (N := 4) (ci := 1) X hM iX1 tyX1 tyX1_ok nmX1 rfl 0 (by decide) q_363 rfl (Or.inr ⟨hnm, rfl⟩) h_o rfl rfl (Nat.le_of_ble_eq_true rfl) dX8_init_6 (fun H locs hM => ?_)
  have hM : MW g (mup M o (.inr (1, [.int kn, .int 0, .int 0, .null]))) H locs := hM
  refine lv_aload_n hx hb dX8_init_9 rfl (lv_at hl 0 rfl) ?_
  refine lv_iload_n hx hb dX8_init_10 rfl (lv_at hl 2 rfl) ?_
  refine r_put (T := TX1) (N := 4) (ci := 1) X hM iX1 tyX1 tyX1_ok nmX1 rfl 1 (by decide) q_366 rfl (Or.inr ⟨hnm, rfl⟩) (mup_s _ _ _) rfl rfl (Nat.le_of_ble_eq_true rfl) dX8_init_11 (fun H locs hM => ?_)
  rw [mup_i] at hM
  have hM : MW g (mup M o (.inr (1, [.int kn, .int nu, .int 0, .null]))) H locs := hM
  refine lv_aload_n hx hb dX8_init_14 rfl (lv_at hl 0 rfl) ?_
  refine lv_iload_n hx hb dX8_init_15 rfl (lv_at hl 3 rfl) ?_
  refine r_put (T := TX1) (N := 4) (ci := 1) X hM iX1 tyX1 tyX1_ok nmX1 rfl 2 (by decide) q_372 rfl (Or.inr ⟨hnm, rfl⟩) (mup_s _ _ _) rfl rfl (Nat.le_of_ble_eq_true rfl) dX8_init_16 (fun H locs hM => ?_)
  rw [mup_i] at hM
  have hM : MW g (mup M o (.inr (1, [.int kn, .int nu, .int v, .null]))) H locs := hM
  refine lv_aload_n hx hb dX8_init_19 rfl (lv_at hl 0 rfl) ?_
  refine lv_aload hx hb dX8_init_20 (lv_at hl 4 rfl) ?_
  refine r_put (T := TX1) (N := 4) (ci := 1) X hM iX1 tyX1 tyX1_ok nmX1 rfl 3 (by decide) q_382 rfl (Or.inr ⟨hnm, rfl⟩) (mup_s _ _ _) rfl rfl (Nat.le_of_ble_eq_true rfl) dX8_init_22 (fun H locs hM => ?_)
  rw [mup_i] at hM
  have hM : MW g (mup M o (.inr (1, [.int kn, .int nu, .int v, .ref (gA g 1)]))) H locs := hM
  exact R_v X hr hk hM rfl dX8_init_25
set_option maxHeartbeats 4000000 in
set_option maxRecDepth 100000 in
theorem c_X0_init_k5 (l : Launch) (g : Gp) (M : Mem) (o : Nat) (kn nu v : Int32) (h_o : M o = some (.inr (1, [.int 0, .int 0, .int 0, .null]))) : Met l yX0_init (wsM yX0_init cX0_init 5 none) (rmD 3 0 0) (Pre g M [.ref o, .int kn, .int nu, .int v, .ref (gA g 1)]) (Qv g (fun M1 => mup M o (starE5 g kn nu v) = M1)) 0 0 (gF g) := M_start (by decide +kernel) (Nat.le_of_ble_eq_true rfl) fun p e s m args below meth c ls X hr hk hnm hM hl => by
  have X : Cx g p m c cX0_init 5 s args RX0 := X
  have hx := X.1.1
  have hb := X.1.2.1
  have hl : lv_has ls 5 [(0, .ref o), (1, .int kn), (2, .int nu), (3, .int v), (4, .ref (gA g 1))] := hl
  refine lv_aload_n hx hb dX0_init_0 rfl (lv_at hl 0 rfl) ?_
  refine lv_iload_n hx hb dX0_init_1 rfl (lv_at hl 1 rfl) ?_
  refine lv_iload_n hx hb dX0_init_2 rfl (lv_at hl 2 rfl) ?_
  refine lv_iload_n hx hb dX0_init_3 rfl (lv_at hl 3 rfl) ?_
  refine lv_aload hx hb dX0_init_4 (lv_at hl 4 rfl) ?_
  refine K_v (G_I (As := [.int kn, .int nu, .int v, .ref (gA g 1)]) (rest := []) X hM (c_X8_init_k5 l g _ o kn nu v h_o ) lk_X0_1 rfl hl.1 rfl (Nat.le_of_ble_eq_true rfl) (by decide) dX0_init_6 ⟨Nat.le_of_ble_eq_true rfl, Nat.le_of_ble_eq_true rfl⟩) hM (fun M1 H locs hM hp => ?_)
  subst hp
  have hM : MW g (mup M o (starE5 g kn nu v)) H locs := hM
  exact R_v X hr hk hM rfl dX0_init_9
set_option maxHeartbeats 4000000 in
set_option maxRecDepth 100000 in
theorem c_X1_init_k5 (l : Launch) (g : Gp) (M : Mem) (o : Nat) (kn nu v : Int32) (h_o : M o = some (.inr (1, [.int 0, .int 0, .int 0, .null]))) : Met l yX1_init (wsM yX1_init cX1_init 5 none) (rmD 4 0 0) (Pre g M [.ref o, .int kn, .int nu, .int v, .ref (gA g 1)]) (Qv g (fun M1 => mup M o (starE5 g kn nu v) = M1)) 0 0 (gF g) := M_start (by decide +kernel) (Nat.le_of_ble_eq_true rfl) fun p e s m args below meth c ls X hr hk hnm hM hl => by
  have X : Cx g p m c cX1_init 5 s args RX1 := X
  have hx := X.1.1
  have hb := X.1.2.1
  have hl : lv_has ls 5 [(0, .ref o), (1, .int kn), (2, .int nu), (3, .int v), (4, .ref (gA g 1))] := hl
  refine lv_aload_n hx hb dX1_init_0 rfl (lv_at hl 0 rfl) ?_
  refine lv_iload_n hx hb dX1_init_1 rfl (lv_at hl 1 rfl) ?_
  refine lv_iload_n hx hb dX1_init_2 rfl (lv_at hl 2 rfl) ?_
  refine lv_iload_n hx hb dX1_init_3 rfl (lv_at hl 3 rfl) ?_
  refine lv_aload hx hb dX1_init_4 (lv_at hl 4 rfl) ?_
  refine K_v (G_I (As := [.int kn, .int nu, .int v, .ref (gA g 1)]) (rest := []) X hM (c_X0_init_k5 l g _ o kn nu v h_o ) lk_X1_1 rfl hl.1 rfl (Nat.le_of_ble_eq_true rfl) (by decide) dX1_init_6 ⟨Nat.le_of_ble_eq_true rfl, Nat.le_of_ble_eq_true rfl⟩) hM (fun M1 H locs hM hp => ?_)
  subst hp
  have hM : MW g (mup M o (starE5 g kn nu v)) H locs := hM
  exact R_v X hr hk hM rfl dX1_init_9
set_option maxHeartbeats 4000000 in
set_option maxRecDepth 100000 in
theorem c_X8_init_k6 (l : Launch) (g : Gp) (M : Mem) (o : Nat) (kn nu v : Int32) (h_o : M o = some (.inr (9, [.int 0, .int 0, .int 0, .null]))) : Met l yX8_init (wsM yX8_init cX8_init 5 none) (rmD 2 0 0) (Pre g M [.ref o, .int kn, .int nu, .int v, .ref (gA g 1)]) (Qv g (fun M1 => mup M o (starE6 g kn nu v) = M1)) 0 0 (gF g) := M_start (by decide +kernel) (Nat.le_of_ble_eq_true rfl) fun p e s m args below meth c ls X hr hk hnm hM hl => by
  have X : Cx g p m c cX8_init 5 s args RX8 := X
  have hx := X.1.1
  have hb := X.1.2.1
  have hl : lv_has ls 5 [(0, .ref o), (1, .int kn), (2, .int nu), (3, .int v), (4, .ref (gA g 1))] := hl
  refine lv_aload_n hx hb dX8_init_0 rfl (lv_at hl 0 rfl) ?_
  refine r_objI X hl.1 q_362 q_27 q_28 (by decide) (Nat.le_of_ble_eq_true rfl) dX8_init_1 ?_
  refine lv_aload_n hx hb dX8_init_4 rfl (lv_at hl 0 rfl) ?_
  refine lv_iload_n hx hb dX8_init_5 rfl (lv_at hl 1 rfl) ?_
  refine r_put (T := TX9) (N := 4) (ci := 9) X hM iX9 tyX9 tyX9_ok nmX9 rfl 0 (by decide) q_363 rfl (Or.inr ⟨hnm, rfl⟩) h_o rfl rfl (Nat.le_of_ble_eq_true rfl) dX8_init_6 (fun H locs hM => ?_)
  have hM : MW g (mup M o (.inr (9, [.int kn, .int 0, .int 0, .null]))) H locs := hM
  refine lv_aload_n hx hb dX8_init_9 rfl (lv_at hl 0 rfl) ?_
  refine lv_iload_n hx hb dX8_init_10 rfl (lv_at hl 2 rfl) ?_
  refine r_put (T := TX9) (N := 4) (ci := 9) X hM iX9 tyX9 tyX9_ok nmX9 rfl 1 (by decide) q_366 rfl (Or.inr ⟨hnm, rfl⟩) (mup_s _ _ _) rfl rfl (Nat.le_of_ble_eq_true rfl) dX8_init_11 (fun H locs hM => ?_)
  rw [mup_i] at hM
  have hM : MW g (mup M o (.inr (9, [.int kn, .int nu, .int 0, .null]))) H locs := hM
  refine lv_aload_n hx hb dX8_init_14 rfl (lv_at hl 0 rfl) ?_
  refine lv_iload_n hx hb dX8_init_15 rfl (lv_at hl 3 rfl) ?_
  refine r_put (T := TX9) (N := 4) (ci := 9) X hM iX9 tyX9 tyX9_ok nmX9 rfl 2 (by decide) q_372 rfl (Or.inr ⟨hnm, rfl⟩) (mup_s _ _ _) rfl rfl (Nat.le_of_ble_eq_true rfl) dX8_init_16 (fun H locs hM => ?_)
  rw [mup_i] at hM
  have hM : MW g (mup M o (.inr (9, [.int kn, .int nu, .int v, .null]))) H locs := hM
  refine lv_aload_n hx hb dX8_init_19 rfl (lv_at hl 0 rfl) ?_
  refine lv_aload hx hb dX8_init_20 (lv_at hl 4 rfl) ?_
  refine r_put (T := TX9) (N := 4) (ci := 9) X hM iX9 tyX9 tyX9_ok nmX9 rfl 3 (by decide) q_382 rfl (Or.inr ⟨hnm, rfl⟩) (mup_s _ _ _) rfl rfl (Nat.le_of_ble_eq_true rfl) dX8_init_22 (fun H locs hM => ?_)
  rw [mup_i] at hM
  have hM : MW g (mup M o (.inr (9, [.int kn, .int nu, .int v, .ref (gA g 1)]))) H locs := hM
  exact R_v X hr hk hM rfl dX8_init_25
set_option maxHeartbeats 4000000 in
set_option maxRecDepth 100000 in
theorem c_X3_init_k6 (l : Launch) (g : Gp) (M : Mem) (o : Nat) (kn nu v : Int32) (h_o : M o = some (.inr (9, [.int 0, .int 0, .int 0, .null]))) : Met l yX3_init (wsM yX3_init cX3_init 5 none) (rmD 3 0 0) (Pre g M [.ref o, .int kn, .int nu, .int v, .ref (gA g 1)]) (Qv g (fun M1 => mup M o (starE6 g kn nu v) = M1)) 0 0 (gF g) := M_start (by decide +kernel) (Nat.le_of_ble_eq_true rfl) fun p e s m args below meth c ls X hr hk hnm hM hl => by
  have X : Cx g p m c cX3_init 5 s args RX3 := X
  have hx := X.1.1
  have hb := X.1.2.1
  have hl : lv_has ls 5 [(0, .ref o), (1, .int kn), (2, .int nu), (3, .int v), (4, .ref (gA g 1))] := hl
  refine lv_aload_n hx hb dX3_init_0 rfl (lv_at hl 0 rfl) ?_
  refine lv_iload_n hx hb dX3_init_1 rfl (lv_at hl 1 rfl) ?_
  refine lv_iload_n hx hb dX3_init_2 rfl (lv_at hl 2 rfl) ?_
  refine lv_iload_n hx hb dX3_init_3 rfl (lv_at hl 3 rfl) ?_
  refine lv_aload hx hb dX3_init_4 (lv_at hl 4 rfl) ?_
  refine K_v (G_I (As := [.int kn, .int nu, .int v, .ref (gA g 1)]) (rest := []) X hM (c_X8_init_k6 l g _ o kn nu v h_o ) lk_X3_1 rfl hl.1 rfl (Nat.le_of_ble_eq_true rfl) (by decide) dX3_init_6 ⟨Nat.le_of_ble_eq_true rfl, Nat.le_of_ble_eq_true rfl⟩) hM (fun M1 H locs hM hp => ?_)
  subst hp
  have hM : MW g (mup M o (starE6 g kn nu v)) H locs := hM
  exact R_v X hr hk hM rfl dX3_init_9
set_option maxHeartbeats 4000000 in
set_option maxRecDepth 100000 in
theorem c_X9_init_k6 (l : Launch) (g : Gp) (M : Mem) (o : Nat) (kn nu v : Int32) (h_o : M o = some (.inr (9, [.int 0, .int 0, .int 0, .null]))) : Met l yX9_init (wsM yX9_init cX9_init 5 none) (rmD 4 0 0) (Pre g M [.ref o, .int kn, .int nu, .int v, .ref (gA g 1)]) (Qv g (fun M1 => mup M o (starE6 g kn nu v) = M1)) 0 0 (gF g) := M_start (by decide +kernel) (Nat.le_of_ble_eq_true rfl) fun p e s m args below meth c ls X hr hk hnm hM hl => by
  have X : Cx g p m c cX9_init 5 s args RX9 := X
  have hx := X.1.1
  have hb := X.1.2.1
  have hl : lv_has ls 5 [(0, .ref o), (1, .int kn), (2, .int nu), (3, .int v), (4, .ref (gA g 1))] := hl
  refine lv_aload_n hx hb dX9_init_0 rfl (lv_at hl 0 rfl) ?_
  refine lv_iload_n hx hb dX9_init_1 rfl (lv_at hl 1 rfl) ?_
  refine lv_iload_n hx hb dX9_init_2 rfl (lv_at hl 2 rfl) ?_
  refine lv_iload_n hx hb dX9_init_3 rfl (lv_at hl 3 rfl) ?_
  refine lv_aload hx hb dX9_init_4 (lv_at hl 4 rfl) ?_
  refine K_v (G_I (As := [.int kn, .int nu, .int v, .ref (gA g 1)]) (rest := []) X hM (c_X3_init_k6 l g _ o kn nu v h_o ) lk_X9_1 rfl hl.1 rfl (Nat.le_of_ble_eq_true rfl) (by decide) dX9_init_6 ⟨Nat.le_of_ble_eq_true rfl, Nat.le_of_ble_eq_true rfl⟩) hM (fun M1 H locs hM hp => ?_)
  subst hp
  have hM : MW g (mup M o (starE6 g kn nu v)) H locs := hM
  exact R_v X hr hk hM rfl dX9_init_9
set_option maxHeartbeats 4000000 in
set_option maxRecDepth 100000 in
theorem c_X11_newStar (l : Launch) (g : Gp) (M : Mem) (ik : Int32) (k : Nat) (kn nu v : Int32) (h0 : M (gA g 0) = some (custE g ik)) (ek : kn = nI k) (hk6 : k ≤ 6) : Met l yX11_newStar (wsM yX11_newStar cX11_newStar 4 (some (.object "StarCustody$Star"))) (rmD 5 1 4) (Pre g M [.ref (gA g 0), .int kn, .int nu, .int v]) (Qq g (fun r M1 => ∃ a : Nat, M a = none ∧ some a = r ∧ mup M a (starC g k nu v) = M1)) 1 4 (gF g) := M_start (by decide +kernel) (Nat.le_of_ble_eq_true rfl) fun p e s m args below meth c ls X hr hk hnm hM hl => by
  have X : Cx g p m c cX11_newStar 4 s args RX11 := X
  have hx := X.1.1
  have hb := X.1.2.1
  obtain ⟨H, eH⟩ : ∃ z, z = s.heap := ⟨_, rfl⟩
  rw [← eH] at hM
  rw [← eH]
  obtain ⟨locs, eL⟩ : ∃ z : List Loc, z = [] := ⟨_, rfl⟩
  rw [← eL] at hM
  rw [← eL]
  clear eH eL
  have hl : lv_has ls 4 [(0, .ref (gA g 0)), (1, .int kn), (2, .int nu), (3, .int v)] := hl
  refine lv_iload_n hx hb dX11_newStar_0 rfl (lv_at hl 1 rfl) ?_
  by_cases w_1 : kn = 1
  · skip
    refine lv_tableIn (off := 39) (tgt := 40) hx hb dX11_newStar_1 (by rw [w_1]; decide) (by rw [w_1]; decide) (by rw [w_1]; rfl) (by decide) ?_
    have hM0 := hM
    refine r_new (T := TX2) (N := 4) (ci := 2) (fs := [.int 0, .int 0, .int 0, .null]) X hM iX2 tyX2 tyX2_ok q_354 q_355 q_14 rfl (fun j hj => by rcases (show j = 0 ∨ j = 1 ∨ j = 2 ∨ j = 3 by omega) with rfl | rfl | rfl | rfl <;> rfl) (Nat.le_of_ble_eq_true rfl) (Nat.le_of_ble_eq_true rfl) dX11_newStar_40 (fun H1 hz hM => ?_)
    obtain ⟨nq_2, enq_2⟩ : ∃ z, z = H.size := ⟨_, rfl⟩
    have n_nq_2_gAg0 : gA g 0 ≠ nq_2 := by rw [enq_2]; exact Nat.ne_of_lt (hM0.lt h0)
    have N_nq_2 : M nq_2 = none := hM0.fresh enq_2
    rw [← enq_2] at hM
    rw [← enq_2]
    have hM : MW g (mup M nq_2 (.inr (2, [.int 0, .int 0, .int 0, .null]))) H1 locs := hM
    clear hz hM0 enq_2
    revert hM
    generalize H1 = H
    intro hM
    refine lv_dup hx hb dX11_newStar_43 rfl ?_
    refine lv_iload_n hx hb dX11_newStar_44 rfl (lv_at hl 1 rfl) ?_
    refine lv_iload_n hx hb dX11_newStar_45 rfl (lv_at hl 2 rfl) ?_
    refine lv_iload_n hx hb dX11_newStar_46 rfl (lv_at hl 3 rfl) ?_
    refine lv_aload_n hx hb dX11_newStar_47 rfl (lv_at hl 0 rfl) ?_
    refine r_get (T := TX11) (N := 7) (ci := 11) (v := .ref (gA g 1)) X hM iX11 rfl 0 (by decide) q_176 (Or.inl rfl) (mup_r n_nq_2_gAg0 h0) rfl dX11_newStar_48 ?_
    refine K_v (G_I (As := [.int kn, .int nu, .int v, .ref (gA g 1)]) (rest := [.ref nq_2]) X hM (c_X2_init_k1 l g _ nq_2 kn nu v (mup_s _ _ _) ) lk_X11_259 rfl hl.1 rfl (Nat.le_of_ble_eq_true rfl) (by decide) dX11_newStar_51 ⟨Nat.le_of_ble_eq_true rfl, Nat.le_of_ble_eq_true rfl⟩) hM (fun M1 H locs hM hp => ?_)
    subst hp
    rw [mup_i] at hM
    have hM : MW g (mup M nq_2 (starE1 g kn nu v)) H locs := hM
    refine W.widen (k := 1) (n := 4) (Nat.le_of_ble_eq_true rfl) (Nat.le_of_ble_eq_true rfl) ?_
    exact R_q (r := some nq_2) rfl X hr hk hM ⟨nq_2, N_nq_2, rfl, (by have e9 : k = 1 := nI_j_inj ek (w_1.trans (by decide)) (by omega) (by omega); subst e9; rw [ek]; rfl)⟩ dX11_newStar_54
  by_cases w_3 : kn = 2
  · skip
    refine lv_tableIn (off := 54) (tgt := 55) hx hb dX11_newStar_1 (by rw [w_3]; decide) (by rw [w_3]; decide) (by rw [w_3]; rfl) (by decide) ?_
    have hM0 := hM
    refine r_new (T := TX0) (N := 4) (ci := 0) (fs := [.int 0, .int 0, .int 0, .null]) X hM iX0 tyX0 tyX0_ok q_404 q_405 q_15 rfl (fun j hj => by rcases (show j = 0 ∨ j = 1 ∨ j = 2 ∨ j = 3 by omega) with rfl | rfl | rfl | rfl <;> rfl) (Nat.le_of_ble_eq_true rfl) (Nat.le_of_ble_eq_true rfl) dX11_newStar_55 (fun H1 hz hM => ?_)
    obtain ⟨nq_4, enq_4⟩ : ∃ z, z = H.size := ⟨_, rfl⟩
    have n_nq_4_gAg0 : gA g 0 ≠ nq_4 := by rw [enq_4]; exact Nat.ne_of_lt (hM0.lt h0)
    have N_nq_4 : M nq_4 = none := hM0.fresh enq_4
    rw [← enq_4] at hM
    rw [← enq_4]
    have hM : MW g (mup M nq_4 (.inr (0, [.int 0, .int 0, .int 0, .null]))) H1 locs := hM
    clear hz hM0 enq_4
    revert hM
    generalize H1 = H
    intro hM
    refine lv_dup hx hb dX11_newStar_58 rfl ?_
    refine lv_iload_n hx hb dX11_newStar_59 rfl (lv_at hl 1 rfl) ?_
    refine lv_iload_n hx hb dX11_newStar_60 rfl (lv_at hl 2 rfl) ?_
    refine lv_iload_n hx hb dX11_newStar_61 rfl (lv_at hl 3 rfl) ?_
    refine lv_aload_n hx hb dX11_newStar_62 rfl (lv_at hl 0 rfl) ?_
    refine r_get (T := TX11) (N := 7) (ci := 11) (v := .ref (gA g 1)) X hM iX11 rfl 0 (by decide) q_176 (Or.inl rfl) (mup_r n_nq_4_gAg0 h0) rfl dX11_newStar_63 ?_
    refine K_v (G_I (As := [.int kn, .int nu, .int v, .ref (gA g 1)]) (rest := [.ref nq_4]) X hM (c_X0_init_k2 l g _ nq_4 kn nu v (mup_s _ _ _) ) lk_X11_264 rfl hl.1 rfl (Nat.le_of_ble_eq_true rfl) (by decide) dX11_newStar_66 ⟨Nat.le_of_ble_eq_true rfl, Nat.le_of_ble_eq_true rfl⟩) hM (fun M1 H locs hM hp => ?_)
    subst hp
    rw [mup_i] at hM
    have hM : MW g (mup M nq_4 (starE2 g kn nu v)) H locs := hM
    refine W.widen (k := 1) (n := 4) (Nat.le_of_ble_eq_true rfl) (Nat.le_of_ble_eq_true rfl) ?_
    exact R_q (r := some nq_4) rfl X hr hk hM ⟨nq_4, N_nq_4, rfl, (by have e9 : k = 2 := nI_j_inj ek (w_3.trans (by decide)) (by omega) (by omega); subst e9; rw [ek]; rfl)⟩ dX11_newStar_69
  by_cases w_5 : kn = 3
  · skip
    refine lv_tableIn (off := 69) (tgt := 70) hx hb dX11_newStar_1 (by rw [w_5]; decide) (by rw [w_5]; decide) (by rw [w_5]; rfl) (by decide) ?_
    have hM0 := hM
    refine r_new (T := TX3) (N := 4) (ci := 3) (fs := [.int 0, .int 0, .int 0, .null]) X hM iX3 tyX3 tyX3_ok q_415 q_416 q_16 rfl (fun j hj => by rcases (show j = 0 ∨ j = 1 ∨ j = 2 ∨ j = 3 by omega) with rfl | rfl | rfl | rfl <;> rfl) (Nat.le_of_ble_eq_true rfl) (Nat.le_of_ble_eq_true rfl) dX11_newStar_70 (fun H1 hz hM => ?_)
    obtain ⟨nq_6, enq_6⟩ : ∃ z, z = H.size := ⟨_, rfl⟩
    have n_nq_6_gAg0 : gA g 0 ≠ nq_6 := by rw [enq_6]; exact Nat.ne_of_lt (hM0.lt h0)
    have N_nq_6 : M nq_6 = none := hM0.fresh enq_6
    rw [← enq_6] at hM
    rw [← enq_6]
    have hM : MW g (mup M nq_6 (.inr (3, [.int 0, .int 0, .int 0, .null]))) H1 locs := hM
    clear hz hM0 enq_6
    revert hM
    generalize H1 = H
    intro hM
    refine lv_dup hx hb dX11_newStar_73 rfl ?_
    refine lv_iload_n hx hb dX11_newStar_74 rfl (lv_at hl 1 rfl) ?_
    refine lv_iload_n hx hb dX11_newStar_75 rfl (lv_at hl 2 rfl) ?_
    refine lv_iload_n hx hb dX11_newStar_76 rfl (lv_at hl 3 rfl) ?_
    refine lv_aload_n hx hb dX11_newStar_77 rfl (lv_at hl 0 rfl) ?_
    refine r_get (T := TX11) (N := 7) (ci := 11) (v := .ref (gA g 1)) X hM iX11 rfl 0 (by decide) q_176 (Or.inl rfl) (mup_r n_nq_6_gAg0 h0) rfl dX11_newStar_78 ?_
    refine K_v (G_I (As := [.int kn, .int nu, .int v, .ref (gA g 1)]) (rest := [.ref nq_6]) X hM (c_X3_init_k3 l g _ nq_6 kn nu v (mup_s _ _ _) ) lk_X11_267 rfl hl.1 rfl (Nat.le_of_ble_eq_true rfl) (by decide) dX11_newStar_81 ⟨Nat.le_of_ble_eq_true rfl, Nat.le_of_ble_eq_true rfl⟩) hM (fun M1 H locs hM hp => ?_)
    subst hp
    rw [mup_i] at hM
    have hM : MW g (mup M nq_6 (starE3 g kn nu v)) H locs := hM
    refine W.widen (k := 1) (n := 4) (Nat.le_of_ble_eq_true rfl) (Nat.le_of_ble_eq_true rfl) ?_
    exact R_q (r := some nq_6) rfl X hr hk hM ⟨nq_6, N_nq_6, rfl, (by have e9 : k = 3 := nI_j_inj ek (w_5.trans (by decide)) (by omega) (by omega); subst e9; rw [ek]; rfl)⟩ dX11_newStar_84
  by_cases w_7 : kn = 4
  · skip
    refine lv_tableIn (off := 84) (tgt := 85) hx hb dX11_newStar_1 (by rw [w_7]; decide) (by rw [w_7]; decide) (by rw [w_7]; rfl) (by decide) ?_
    have hM0 := hM
    refine r_new (T := TX10) (N := 4) (ci := 10) (fs := [.int 0, .int 0, .int 0, .null]) X hM iX10 tyX10 tyX10_ok q_426 q_427 q_17 rfl (fun j hj => by rcases (show j = 0 ∨ j = 1 ∨ j = 2 ∨ j = 3 by omega) with rfl | rfl | rfl | rfl <;> rfl) (Nat.le_of_ble_eq_true rfl) (Nat.le_of_ble_eq_true rfl) dX11_newStar_85 (fun H1 hz hM => ?_)
    obtain ⟨nq_8, enq_8⟩ : ∃ z, z = H.size := ⟨_, rfl⟩
    have n_nq_8_gAg0 : gA g 0 ≠ nq_8 := by rw [enq_8]; exact Nat.ne_of_lt (hM0.lt h0)
    have N_nq_8 : M nq_8 = none := hM0.fresh enq_8
    rw [← enq_8] at hM
    rw [← enq_8]
    have hM : MW g (mup M nq_8 (.inr (10, [.int 0, .int 0, .int 0, .null]))) H1 locs := hM
    clear hz hM0 enq_8
    revert hM
    generalize H1 = H
    intro hM
    refine lv_dup hx hb dX11_newStar_88 rfl ?_
    refine lv_iload_n hx hb dX11_newStar_89 rfl (lv_at hl 1 rfl) ?_
    refine lv_iload_n hx hb dX11_newStar_90 rfl (lv_at hl 2 rfl) ?_
    refine lv_iload_n hx hb dX11_newStar_91 rfl (lv_at hl 3 rfl) ?_
    refine lv_aload_n hx hb dX11_newStar_92 rfl (lv_at hl 0 rfl) ?_
    refine r_get (T := TX11) (N := 7) (ci := 11) (v := .ref (gA g 1)) X hM iX11 rfl 0 (by decide) q_176 (Or.inl rfl) (mup_r n_nq_8_gAg0 h0) rfl dX11_newStar_93 ?_
    refine K_v (G_I (As := [.int kn, .int nu, .int v, .ref (gA g 1)]) (rest := [.ref nq_8]) X hM (c_X10_init_k4 l g _ nq_8 kn nu v (mup_s _ _ _) ) lk_X11_270 rfl hl.1 rfl (Nat.le_of_ble_eq_true rfl) (by decide) dX11_newStar_96 ⟨Nat.le_of_ble_eq_true rfl, Nat.le_of_ble_eq_true rfl⟩) hM (fun M1 H locs hM hp => ?_)
    subst hp
    rw [mup_i] at hM
    have hM : MW g (mup M nq_8 (starE4 g kn nu v)) H locs := hM
    refine W.widen (k := 1) (n := 4) (Nat.le_of_ble_eq_true rfl) (Nat.le_of_ble_eq_true rfl) ?_
    exact R_q (r := some nq_8) rfl X hr hk hM ⟨nq_8, N_nq_8, rfl, (by have e9 : k = 4 := nI_j_inj ek (w_7.trans (by decide)) (by omega) (by omega); subst e9; rw [ek]; rfl)⟩ dX11_newStar_99
  by_cases w_9 : kn = 5
  · skip
    refine lv_tableIn (off := 99) (tgt := 100) hx hb dX11_newStar_1 (by rw [w_9]; decide) (by rw [w_9]; decide) (by rw [w_9]; rfl) (by decide) ?_
    have hM0 := hM
    refine r_new (T := TX1) (N := 4) (ci := 1) (fs := [.int 0, .int 0, .int 0, .null]) X hM iX1 tyX1 tyX1_ok q_437 q_438 q_18 rfl (fun j hj => by rcases (show j = 0 ∨ j = 1 ∨ j = 2 ∨ j = 3 by omega) with rfl | rfl | rfl | rfl <;> rfl) (Nat.le_of_ble_eq_true rfl) (Nat.le_of_ble_eq_true rfl) dX11_newStar_100 (fun H1 hz hM => ?_)
    obtain ⟨nq_10, enq_10⟩ : ∃ z, z = H.size := ⟨_, rfl⟩
    have n_nq_10_gAg0 : gA g 0 ≠ nq_10 := by rw [enq_10]; exact Nat.ne_of_lt (hM0.lt h0)
    have N_nq_10 : M nq_10 = none := hM0.fresh enq_10
    rw [← enq_10] at hM
    rw [← enq_10]
    have hM : MW g (mup M nq_10 (.inr (1, [.int 0, .int 0, .int 0, .null]))) H1 locs := hM
    clear hz hM0 enq_10
    revert hM
    generalize H1 = H
    intro hM
    refine lv_dup hx hb dX11_newStar_103 rfl ?_
    refine lv_iload_n hx hb dX11_newStar_104 rfl (lv_at hl 1 rfl) ?_
    refine lv_iload_n hx hb dX11_newStar_105 rfl (lv_at hl 2 rfl) ?_
    refine lv_iload_n hx hb dX11_newStar_106 rfl (lv_at hl 3 rfl) ?_
    refine lv_aload_n hx hb dX11_newStar_107 rfl (lv_at hl 0 rfl) ?_
    refine r_get (T := TX11) (N := 7) (ci := 11) (v := .ref (gA g 1)) X hM iX11 rfl 0 (by decide) q_176 (Or.inl rfl) (mup_r n_nq_10_gAg0 h0) rfl dX11_newStar_108 ?_
    refine K_v (G_I (As := [.int kn, .int nu, .int v, .ref (gA g 1)]) (rest := [.ref nq_10]) X hM (c_X1_init_k5 l g _ nq_10 kn nu v (mup_s _ _ _) ) lk_X11_273 rfl hl.1 rfl (Nat.le_of_ble_eq_true rfl) (by decide) dX11_newStar_111 ⟨Nat.le_of_ble_eq_true rfl, Nat.le_of_ble_eq_true rfl⟩) hM (fun M1 H locs hM hp => ?_)
    subst hp
    rw [mup_i] at hM
    have hM : MW g (mup M nq_10 (starE5 g kn nu v)) H locs := hM
    refine W.widen (k := 1) (n := 4) (Nat.le_of_ble_eq_true rfl) (Nat.le_of_ble_eq_true rfl) ?_
    exact R_q (r := some nq_10) rfl X hr hk hM ⟨nq_10, N_nq_10, rfl, (by have e9 : k = 5 := nI_j_inj ek (w_9.trans (by decide)) (by omega) (by omega); subst e9; rw [ek]; rfl)⟩ dX11_newStar_114
  by_cases w_11 : kn = 6
  · skip
    refine lv_tableIn (off := 114) (tgt := 115) hx hb dX11_newStar_1 (by rw [w_11]; decide) (by rw [w_11]; decide) (by rw [w_11]; rfl) (by decide) ?_
    have hM0 := hM
    refine r_new (T := TX9) (N := 4) (ci := 9) (fs := [.int 0, .int 0, .int 0, .null]) X hM iX9 tyX9 tyX9_ok q_448 q_449 q_19 rfl (fun j hj => by rcases (show j = 0 ∨ j = 1 ∨ j = 2 ∨ j = 3 by omega) with rfl | rfl | rfl | rfl <;> rfl) (Nat.le_of_ble_eq_true rfl) (Nat.le_of_ble_eq_true rfl) dX11_newStar_115 (fun H1 hz hM => ?_)
    obtain ⟨nq_12, enq_12⟩ : ∃ z, z = H.size := ⟨_, rfl⟩
    have n_nq_12_gAg0 : gA g 0 ≠ nq_12 := by rw [enq_12]; exact Nat.ne_of_lt (hM0.lt h0)
    have N_nq_12 : M nq_12 = none := hM0.fresh enq_12
    rw [← enq_12] at hM
    rw [← enq_12]
    have hM : MW g (mup M nq_12 (.inr (9, [.int 0, .int 0, .int 0, .null]))) H1 locs := hM
    clear hz hM0 enq_12
    revert hM
    generalize H1 = H
    intro hM
    refine lv_dup hx hb dX11_newStar_118 rfl ?_
    refine lv_iload_n hx hb dX11_newStar_119 rfl (lv_at hl 1 rfl) ?_
    refine lv_iload_n hx hb dX11_newStar_120 rfl (lv_at hl 2 rfl) ?_
    refine lv_iload_n hx hb dX11_newStar_121 rfl (lv_at hl 3 rfl) ?_
    refine lv_aload_n hx hb dX11_newStar_122 rfl (lv_at hl 0 rfl) ?_
    refine r_get (T := TX11) (N := 7) (ci := 11) (v := .ref (gA g 1)) X hM iX11 rfl 0 (by decide) q_176 (Or.inl rfl) (mup_r n_nq_12_gAg0 h0) rfl dX11_newStar_123 ?_
    refine K_v (G_I (As := [.int kn, .int nu, .int v, .ref (gA g 1)]) (rest := [.ref nq_12]) X hM (c_X9_init_k6 l g _ nq_12 kn nu v (mup_s _ _ _) ) lk_X11_276 rfl hl.1 rfl (Nat.le_of_ble_eq_true rfl) (by decide) dX11_newStar_126 ⟨Nat.le_of_ble_eq_true rfl, Nat.le_of_ble_eq_true rfl⟩) hM (fun M1 H locs hM hp => ?_)
    subst hp
    rw [mup_i] at hM
    have hM : MW g (mup M nq_12 (starE6 g kn nu v)) H locs := hM
    refine W.widen (k := 1) (n := 4) (Nat.le_of_ble_eq_true rfl) (Nat.le_of_ble_eq_true rfl) ?_
    exact R_q (r := some nq_12) rfl X hr hk hM ⟨nq_12, N_nq_12, rfl, (by have e9 : k = 6 := nI_j_inj ek (w_11.trans (by decide)) (by omega) (by omega); subst e9; rw [ek]; rfl)⟩ dX11_newStar_129
  refine lv_tableOut (tgt := 130) hx hb dX11_newStar_1 (by have z0 := i32ne w_1 (by decide : ((1 : Int32)).toInt = 1); have z1 := i32ne w_3 (by decide : ((2 : Int32)).toInt = 2); have z2 := i32ne w_5 (by decide : ((3 : Int32)).toInt = 3); have z3 := i32ne w_7 (by decide : ((4 : Int32)).toInt = 4); have z4 := i32ne w_9 (by decide : ((5 : Int32)).toInt = 5); have z5 := i32ne w_11 (by decide : ((6 : Int32)).toInt = 6); omega) (by decide) ?_
  have hM0 := hM
  refine r_new (T := TX8) (N := 4) (ci := 8) (fs := [.int 0, .int 0, .int 0, .null]) X hM iX8 tyX8 tyX8_ok q_459 q_460 q_13 rfl (fun j hj => by rcases (show j = 0 ∨ j = 1 ∨ j = 2 ∨ j = 3 by omega) with rfl | rfl | rfl | rfl <;> rfl) (Nat.le_of_ble_eq_true rfl) (Nat.le_of_ble_eq_true rfl) dX11_newStar_130 (fun H1 hz hM => ?_)
  obtain ⟨nq_13, enq_13⟩ : ∃ z, z = H.size := ⟨_, rfl⟩
  have n_nq_13_gAg0 : gA g 0 ≠ nq_13 := by rw [enq_13]; exact Nat.ne_of_lt (hM0.lt h0)
  have N_nq_13 : M nq_13 = none := hM0.fresh enq_13
  rw [← enq_13] at hM
  rw [← enq_13]
  have hM : MW g (mup M nq_13 (.inr (8, [.int 0, .int 0, .int 0, .null]))) H1 locs := hM
  clear hz hM0 enq_13
  revert hM
  generalize H1 = H
  intro hM
  refine lv_dup hx hb dX11_newStar_133 rfl ?_
  refine lv_iload_n hx hb dX11_newStar_134 rfl (lv_at hl 1 rfl) ?_
  refine lv_iload_n hx hb dX11_newStar_135 rfl (lv_at hl 2 rfl) ?_
  refine lv_iload_n hx hb dX11_newStar_136 rfl (lv_at hl 3 rfl) ?_
  refine lv_aload_n hx hb dX11_newStar_137 rfl (lv_at hl 0 rfl) ?_
  refine r_get (T := TX11) (N := 7) (ci := 11) (v := .ref (gA g 1)) X hM iX11 rfl 0 (by decide) q_176 (Or.inl rfl) (mup_r n_nq_13_gAg0 h0) rfl dX11_newStar_138 ?_
  refine K_v (G_I (As := [.int kn, .int nu, .int v, .ref (gA g 1)]) (rest := [.ref nq_13]) X hM (c_X8_init_k0 l g _ nq_13 kn nu v (mup_s _ _ _) ) lk_X11_277 rfl hl.1 rfl (Nat.le_of_ble_eq_true rfl) (by decide) dX11_newStar_141 ⟨Nat.le_of_ble_eq_true rfl, Nat.le_of_ble_eq_true rfl⟩) hM (fun M1 H locs hM hp => ?_)
  subst hp
  rw [mup_i] at hM
  have hM : MW g (mup M nq_13 (starE0 g kn nu v)) H locs := hM
  refine W.widen (k := 1) (n := 4) (Nat.le_of_ble_eq_true rfl) (Nat.le_of_ble_eq_true rfl) ?_
  exact R_q (r := some nq_13) rfl X hr hk hM ⟨nq_13, N_nq_13, rfl, (by have z1 : k ≠ 1 := fun h9 => w_1 (ek.trans (by rw [h9]; decide)); have z2 : k ≠ 2 := fun h9 => w_3 (ek.trans (by rw [h9]; decide)); have z3 : k ≠ 3 := fun h9 => w_5 (ek.trans (by rw [h9]; decide)); have z4 : k ≠ 4 := fun h9 => w_7 (ek.trans (by rw [h9]; decide)); have z5 : k ≠ 5 := fun h9 => w_9 (ek.trans (by rw [h9]; decide)); have z6 : k ≠ 6 := fun h9 => w_11 (ek.trans (by rw [h9]; decide)); have e9 : k = 0 := (by omega); subst e9; rw [ek]; rfl)⟩ dX11_newStar_144
set_option maxHeartbeats 4000000 in
set_option maxRecDepth 100000 in
theorem c_X4_come (l : Launch) (g : Gp) (M : Mem) (L : Nat) (yn yk yh : Int32) (s5 : Nat → Option Nat) (s6 s7 : Nat → Int32) (b kd : Nat) (nu v ro ph : Int32) (h_b : M b = some (starC g kd nu v)) (h3 : M (gA g 3) = some (roofN g yn (nI L) yk yh)) (h5 : M (gA g 5) = some (aS g 6 s5)) (h6 : M (gA g 6) = some (aI g 6 s6)) (h7 : M (gA g 7) = some (aI g 6 s7)) (hL : L < 6) (hkd : kd ≤ 6) : Met l yX4_come (wsM yX4_come cX4_come 5 none) (rmD 2 0 0) (Pre g M [.ref (gA g 3), .ref b, .int ro, .int ph]) (Qv g (fun M1 => mup (mup (mup (mup M (gA g 5) (aS g 6 (va_up s5 L (some b)))) (gA g 6) (aI g 6 (fPut 6 s6 (nI L) ro))) (gA g 7) (aI g 6 (fPut 6 s7 (nI L) ph))) (gA g 3) (roofN g yn (nI L + 1) yk yh) = M1)) 0 0 (gF g) := M_start (by decide +kernel) (Nat.le_of_ble_eq_true rfl) fun p e s m args below meth c ls X hr hk hnm hM hl => by
  have X : Cx g p m c cX4_come 5 s args RX4 := X
  have hx := X.1.1
  have hb := X.1.2.1
  have hl : lv_has ls 5 [(0, .ref (gA g 3)), (1, .ref b), (2, .int ro), (3, .int ph)] := hl
  refine lv_aload_n hx hb dX4_come_0 rfl (lv_at hl 0 rfl) ?_
  refine r_get (T := TX4) (N := 14) (ci := 4) (v := .int (nI L)) X hM iX4 rfl 1 (by decide) q_97 (Or.inl rfl) h3 rfl dX4_come_1 ?_
  refine lv_istore (lv' := [(4, .int (nI L)), (0, .ref (gA g 3)), (1, .ref b), (2, .int ro), (3, .int ph)]) hx hb dX4_come_4 hl (by decide) rfl (fun ls hl => ?_)
  refine lv_iload hx hb dX4_come_6 (lv_at hl 0 rfl) ?_
  refine lv_if_lt (tgt := 21) hx hb dX4_come_8 (by decide) (fun c_1 => ?_) (fun c_1 => ?_)
  · skip
    exact absurd c_1 (nI_pos (by omega))
  · skip
    refine lv_iload hx hb dX4_come_11 (lv_at hl 0 rfl) ?_
    refine lv_aload_n hx hb dX4_come_13 rfl (lv_at hl 1 rfl) ?_
    refine r_get (T := TX4) (N := 14) (ci := 4) (v := .ref (gA g 5)) X hM iX4 rfl 5 (by decide) q_105 (Or.inl rfl) h3 rfl dX4_come_14 ?_
    refine r_alen (v := nI 6) 2 X hM h5 rfl rfl dX4_come_17 ?_
    refine lv_icmp_lt (tgt := 22) hx hb dX4_come_18 (by decide) (fun c_2 => ?_) (fun c_2 => ?_)
    · skip
      refine lv_aload_n hx hb dX4_come_22 rfl (lv_at hl 1 rfl) ?_
      refine r_get (T := TX4) (N := 14) (ci := 4) (v := .ref (gA g 5)) X hM iX4 rfl 5 (by decide) q_105 (Or.inl rfl) h3 rfl dX4_come_23 ?_
      refine lv_iload hx hb dX4_come_26 (lv_at hl 0 rfl) ?_
      refine lv_aload_n hx hb dX4_come_28 rfl (lv_at hl 2 rfl) ?_
      refine r_aastQ (w := some b) X hM h5 (StQ.one h_b hkd) (vp_in_nI hL (by decide)) dX4_come_29 (fun H locs hM => ?_)
      rw [nI_clamp (show L < 2147483648 by omega)] at hM
      have hM : MW g (mup M (gA g 5) (aS g 6 (va_up s5 L (some b)))) H locs := hM
      refine lv_aload_n hx hb dX4_come_30 rfl (lv_at hl 1 rfl) ?_
      refine r_get (T := TX4) (N := 14) (ci := 4) (v := .ref (gA g 6)) X hM iX4 rfl 6 (by decide) q_106 (Or.inl rfl) (mup_r (X.2.ne (i := 3) (j := 5) (by decide) (by decide) (by decide)) h3) rfl dX4_come_31 ?_
      refine lv_iload hx hb dX4_come_34 (lv_at hl 0 rfl) ?_
      refine lv_iload_n hx hb dX4_come_36 rfl (lv_at hl 3 rfl) ?_
      refine K_v (G_SN (As := [.ref (gA g 6), .int (nI L), .int ro]) (rest := []) X hM (c_X11_put l g _ (gA g 6) 6 s6 (nI L) ro (mup_r (X.2.ne (i := 6) (j := 5) (by decide) (by decide) (by decide)) h6) (by decide)) lk_X4_79 q_326 rfl hl.1 rfl (Nat.le_of_ble_eq_true rfl) (by decide) dX4_come_37 ⟨Nat.le_of_ble_eq_true rfl, Nat.le_of_ble_eq_true rfl⟩) hM (fun M1 H locs hM hp => ?_)
      subst hp
      have hM : MW g (mup (mup M (gA g 5) (aS g 6 (va_up s5 L (some b)))) (gA g 6) (aI g 6 (fPut 6 s6 (nI L) ro))) H locs := hM
      refine lv_aload_n hx hb dX4_come_40 rfl (lv_at hl 1 rfl) ?_
      refine r_get (T := TX4) (N := 14) (ci := 4) (v := .ref (gA g 7)) X hM iX4 rfl 7 (by decide) q_108 (Or.inl rfl) (mup_r (X.2.ne (i := 3) (j := 6) (by decide) (by decide) (by decide)) (mup_r (X.2.ne (i := 3) (j := 5) (by decide) (by decide) (by decide)) h3)) rfl dX4_come_41 ?_
      refine lv_iload hx hb dX4_come_44 (lv_at hl 0 rfl) ?_
      refine lv_iload_n hx hb dX4_come_46 rfl (lv_at hl 4 rfl) ?_
      refine K_v (G_SN (As := [.ref (gA g 7), .int (nI L), .int ph]) (rest := []) X hM (c_X11_put l g _ (gA g 7) 6 s7 (nI L) ph (mup_r (X.2.ne (i := 7) (j := 6) (by decide) (by decide) (by decide)) (mup_r (X.2.ne (i := 7) (j := 5) (by decide) (by decide) (by decide)) h7)) (by decide)) lk_X4_79 q_326 rfl hl.1 rfl (Nat.le_of_ble_eq_true rfl) (by decide) dX4_come_47 ⟨Nat.le_of_ble_eq_true rfl, Nat.le_of_ble_eq_true rfl⟩) hM (fun M1 H locs hM hp => ?_)
      subst hp
      have hM : MW g (mup (mup (mup M (gA g 5) (aS g 6 (va_up s5 L (some b)))) (gA g 6) (aI g 6 (fPut 6 s6 (nI L) ro))) (gA g 7) (aI g 6 (fPut 6 s7 (nI L) ph))) H locs := hM
      refine lv_aload_n hx hb dX4_come_50 rfl (lv_at hl 1 rfl) ?_
      refine lv_dup hx hb dX4_come_51 rfl ?_
      refine r_get (T := TX4) (N := 14) (ci := 4) (v := .int (nI L)) X hM iX4 rfl 1 (by decide) q_97 (Or.inl rfl) (mup_r (X.2.ne (i := 3) (j := 7) (by decide) (by decide) (by decide)) (mup_r (X.2.ne (i := 3) (j := 6) (by decide) (by decide) (by decide)) (mup_r (X.2.ne (i := 3) (j := 5) (by decide) (by decide) (by decide)) h3))) rfl dX4_come_52 ?_
      refine lv_iconst (v := 1) hx hb dX4_come_55 (by decide) ?_
      refine lv_iadd hx hb dX4_come_56 ?_
      refine r_put (T := TX4) (N := 14) (ci := 4) X hM iX4 tyX4 tyX4_ok nmX4 rfl 1 (by decide) q_97 rfl (Or.inl rfl) (mup_r (X.2.ne (i := 3) (j := 7) (by decide) (by decide) (by decide)) (mup_r (X.2.ne (i := 3) (j := 6) (by decide) (by decide) (by decide)) (mup_r (X.2.ne (i := 3) (j := 5) (by decide) (by decide) (by decide)) h3))) rfl rfl (Nat.le_of_ble_eq_true rfl) dX4_come_57 (fun H locs hM => ?_)
      have hM : MW g (mup (mup (mup (mup M (gA g 5) (aS g 6 (va_up s5 L (some b)))) (gA g 6) (aI g 6 (fPut 6 s6 (nI L) ro))) (gA g 7) (aI g 6 (fPut 6 s7 (nI L) ph))) (gA g 3) (roofN g yn ((nI L) + 1) yk yh)) H locs := hM
      exact R_v X hr hk hM rfl dX4_come_60
    · skip
      exact absurd (nI_lt hL (by omega)) c_2
set_option maxHeartbeats 4000000 in
set_option maxRecDepth 100000 in
theorem c_X11_light (l : Launch) (g : Gp) (M : Mem) (ik : Int32) (en : En) (kn v ro ph : Int32) (h0 : M (gA g 0) = some (custE g ik)) (h3 : M (gA g 3) = some (roofN g (eNi en) (nI (eL en)) (eSk en) (eHi en))) (h5 : M (gA g 5) = some (aS g 6 (eS en))) (h6 : M (gA g 6) = some (aI g 6 (eRo en))) (h7 : M (gA g 7) = some (aI g 6 (ePh en))) (hE : EnOk g M en) : Met l yX11_light (wsM yX11_light cX11_light 5 (some .int)) (rmD 7 1 4) (Pre g M [.ref (gA g 0), .int kn, .int v, .int ro, .int ph]) (Qi g (fun r M1 => (opLi en kn v ro ph ≠ 0 ∧ opLi en kn v ro ph = r ∧ M = M1) ∨ (opLi en kn v ro ph = 0 ∧ nI (eL en) = r ∧ ∃ a : Nat, M a = none ∧ lightM g M en a kn v ro ph = M1))) 1 4 (gF g) := M_start (by decide +kernel) (Nat.le_of_ble_eq_true rfl) fun p e s m args below meth c ls X hr hk hnm hM hl => by
  have X : Cx g p m c cX11_light 5 s args RX11 := X
  have hx := X.1.1
  have hb := X.1.2.1
  obtain ⟨H, eH⟩ : ∃ z, z = s.heap := ⟨_, rfl⟩
  rw [← eH] at hM
  rw [← eH]
  obtain ⟨locs, eL⟩ : ∃ z : List Loc, z = [] := ⟨_, rfl⟩
  rw [← eL] at hM
  rw [← eL]
  clear eH eL
  have hl : lv_has ls 5 [(0, .ref (gA g 0)), (1, .int kn), (2, .int v), (3, .int ro), (4, .int ph)] := hl
  refine lv_iload_n hx hb dX11_light_0 rfl (lv_at hl 1 rfl) ?_
  refine lv_iconst (v := 0) hx hb dX11_light_1 (by decide) ?_
  refine lv_bipush (v := 6) hx hb dX11_light_2 (by decide) ?_
  refine K_i (G_S (As := [.int kn, .int 0, .int 6]) (rest := []) X hM (c_X11_isIn l g _ kn 0 6  ) lk_X11_53 rfl hl.1 rfl (Nat.le_of_ble_eq_true rfl) (by decide) dX11_light_4 ⟨Nat.le_of_ble_eq_true rfl, Nat.le_of_ble_eq_true rfl⟩) hM (fun r M1 H locs hM hp => ?_)
  obtain ⟨rfl, rfl⟩ := hp
  refine lv_if_ne (tgt := 12) hx hb dX11_light_7 (by decide) (fun c_1 => ?_) (fun c_1 => ?_)
  · skip
    obtain ⟨k, bk, ek⟩ := fIn_k (K := 6) (by decide) c_1
    refine lv_iload_n hx hb dX11_light_12 rfl (lv_at hl 2 rfl) ?_
    refine lv_iconst (v := 0) hx hb dX11_light_13 (by decide) ?_
    refine lv_bipush (v := 9) hx hb dX11_light_14 (by decide) ?_
    refine K_i (G_S (As := [.int v, .int 0, .int 9]) (rest := []) X hM (c_X11_isIn l g _ v 0 9  ) lk_X11_53 rfl hl.1 rfl (Nat.le_of_ble_eq_true rfl) (by decide) dX11_light_16 ⟨Nat.le_of_ble_eq_true rfl, Nat.le_of_ble_eq_true rfl⟩) hM (fun r M1 H locs hM hp => ?_)
    obtain ⟨rfl, rfl⟩ := hp
    refine lv_if_eq (tgt := 43) hx hb dX11_light_19 (by decide) (fun c_2 => ?_) (fun c_2 => ?_)
    · skip
      refine lv_bipush (v := -2) hx hb dX11_light_43 (by decide) ?_
      refine W.widen (k := 1) (n := 4) (Nat.le_of_ble_eq_true rfl) (Nat.le_of_ble_eq_true rfl) ?_
      exact R_i X hr hk hM (by have e9 : opLi en kn v ro ph = -2 := (by unfold opLi; (first | rw [if_pos c_1] | rw [if_neg c_1] | skip); (first | rw [if_pos c_2] | rw [if_neg c_2] | skip)); exact Or.inl ⟨by rw [e9]; decide, e9, rfl⟩) dX11_light_45
    · skip
      refine lv_iload_n hx hb dX11_light_22 rfl (lv_at hl 3 rfl) ?_
      refine lv_iconst (v := 1) hx hb dX11_light_23 (by decide) ?_
      refine lv_bipush (v := 30) hx hb dX11_light_24 (by decide) ?_
      refine K_i (G_S (As := [.int ro, .int 1, .int 30]) (rest := []) X hM (c_X11_isIn l g _ ro 1 30  ) lk_X11_53 rfl hl.1 rfl (Nat.le_of_ble_eq_true rfl) (by decide) dX11_light_26 ⟨Nat.le_of_ble_eq_true rfl, Nat.le_of_ble_eq_true rfl⟩) hM (fun r M1 H locs hM hp => ?_)
      obtain ⟨rfl, rfl⟩ := hp
      refine lv_if_eq (tgt := 43) hx hb dX11_light_29 (by decide) (fun c_3 => ?_) (fun c_3 => ?_)
      · skip
        refine lv_bipush (v := -2) hx hb dX11_light_43 (by decide) ?_
        refine W.widen (k := 1) (n := 4) (Nat.le_of_ble_eq_true rfl) (Nat.le_of_ble_eq_true rfl) ?_
        exact R_i X hr hk hM (by have e9 : opLi en kn v ro ph = -2 := (by unfold opLi; (first | rw [if_pos c_1] | rw [if_neg c_1] | skip); (first | rw [if_pos c_2] | rw [if_neg c_2] | skip); (first | rw [if_pos c_3] | rw [if_neg c_3] | skip)); exact Or.inl ⟨by rw [e9]; decide, e9, rfl⟩) dX11_light_45
      · skip
        refine lv_iload hx hb dX11_light_32 (lv_at hl 4 rfl) ?_
        refine lv_iconst (v := 0) hx hb dX11_light_34 (by decide) ?_
        refine lv_bipush (v := 29) hx hb dX11_light_35 (by decide) ?_
        refine K_i (G_S (As := [.int ph, .int 0, .int 29]) (rest := []) X hM (c_X11_isIn l g _ ph 0 29  ) lk_X11_53 rfl hl.1 rfl (Nat.le_of_ble_eq_true rfl) (by decide) dX11_light_37 ⟨Nat.le_of_ble_eq_true rfl, Nat.le_of_ble_eq_true rfl⟩) hM (fun r M1 H locs hM hp => ?_)
        obtain ⟨rfl, rfl⟩ := hp
        refine lv_if_ne (tgt := 46) hx hb dX11_light_40 (by decide) (fun c_4 => ?_) (fun c_4 => ?_)
        · skip
          refine lv_aload_n hx hb dX11_light_46 rfl (lv_at hl 0 rfl) ?_
          refine r_get (T := TX11) (N := 7) (ci := 11) (v := .ref (gA g 3)) X hM iX11 rfl 1 (by decide) q_177 (Or.inl rfl) h0 rfl dX11_light_47 ?_
          refine r_get (T := TX4) (N := 14) (ci := 4) (v := .int (nI (eL en))) X hM iX4 rfl 1 (by decide) q_98 (Or.inl rfl) h3 rfl dX11_light_50 ?_
          refine lv_bipush (v := 6) hx hb dX11_light_53 (by decide) ?_
          refine lv_icmp_lt (tgt := 61) hx hb dX11_light_55 (by decide) (fun c_5 => ?_) (fun c_5 => ?_)
          · skip
            have hq : eL en < 6 := Nat.lt_of_not_le fun q => absurd (show nI (eL en) < nI 6 from c_5) (nI_nlt q (by have := hE.1; omega))
            refine lv_aload_n hx hb dX11_light_61 rfl (lv_at hl 0 rfl) ?_
            refine r_get (T := TX11) (N := 7) (ci := 11) (v := .ref (gA g 3)) X hM iX11 rfl 1 (by decide) q_177 (Or.inl rfl) h0 rfl dX11_light_62 ?_
            refine lv_aload_n hx hb dX11_light_65 rfl (lv_at hl 0 rfl) ?_
            refine lv_iload_n hx hb dX11_light_66 rfl (lv_at hl 1 rfl) ?_
            refine lv_aload_n hx hb dX11_light_67 rfl (lv_at hl 0 rfl) ?_
            refine r_get (T := TX11) (N := 7) (ci := 11) (v := .ref (gA g 3)) X hM iX11 rfl 1 (by decide) q_177 (Or.inl rfl) h0 rfl dX11_light_68 ?_
            refine r_get (T := TX4) (N := 14) (ci := 4) (v := .int (nI (eL en))) X hM iX4 rfl 1 (by decide) q_98 (Or.inl rfl) h3 rfl dX11_light_71 ?_
            refine lv_iload_n hx hb dX11_light_74 rfl (lv_at hl 2 rfl) ?_
            refine K_q (G_V (As := [.int kn, .int (nI (eL en)), .int v]) (rest := [.ref (gA g 3)]) X hM (c_X11_newStar l g _ ik k kn (nI (eL en)) v h0 ek bk) lk_X11_90 h0 rfl rfl hl.1 rfl (Nat.le_of_ble_eq_true rfl) (by decide) dX11_light_75 ⟨Nat.le_of_ble_eq_true rfl, Nat.le_of_ble_eq_true rfl⟩) hM (fun r M1 H locs hM hp => ?_)
            obtain ⟨a, Na, rfl, rfl⟩ := hp
            rw [show va_rf (some a) = .ref a from rfl]
            have n_a_gAg0 : gA g 0 ≠ a := ne_none Na h0
            have n_a_gAg3 : gA g 3 ≠ a := ne_none Na h3
            have n_a_gAg5 : gA g 5 ≠ a := ne_none Na h5
            have n_a_gAg6 : gA g 6 ≠ a := ne_none Na h6
            have n_a_gAg7 : gA g 7 ≠ a := ne_none Na h7
            have hM : MW g (mup M a (starC g k (nI (eL en)) v)) H locs := hM
            refine lv_iload_n hx hb dX11_light_78 rfl (lv_at hl 3 rfl) ?_
            refine lv_iload hx hb dX11_light_79 (lv_at hl 4 rfl) ?_
            refine K_v (G_V (As := [.ref a, .int ro, .int ph]) (rest := []) X hM (c_X4_come l g _ (eL en) (eNi en) (eSk en) (eHi en) (eS en) (eRo en) (ePh en) a k (nI (eL en)) v ro ph (mup_s _ _ _) (mup_r n_a_gAg3 h3) (mup_r n_a_gAg5 h5) (mup_r n_a_gAg6 h6) (mup_r n_a_gAg7 h7) hq bk) lk_X11_94 (mup_r n_a_gAg3 h3) rfl rfl hl.1 rfl (Nat.le_of_ble_eq_true rfl) (by decide) dX11_light_81 ⟨Nat.le_of_ble_eq_true rfl, Nat.le_of_ble_eq_true rfl⟩) hM (fun M1 H locs hM hp => ?_)
            subst hp
            have hM : MW g (mup (mup (mup (mup (mup M a (starC g k (nI (eL en)) v)) (gA g 5) (aS g 6 (va_up (eS en) (eL en) (some a)))) (gA g 6) (aI g 6 (fPut 6 (eRo en) (nI (eL en)) ro))) (gA g 7) (aI g 6 (fPut 6 (ePh en) (nI (eL en)) ph))) (gA g 3) (roofN g (eNi en) (nI (eL en) + 1) (eSk en) (eHi en))) H locs := hM
            refine lv_aload_n hx hb dX11_light_84 rfl (lv_at hl 0 rfl) ?_
            refine r_get (T := TX11) (N := 7) (ci := 11) (v := .ref (gA g 3)) X hM iX11 rfl 1 (by decide) q_177 (Or.inl rfl) (mup_r (X.2.ne (i := 0) (j := 3) (by decide) (by decide) (by decide)) (mup_r (X.2.ne (i := 0) (j := 7) (by decide) (by decide) (by decide)) (mup_r (X.2.ne (i := 0) (j := 6) (by decide) (by decide) (by decide)) (mup_r (X.2.ne (i := 0) (j := 5) (by decide) (by decide) (by decide)) (mup_r n_a_gAg0 h0))))) rfl dX11_light_85 ?_
            refine r_get (T := TX4) (N := 14) (ci := 4) (v := .int (nI (eL en) + 1)) X hM iX4 rfl 1 (by decide) q_98 (Or.inl rfl) (mup_s _ _ _) rfl dX11_light_88 ?_
            refine lv_iconst (v := 1) hx hb dX11_light_91 (by decide) ?_
            refine lv_isub hx hb dX11_light_92 ?_
            refine W.widen (k := 1) (n := 4) (Nat.le_of_ble_eq_true rfl) (Nat.le_of_ble_eq_true rfl) ?_
            exact R_i X hr hk hM (by have e9 : opLi en kn v ro ph = 0 := (by unfold opLi; (first | rw [if_pos c_1] | rw [if_neg c_1] | skip); (first | rw [if_pos c_2] | rw [if_neg c_2] | skip); (first | rw [if_pos c_3] | rw [if_neg c_3] | skip); (first | rw [if_pos c_4] | rw [if_neg c_4] | skip); (first | rw [if_pos hq] | rw [if_neg hq] | skip)); exact Or.inr ⟨e9, (i32_add_sub _).symm, a, Na, by unfold lightM; rw [show kn.toNatClampNeg = k from by rw [ek]; exact nI_clamp (by omega)]⟩) dX11_light_93
          · skip
            have hq : ¬ eL en < 6 := fun q => absurd (show nI (eL en) < (6 : Int32) from nI_lt (b := 6) q (by omega)) c_5
            refine lv_bipush (v := -4) hx hb dX11_light_58 (by decide) ?_
            refine W.widen (k := 1) (n := 4) (Nat.le_of_ble_eq_true rfl) (Nat.le_of_ble_eq_true rfl) ?_
            exact R_i X hr hk hM (by have e9 : opLi en kn v ro ph = -4 := (by unfold opLi; (first | rw [if_pos c_1] | rw [if_neg c_1] | skip); (first | rw [if_pos c_2] | rw [if_neg c_2] | skip); (first | rw [if_pos c_3] | rw [if_neg c_3] | skip); (first | rw [if_pos c_4] | rw [if_neg c_4] | skip); (first | rw [if_pos hq] | rw [if_neg hq] | skip)); exact Or.inl ⟨by rw [e9]; decide, e9, rfl⟩) dX11_light_60
        · skip
          refine lv_bipush (v := -2) hx hb dX11_light_43 (by decide) ?_
          refine W.widen (k := 1) (n := 4) (Nat.le_of_ble_eq_true rfl) (Nat.le_of_ble_eq_true rfl) ?_
          exact R_i X hr hk hM (by have e9 : opLi en kn v ro ph = -2 := (by unfold opLi; (first | rw [if_pos c_1] | rw [if_neg c_1] | skip); (first | rw [if_pos c_2] | rw [if_neg c_2] | skip); (first | rw [if_pos c_3] | rw [if_neg c_3] | skip); (first | rw [if_pos c_4] | rw [if_neg c_4] | skip)); exact Or.inl ⟨by rw [e9]; decide, e9, rfl⟩) dX11_light_45
  · skip
    refine lv_iconst (v := -1) hx hb dX11_light_10 (by decide) ?_
    refine W.widen (k := 1) (n := 4) (Nat.le_of_ble_eq_true rfl) (Nat.le_of_ble_eq_true rfl) ?_
    exact R_i X hr hk hM (by have e9 : opLi en kn v ro ph = -1 := (by unfold opLi; (first | rw [if_pos c_1] | rw [if_neg c_1] | skip)); exact Or.inl ⟨by rw [e9]; decide, e9, rfl⟩) dX11_light_11
