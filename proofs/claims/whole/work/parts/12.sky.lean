def fFact (sg p k v ho ni : Int32) : Int32 := if sg = 112 then p else if sg = 107 then k else if sg = 118 then v else if sg = 104 then ho else if sg = 110 then iR ni 10 else iR ni 7
def bOne (t nu fa : Int32) (z : Int32 × Int32) : Int32 × Int32 := if t = 3 then (z.1, z.2 ^^^ 1) else if t = 4 then (z.1, (z.2 >>> (1 &&& 31)) &&& (z.2 ||| (-2))) else if t = 5 then (z.1, (z.2 >>> (1 &&& 31)) ||| (z.2 &&& 1)) else if t = 6 then (z.1 + nu * (z.2 &&& 1), 0) else if t = 7 then (z.1 - nu * (z.2 &&& 1), 0) else if t = 0 then (z.1, (z.2 <<< (1 &&& 31)) ||| (if nu ≤ fa then 0 else 1)) else if t = 2 then (z.1, (z.2 <<< (1 &&& 31)) ||| (if fa ≤ nu then 0 else 1)) else (z.1, (z.2 <<< (1 &&& 31)) ||| (if fa = nu then 1 else 0))
def bRun (n : Nat) (f1 f2 f3 : Nat → Int32) (p k v ho ni : Int32) : Nat → Int32 × Int32
  | 0 => (0, 0)
  | i + 1 => bOne (fAt n f1 (nI i)) (fAt n f3 (nI i)) (fFact (fAt n f2 (nI i)) p k v ho ni) (bRun n f1 f2 f3 p k v ho ni i)

theorem lk_X6_35 : LkN RX6 35 yX11_put RX11 cX11_put 3 none 3 := lkNS_of (by decide +kernel) q_326 q_1 q_327 ⟨by decide, by decide, by decide +kernel⟩ (by decide)
theorem lk_X6_31 : LkN RX6 31 yX11_copy RX11 cX11_copy 2 none 2 := lkNS_of (by decide +kernel) q_337 q_1 q_338 ⟨by decide, by decide, by decide +kernel⟩ (by decide)
theorem sg_X6_52 {g : Gp} {p : Program} {l : Launch} {e : Env} {R : Room} {s : State} {m : MethodId} {args : Array Value} {below : List Frame} {meth : Method} {c : Code} {H : Heap} {locs : List Loc} {cells slots : Nat} {Q : State → Prop} {cc : ByteArray} {nL : Nat} {M : Mem} {pc : Nat} {ls : Array Slot} {rest : List Value} {a kd : Nat} {nu v : Int32} (X : Cx g p m c cc nL s args RX6) (hM : MW g M H locs) (he : M a = some (starC g kd nu v)) (hkd : kd ≤ 6) (hdg : decode cc pc = .ok (.getfield 52, 3)) (kk : W p l e R s m args below meth c H locs cells slots Q (F0 m (pc + 3) ls (.int (nI kd) :: rest))) : W p l e R s m args below meth c H locs cells slots Q (F0 m pc ls (.ref a :: rest)) := by
  rcases (show kd = 0 ∨ kd = 1 ∨ kd = 2 ∨ kd = 3 ∨ kd = 4 ∨ kd = 5 ∨ kd = 6 by omega) with rfl | rfl | rfl | rfl | rfl | rfl | rfl
  · exact r_get (T := TX8) (N := 4) (ci := 8) (v := .int (nI 0)) X hM iX8 rfl 0 (by decide) q_365 (Or.inl rfl) he rfl hdg kk
  · exact r_get (T := TX2) (N := 4) (ci := 2) (v := .int (nI 1)) X hM iX2 rfl 0 (by decide) q_365 (Or.inl rfl) he rfl hdg kk
  · exact r_get (T := TX0) (N := 4) (ci := 0) (v := .int (nI 2)) X hM iX0 rfl 0 (by decide) q_365 (Or.inl rfl) he rfl hdg kk
  · exact r_get (T := TX3) (N := 4) (ci := 3) (v := .int (nI 3)) X hM iX3 rfl 0 (by decide) q_365 (Or.inl rfl) he rfl hdg kk
  · exact r_get (T := TX10) (N := 4) (ci := 10) (v := .int (nI 4)) X hM iX10 rfl 0 (by decide) q_365 (Or.inl rfl) he rfl hdg kk
  · exact r_get (T := TX1) (N := 4) (ci := 1) (v := .int (nI 5)) X hM iX1 rfl 0 (by decide) q_365 (Or.inl rfl) he rfl hdg kk
  · exact r_get (T := TX9) (N := 4) (ci := 9) (v := .int (nI 6)) X hM iX9 rfl 0 (by decide) q_365 (Or.inl rfl) he rfl hdg kk
theorem sg_X6_47 {g : Gp} {p : Program} {l : Launch} {e : Env} {R : Room} {s : State} {m : MethodId} {args : Array Value} {below : List Frame} {meth : Method} {c : Code} {H : Heap} {locs : List Loc} {cells slots : Nat} {Q : State → Prop} {cc : ByteArray} {nL : Nat} {M : Mem} {pc : Nat} {ls : Array Slot} {rest : List Value} {a kd : Nat} {nu v : Int32} (X : Cx g p m c cc nL s args RX6) (hM : MW g M H locs) (he : M a = some (starC g kd nu v)) (hkd : kd ≤ 6) (hdg : decode cc pc = .ok (.getfield 47, 3)) (kk : W p l e R s m args below meth c H locs cells slots Q (F0 m (pc + 3) ls (.int nu :: rest))) : W p l e R s m args below meth c H locs cells slots Q (F0 m pc ls (.ref a :: rest)) := by
  rcases (show kd = 0 ∨ kd = 1 ∨ kd = 2 ∨ kd = 3 ∨ kd = 4 ∨ kd = 5 ∨ kd = 6 by omega) with rfl | rfl | rfl | rfl | rfl | rfl | rfl
  · exact r_get (T := TX8) (N := 4) (ci := 8) (v := .int nu) X hM iX8 rfl 1 (by decide) q_369 (Or.inl rfl) he rfl hdg kk
  · exact r_get (T := TX2) (N := 4) (ci := 2) (v := .int nu) X hM iX2 rfl 1 (by decide) q_369 (Or.inl rfl) he rfl hdg kk
  · exact r_get (T := TX0) (N := 4) (ci := 0) (v := .int nu) X hM iX0 rfl 1 (by decide) q_369 (Or.inl rfl) he rfl hdg kk
  · exact r_get (T := TX3) (N := 4) (ci := 3) (v := .int nu) X hM iX3 rfl 1 (by decide) q_369 (Or.inl rfl) he rfl hdg kk
  · exact r_get (T := TX10) (N := 4) (ci := 10) (v := .int nu) X hM iX10 rfl 1 (by decide) q_369 (Or.inl rfl) he rfl hdg kk
  · exact r_get (T := TX1) (N := 4) (ci := 1) (v := .int nu) X hM iX1 rfl 1 (by decide) q_369 (Or.inl rfl) he rfl hdg kk
  · exact r_get (T := TX9) (N := 4) (ci := 9) (v := .int nu) X hM iX9 rfl 1 (by decide) q_369 (Or.inl rfl) he rfl hdg kk
theorem sg_X6_55 {g : Gp} {p : Program} {l : Launch} {e : Env} {R : Room} {s : State} {m : MethodId} {args : Array Value} {below : List Frame} {meth : Method} {c : Code} {H : Heap} {locs : List Loc} {cells slots : Nat} {Q : State → Prop} {cc : ByteArray} {nL : Nat} {M : Mem} {pc : Nat} {ls : Array Slot} {rest : List Value} {a kd : Nat} {nu v : Int32} (X : Cx g p m c cc nL s args RX6) (hM : MW g M H locs) (he : M a = some (starC g kd nu v)) (hkd : kd ≤ 6) (hdg : decode cc pc = .ok (.getfield 55, 3)) (kk : W p l e R s m args below meth c H locs cells slots Q (F0 m (pc + 3) ls (.int v :: rest))) : W p l e R s m args below meth c H locs cells slots Q (F0 m pc ls (.ref a :: rest)) := by
  rcases (show kd = 0 ∨ kd = 1 ∨ kd = 2 ∨ kd = 3 ∨ kd = 4 ∨ kd = 5 ∨ kd = 6 by omega) with rfl | rfl | rfl | rfl | rfl | rfl | rfl
  · exact r_get (T := TX8) (N := 4) (ci := 8) (v := .int v) X hM iX8 rfl 2 (by decide) q_381 (Or.inl rfl) he rfl hdg kk
  · exact r_get (T := TX2) (N := 4) (ci := 2) (v := .int v) X hM iX2 rfl 2 (by decide) q_381 (Or.inl rfl) he rfl hdg kk
  · exact r_get (T := TX0) (N := 4) (ci := 0) (v := .int v) X hM iX0 rfl 2 (by decide) q_381 (Or.inl rfl) he rfl hdg kk
  · exact r_get (T := TX3) (N := 4) (ci := 3) (v := .int v) X hM iX3 rfl 2 (by decide) q_381 (Or.inl rfl) he rfl hdg kk
  · exact r_get (T := TX10) (N := 4) (ci := 10) (v := .int v) X hM iX10 rfl 2 (by decide) q_381 (Or.inl rfl) he rfl hdg kk
  · exact r_get (T := TX1) (N := 4) (ci := 1) (v := .int v) X hM iX1 rfl 2 (by decide) q_381 (Or.inl rfl) he rfl hdg kk
  · exact r_get (T := TX9) (N := 4) (ci := 9) (v := .int v) X hM iX9 rfl 2 (by decide) q_381 (Or.inl rfl) he rfl hdg kk
theorem lk_X6_39 : LkN RX6 39 yX11_at RX11 cX11_at 2 (some .int) 2 := lkNS_of (by decide +kernel) q_230 q_1 q_231 ⟨by decide, by decide, by decide +kernel⟩ (by decide)
theorem lk_X6_43 : LkS RX6 43 yX6_factOf cX6_factOf 4 (some .int) 4 := lkS_of q_523 q_524 q_5 q_525 ⟨rfl, by decide, by decide, by decide +kernel⟩ (by decide)
set_option maxHeartbeats 4000000 in
set_option maxRecDepth 100000 in
theorem c_X6_empty (l : Launch) (g : Gp) (M : Mem) (o q1 q2 q3 : Nat) (sz tu cl : Int32) (h_o : M o = some (skyE q1 q2 q3 sz tu cl)) : Met l yX6_empty (wsM yX6_empty cX6_empty 1 none) (rmD 1 0 0) (Pre g M [.ref o]) (Qv g (fun M1 => mup M o (skyE q1 q2 q3 0 1 0) = M1)) 0 0 (gF g) := M_start (by decide +kernel) (Nat.le_of_ble_eq_true rfl) fun p e s m args below meth c ls X hr hk hnm hM hl => by
  have X : Cx g p m c cX6_empty 1 s args RX6 := X
  have hx := X.1.1
  have hb := X.1.2.1
  have hl : lv_has ls 1 [(0, .ref o)] := hl
  refine lv_aload_n hx hb dX6_empty_0 rfl (lv_at hl 0 rfl) ?_
  refine lv_iconst (v := 0) hx hb dX6_empty_1 (by decide) ?_
  refine r_put (T := TX6) (N := 6) (ci := 6) X hM iX6 tyX6 tyX6_ok nmX6 rfl 3 (by decide) q_72 rfl (Or.inl rfl) h_o rfl rfl (Nat.le_of_ble_eq_true rfl) dX6_empty_2 (fun H locs hM => ?_)
  have hM : MW g (mup M o (skyE q1 q2 q3 0 tu cl)) H locs := hM
  refine lv_aload_n hx hb dX6_empty_5 rfl (lv_at hl 0 rfl) ?_
  refine lv_iconst (v := 1) hx hb dX6_empty_6 (by decide) ?_
  refine r_put (T := TX6) (N := 6) (ci := 6) X hM iX6 tyX6 tyX6_ok nmX6 rfl 4 (by decide) q_73 rfl (Or.inl rfl) (mup_s _ _ _) rfl rfl (Nat.le_of_ble_eq_true rfl) dX6_empty_7 (fun H locs hM => ?_)
  rw [mup_i] at hM
  have hM : MW g (mup M o (skyE q1 q2 q3 0 1 cl)) H locs := hM
  refine lv_aload_n hx hb dX6_empty_10 rfl (lv_at hl 0 rfl) ?_
  refine lv_iconst (v := 0) hx hb dX6_empty_11 (by decide) ?_
  refine r_put (T := TX6) (N := 6) (ci := 6) X hM iX6 tyX6 tyX6_ok nmX6 rfl 5 (by decide) q_77 rfl (Or.inl rfl) (mup_s _ _ _) rfl rfl (Nat.le_of_ble_eq_true rfl) dX6_empty_12 (fun H locs hM => ?_)
  rw [mup_i] at hM
  have hM : MW g (mup M o (skyE q1 q2 q3 0 1 0)) H locs := hM
  exact R_v X hr hk hM rfl dX6_empty_15
set_option maxHeartbeats 4000000 in
set_option maxRecDepth 100000 in
theorem c_X6_add (l : Launch) (g : Gp) (M : Mem) (o q1 q2 q3 n : Nat) (f1 f2 f3 : Nat → Int32) (sz tu cl : Int32) (x y z : Int32) (h_o : M o = some (skyE q1 q2 q3 sz tu cl)) (h_1 : M q1 = some (aI g n f1)) (h_2 : M q2 = some (aI g n f2)) (h_3 : M q3 = some (aI g n f3)) (hn : n < 2147483648) (ho1 : o ≠ q1) (ho2 : o ≠ q2) (ho3 : o ≠ q3) (h12 : q1 ≠ q2) (h13 : q1 ≠ q3) (h23 : q2 ≠ q3) : Met l yX6_add (wsM yX6_add cX6_add 4 none) (rmD 2 0 0) (Pre g M [.ref o, .int x, .int y, .int z]) (Qv g (fun M1 => mup (mup (mup (mup M q1 (aI g n (fPut n f1 sz x))) q2 (aI g n (fPut n f2 sz y))) q3 (aI g n (fPut n f3 sz z))) o (skyE q1 q2 q3 (sz + 1) tu cl) = M1)) 0 0 (gF g) := M_start (by decide +kernel) (Nat.le_of_ble_eq_true rfl) fun p e s m args below meth c ls X hr hk hnm hM hl => by
  have X : Cx g p m c cX6_add 4 s args RX6 := X
  have hx := X.1.1
  have hb := X.1.2.1
  have hl : lv_has ls 4 [(0, .ref o), (1, .int x), (2, .int y), (3, .int z)] := hl
  refine lv_aload_n hx hb dX6_add_0 rfl (lv_at hl 0 rfl) ?_
  refine r_get (T := TX6) (N := 6) (ci := 6) (v := .ref q1) X hM iX6 rfl 0 (by decide) q_69 (Or.inl rfl) h_o rfl dX6_add_1 ?_
  refine lv_aload_n hx hb dX6_add_4 rfl (lv_at hl 0 rfl) ?_
  refine r_get (T := TX6) (N := 6) (ci := 6) (v := .int sz) X hM iX6 rfl 3 (by decide) q_72 (Or.inl rfl) h_o rfl dX6_add_5 ?_
  refine lv_iload_n hx hb dX6_add_8 rfl (lv_at hl 1 rfl) ?_
  refine K_v (G_SN (As := [.ref q1, .int sz, .int x]) (rest := []) X hM (c_X11_put l g _ q1 n f1 sz x h_1 hn) lk_X6_35 q_326 rfl hl.1 rfl (Nat.le_of_ble_eq_true rfl) (by decide) dX6_add_9 ⟨Nat.le_of_ble_eq_true rfl, Nat.le_of_ble_eq_true rfl⟩) hM (fun M1 H locs hM hp => ?_)
  subst hp
  have hM : MW g (mup M q1 (aI g n (fPut n f1 sz x))) H locs := hM
  refine lv_aload_n hx hb dX6_add_12 rfl (lv_at hl 0 rfl) ?_
  refine r_get (T := TX6) (N := 6) (ci := 6) (v := .ref q2) X hM iX6 rfl 1 (by decide) q_70 (Or.inl rfl) (mup_r ho1 h_o) rfl dX6_add_13 ?_
  refine lv_aload_n hx hb dX6_add_16 rfl (lv_at hl 0 rfl) ?_
  refine r_get (T := TX6) (N := 6) (ci := 6) (v := .int sz) X hM iX6 rfl 3 (by decide) q_72 (Or.inl rfl) (mup_r ho1 h_o) rfl dX6_add_17 ?_
  refine lv_iload_n hx hb dX6_add_20 rfl (lv_at hl 2 rfl) ?_
  refine K_v (G_SN (As := [.ref q2, .int sz, .int y]) (rest := []) X hM (c_X11_put l g _ q2 n f2 sz y (mup_r (Ne.symm h12) h_2) hn) lk_X6_35 q_326 rfl hl.1 rfl (Nat.le_of_ble_eq_true rfl) (by decide) dX6_add_21 ⟨Nat.le_of_ble_eq_true rfl, Nat.le_of_ble_eq_true rfl⟩) hM (fun M1 H locs hM hp => ?_)
  subst hp
  have hM : MW g (mup (mup M q1 (aI g n (fPut n f1 sz x))) q2 (aI g n (fPut n f2 sz y))) H locs := hM
  refine lv_aload_n hx hb dX6_add_24 rfl (lv_at hl 0 rfl) ?_
  refine r_get (T := TX6) (N := 6) (ci := 6) (v := .ref q3) X hM iX6 rfl 2 (by decide) q_71 (Or.inl rfl) (mup_r ho2 (mup_r ho1 h_o)) rfl dX6_add_25 ?_
  refine lv_aload_n hx hb dX6_add_28 rfl (lv_at hl 0 rfl) ?_
  refine r_get (T := TX6) (N := 6) (ci := 6) (v := .int sz) X hM iX6 rfl 3 (by decide) q_72 (Or.inl rfl) (mup_r ho2 (mup_r ho1 h_o)) rfl dX6_add_29 ?_
  refine lv_iload_n hx hb dX6_add_32 rfl (lv_at hl 3 rfl) ?_
  refine K_v (G_SN (As := [.ref q3, .int sz, .int z]) (rest := []) X hM (c_X11_put l g _ q3 n f3 sz z (mup_r (Ne.symm h23) (mup_r (Ne.symm h13) h_3)) hn) lk_X6_35 q_326 rfl hl.1 rfl (Nat.le_of_ble_eq_true rfl) (by decide) dX6_add_33 ⟨Nat.le_of_ble_eq_true rfl, Nat.le_of_ble_eq_true rfl⟩) hM (fun M1 H locs hM hp => ?_)
  subst hp
  have hM : MW g (mup (mup (mup M q1 (aI g n (fPut n f1 sz x))) q2 (aI g n (fPut n f2 sz y))) q3 (aI g n (fPut n f3 sz z))) H locs := hM
  refine lv_aload_n hx hb dX6_add_36 rfl (lv_at hl 0 rfl) ?_
  refine lv_dup hx hb dX6_add_37 rfl ?_
  refine r_get (T := TX6) (N := 6) (ci := 6) (v := .int sz) X hM iX6 rfl 3 (by decide) q_72 (Or.inl rfl) (mup_r ho3 (mup_r ho2 (mup_r ho1 h_o))) rfl dX6_add_38 ?_
  refine lv_iconst (v := 1) hx hb dX6_add_41 (by decide) ?_
  refine lv_iadd hx hb dX6_add_42 ?_
  refine r_put (T := TX6) (N := 6) (ci := 6) X hM iX6 tyX6 tyX6_ok nmX6 rfl 3 (by decide) q_72 rfl (Or.inl rfl) (mup_r ho3 (mup_r ho2 (mup_r ho1 h_o))) rfl rfl (Nat.le_of_ble_eq_true rfl) dX6_add_43 (fun H locs hM => ?_)
  have hM : MW g (mup (mup (mup (mup M q1 (aI g n (fPut n f1 sz x))) q2 (aI g n (fPut n f2 sz y))) q3 (aI g n (fPut n f3 sz z))) o (skyE q1 q2 q3 (sz + 1) tu cl)) H locs := hM
  exact R_v X hr hk hM rfl dX6_add_46
set_option maxHeartbeats 4000000 in
set_option maxRecDepth 100000 in
theorem c_X6_become (l : Launch) (g : Gp) (M : Mem) (o q1 q2 q3 n : Nat) (f1 f2 f3 : Nat → Int32) (sz tu cl : Int32) (o2 r1 r2 r3 : Nat) (k1 k2 k3 : Nat → Int32) (sz2 tu2 cl2 : Int32) (h_o : M o = some (skyE q1 q2 q3 sz tu cl)) (h_1 : M q1 = some (aI g n f1)) (h_2 : M q2 = some (aI g n f2)) (h_3 : M q3 = some (aI g n f3)) (h_o2 : M o2 = some (skyE r1 r2 r3 sz2 tu2 cl2)) (h_r1 : M r1 = some (aI g n k1)) (h_r2 : M r2 = some (aI g n k2)) (h_r3 : M r3 = some (aI g n k3)) (hn : n < 2147483648) (ho1 : o ≠ q1) (ho2 : o ≠ q2) (ho3 : o ≠ q3) (h12 : q1 ≠ q2) (h13 : q1 ≠ q3) (h23 : q2 ≠ q3) (no : o2 ≠ o) (nr1o : r1 ≠ o) (nr2o : r2 ≠ o) (nr3o : r3 ≠ o) (n11 : r1 ≠ q1) (n21 : r2 ≠ q1) (n22 : r2 ≠ q2) (n31 : r3 ≠ q1) (n32 : r3 ≠ q2) (n33 : r3 ≠ q3) : Met l yX6_become (wsM yX6_become cX6_become 2 none) (rmD 3 0 0) (Pre g M [.ref o, .ref o2]) (Qv g (fun M1 => mup (mup (mup (mup M o (skyE q1 q2 q3 sz2 tu2 cl2)) q1 (aI g n (fCopy n n k1 f1))) q2 (aI g n (fCopy n n k2 f2))) q3 (aI g n (fCopy n n k3 f3)) = M1)) 0 0 (gF g) := M_start (by decide +kernel) (Nat.le_of_ble_eq_true rfl) fun p e s m args below meth c ls X hr hk hnm hM hl => by
  have X : Cx g p m c cX6_become 2 s args RX6 := X
  have hx := X.1.1
  have hb := X.1.2.1
  have hl : lv_has ls 2 [(0, .ref o), (1, .ref o2)] := hl
  refine lv_aload_n hx hb dX6_become_0 rfl (lv_at hl 0 rfl) ?_
  refine lv_aload_n hx hb dX6_become_1 rfl (lv_at hl 1 rfl) ?_
  refine r_get (T := TX6) (N := 6) (ci := 6) (v := .int sz2) X hM iX6 rfl 3 (by decide) q_72 (Or.inl rfl) h_o2 rfl dX6_become_2 ?_
  refine r_put (T := TX6) (N := 6) (ci := 6) X hM iX6 tyX6 tyX6_ok nmX6 rfl 3 (by decide) q_72 rfl (Or.inl rfl) h_o rfl rfl (Nat.le_of_ble_eq_true rfl) dX6_become_5 (fun H locs hM => ?_)
  have hM : MW g (mup M o (skyE q1 q2 q3 sz2 tu cl)) H locs := hM
  refine lv_aload_n hx hb dX6_become_8 rfl (lv_at hl 0 rfl) ?_
  refine lv_aload_n hx hb dX6_become_9 rfl (lv_at hl 1 rfl) ?_
  refine r_get (T := TX6) (N := 6) (ci := 6) (v := .int tu2) X hM iX6 rfl 4 (by decide) q_73 (Or.inl rfl) (mup_r no h_o2) rfl dX6_become_10 ?_
  refine r_put (T := TX6) (N := 6) (ci := 6) X hM iX6 tyX6 tyX6_ok nmX6 rfl 4 (by decide) q_73 rfl (Or.inl rfl) (mup_s _ _ _) rfl rfl (Nat.le_of_ble_eq_true rfl) dX6_become_13 (fun H locs hM => ?_)
  rw [mup_i] at hM
  have hM : MW g (mup M o (skyE q1 q2 q3 sz2 tu2 cl)) H locs := hM
  refine lv_aload_n hx hb dX6_become_16 rfl (lv_at hl 0 rfl) ?_
  refine lv_aload_n hx hb dX6_become_17 rfl (lv_at hl 1 rfl) ?_
  refine r_get (T := TX6) (N := 6) (ci := 6) (v := .int cl2) X hM iX6 rfl 5 (by decide) q_77 (Or.inl rfl) (mup_r no h_o2) rfl dX6_become_18 ?_
  refine r_put (T := TX6) (N := 6) (ci := 6) X hM iX6 tyX6 tyX6_ok nmX6 rfl 5 (by decide) q_77 rfl (Or.inl rfl) (mup_s _ _ _) rfl rfl (Nat.le_of_ble_eq_true rfl) dX6_become_21 (fun H locs hM => ?_)
  rw [mup_i] at hM
  have hM : MW g (mup M o (skyE q1 q2 q3 sz2 tu2 cl2)) H locs := hM
  refine lv_aload_n hx hb dX6_become_24 rfl (lv_at hl 1 rfl) ?_
  refine r_get (T := TX6) (N := 6) (ci := 6) (v := .ref r1) X hM iX6 rfl 0 (by decide) q_69 (Or.inl rfl) (mup_r no h_o2) rfl dX6_become_25 ?_
  refine lv_aload_n hx hb dX6_become_28 rfl (lv_at hl 0 rfl) ?_
  refine r_get (T := TX6) (N := 6) (ci := 6) (v := .ref q1) X hM iX6 rfl 0 (by decide) q_69 (Or.inl rfl) (mup_s _ _ _) rfl dX6_become_29 ?_
  refine K_v (G_SN (As := [.ref r1, .ref q1]) (rest := []) X hM (c_X11_copy l g _ r1 q1 n n k1 f1 (mup_r nr1o h_r1) (mup_r (Ne.symm ho1) h_1) hn hn n11) lk_X6_31 q_337 rfl hl.1 rfl (Nat.le_of_ble_eq_true rfl) (by decide) dX6_become_32 ⟨Nat.le_of_ble_eq_true rfl, Nat.le_of_ble_eq_true rfl⟩) hM (fun M1 H locs hM hp => ?_)
  subst hp
  have hM : MW g (mup (mup M o (skyE q1 q2 q3 sz2 tu2 cl2)) q1 (aI g n (fCopy n n k1 f1))) H locs := hM
  refine lv_aload_n hx hb dX6_become_35 rfl (lv_at hl 1 rfl) ?_
  refine r_get (T := TX6) (N := 6) (ci := 6) (v := .ref r2) X hM iX6 rfl 1 (by decide) q_70 (Or.inl rfl) (mup_r (ne_kind h_o2 h_1 Sum.inr_ne_inl) (mup_r no h_o2)) rfl dX6_become_36 ?_
  refine lv_aload_n hx hb dX6_become_39 rfl (lv_at hl 0 rfl) ?_
  refine r_get (T := TX6) (N := 6) (ci := 6) (v := .ref q2) X hM iX6 rfl 1 (by decide) q_70 (Or.inl rfl) (mup_r ho1 (mup_s _ _ _)) rfl dX6_become_40 ?_
  refine K_v (G_SN (As := [.ref r2, .ref q2]) (rest := []) X hM (c_X11_copy l g _ r2 q2 n n k2 f2 (mup_r n21 (mup_r nr2o h_r2)) (mup_r (Ne.symm h12) (mup_r (Ne.symm ho2) h_2)) hn hn n22) lk_X6_31 q_337 rfl hl.1 rfl (Nat.le_of_ble_eq_true rfl) (by decide) dX6_become_43 ⟨Nat.le_of_ble_eq_true rfl, Nat.le_of_ble_eq_true rfl⟩) hM (fun M1 H locs hM hp => ?_)
  subst hp
  have hM : MW g (mup (mup (mup M o (skyE q1 q2 q3 sz2 tu2 cl2)) q1 (aI g n (fCopy n n k1 f1))) q2 (aI g n (fCopy n n k2 f2))) H locs := hM
  refine lv_aload_n hx hb dX6_become_46 rfl (lv_at hl 1 rfl) ?_
  refine r_get (T := TX6) (N := 6) (ci := 6) (v := .ref r3) X hM iX6 rfl 2 (by decide) q_71 (Or.inl rfl) (mup_r (ne_kind h_o2 h_2 Sum.inr_ne_inl) (mup_r (ne_kind h_o2 h_1 Sum.inr_ne_inl) (mup_r no h_o2))) rfl dX6_become_47 ?_
  refine lv_aload_n hx hb dX6_become_50 rfl (lv_at hl 0 rfl) ?_
  refine r_get (T := TX6) (N := 6) (ci := 6) (v := .ref q3) X hM iX6 rfl 2 (by decide) q_71 (Or.inl rfl) (mup_r ho2 (mup_r ho1 (mup_s _ _ _))) rfl dX6_become_51 ?_
  refine K_v (G_SN (As := [.ref r3, .ref q3]) (rest := []) X hM (c_X11_copy l g _ r3 q3 n n k3 f3 (mup_r n32 (mup_r n31 (mup_r nr3o h_r3))) (mup_r (Ne.symm h23) (mup_r (Ne.symm h13) (mup_r (Ne.symm ho3) h_3))) hn hn n33) lk_X6_31 q_337 rfl hl.1 rfl (Nat.le_of_ble_eq_true rfl) (by decide) dX6_become_54 ⟨Nat.le_of_ble_eq_true rfl, Nat.le_of_ble_eq_true rfl⟩) hM (fun M1 H locs hM hp => ?_)
  subst hp
  have hM : MW g (mup (mup (mup (mup M o (skyE q1 q2 q3 sz2 tu2 cl2)) q1 (aI g n (fCopy n n k1 f1))) q2 (aI g n (fCopy n n k2 f2))) q3 (aI g n (fCopy n n k3 f3))) H locs := hM
  exact R_v X hr hk hM rfl dX6_become_57
set_option maxHeartbeats 4000000 in
set_option maxRecDepth 100000 in
theorem c_X6_factOf (l : Launch) (g : Gp) (M : Mem) (a kd : Nat) (nu v sg ho ni : Int32) (h_a : M a = some (starC g kd nu v)) (hkd : kd ≤ 6) : Met l yX6_factOf (wsM yX6_factOf cX6_factOf 4 (some .int)) (rmD 1 0 0) (Pre g M [.int sg, .ref a, .int ho, .int ni]) (Qi g (fun r M1 => (fFact sg nu (nI kd) v ho ni) = r ∧ M = M1)) 0 0 (gF g) := M_start (by decide +kernel) (Nat.le_of_ble_eq_true rfl) fun p e s m args below meth c ls X hr hk hnm hM hl => by
  have X : Cx g p m c cX6_factOf 4 s args RX6 := X
  have hx := X.1.1
  have hb := X.1.2.1
  have hl : lv_has ls 4 [(0, .int sg), (1, .ref a), (2, .int ho), (3, .int ni)] := hl
  refine lv_iload_n hx hb dX6_factOf_0 rfl (lv_at hl 0 rfl) ?_
  by_cases w_1 : sg = 104
  · skip
    refine lv_tableIn (off := 90) (tgt := 91) hx hb dX6_factOf_1 (by rw [w_1]; decide) (by rw [w_1]; decide) (by rw [w_1]; rfl) (by decide) ?_
    refine lv_iload_n hx hb dX6_factOf_91 rfl (lv_at hl 2 rfl) ?_
    exact R_i X hr hk hM ⟨(by simp [fFact, *]), rfl⟩ dX6_factOf_92
  by_cases w_2 : sg = 105
  · skip
    refine lv_tableIn (off := 97) (tgt := 98) hx hb dX6_factOf_1 (by rw [w_2]; decide) (by rw [w_2]; decide) (by rw [w_2]; rfl) (by decide) ?_
    refine lv_iload_n hx hb dX6_factOf_98 rfl (lv_at hl 3 rfl) ?_
    refine lv_bipush (v := 7) hx hb dX6_factOf_99 (by decide) ?_
    refine l_irem hx hb dX6_factOf_101 (by decide) ?_
    exact R_i X hr hk hM ⟨(by simp [fFact, *]), rfl⟩ dX6_factOf_102
  by_cases w_3 : sg = 106
  · skip
    refine lv_tableIn (off := 97) (tgt := 98) hx hb dX6_factOf_1 (by rw [w_3]; decide) (by rw [w_3]; decide) (by rw [w_3]; rfl) (by decide) ?_
    refine lv_iload_n hx hb dX6_factOf_98 rfl (lv_at hl 3 rfl) ?_
    refine lv_bipush (v := 7) hx hb dX6_factOf_99 (by decide) ?_
    refine l_irem hx hb dX6_factOf_101 (by decide) ?_
    exact R_i X hr hk hM ⟨(by simp [fFact, *]), rfl⟩ dX6_factOf_102
  by_cases w_4 : sg = 107
  · skip
    refine lv_tableIn (off := 80) (tgt := 81) hx hb dX6_factOf_1 (by rw [w_4]; decide) (by rw [w_4]; decide) (by rw [w_4]; rfl) (by decide) ?_
    refine lv_aload_n hx hb dX6_factOf_81 rfl (lv_at hl 1 rfl) ?_
    refine sg_X6_52 X hM h_a (kd := kd) hkd dX6_factOf_82 ?_
    exact R_i X hr hk hM ⟨(by simp [fFact, *]), rfl⟩ dX6_factOf_85
  by_cases w_5 : sg = 108
  · skip
    refine lv_tableIn (off := 97) (tgt := 98) hx hb dX6_factOf_1 (by rw [w_5]; decide) (by rw [w_5]; decide) (by rw [w_5]; rfl) (by decide) ?_
    refine lv_iload_n hx hb dX6_factOf_98 rfl (lv_at hl 3 rfl) ?_
    refine lv_bipush (v := 7) hx hb dX6_factOf_99 (by decide) ?_
    refine l_irem hx hb dX6_factOf_101 (by decide) ?_
    exact R_i X hr hk hM ⟨(by simp [fFact, *]), rfl⟩ dX6_factOf_102
  by_cases w_6 : sg = 109
  · skip
    refine lv_tableIn (off := 97) (tgt := 98) hx hb dX6_factOf_1 (by rw [w_6]; decide) (by rw [w_6]; decide) (by rw [w_6]; rfl) (by decide) ?_
    refine lv_iload_n hx hb dX6_factOf_98 rfl (lv_at hl 3 rfl) ?_
    refine lv_bipush (v := 7) hx hb dX6_factOf_99 (by decide) ?_
    refine l_irem hx hb dX6_factOf_101 (by decide) ?_
    exact R_i X hr hk hM ⟨(by simp [fFact, *]), rfl⟩ dX6_factOf_102
  by_cases w_7 : sg = 110
  · skip
    refine lv_tableIn (off := 92) (tgt := 93) hx hb dX6_factOf_1 (by rw [w_7]; decide) (by rw [w_7]; decide) (by rw [w_7]; rfl) (by decide) ?_
    refine lv_iload_n hx hb dX6_factOf_93 rfl (lv_at hl 3 rfl) ?_
    refine lv_bipush (v := 10) hx hb dX6_factOf_94 (by decide) ?_
    refine l_irem hx hb dX6_factOf_96 (by decide) ?_
    exact R_i X hr hk hM ⟨(by simp [fFact, *]), rfl⟩ dX6_factOf_97
  by_cases w_8 : sg = 111
  · skip
    refine lv_tableIn (off := 97) (tgt := 98) hx hb dX6_factOf_1 (by rw [w_8]; decide) (by rw [w_8]; decide) (by rw [w_8]; rfl) (by decide) ?_
    refine lv_iload_n hx hb dX6_factOf_98 rfl (lv_at hl 3 rfl) ?_
    refine lv_bipush (v := 7) hx hb dX6_factOf_99 (by decide) ?_
    refine l_irem hx hb dX6_factOf_101 (by decide) ?_
    exact R_i X hr hk hM ⟨(by simp [fFact, *]), rfl⟩ dX6_factOf_102
  by_cases w_9 : sg = 112
  · skip
    refine lv_tableIn (off := 75) (tgt := 76) hx hb dX6_factOf_1 (by rw [w_9]; decide) (by rw [w_9]; decide) (by rw [w_9]; rfl) (by decide) ?_
    refine lv_aload_n hx hb dX6_factOf_76 rfl (lv_at hl 1 rfl) ?_
    refine sg_X6_47 X hM h_a (kd := kd) hkd dX6_factOf_77 ?_
    exact R_i X hr hk hM ⟨(by simp [fFact, *]), rfl⟩ dX6_factOf_80
  by_cases w_10 : sg = 113
  · skip
    refine lv_tableIn (off := 97) (tgt := 98) hx hb dX6_factOf_1 (by rw [w_10]; decide) (by rw [w_10]; decide) (by rw [w_10]; rfl) (by decide) ?_
    refine lv_iload_n hx hb dX6_factOf_98 rfl (lv_at hl 3 rfl) ?_
    refine lv_bipush (v := 7) hx hb dX6_factOf_99 (by decide) ?_
    refine l_irem hx hb dX6_factOf_101 (by decide) ?_
    exact R_i X hr hk hM ⟨(by simp [fFact, *]), rfl⟩ dX6_factOf_102
  by_cases w_11 : sg = 114
  · skip
    refine lv_tableIn (off := 97) (tgt := 98) hx hb dX6_factOf_1 (by rw [w_11]; decide) (by rw [w_11]; decide) (by rw [w_11]; rfl) (by decide) ?_
    refine lv_iload_n hx hb dX6_factOf_98 rfl (lv_at hl 3 rfl) ?_
    refine lv_bipush (v := 7) hx hb dX6_factOf_99 (by decide) ?_
    refine l_irem hx hb dX6_factOf_101 (by decide) ?_
    exact R_i X hr hk hM ⟨(by simp [fFact, *]), rfl⟩ dX6_factOf_102
  by_cases w_12 : sg = 115
  · skip
    refine lv_tableIn (off := 97) (tgt := 98) hx hb dX6_factOf_1 (by rw [w_12]; decide) (by rw [w_12]; decide) (by rw [w_12]; rfl) (by decide) ?_
    refine lv_iload_n hx hb dX6_factOf_98 rfl (lv_at hl 3 rfl) ?_
    refine lv_bipush (v := 7) hx hb dX6_factOf_99 (by decide) ?_
    refine l_irem hx hb dX6_factOf_101 (by decide) ?_
    exact R_i X hr hk hM ⟨(by simp [fFact, *]), rfl⟩ dX6_factOf_102
  by_cases w_13 : sg = 116
  · skip
    refine lv_tableIn (off := 97) (tgt := 98) hx hb dX6_factOf_1 (by rw [w_13]; decide) (by rw [w_13]; decide) (by rw [w_13]; rfl) (by decide) ?_
    refine lv_iload_n hx hb dX6_factOf_98 rfl (lv_at hl 3 rfl) ?_
    refine lv_bipush (v := 7) hx hb dX6_factOf_99 (by decide) ?_
    refine l_irem hx hb dX6_factOf_101 (by decide) ?_
    exact R_i X hr hk hM ⟨(by simp [fFact, *]), rfl⟩ dX6_factOf_102
  by_cases w_14 : sg = 117
  · skip
    refine lv_tableIn (off := 97) (tgt := 98) hx hb dX6_factOf_1 (by rw [w_14]; decide) (by rw [w_14]; decide) (by rw [w_14]; rfl) (by decide) ?_
    refine lv_iload_n hx hb dX6_factOf_98 rfl (lv_at hl 3 rfl) ?_
    refine lv_bipush (v := 7) hx hb dX6_factOf_99 (by decide) ?_
    refine l_irem hx hb dX6_factOf_101 (by decide) ?_
    exact R_i X hr hk hM ⟨(by simp [fFact, *]), rfl⟩ dX6_factOf_102
  by_cases w_15 : sg = 118
  · skip
    refine lv_tableIn (off := 85) (tgt := 86) hx hb dX6_factOf_1 (by rw [w_15]; decide) (by rw [w_15]; decide) (by rw [w_15]; rfl) (by decide) ?_
    refine lv_aload_n hx hb dX6_factOf_86 rfl (lv_at hl 1 rfl) ?_
    refine sg_X6_55 X hM h_a (kd := kd) hkd dX6_factOf_87 ?_
    exact R_i X hr hk hM ⟨(by simp [fFact, *]), rfl⟩ dX6_factOf_90
  refine lv_tableOut (tgt := 98) hx hb dX6_factOf_1 (by have z0 := i32ne w_1 (by decide : ((104 : Int32)).toInt = 104); have z1 := i32ne w_2 (by decide : ((105 : Int32)).toInt = 105); have z2 := i32ne w_3 (by decide : ((106 : Int32)).toInt = 106); have z3 := i32ne w_4 (by decide : ((107 : Int32)).toInt = 107); have z4 := i32ne w_5 (by decide : ((108 : Int32)).toInt = 108); have z5 := i32ne w_6 (by decide : ((109 : Int32)).toInt = 109); have z6 := i32ne w_7 (by decide : ((110 : Int32)).toInt = 110); have z7 := i32ne w_8 (by decide : ((111 : Int32)).toInt = 111); have z8 := i32ne w_9 (by decide : ((112 : Int32)).toInt = 112); have z9 := i32ne w_10 (by decide : ((113 : Int32)).toInt = 113); have z10 := i32ne w_11 (by decide : ((114 : Int32)).toInt = 114); have z11 := i32ne w_12 (by decide : ((115 : Int32)).toInt = 115); have z12 := i32ne w_13 (by decide : ((116 : Int32)).toInt = 116); have z13 := i32ne w_14 (by decide : ((117 : Int32)).toInt = 117); have z14 := i32ne w_15 (by decide : ((118 : Int32)).toInt = 118); omega) (by decide) ?_
  refine lv_iload_n hx hb dX6_factOf_98 rfl (lv_at hl 3 rfl) ?_
  refine lv_bipush (v := 7) hx hb dX6_factOf_99 (by decide) ?_
  refine l_irem hx hb dX6_factOf_101 (by decide) ?_
  exact R_i X hr hk hM ⟨(by simp [fFact, *]), rfl⟩ dX6_factOf_102
set_option maxHeartbeats 4000000 in
set_option maxRecDepth 100000 in
theorem c_X6_baseOf (l : Launch) (g : Gp) (M : Mem) (o q1 q2 q3 n : Nat) (f1 f2 f3 : Nat → Int32) (z : Nat) (tu cl : Int32) (a kd : Nat) (nu v ho ni : Int32) (h_o : M o = some (skyE q1 q2 q3 (nI z) tu cl)) (h_1 : M q1 = some (aI g n f1)) (h_2 : M q2 = some (aI g n f2)) (h_3 : M q3 = some (aI g n f3)) (h_a : M a = some (starC g kd nu v)) (hn : n < 2147483648) (hz : z < 2147483648) (hkd : kd ≤ 6) : Met l yX6_baseOf (wsM yX6_baseOf cX6_baseOf 8 (some .int)) (rmD 3 0 0) (Pre g M [.ref o, .ref a, .int ho, .int ni]) (Qi g (fun r M1 => ((bRun n f1 f2 f3 nu (nI kd) v ho ni z).1) = r ∧ M = M1)) 0 0 (gF g) := M_start (by decide +kernel) (Nat.le_of_ble_eq_true rfl) fun p e s m args below meth c ls X hr hk hnm hM hl => by
  have X : Cx g p m c cX6_baseOf 8 s args RX6 := X
  have hx := X.1.1
  have hb := X.1.2.1
  have hl : lv_has ls 8 [(0, .ref o), (1, .ref a), (2, .int ho), (3, .int ni)] := hl
  refine lv_iconst (v := 0) hx hb dX6_baseOf_0 (by decide) ?_
  refine lv_istore (lv' := [(4, .int 0), (0, .ref o), (1, .ref a), (2, .int ho), (3, .int ni)]) hx hb dX6_baseOf_1 hl (by decide) rfl (fun ls hl => ?_)
  refine lv_iconst (v := 0) hx hb dX6_baseOf_3 (by decide) ?_
  refine lv_istore (lv' := [(5, .int 0), (4, .int 0), (0, .ref o), (1, .ref a), (2, .int ho), (3, .int ni)]) hx hb dX6_baseOf_4 hl (by decide) rfl (fun ls hl => ?_)
  refine lv_iconst (v := 0) hx hb dX6_baseOf_6 (by decide) ?_
  refine lv_istore (lv' := [(6, .int 0), (5, .int 0), (4, .int 0), (0, .ref o), (1, .ref a), (2, .int ho), (3, .int ni)]) hx hb dX6_baseOf_7 hl (by decide) rfl (fun ls hl => ?_)
  have L9 : ∀ (fu : Nat) (i : Nat) (x4 x5 : Int32) (hi : i ≤ z) (h4 : x4 = (bRun n f1 f2 f3 nu (nI kd) v ho ni i).1) (h5 : x5 = (bRun n f1 f2 f3 nu (nI kd) v ho ni i).2) (H : Heap) (locs : List Loc) (hM : MW g (M) H locs) (ls : Array Slot) (hl : lv_has ls 8 [(0, .ref o), (1, .ref a), (2, .int ho), (3, .int ni), (4, .int x4), (5, .int x5), (6, .int (nI i))]), z - i < fu → W p l e (rmD 3 0 0) s m args below meth c H locs 0 0 (MQ below (Qi g (fun r M1 => ((bRun n f1 f2 f3 nu (nI kd) v ho ni z).1) = r ∧ M = M1)) args s 0 0 (gF g)) (F0 m 9 ls []) := by
    intro fu
    induction fu with
    | zero => intro i x4 x5 hi h4 h5 H locs hM ls hl hmu; exact absurd hmu (Nat.not_lt_zero _)
    | succ fu ih =>
      intro i x4 x5 hi h4 h5 H locs hM ls hl hmu
      refine lv_iload hx hb dX6_baseOf_9 (lv_at hl 6 rfl) ?_
      refine lv_aload_n hx hb dX6_baseOf_11 rfl (lv_at hl 0 rfl) ?_
      refine r_get (T := TX6) (N := 6) (ci := 6) (v := .int (nI z)) X hM iX6 rfl 3 (by decide) q_72 (Or.inl rfl) h_o rfl dX6_baseOf_12 ?_
      refine lv_icmp_ge (tgt := 266) hx hb dX6_baseOf_15 (by decide) (fun c_1 => ?_) (fun c_1 => ?_)
      · skip
        have hz1 : z ≤ i := (nI_leI (by omega) (by omega)).mp c_1
        have hz2 : i = z := by omega
        subst hz2
        refine lv_iload hx hb dX6_baseOf_266 (lv_at hl 4 rfl) ?_
        exact R_i X hr hk hM ⟨h4.symm, rfl⟩ dX6_baseOf_268
      · skip
        have hz1 : i < z := by
          rcases Nat.lt_or_ge i z with q | q
          · exact q
          · exact absurd ((nI_leI (by omega) (by omega)).mpr q) c_1
        refine lv_aload_n hx hb dX6_baseOf_18 rfl (lv_at hl 0 rfl) ?_
        refine r_get (T := TX6) (N := 6) (ci := 6) (v := .ref q3) X hM iX6 rfl 2 (by decide) q_71 (Or.inl rfl) h_o rfl dX6_baseOf_19 ?_
        refine lv_iload hx hb dX6_baseOf_22 (lv_at hl 6 rfl) ?_
        refine K_i (G_SN (As := [.ref q3, .int (nI i)]) (rest := []) X hM (c_X11_at l g _ q3 n f3 (nI i) h_3 hn) lk_X6_39 q_230 rfl hl.1 rfl (Nat.le_of_ble_eq_true rfl) (by decide) dX6_baseOf_24 ⟨Nat.le_of_ble_eq_true rfl, Nat.le_of_ble_eq_true rfl⟩) hM (fun r M1 H locs hM hp => ?_)
        obtain ⟨rfl, rfl⟩ := hp
        refine lv_istore (lv' := [(7, .int (fAt n f3 (nI i))), (0, .ref o), (1, .ref a), (2, .int ho), (3, .int ni), (4, .int x4), (5, .int x5), (6, .int (nI i))]) hx hb dX6_baseOf_27 hl (by decide) rfl (fun ls hl => ?_)
        refine lv_aload_n hx hb dX6_baseOf_29 rfl (lv_at hl 1 rfl) ?_
        refine r_get (T := TX6) (N := 6) (ci := 6) (v := .ref q1) X hM iX6 rfl 0 (by decide) q_69 (Or.inl rfl) h_o rfl dX6_baseOf_30 ?_
        refine lv_iload hx hb dX6_baseOf_33 (lv_at hl 7 rfl) ?_
        refine K_i (G_SN (As := [.ref q1, .int (nI i)]) (rest := []) X hM (c_X11_at l g _ q1 n f1 (nI i) h_1 hn) lk_X6_39 q_230 rfl hl.1 rfl (Nat.le_of_ble_eq_true rfl) (by decide) dX6_baseOf_35 ⟨Nat.le_of_ble_eq_true rfl, Nat.le_of_ble_eq_true rfl⟩) hM (fun r M1 H locs hM hp => ?_)
        obtain ⟨rfl, rfl⟩ := hp
        by_cases w_2 : fAt n f1 (nI i) = 0
        · skip
          refine lv_tableIn (off := 120) (tgt := 158) hx hb dX6_baseOf_38 (by rw [w_2]; decide) (by rw [w_2]; decide) (by rw [w_2]; rfl) (by decide) ?_
          refine lv_iload hx hb dX6_baseOf_158 (lv_at hl 6 rfl) ?_
          refine lv_iconst (v := 1) hx hb dX6_baseOf_160 (by decide) ?_
          refine lv_ishl hx hb dX6_baseOf_161 ?_
          refine lv_aload_n hx hb dX6_baseOf_162 rfl (lv_at hl 1 rfl) ?_
          refine r_get (T := TX6) (N := 6) (ci := 6) (v := .ref q2) X hM iX6 rfl 1 (by decide) q_70 (Or.inl rfl) h_o rfl dX6_baseOf_163 ?_
          refine lv_iload hx hb dX6_baseOf_166 (lv_at hl 7 rfl) ?_
          refine K_i (G_SN (As := [.ref q2, .int (nI i)]) (rest := [.int (x5 <<< (1 &&& 31))]) X hM (c_X11_at l g _ q2 n f2 (nI i) h_2 hn) lk_X6_39 q_230 rfl hl.1 rfl (Nat.le_of_ble_eq_true rfl) (by decide) dX6_baseOf_168 ⟨Nat.le_of_ble_eq_true rfl, Nat.le_of_ble_eq_true rfl⟩) hM (fun r M1 H locs hM hp => ?_)
          obtain ⟨rfl, rfl⟩ := hp
          refine lv_aload_n hx hb dX6_baseOf_171 rfl (lv_at hl 2 rfl) ?_
          refine lv_iload_n hx hb dX6_baseOf_172 rfl (lv_at hl 3 rfl) ?_
          refine lv_iload_n hx hb dX6_baseOf_173 rfl (lv_at hl 4 rfl) ?_
          refine K_i (G_S (As := [.int (fAt n f2 (nI i)), .ref a, .int ho, .int ni]) (rest := [.int (x5 <<< (1 &&& 31))]) X hM (c_X6_factOf l g _ a kd nu v (fAt n f2 (nI i)) ho ni h_a hkd) lk_X6_43 rfl hl.1 rfl (Nat.le_of_ble_eq_true rfl) (by decide) dX6_baseOf_174 ⟨Nat.le_of_ble_eq_true rfl, Nat.le_of_ble_eq_true rfl⟩) hM (fun r M1 H locs hM hp => ?_)
          obtain ⟨rfl, rfl⟩ := hp
          refine lv_iload hx hb dX6_baseOf_177 (lv_at hl 0 rfl) ?_
          refine lv_icmp_ge (tgt := 186) hx hb dX6_baseOf_179 (by decide) (fun c_3 => ?_) (fun c_3 => ?_)
          · skip
            refine lv_iconst (v := 0) hx hb dX6_baseOf_186 (by decide) ?_
            refine lv_ior hx hb dX6_baseOf_187 ?_
            refine lv_istore (lv' := [(5, .int ((x5 <<< (1 &&& 31)) ||| 0)), (7, .int (fAt n f3 (nI i))), (0, .ref o), (1, .ref a), (2, .int ho), (3, .int ni), (4, .int x4), (6, .int (nI i))]) hx hb dX6_baseOf_188 hl (by decide) rfl (fun ls hl => ?_)
            refine lv_goto (tgt := 260) hx hb dX6_baseOf_190 (by decide) ?_
            refine lv_iinc (v := (nI i) + 1) (lv' := [(6, .int ((nI i) + 1)), (5, .int ((x5 <<< (1 &&& 31)) ||| 0)), (7, .int (fAt n f3 (nI i))), (0, .ref o), (1, .ref a), (2, .int ho), (3, .int ni), (4, .int x4)]) hx hb dX6_baseOf_260 hl (k := 7) rfl rfl (by decide) rfl (fun ls hl => ?_)
            refine lv_goto (tgt := 9) hx hb dX6_baseOf_263 (by decide) ?_
            exact ih (i + 1) x4 ((x5 <<< (1 &&& 31)) ||| 0) (by omega) (by simp only [bRun, ← h4]; simp [bOne, *]) (by simp only [bRun, ← h5]; simp [bOne, *]) _ _ hM _ ((by rw [← nI_1]; exact lv_sub hl [3, 4, 5, 6, 7, 1, 0] rfl)) (by omega)
          · skip
            refine lv_iconst (v := 1) hx hb dX6_baseOf_182 (by decide) ?_
            refine lv_goto (tgt := 187) hx hb dX6_baseOf_183 (by decide) ?_
            refine lv_ior hx hb dX6_baseOf_187 ?_
            refine lv_istore (lv' := [(5, .int ((x5 <<< (1 &&& 31)) ||| 1)), (7, .int (fAt n f3 (nI i))), (0, .ref o), (1, .ref a), (2, .int ho), (3, .int ni), (4, .int x4), (6, .int (nI i))]) hx hb dX6_baseOf_188 hl (by decide) rfl (fun ls hl => ?_)
            refine lv_goto (tgt := 260) hx hb dX6_baseOf_190 (by decide) ?_
            refine lv_iinc (v := (nI i) + 1) (lv' := [(6, .int ((nI i) + 1)), (5, .int ((x5 <<< (1 &&& 31)) ||| 1)), (7, .int (fAt n f3 (nI i))), (0, .ref o), (1, .ref a), (2, .int ho), (3, .int ni), (4, .int x4)]) hx hb dX6_baseOf_260 hl (k := 7) rfl rfl (by decide) rfl (fun ls hl => ?_)
            refine lv_goto (tgt := 9) hx hb dX6_baseOf_263 (by decide) ?_
            exact ih (i + 1) x4 ((x5 <<< (1 &&& 31)) ||| 1) (by omega) (by simp only [bRun, ← h4]; simp [bOne, *]) (by simp only [bRun, ← h5]; simp [bOne, *]) _ _ hM _ ((by rw [← nI_1]; exact lv_sub hl [3, 4, 5, 6, 7, 1, 0] rfl)) (by omega)
        by_cases w_4 : fAt n f1 (nI i) = 1
        · skip
          refine lv_tableIn (off := 190) (tgt := 228) hx hb dX6_baseOf_38 (by rw [w_4]; decide) (by rw [w_4]; decide) (by rw [w_4]; rfl) (by decide) ?_
          refine lv_iload hx hb dX6_baseOf_228 (lv_at hl 6 rfl) ?_
          refine lv_iconst (v := 1) hx hb dX6_baseOf_230 (by decide) ?_
          refine lv_ishl hx hb dX6_baseOf_231 ?_
          refine lv_aload_n hx hb dX6_baseOf_232 rfl (lv_at hl 1 rfl) ?_
          refine r_get (T := TX6) (N := 6) (ci := 6) (v := .ref q2) X hM iX6 rfl 1 (by decide) q_70 (Or.inl rfl) h_o rfl dX6_baseOf_233 ?_
          refine lv_iload hx hb dX6_baseOf_236 (lv_at hl 7 rfl) ?_
          refine K_i (G_SN (As := [.ref q2, .int (nI i)]) (rest := [.int (x5 <<< (1 &&& 31))]) X hM (c_X11_at l g _ q2 n f2 (nI i) h_2 hn) lk_X6_39 q_230 rfl hl.1 rfl (Nat.le_of_ble_eq_true rfl) (by decide) dX6_baseOf_238 ⟨Nat.le_of_ble_eq_true rfl, Nat.le_of_ble_eq_true rfl⟩) hM (fun r M1 H locs hM hp => ?_)
          obtain ⟨rfl, rfl⟩ := hp
          refine lv_aload_n hx hb dX6_baseOf_241 rfl (lv_at hl 2 rfl) ?_
          refine lv_iload_n hx hb dX6_baseOf_242 rfl (lv_at hl 3 rfl) ?_
          refine lv_iload_n hx hb dX6_baseOf_243 rfl (lv_at hl 4 rfl) ?_
          refine K_i (G_S (As := [.int (fAt n f2 (nI i)), .ref a, .int ho, .int ni]) (rest := [.int (x5 <<< (1 &&& 31))]) X hM (c_X6_factOf l g _ a kd nu v (fAt n f2 (nI i)) ho ni h_a hkd) lk_X6_43 rfl hl.1 rfl (Nat.le_of_ble_eq_true rfl) (by decide) dX6_baseOf_244 ⟨Nat.le_of_ble_eq_true rfl, Nat.le_of_ble_eq_true rfl⟩) hM (fun r M1 H locs hM hp => ?_)
          obtain ⟨rfl, rfl⟩ := hp
          refine lv_iload hx hb dX6_baseOf_247 (lv_at hl 0 rfl) ?_
          refine lv_icmp_ne (tgt := 256) hx hb dX6_baseOf_249 (by decide) (fun c_5 => ?_) (fun c_5 => ?_)
          · skip
            refine lv_iconst (v := 0) hx hb dX6_baseOf_256 (by decide) ?_
            refine lv_ior hx hb dX6_baseOf_257 ?_
            refine lv_istore (lv' := [(5, .int ((x5 <<< (1 &&& 31)) ||| 0)), (7, .int (fAt n f3 (nI i))), (0, .ref o), (1, .ref a), (2, .int ho), (3, .int ni), (4, .int x4), (6, .int (nI i))]) hx hb dX6_baseOf_258 hl (by decide) rfl (fun ls hl => ?_)
            refine lv_iinc (v := (nI i) + 1) (lv' := [(6, .int ((nI i) + 1)), (5, .int ((x5 <<< (1 &&& 31)) ||| 0)), (7, .int (fAt n f3 (nI i))), (0, .ref o), (1, .ref a), (2, .int ho), (3, .int ni), (4, .int x4)]) hx hb dX6_baseOf_260 hl (k := 7) rfl rfl (by decide) rfl (fun ls hl => ?_)
            refine lv_goto (tgt := 9) hx hb dX6_baseOf_263 (by decide) ?_
            exact ih (i + 1) x4 ((x5 <<< (1 &&& 31)) ||| 0) (by omega) (by simp only [bRun, ← h4]; simp [bOne, *]) (by simp only [bRun, ← h5]; simp [bOne, *]) _ _ hM _ ((by rw [← nI_1]; exact lv_sub hl [3, 4, 5, 6, 7, 1, 0] rfl)) (by omega)
          · skip
            refine lv_iconst (v := 1) hx hb dX6_baseOf_252 (by decide) ?_
            refine lv_goto (tgt := 257) hx hb dX6_baseOf_253 (by decide) ?_
            refine lv_ior hx hb dX6_baseOf_257 ?_
            refine lv_istore (lv' := [(5, .int ((x5 <<< (1 &&& 31)) ||| 1)), (7, .int (fAt n f3 (nI i))), (0, .ref o), (1, .ref a), (2, .int ho), (3, .int ni), (4, .int x4), (6, .int (nI i))]) hx hb dX6_baseOf_258 hl (by decide) rfl (fun ls hl => ?_)
            refine lv_iinc (v := (nI i) + 1) (lv' := [(6, .int ((nI i) + 1)), (5, .int ((x5 <<< (1 &&& 31)) ||| 1)), (7, .int (fAt n f3 (nI i))), (0, .ref o), (1, .ref a), (2, .int ho), (3, .int ni), (4, .int x4)]) hx hb dX6_baseOf_260 hl (k := 7) rfl rfl (by decide) rfl (fun ls hl => ?_)
            refine lv_goto (tgt := 9) hx hb dX6_baseOf_263 (by decide) ?_
            exact ih (i + 1) x4 ((x5 <<< (1 &&& 31)) ||| 1) (by omega) (by simp only [bRun, ← h4]; simp [bOne, *]) (by simp only [bRun, ← h5]; simp [bOne, *]) _ _ hM _ ((by rw [← nI_1]; exact lv_sub hl [3, 4, 5, 6, 7, 1, 0] rfl)) (by omega)
        by_cases w_6 : fAt n f1 (nI i) = 2
        · skip
          refine lv_tableIn (off := 155) (tgt := 193) hx hb dX6_baseOf_38 (by rw [w_6]; decide) (by rw [w_6]; decide) (by rw [w_6]; rfl) (by decide) ?_
          refine lv_iload hx hb dX6_baseOf_193 (lv_at hl 6 rfl) ?_
          refine lv_iconst (v := 1) hx hb dX6_baseOf_195 (by decide) ?_
          refine lv_ishl hx hb dX6_baseOf_196 ?_
          refine lv_aload_n hx hb dX6_baseOf_197 rfl (lv_at hl 1 rfl) ?_
          refine r_get (T := TX6) (N := 6) (ci := 6) (v := .ref q2) X hM iX6 rfl 1 (by decide) q_70 (Or.inl rfl) h_o rfl dX6_baseOf_198 ?_
          refine lv_iload hx hb dX6_baseOf_201 (lv_at hl 7 rfl) ?_
          refine K_i (G_SN (As := [.ref q2, .int (nI i)]) (rest := [.int (x5 <<< (1 &&& 31))]) X hM (c_X11_at l g _ q2 n f2 (nI i) h_2 hn) lk_X6_39 q_230 rfl hl.1 rfl (Nat.le_of_ble_eq_true rfl) (by decide) dX6_baseOf_203 ⟨Nat.le_of_ble_eq_true rfl, Nat.le_of_ble_eq_true rfl⟩) hM (fun r M1 H locs hM hp => ?_)
          obtain ⟨rfl, rfl⟩ := hp
          refine lv_aload_n hx hb dX6_baseOf_206 rfl (lv_at hl 2 rfl) ?_
          refine lv_iload_n hx hb dX6_baseOf_207 rfl (lv_at hl 3 rfl) ?_
          refine lv_iload_n hx hb dX6_baseOf_208 rfl (lv_at hl 4 rfl) ?_
          refine K_i (G_S (As := [.int (fAt n f2 (nI i)), .ref a, .int ho, .int ni]) (rest := [.int (x5 <<< (1 &&& 31))]) X hM (c_X6_factOf l g _ a kd nu v (fAt n f2 (nI i)) ho ni h_a hkd) lk_X6_43 rfl hl.1 rfl (Nat.le_of_ble_eq_true rfl) (by decide) dX6_baseOf_209 ⟨Nat.le_of_ble_eq_true rfl, Nat.le_of_ble_eq_true rfl⟩) hM (fun r M1 H locs hM hp => ?_)
          obtain ⟨rfl, rfl⟩ := hp
          refine lv_iload hx hb dX6_baseOf_212 (lv_at hl 0 rfl) ?_
          refine lv_icmp_le (tgt := 221) hx hb dX6_baseOf_214 (by decide) (fun c_7 => ?_) (fun c_7 => ?_)
          · skip
            refine lv_iconst (v := 0) hx hb dX6_baseOf_221 (by decide) ?_
            refine lv_ior hx hb dX6_baseOf_222 ?_
            refine lv_istore (lv' := [(5, .int ((x5 <<< (1 &&& 31)) ||| 0)), (7, .int (fAt n f3 (nI i))), (0, .ref o), (1, .ref a), (2, .int ho), (3, .int ni), (4, .int x4), (6, .int (nI i))]) hx hb dX6_baseOf_223 hl (by decide) rfl (fun ls hl => ?_)
            refine lv_goto (tgt := 260) hx hb dX6_baseOf_225 (by decide) ?_
            refine lv_iinc (v := (nI i) + 1) (lv' := [(6, .int ((nI i) + 1)), (5, .int ((x5 <<< (1 &&& 31)) ||| 0)), (7, .int (fAt n f3 (nI i))), (0, .ref o), (1, .ref a), (2, .int ho), (3, .int ni), (4, .int x4)]) hx hb dX6_baseOf_260 hl (k := 7) rfl rfl (by decide) rfl (fun ls hl => ?_)
            refine lv_goto (tgt := 9) hx hb dX6_baseOf_263 (by decide) ?_
            exact ih (i + 1) x4 ((x5 <<< (1 &&& 31)) ||| 0) (by omega) (by simp only [bRun, ← h4]; simp [bOne, *]) (by simp only [bRun, ← h5]; simp [bOne, *]) _ _ hM _ ((by rw [← nI_1]; exact lv_sub hl [3, 4, 5, 6, 7, 1, 0] rfl)) (by omega)
          · skip
            refine lv_iconst (v := 1) hx hb dX6_baseOf_217 (by decide) ?_
            refine lv_goto (tgt := 222) hx hb dX6_baseOf_218 (by decide) ?_
            refine lv_ior hx hb dX6_baseOf_222 ?_
            refine lv_istore (lv' := [(5, .int ((x5 <<< (1 &&& 31)) ||| 1)), (7, .int (fAt n f3 (nI i))), (0, .ref o), (1, .ref a), (2, .int ho), (3, .int ni), (4, .int x4), (6, .int (nI i))]) hx hb dX6_baseOf_223 hl (by decide) rfl (fun ls hl => ?_)
            refine lv_goto (tgt := 260) hx hb dX6_baseOf_225 (by decide) ?_
            refine lv_iinc (v := (nI i) + 1) (lv' := [(6, .int ((nI i) + 1)), (5, .int ((x5 <<< (1 &&& 31)) ||| 1)), (7, .int (fAt n f3 (nI i))), (0, .ref o), (1, .ref a), (2, .int ho), (3, .int ni), (4, .int x4)]) hx hb dX6_baseOf_260 hl (k := 7) rfl rfl (by decide) rfl (fun ls hl => ?_)
            refine lv_goto (tgt := 9) hx hb dX6_baseOf_263 (by decide) ?_
            exact ih (i + 1) x4 ((x5 <<< (1 &&& 31)) ||| 1) (by omega) (by simp only [bRun, ← h4]; simp [bOne, *]) (by simp only [bRun, ← h5]; simp [bOne, *]) _ _ hM _ ((by rw [← nI_1]; exact lv_sub hl [3, 4, 5, 6, 7, 1, 0] rfl)) (by omega)
        by_cases w_8 : fAt n f1 (nI i) = 3
        · skip
          refine lv_tableIn (off := 46) (tgt := 84) hx hb dX6_baseOf_38 (by rw [w_8]; decide) (by rw [w_8]; decide) (by rw [w_8]; rfl) (by decide) ?_
          refine lv_iload hx hb dX6_baseOf_84 (lv_at hl 6 rfl) ?_
          refine lv_iconst (v := 1) hx hb dX6_baseOf_86 (by decide) ?_
          refine lv_ixor hx hb dX6_baseOf_87 ?_
          refine lv_istore (lv' := [(5, .int (x5 ^^^ 1)), (7, .int (fAt n f3 (nI i))), (0, .ref o), (1, .ref a), (2, .int ho), (3, .int ni), (4, .int x4), (6, .int (nI i))]) hx hb dX6_baseOf_88 hl (by decide) rfl (fun ls hl => ?_)
          refine lv_goto (tgt := 260) hx hb dX6_baseOf_90 (by decide) ?_
          refine lv_iinc (v := (nI i) + 1) (lv' := [(6, .int ((nI i) + 1)), (5, .int (x5 ^^^ 1)), (7, .int (fAt n f3 (nI i))), (0, .ref o), (1, .ref a), (2, .int ho), (3, .int ni), (4, .int x4)]) hx hb dX6_baseOf_260 hl (k := 7) rfl rfl (by decide) rfl (fun ls hl => ?_)
          refine lv_goto (tgt := 9) hx hb dX6_baseOf_263 (by decide) ?_
          exact ih (i + 1) x4 (x5 ^^^ 1) (by omega) (by simp only [bRun, ← h4]; simp [bOne, *]) (by simp only [bRun, ← h5]; simp [bOne, *]) _ _ hM _ ((by rw [← nI_1]; exact lv_sub hl [3, 4, 5, 6, 7, 1, 0] rfl)) (by omega)
        by_cases w_9 : fAt n f1 (nI i) = 4
        · skip
          refine lv_tableIn (off := 55) (tgt := 93) hx hb dX6_baseOf_38 (by rw [w_9]; decide) (by rw [w_9]; decide) (by rw [w_9]; rfl) (by decide) ?_
          refine lv_iload hx hb dX6_baseOf_93 (lv_at hl 6 rfl) ?_
          refine lv_iconst (v := 1) hx hb dX6_baseOf_95 (by decide) ?_
          refine lv_ishr hx hb dX6_baseOf_96 ?_
          refine lv_iload hx hb dX6_baseOf_97 (lv_at hl 6 rfl) ?_
          refine lv_bipush (v := -2) hx hb dX6_baseOf_99 (by decide) ?_
          refine lv_ior hx hb dX6_baseOf_101 ?_
          refine lv_iand hx hb dX6_baseOf_102 ?_
          refine lv_istore (lv' := [(5, .int ((x5 >>> (1 &&& 31)) &&& (x5 ||| (-2)))), (7, .int (fAt n f3 (nI i))), (0, .ref o), (1, .ref a), (2, .int ho), (3, .int ni), (4, .int x4), (6, .int (nI i))]) hx hb dX6_baseOf_103 hl (by decide) rfl (fun ls hl => ?_)
          refine lv_goto (tgt := 260) hx hb dX6_baseOf_105 (by decide) ?_
          refine lv_iinc (v := (nI i) + 1) (lv' := [(6, .int ((nI i) + 1)), (5, .int ((x5 >>> (1 &&& 31)) &&& (x5 ||| (-2)))), (7, .int (fAt n f3 (nI i))), (0, .ref o), (1, .ref a), (2, .int ho), (3, .int ni), (4, .int x4)]) hx hb dX6_baseOf_260 hl (k := 7) rfl rfl (by decide) rfl (fun ls hl => ?_)
          refine lv_goto (tgt := 9) hx hb dX6_baseOf_263 (by decide) ?_
          exact ih (i + 1) x4 ((x5 >>> (1 &&& 31)) &&& (x5 ||| (-2))) (by omega) (by simp only [bRun, ← h4]; simp [bOne, *]) (by simp only [bRun, ← h5]; simp [bOne, *]) _ _ hM _ ((by rw [← nI_1]; exact lv_sub hl [3, 4, 5, 6, 7, 1, 0] rfl)) (by omega)
        by_cases w_10 : fAt n f1 (nI i) = 5
        · skip
          refine lv_tableIn (off := 70) (tgt := 108) hx hb dX6_baseOf_38 (by rw [w_10]; decide) (by rw [w_10]; decide) (by rw [w_10]; rfl) (by decide) ?_
          refine lv_iload hx hb dX6_baseOf_108 (lv_at hl 6 rfl) ?_
          refine lv_iconst (v := 1) hx hb dX6_baseOf_110 (by decide) ?_
          refine lv_ishr hx hb dX6_baseOf_111 ?_
          refine lv_iload hx hb dX6_baseOf_112 (lv_at hl 6 rfl) ?_
          refine lv_iconst (v := 1) hx hb dX6_baseOf_114 (by decide) ?_
          refine lv_iand hx hb dX6_baseOf_115 ?_
          refine lv_ior hx hb dX6_baseOf_116 ?_
          refine lv_istore (lv' := [(5, .int ((x5 >>> (1 &&& 31)) ||| (x5 &&& 1))), (7, .int (fAt n f3 (nI i))), (0, .ref o), (1, .ref a), (2, .int ho), (3, .int ni), (4, .int x4), (6, .int (nI i))]) hx hb dX6_baseOf_117 hl (by decide) rfl (fun ls hl => ?_)
          refine lv_goto (tgt := 260) hx hb dX6_baseOf_119 (by decide) ?_
          refine lv_iinc (v := (nI i) + 1) (lv' := [(6, .int ((nI i) + 1)), (5, .int ((x5 >>> (1 &&& 31)) ||| (x5 &&& 1))), (7, .int (fAt n f3 (nI i))), (0, .ref o), (1, .ref a), (2, .int ho), (3, .int ni), (4, .int x4)]) hx hb dX6_baseOf_260 hl (k := 7) rfl rfl (by decide) rfl (fun ls hl => ?_)
          refine lv_goto (tgt := 9) hx hb dX6_baseOf_263 (by decide) ?_
          exact ih (i + 1) x4 ((x5 >>> (1 &&& 31)) ||| (x5 &&& 1)) (by omega) (by simp only [bRun, ← h4]; simp [bOne, *]) (by simp only [bRun, ← h5]; simp [bOne, *]) _ _ hM _ ((by rw [← nI_1]; exact lv_sub hl [3, 4, 5, 6, 7, 1, 0] rfl)) (by omega)
        by_cases w_11 : fAt n f1 (nI i) = 6
        · skip
          refine lv_tableIn (off := 84) (tgt := 122) hx hb dX6_baseOf_38 (by rw [w_11]; decide) (by rw [w_11]; decide) (by rw [w_11]; rfl) (by decide) ?_
          refine lv_iload hx hb dX6_baseOf_122 (lv_at hl 5 rfl) ?_
          refine lv_iload hx hb dX6_baseOf_124 (lv_at hl 0 rfl) ?_
          refine lv_iload hx hb dX6_baseOf_126 (lv_at hl 6 rfl) ?_
          refine lv_iconst (v := 1) hx hb dX6_baseOf_128 (by decide) ?_
          refine lv_iand hx hb dX6_baseOf_129 ?_
          refine lv_imul hx hb dX6_baseOf_130 ?_
          refine lv_iadd hx hb dX6_baseOf_131 ?_
          refine lv_istore (lv' := [(4, .int (x4 + ((fAt n f3 (nI i)) * (x5 &&& 1)))), (7, .int (fAt n f3 (nI i))), (0, .ref o), (1, .ref a), (2, .int ho), (3, .int ni), (5, .int x5), (6, .int (nI i))]) hx hb dX6_baseOf_132 hl (by decide) rfl (fun ls hl => ?_)
          refine lv_iconst (v := 0) hx hb dX6_baseOf_134 (by decide) ?_
          refine lv_istore (lv' := [(5, .int 0), (4, .int (x4 + ((fAt n f3 (nI i)) * (x5 &&& 1)))), (7, .int (fAt n f3 (nI i))), (0, .ref o), (1, .ref a), (2, .int ho), (3, .int ni), (6, .int (nI i))]) hx hb dX6_baseOf_135 hl (by decide) rfl (fun ls hl => ?_)
          refine lv_goto (tgt := 260) hx hb dX6_baseOf_137 (by decide) ?_
          refine lv_iinc (v := (nI i) + 1) (lv' := [(6, .int ((nI i) + 1)), (5, .int 0), (4, .int (x4 + ((fAt n f3 (nI i)) * (x5 &&& 1)))), (7, .int (fAt n f3 (nI i))), (0, .ref o), (1, .ref a), (2, .int ho), (3, .int ni)]) hx hb dX6_baseOf_260 hl (k := 7) rfl rfl (by decide) rfl (fun ls hl => ?_)
          refine lv_goto (tgt := 9) hx hb dX6_baseOf_263 (by decide) ?_
          exact ih (i + 1) (x4 + ((fAt n f3 (nI i)) * (x5 &&& 1))) 0 (by omega) (by simp only [bRun, ← h4]; simp [bOne, *]) (by simp only [bRun, ← h5]; simp [bOne, *]) _ _ hM _ ((by rw [← nI_1]; exact lv_sub hl [4, 5, 6, 7, 2, 1, 0] rfl)) (by omega)
        by_cases w_12 : fAt n f1 (nI i) = 7
        · skip
          refine lv_tableIn (off := 102) (tgt := 140) hx hb dX6_baseOf_38 (by rw [w_12]; decide) (by rw [w_12]; decide) (by rw [w_12]; rfl) (by decide) ?_
          refine lv_iload hx hb dX6_baseOf_140 (lv_at hl 5 rfl) ?_
          refine lv_iload hx hb dX6_baseOf_142 (lv_at hl 0 rfl) ?_
          refine lv_iload hx hb dX6_baseOf_144 (lv_at hl 6 rfl) ?_
          refine lv_iconst (v := 1) hx hb dX6_baseOf_146 (by decide) ?_
          refine lv_iand hx hb dX6_baseOf_147 ?_
          refine lv_imul hx hb dX6_baseOf_148 ?_
          refine lv_isub hx hb dX6_baseOf_149 ?_
          refine lv_istore (lv' := [(4, .int (x4 - ((fAt n f3 (nI i)) * (x5 &&& 1)))), (7, .int (fAt n f3 (nI i))), (0, .ref o), (1, .ref a), (2, .int ho), (3, .int ni), (5, .int x5), (6, .int (nI i))]) hx hb dX6_baseOf_150 hl (by decide) rfl (fun ls hl => ?_)
          refine lv_iconst (v := 0) hx hb dX6_baseOf_152 (by decide) ?_
          refine lv_istore (lv' := [(5, .int 0), (4, .int (x4 - ((fAt n f3 (nI i)) * (x5 &&& 1)))), (7, .int (fAt n f3 (nI i))), (0, .ref o), (1, .ref a), (2, .int ho), (3, .int ni), (6, .int (nI i))]) hx hb dX6_baseOf_153 hl (by decide) rfl (fun ls hl => ?_)
          refine lv_goto (tgt := 260) hx hb dX6_baseOf_155 (by decide) ?_
          refine lv_iinc (v := (nI i) + 1) (lv' := [(6, .int ((nI i) + 1)), (5, .int 0), (4, .int (x4 - ((fAt n f3 (nI i)) * (x5 &&& 1)))), (7, .int (fAt n f3 (nI i))), (0, .ref o), (1, .ref a), (2, .int ho), (3, .int ni)]) hx hb dX6_baseOf_260 hl (k := 7) rfl rfl (by decide) rfl (fun ls hl => ?_)
          refine lv_goto (tgt := 9) hx hb dX6_baseOf_263 (by decide) ?_
          exact ih (i + 1) (x4 - ((fAt n f3 (nI i)) * (x5 &&& 1))) 0 (by omega) (by simp only [bRun, ← h4]; simp [bOne, *]) (by simp only [bRun, ← h5]; simp [bOne, *]) _ _ hM _ ((by rw [← nI_1]; exact lv_sub hl [4, 5, 6, 7, 2, 1, 0] rfl)) (by omega)
        refine lv_tableOut (tgt := 228) hx hb dX6_baseOf_38 (by have z0 := i32ne w_2 (by decide : ((0 : Int32)).toInt = 0); have z1 := i32ne w_4 (by decide : ((1 : Int32)).toInt = 1); have z2 := i32ne w_6 (by decide : ((2 : Int32)).toInt = 2); have z3 := i32ne w_8 (by decide : ((3 : Int32)).toInt = 3); have z4 := i32ne w_9 (by decide : ((4 : Int32)).toInt = 4); have z5 := i32ne w_10 (by decide : ((5 : Int32)).toInt = 5); have z6 := i32ne w_11 (by decide : ((6 : Int32)).toInt = 6); have z7 := i32ne w_12 (by decide : ((7 : Int32)).toInt = 7); omega) (by decide) ?_
        refine lv_iload hx hb dX6_baseOf_228 (lv_at hl 6 rfl) ?_
        refine lv_iconst (v := 1) hx hb dX6_baseOf_230 (by decide) ?_
        refine lv_ishl hx hb dX6_baseOf_231 ?_
        refine lv_aload_n hx hb dX6_baseOf_232 rfl (lv_at hl 1 rfl) ?_
        refine r_get (T := TX6) (N := 6) (ci := 6) (v := .ref q2) X hM iX6 rfl 1 (by decide) q_70 (Or.inl rfl) h_o rfl dX6_baseOf_233 ?_
        refine lv_iload hx hb dX6_baseOf_236 (lv_at hl 7 rfl) ?_
        refine K_i (G_SN (As := [.ref q2, .int (nI i)]) (rest := [.int (x5 <<< (1 &&& 31))]) X hM (c_X11_at l g _ q2 n f2 (nI i) h_2 hn) lk_X6_39 q_230 rfl hl.1 rfl (Nat.le_of_ble_eq_true rfl) (by decide) dX6_baseOf_238 ⟨Nat.le_of_ble_eq_true rfl, Nat.le_of_ble_eq_true rfl⟩) hM (fun r M1 H locs hM hp => ?_)
        obtain ⟨rfl, rfl⟩ := hp
        refine lv_aload_n hx hb dX6_baseOf_241 rfl (lv_at hl 2 rfl) ?_
        refine lv_iload_n hx hb dX6_baseOf_242 rfl (lv_at hl 3 rfl) ?_
        refine lv_iload_n hx hb dX6_baseOf_243 rfl (lv_at hl 4 rfl) ?_
        refine K_i (G_S (As := [.int (fAt n f2 (nI i)), .ref a, .int ho, .int ni]) (rest := [.int (x5 <<< (1 &&& 31))]) X hM (c_X6_factOf l g _ a kd nu v (fAt n f2 (nI i)) ho ni h_a hkd) lk_X6_43 rfl hl.1 rfl (Nat.le_of_ble_eq_true rfl) (by decide) dX6_baseOf_244 ⟨Nat.le_of_ble_eq_true rfl, Nat.le_of_ble_eq_true rfl⟩) hM (fun r M1 H locs hM hp => ?_)
        obtain ⟨rfl, rfl⟩ := hp
        refine lv_iload hx hb dX6_baseOf_247 (lv_at hl 0 rfl) ?_
        refine lv_icmp_ne (tgt := 256) hx hb dX6_baseOf_249 (by decide) (fun c_13 => ?_) (fun c_13 => ?_)
        · skip
          refine lv_iconst (v := 0) hx hb dX6_baseOf_256 (by decide) ?_
          refine lv_ior hx hb dX6_baseOf_257 ?_
          refine lv_istore (lv' := [(5, .int ((x5 <<< (1 &&& 31)) ||| 0)), (7, .int (fAt n f3 (nI i))), (0, .ref o), (1, .ref a), (2, .int ho), (3, .int ni), (4, .int x4), (6, .int (nI i))]) hx hb dX6_baseOf_258 hl (by decide) rfl (fun ls hl => ?_)
          refine lv_iinc (v := (nI i) + 1) (lv' := [(6, .int ((nI i) + 1)), (5, .int ((x5 <<< (1 &&& 31)) ||| 0)), (7, .int (fAt n f3 (nI i))), (0, .ref o), (1, .ref a), (2, .int ho), (3, .int ni), (4, .int x4)]) hx hb dX6_baseOf_260 hl (k := 7) rfl rfl (by decide) rfl (fun ls hl => ?_)
          refine lv_goto (tgt := 9) hx hb dX6_baseOf_263 (by decide) ?_
          exact ih (i + 1) x4 ((x5 <<< (1 &&& 31)) ||| 0) (by omega) (by simp only [bRun, ← h4]; simp [bOne, *]) (by simp only [bRun, ← h5]; simp [bOne, *]) _ _ hM _ ((by rw [← nI_1]; exact lv_sub hl [3, 4, 5, 6, 7, 1, 0] rfl)) (by omega)
        · skip
          refine lv_iconst (v := 1) hx hb dX6_baseOf_252 (by decide) ?_
          refine lv_goto (tgt := 257) hx hb dX6_baseOf_253 (by decide) ?_
          refine lv_ior hx hb dX6_baseOf_257 ?_
          refine lv_istore (lv' := [(5, .int ((x5 <<< (1 &&& 31)) ||| 1)), (7, .int (fAt n f3 (nI i))), (0, .ref o), (1, .ref a), (2, .int ho), (3, .int ni), (4, .int x4), (6, .int (nI i))]) hx hb dX6_baseOf_258 hl (by decide) rfl (fun ls hl => ?_)
          refine lv_iinc (v := (nI i) + 1) (lv' := [(6, .int ((nI i) + 1)), (5, .int ((x5 <<< (1 &&& 31)) ||| 1)), (7, .int (fAt n f3 (nI i))), (0, .ref o), (1, .ref a), (2, .int ho), (3, .int ni), (4, .int x4)]) hx hb dX6_baseOf_260 hl (k := 7) rfl rfl (by decide) rfl (fun ls hl => ?_)
          refine lv_goto (tgt := 9) hx hb dX6_baseOf_263 (by decide) ?_
          exact ih (i + 1) x4 ((x5 <<< (1 &&& 31)) ||| 1) (by omega) (by simp only [bRun, ← h4]; simp [bOne, *]) (by simp only [bRun, ← h5]; simp [bOne, *]) _ _ hM _ ((by rw [← nI_1]; exact lv_sub hl [3, 4, 5, 6, 7, 1, 0] rfl)) (by omega)
  exact L9 (z - 0 + 1) 0 0 0 (Nat.zero_le _) rfl rfl _ _ hM _ (lv_sub hl [3, 4, 5, 6, 2, 1, 0] rfl) (by first | exact Nat.lt_succ_self _ | omega)
