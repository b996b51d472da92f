def fUs (x k : Int32) : Int32 := (x.toUInt32 >>> (k.toUInt32 &&& Int32.toUInt32 31)).toInt32
def fB1 (x : Int32) : Int32 := x - (fUs x 1 &&& 1431655765)
def fB2 (x : Int32) : Int32 := (x &&& 858993459) + (fUs x 2 &&& 858993459)
def fB3 (x : Int32) : Int32 := (x + fUs x 4) &&& 252645135
def fBC (x : Int32) : Int32 := (fun y => (fun z => (z + fUs z 16) &&& 63) (y + fUs y 8)) (fB3 (fB2 (fB1 x)))
def fKin (kd : Nat) (k : Int32) : Int32 := if k = 0 then 1 else if k = 1 then (if kd = 1 ∨ kd = 4 then 1 else 0) else if k = 2 then (if kd = 2 ∨ kd = 5 then 1 else 0) else if k = 3 then (if kd = 3 ∨ kd = 6 then 1 else 0) else if k = 4 then (if kd = 4 then 1 else 0) else if k = 5 then (if kd = 5 then 1 else 0) else (if kd = 6 then 1 else 0)
def opOf (en : En) (x w : Int32) : Int32 := if fIsL (eL en) x = 0 then -1 else if w = 0 then nI (eKd en x.toNatClampNeg) else if w = 1 then eVv en x.toNatClampNeg else if w = 2 then fAt 6 (eRo en) x else if w = 3 then fAt 6 (ePh en) x else if w = 4 then fBit (eHi en) x else if w = 5 then (if fUpN en x.toNatClampNeg (eNi en) (eHi en) = 0 then 0 else 1) else -1
def opBase (en : En) (x ho n : Int32) : Int32 := if fIsL (eL en) x = 0 then -9999999 else if fIn ho 0 1 = 0 then -9999999 else if fIn n 0 60 = 0 then -9999999 else fBase en x.toNatClampNeg ho (eNi en + n)
def opWorth (en : En) (x ho n : Int32) : Int32 := if fIsL (eL en) x = 0 then -1 else if fIn ho 0 1 = 0 then -1 else if fIn n 0 60 = 0 then -2 else fWoN en x.toNatClampNeg ho (eNi en + n)
def opTold (en : En) (w : Int32) : Int32 := if w = 0 then eNi en else if w = 1 then eTu en else if w = 2 then eCl en else if w = 3 then fTurn (eTu en) (eNi en) else if w = 4 then (if fCl (eNi en) (eCl en) = 0 then 0 else 1) else if w = 5 then upN en (eNi en) (eL en) else if w = 6 then fAt 2 (eSe en) (w - 6) else if w = 7 then fAt 2 (eSe en) (w - 6) else if w = 8 then fHas en (w - 8) (eNi en) (eHi en) (eCl en) else if w = 9 then fHas en (w - 8) (eNi en) (eHi en) (eCl en) else -1
def onN (en : En) (w : Int32) : Nat → Int32
  | 0 => fAt 2 (eSe en) w
  | i + 1 => if fTurn (eTu en) (eNi en + nI i) = w then onN en w i + fHas en w (eNi en + nI i) (eHi en) (eCl en) else onN en w i
def opOn (en : En) (n w : Int32) : Int32 := if fIn w 0 2 = 0 then -1 else if fIn n 0 60 = 0 then -2 else if w = 2 then fBC (upN en (eNi en + n) (eL en)) else onN en w n.toNatClampNeg
def opWhen (en : En) (x : Int32) : Int32 := if fIsL (eL en) x = 0 then -1 else till (fBoth en x.toNatClampNeg x.toNatClampNeg) 901 0
def opMeet (en : En) (x y : Int32) : Int32 := if fIsL (eL en) x = 0 then -1 else if fIsL (eL en) y = 0 then -1 else if x = y then -2 else till (fBoth en x.toNatClampNeg y.toNatClampNeg) 901 0
def meanN (en : En) (ho : Int32) : Nat → Int32
  | 0 => 0
  | i + 1 => meanN en ho i + fHas en ho (eNi en + nI i) (eHi en) (eCl en)
def opMean (en : En) (ho pt : Int32) : Int64 := if fIn ho 0 1 = 0 then -9223372036854775808 else if fIn pt 0 1 = 0 then -9223372036854775808 else ((if pt = 0 then meanN en ho 28 else nI 28) / lowD (meanN en ho 28) 28 29).toInt64
def fLook (en : En) (f : Nat → Int32) (i : Nat) : Int32 := if fTurn (eTu en) (eNi en + fAt 24 f (nI i * 3 + 0)) = fAt 24 f (nI i * 3 + 1) then 0 else 1
def opTrace (tc : Int32) (tf : Nat → Int32) (x : Int32) : Int32 := if x < 0 then -1 else if tc ≤ x then -1 else if 20 ≤ x then -1 else fAt 20 tf (x * 1 + 0)
def opAs (en : En) (x k : Int32) : Int32 := if fIsL (eL en) x = 0 then -1 else if fIn k 0 6 = 0 then -1 else if fKin (eKd en x.toNatClampNeg) k = 0 then -6 else eVv en x.toNatClampNeg
def opCount (en : En) (nc pc bc tc rc w : Int32) : Int32 := if w = 0 then nI (eL en) else if w = 1 then eSk en else if w = 2 then nc else if w = 3 then pc else if w = 4 then bc else if w = 5 then tc else if w = 6 then rc else -1
def fFit (en : En) (j : Nat) (f : Nat → Int32) (c : Nat) (fi : Int32) : Int32 × Int32 := fitN (fAsN en j f c fi) (if fi = 2 then 1 else 0) (if fi = 2 then 30 else if fi = 3 then 30 else 10)
def opFit (en : En) (f : Nat → Int32) (c : Nat) (x w fi : Int32) : Int32 := if fIsL (eL en) x = 0 then -1 else if fIn w 0 1 = 0 then -1 else if w = 0 then (fFit en x.toNatClampNeg f c fi).1 else (fFit en x.toNatClampNeg f c fi).2
theorem fAsN_01 (en : En) (j : Nat) (f : Nat → Int32) (v ro ph : Int32) : ∀ k i, noN en j f v ro ph k i = 0 ∨ noN en j f v ro ph k i = 1
  | 0, _ => Or.inr rfl
  | k + 1, i => by
    have ih := fAsN_01 en j f v ro ph k (i + 1)
    unfold noN
    repeat' split
    all_goals first | exact ih | exact Or.inl rfl

theorem sg_X11_102 {g : Gp} {p : Program} {l : Launch} {e : Env} {R : Room} {s : State} {m : MethodId} {args : Array Value} {below : List Frame} {meth : Method} {c : Code} {H : Heap} {locs : List Loc} {cells slots : Nat} {Q : State → Prop} {cc : ByteArray} {nL : Nat} {M : Mem} {pc : Nat} {ls : Array Slot} {rest : List Value} {a kd : Nat} {nu v : Int32} (X : Cx g p m c cc nL s args RX11) (hM : MW g M H locs) (he : M a = some (starC g kd nu v)) (hkd : kd ≤ 6) (hdg : decode cc pc = .ok (.getfield 102, 3)) (kk : W p l e R s m args below meth c H locs cells slots Q (F0 m (pc + 3) ls (.int (nI kd) :: rest))) : W p l e R s m args below meth c H locs cells slots Q (F0 m pc ls (.ref a :: rest)) := by
  rcases (show kd = 0 ∨ kd = 1 ∨ kd = 2 ∨ kd = 3 ∨ kd = 4 ∨ kd = 5 ∨ kd = 6 by omega) with rfl | rfl | rfl | rfl | rfl | rfl | rfl
  · exact r_get (T := TX8) (N := 4) (ci := 8) (v := .int (nI 0)) X hM iX8 rfl 0 (by decide) q_364 (Or.inl rfl) he rfl hdg kk
  · exact r_get (T := TX2) (N := 4) (ci := 2) (v := .int (nI 1)) X hM iX2 rfl 0 (by decide) q_364 (Or.inl rfl) he rfl hdg kk
  · exact r_get (T := TX0) (N := 4) (ci := 0) (v := .int (nI 2)) X hM iX0 rfl 0 (by decide) q_364 (Or.inl rfl) he rfl hdg kk
  · exact r_get (T := TX3) (N := 4) (ci := 3) (v := .int (nI 3)) X hM iX3 rfl 0 (by decide) q_364 (Or.inl rfl) he rfl hdg kk
  · exact r_get (T := TX10) (N := 4) (ci := 10) (v := .int (nI 4)) X hM iX10 rfl 0 (by decide) q_364 (Or.inl rfl) he rfl hdg kk
  · exact r_get (T := TX1) (N := 4) (ci := 1) (v := .int (nI 5)) X hM iX1 rfl 0 (by decide) q_364 (Or.inl rfl) he rfl hdg kk
  · exact r_get (T := TX9) (N := 4) (ci := 9) (v := .int (nI 6)) X hM iX9 rfl 0 (by decide) q_364 (Or.inl rfl) he rfl hdg kk
theorem sg_X11_107 {g : Gp} {p : Program} {l : Launch} {e : Env} {R : Room} {s : State} {m : MethodId} {args : Array Value} {below : List Frame} {meth : Method} {c : Code} {H : Heap} {locs : List Loc} {cells slots : Nat} {Q : State → Prop} {cc : ByteArray} {nL : Nat} {M : Mem} {pc : Nat} {ls : Array Slot} {rest : List Value} {a kd : Nat} {nu v : Int32} (X : Cx g p m c cc nL s args RX11) (hM : MW g M H locs) (he : M a = some (starC g kd nu v)) (hkd : kd ≤ 6) (hdg : decode cc pc = .ok (.getfield 107, 3)) (kk : W p l e R s m args below meth c H locs cells slots Q (F0 m (pc + 3) ls (.int v :: rest))) : W p l e R s m args below meth c H locs cells slots Q (F0 m pc ls (.ref a :: rest)) := by
  rcases (show kd = 0 ∨ kd = 1 ∨ kd = 2 ∨ kd = 3 ∨ kd = 4 ∨ kd = 5 ∨ kd = 6 by omega) with rfl | rfl | rfl | rfl | rfl | rfl | rfl
  · exact r_get (T := TX8) (N := 4) (ci := 8) (v := .int v) X hM iX8 rfl 2 (by decide) q_379 (Or.inl rfl) he rfl hdg kk
  · exact r_get (T := TX2) (N := 4) (ci := 2) (v := .int v) X hM iX2 rfl 2 (by decide) q_379 (Or.inl rfl) he rfl hdg kk
  · exact r_get (T := TX0) (N := 4) (ci := 0) (v := .int v) X hM iX0 rfl 2 (by decide) q_379 (Or.inl rfl) he rfl hdg kk
  · exact r_get (T := TX3) (N := 4) (ci := 3) (v := .int v) X hM iX3 rfl 2 (by decide) q_379 (Or.inl rfl) he rfl hdg kk
  · exact r_get (T := TX10) (N := 4) (ci := 10) (v := .int v) X hM iX10 rfl 2 (by decide) q_379 (Or.inl rfl) he rfl hdg kk
  · exact r_get (T := TX1) (N := 4) (ci := 1) (v := .int v) X hM iX1 rfl 2 (by decide) q_379 (Or.inl rfl) he rfl hdg kk
  · exact r_get (T := TX9) (N := 4) (ci := 9) (v := .int v) X hM iX9 rfl 2 (by decide) q_379 (Or.inl rfl) he rfl hdg kk
theorem lk_X11_53 : LkS RX11 53 yX11_isIn cX11_isIn 3 (some .boolean) 3 := lkS_of q_202 q_203 q_1 q_204 ⟨rfl, by decide, by decide, by decide +kernel⟩ (by decide)
theorem lk_X11_134 : LkV RX11 134 yX6_baseOf cX6_baseOf 8 (some .int) 3 := lkV_of q_518 q_519 q_520 q_5 q_521 ⟨by decide, by decide, by decide +kernel⟩ (by decide)
theorem lk_X11_158 : LkV RX11 158 yX4_turnOf cX4_turnOf 2 (some .int) 1 := lkV_of q_585 q_586 q_587 q_4 q_588 ⟨by decide, by decide, by decide +kernel⟩ (by decide)
theorem lk_X11_165 : LkV RX11 165 yX4_upBits cX4_upBits 4 (some .int) 1 := lkV_of q_592 q_593 q_594 q_4 q_595 ⟨by decide, by decide, by decide +kernel⟩ (by decide)
theorem lk_X11_171 : LkV RX11 171 yX4_hasFor cX4_hasFor 8 (some .int) 4 := lkV_of q_598 q_599 q_600 q_4 q_601 ⟨by decide, by decide, by decide +kernel⟩ (by decide)
theorem lk_X11_185 : LkT RX11 185 yJ6_bitCount_0f7a4 cJ6_bitCount_0f7a4 1 (some .int) 1 := lkT_of q_613 q_614 q_20 q_615 ⟨by decide, by decide, by decide +kernel⟩ (by decide)
theorem lk_X11_190 : LkV RX11 190 yX11_nightsTill cX11_nightsTill 5 (some .int) 2 := lkV_of q_623 q_625 qs_5 q_1 q_626 ⟨by decide, by decide, by decide +kernel⟩ (by decide)
set_option maxHeartbeats 4000000 in
set_option maxRecDepth 100000 in
theorem c_J6_bitCount_0f7a4 (l : Launch) (g : Gp) (M : Mem) (x : Int32) : Met l yJ6_bitCount_0f7a4 (wsM yJ6_bitCount_0f7a4 cJ6_bitCount_0f7a4 1 (some .int)) (rmD 1 0 0) (Pre g M [.int x]) (Qi g (fun r M1 => (fBC x) = r ∧ M = M1)) 0 0 (gF g) := M_start (by decide +kernel) (Nat.le_of_ble_eq_true rfl) fun p e s m args below meth c ls X hr hk hnm hM hl => by
  have X : Cx g p m c cJ6_bitCount_0f7a4 1 s args RJ6 := X
  have hx := X.1.1
  have hb := X.1.2.1
  have hl : lv_has ls 1 [(0, .int x)] := hl
  refine lv_iload_n hx hb dJ6_bitCount_0f7a4_0 rfl (lv_at hl 0 rfl) ?_
  refine lv_iload_n hx hb dJ6_bitCount_0f7a4_1 rfl (lv_at hl 0 rfl) ?_
  refine lv_iconst (v := 1) hx hb dJ6_bitCount_0f7a4_2 (by decide) ?_
  refine lv_iushr (v := (x.toUInt32 >>> ((1 : Int32).toUInt32 &&& Int32.toUInt32 31)).toInt32) hx hb dJ6_bitCount_0f7a4_3 rfl ?_
  refine lv_ldcw (v := 1431655765) hx hb X.1.2.2.2.1 (X.1.2.2.2.2 _ q_616) dJ6_bitCount_0f7a4_4 ?_
  refine lv_iand hx hb dJ6_bitCount_0f7a4_7 ?_
  refine lv_isub hx hb dJ6_bitCount_0f7a4_8 ?_
  refine lv_istore_n (lv' := [(0, .int (x - (((x.toUInt32 >>> ((1 : Int32).toUInt32 &&& Int32.toUInt32 31)).toInt32) &&& 1431655765)))]) hx hb dJ6_bitCount_0f7a4_9 rfl hl (by decide) rfl (fun ls hl => ?_)
  refine lv_iload_n hx hb dJ6_bitCount_0f7a4_10 rfl (lv_at hl 0 rfl) ?_
  refine lv_ldcw (v := 858993459) hx hb X.1.2.2.2.1 (X.1.2.2.2.2 _ q_617) dJ6_bitCount_0f7a4_11 ?_
  refine lv_iand hx hb dJ6_bitCount_0f7a4_14 ?_
  refine lv_iload_n hx hb dJ6_bitCount_0f7a4_15 rfl (lv_at hl 0 rfl) ?_
  refine lv_iconst (v := 2) hx hb dJ6_bitCount_0f7a4_16 (by decide) ?_
  refine lv_iushr (v := ((x - (((x.toUInt32 >>> ((1 : Int32).toUInt32 &&& Int32.toUInt32 31)).toInt32) &&& 1431655765)).toUInt32 >>> ((2 : Int32).toUInt32 &&& Int32.toUInt32 31)).toInt32) hx hb dJ6_bitCount_0f7a4_17 rfl ?_
  refine lv_ldcw (v := 858993459) hx hb X.1.2.2.2.1 (X.1.2.2.2.2 _ q_617) dJ6_bitCount_0f7a4_18 ?_
  refine lv_iand hx hb dJ6_bitCount_0f7a4_21 ?_
  refine lv_iadd hx hb dJ6_bitCount_0f7a4_22 ?_
  refine lv_istore_n (lv' := [(0, .int (((x - (((x.toUInt32 >>> ((1 : Int32).toUInt32 &&& Int32.toUInt32 31)).toInt32) &&& 1431655765)) &&& 858993459) + ((((x - (((x.toUInt32 >>> ((1 : Int32).toUInt32 &&& Int32.toUInt32 31)).toInt32) &&& 1431655765)).toUInt32 >>> ((2 : Int32).toUInt32 &&& Int32.toUInt32 31)).toInt32) &&& 858993459)))]) hx hb dJ6_bitCount_0f7a4_23 rfl hl (by decide) rfl (fun ls hl => ?_)
  refine lv_iload_n hx hb dJ6_bitCount_0f7a4_24 rfl (lv_at hl 0 rfl) ?_
  refine lv_iload_n hx hb dJ6_bitCount_0f7a4_25 rfl (lv_at hl 0 rfl) ?_
  refine lv_iconst (v := 4) hx hb dJ6_bitCount_0f7a4_26 (by decide) ?_
  refine lv_iushr (v := ((((x - (((x.toUInt32 >>> ((1 : Int32).toUInt32 &&& Int32.toUInt32 31)).toInt32) &&& 1431655765)) &&& 858993459) + ((((x - (((x.toUInt32 >>> ((1 : Int32).toUInt32 &&& Int32.toUInt32 31)).toInt32) &&& 1431655765)).toUInt32 >>> ((2 : Int32).toUInt32 &&& Int32.toUInt32 31)).toInt32) &&& 858993459)).toUInt32 >>> ((4 : Int32).toUInt32 &&& Int32.toUInt32 31)).toInt32) hx hb dJ6_bitCount_0f7a4_27 rfl ?_
  refine lv_iadd hx hb dJ6_bitCount_0f7a4_28 ?_
  refine lv_ldcw (v := 252645135) hx hb X.1.2.2.2.1 (X.1.2.2.2.2 _ q_618) dJ6_bitCount_0f7a4_29 ?_
  refine lv_iand hx hb dJ6_bitCount_0f7a4_32 ?_
  refine lv_istore_n (lv' := [(0, .int (((((x - (((x.toUInt32 >>> ((1 : Int32).toUInt32 &&& Int32.toUInt32 31)).toInt32) &&& 1431655765)) &&& 858993459) + ((((x - (((x.toUInt32 >>> ((1 : Int32).toUInt32 &&& Int32.toUInt32 31)).toInt32) &&& 1431655765)).toUInt32 >>> ((2 : Int32).toUInt32 &&& Int32.toUInt32 31)).toInt32) &&& 858993459)) + (((((x - (((x.toUInt32 >>> ((1 : Int32).toUInt32 &&& Int32.toUInt32 31)).toInt32) &&& 1431655765)) &&& 858993459) + ((((x - (((x.toUInt32 >>> ((1 : Int32).toUInt32 &&& Int32.toUInt32 31)).toInt32) &&& 1431655765)).toUInt32 >>> ((2 : Int32).toUInt32 &&& Int32.toUInt32 31)).toInt32) &&& 858993459)).toUInt32 >>> ((4 : Int32).toUInt32 &&& Int32.toUInt32 31)).toInt32)) &&& 252645135))]) hx hb dJ6_bitCount_0f7a4_33 rfl hl (by decide) rfl (fun ls hl => ?_)
  refine lv_iload_n hx hb dJ6_bitCount_0f7a4_34 rfl (lv_at hl 0 rfl) ?_
  refine lv_iload_n hx hb dJ6_bitCount_0f7a4_35 rfl (lv_at hl 0 rfl) ?_
  refine lv_bipush (v := 8) hx hb dJ6_bitCount_0f7a4_36 (by decide) ?_
  refine lv_iushr (v := ((((((x - (((x.toUInt32 >>> ((1 : Int32).toUInt32 &&& Int32.toUInt32 31)).toInt32) &&& 1431655765)) &&& 858993459) + ((((x - (((x.toUInt32 >>> ((1 : Int32).toUInt32 &&& Int32.toUInt32 31)).toInt32) &&& 1431655765)).toUInt32 >>> ((2 : Int32).toUInt32 &&& Int32.toUInt32 31)).toInt32) &&& 858993459)) + (((((x - (((x.toUInt32 >>> ((1 : Int32).toUInt32 &&& Int32.toUInt32 31)).toInt32) &&& 1431655765)) &&& 858993459) + ((((x - (((x.toUInt32 >>> ((1 : Int32).toUInt32 &&& Int32.toUInt32 31)).toInt32) &&& 1431655765)).toUInt32 >>> ((2 : Int32).toUInt32 &&& Int32.toUInt32 31)).toInt32) &&& 858993459)).toUInt32 >>> ((4 : Int32).toUInt32 &&& Int32.toUInt32 31)).toInt32)) &&& 252645135).toUInt32 >>> ((8 : Int32).toUInt32 &&& Int32.toUInt32 31)).toInt32) hx hb dJ6_bitCount_0f7a4_38 rfl ?_
  refine lv_iadd hx hb dJ6_bitCount_0f7a4_39 ?_
  refine lv_istore_n (lv' := [(0, .int ((((((x - (((x.toUInt32 >>> ((1 : Int32).toUInt32 &&& Int32.toUInt32 31)).toInt32) &&& 1431655765)) &&& 858993459) + ((((x - (((x.toUInt32 >>> ((1 : Int32).toUInt32 &&& Int32.toUInt32 31)).toInt32) &&& 1431655765)).toUInt32 >>> ((2 : Int32).toUInt32 &&& Int32.toUInt32 31)).toInt32) &&& 858993459)) + (((((x - (((x.toUInt32 >>> ((1 : Int32).toUInt32 &&& Int32.toUInt32 31)).toInt32) &&& 1431655765)) &&& 858993459) + ((((x - (((x.toUInt32 >>> ((1 : Int32).toUInt32 &&& Int32.toUInt32 31)).toInt32) &&& 1431655765)).toUInt32 >>> ((2 : Int32).toUInt32 &&& Int32.toUInt32 31)).toInt32) &&& 858993459)).toUInt32 >>> ((4 : Int32).toUInt32 &&& Int32.toUInt32 31)).toInt32)) &&& 252645135) + (((((((x - (((x.toUInt32 >>> ((1 : Int32).toUInt32 &&& Int32.toUInt32 31)).toInt32) &&& 1431655765)) &&& 858993459) + ((((x - (((x.toUInt32 >>> ((1 : Int32).toUInt32 &&& Int32.toUInt32 31)).toInt32) &&& 1431655765)).toUInt32 >>> ((2 : Int32).toUInt32 &&& Int32.toUInt32 31)).toInt32) &&& 858993459)) + (((((x - (((x.toUInt32 >>> ((1 : Int32).toUInt32 &&& Int32.toUInt32 31)).toInt32) &&& 1431655765)) &&& 858993459) + ((((x - (((x.toUInt32 >>> ((1 : Int32).toUInt32 &&& Int32.toUInt32 31)).toInt32) &&& 1431655765)).toUInt32 >>> ((2 : Int32).toUInt32 &&& Int32.toUInt32 31)).toInt32) &&& 858993459)).toUInt32 >>> ((4 : Int32).toUInt32 &&& Int32.toUInt32 31)).toInt32)) &&& 252645135).toUInt32 >>> ((8 : Int32).toUInt32 &&& Int32.toUInt32 31)).toInt32)))]) hx hb dJ6_bitCount_0f7a4_40 rfl hl (by decide) rfl (fun ls hl => ?_)
  refine lv_iload_n hx hb dJ6_bitCount_0f7a4_41 rfl (lv_at hl 0 rfl) ?_
  refine lv_iload_n hx hb dJ6_bitCount_0f7a4_42 rfl (lv_at hl 0 rfl) ?_
  refine lv_bipush (v := 16) hx hb dJ6_bitCount_0f7a4_43 (by decide) ?_
  refine lv_iushr (v := (((((((x - (((x.toUInt32 >>> ((1 : Int32).toUInt32 &&& Int32.toUInt32 31)).toInt32) &&& 1431655765)) &&& 858993459) + ((((x - (((x.toUInt32 >>> ((1 : Int32).toUInt32 &&& Int32.toUInt32 31)).toInt32) &&& 1431655765)).toUInt32 >>> ((2 : Int32).toUInt32 &&& Int32.toUInt32 31)).toInt32) &&& 858993459)) + (((((x - (((x.toUInt32 >>> ((1 : Int32).toUInt32 &&& Int32.toUInt32 31)).toInt32) &&& 1431655765)) &&& 858993459) + ((((x - (((x.toUInt32 >>> ((1 : Int32).toUInt32 &&& Int32.toUInt32 31)).toInt32) &&& 1431655765)).toUInt32 >>> ((2 : Int32).toUInt32 &&& Int32.toUInt32 31)).toInt32) &&& 858993459)).toUInt32 >>> ((4 : Int32).toUInt32 &&& Int32.toUInt32 31)).toInt32)) &&& 252645135) + (((((((x - (((x.toUInt32 >>> ((1 : Int32).toUInt32 &&& Int32.toUInt32 31)).toInt32) &&& 1431655765)) &&& 858993459) + ((((x - (((x.toUInt32 >>> ((1 : Int32).toUInt32 &&& Int32.toUInt32 31)).toInt32) &&& 1431655765)).toUInt32 >>> ((2 : Int32).toUInt32 &&& Int32.toUInt32 31)).toInt32) &&& 858993459)) + (((((x - (((x.toUInt32 >>> ((1 : Int32).toUInt32 &&& Int32.toUInt32 31)).toInt32) &&& 1431655765)) &&& 858993459) + ((((x - (((x.toUInt32 >>> ((1 : Int32).toUInt32 &&& Int32.toUInt32 31)).toInt32) &&& 1431655765)).toUInt32 >>> ((2 : Int32).toUInt32 &&& Int32.toUInt32 31)).toInt32) &&& 858993459)).toUInt32 >>> ((4 : Int32).toUInt32 &&& Int32.toUInt32 31)).toInt32)) &&& 252645135).toUInt32 >>> ((8 : Int32).toUInt32 &&& Int32.toUInt32 31)).toInt32)).toUInt32 >>> ((16 : Int32).toUInt32 &&& Int32.toUInt32 31)).toInt32) hx hb dJ6_bitCount_0f7a4_45 rfl ?_
  refine lv_iadd hx hb dJ6_bitCount_0f7a4_46 ?_
  refine lv_istore_n (lv' := [(0, .int (((((((x - (((x.toUInt32 >>> ((1 : Int32).toUInt32 &&& Int32.toUInt32 31)).toInt32) &&& 1431655765)) &&& 858993459) + ((((x - (((x.toUInt32 >>> ((1 : Int32).toUInt32 &&& Int32.toUInt32 31)).toInt32) &&& 1431655765)).toUInt32 >>> ((2 : Int32).toUInt32 &&& Int32.toUInt32 31)).toInt32) &&& 858993459)) + (((((x - (((x.toUInt32 >>> ((1 : Int32).toUInt32 &&& Int32.toUInt32 31)).toInt32) &&& 1431655765)) &&& 858993459) + ((((x - (((x.toUInt32 >>> ((1 : Int32).toUInt32 &&& Int32.toUInt32 31)).toInt32) &&& 1431655765)).toUInt32 >>> ((2 : Int32).toUInt32 &&& Int32.toUInt32 31)).toInt32) &&& 858993459)).toUInt32 >>> ((4 : Int32).toUInt32 &&& Int32.toUInt32 31)).toInt32)) &&& 252645135) + (((((((x - (((x.toUInt32 >>> ((1 : Int32).toUInt32 &&& Int32.toUInt32 31)).toInt32) &&& 1431655765)) &&& 858993459) + ((((x - (((x.toUInt32 >>> ((1 : Int32).toUInt32 &&& Int32.toUInt32 31)).toInt32) &&& 1431655765)).toUInt32 >>> ((2 : Int32).toUInt32 &&& Int32.toUInt32 31)).toInt32) &&& 858993459)) + (((((x - (((x.toUInt32 >>> ((1 : Int32).toUInt32 &&& Int32.toUInt32 31)).toInt32) &&& 1431655765)) &&& 858993459) + ((((x - (((x.toUInt32 >>> ((1 : Int32).toUInt32 &&& Int32.toUInt32 31)).toInt32) &&& 1431655765)).toUInt32 >>> ((2 : Int32).toUInt32 &&& Int32.toUInt32 31)).toInt32) &&& 858993459)).toUInt32 >>> ((4 : Int32).toUInt32 &&& Int32.toUInt32 31)).toInt32)) &&& 252645135).toUInt32 >>> ((8 : Int32).toUInt32 &&& Int32.toUInt32 31)).toInt32)) + ((((((((x - (((x.toUInt32 >>> ((1 : Int32).toUInt32 &&& Int32.toUInt32 31)).toInt32) &&& 1431655765)) &&& 858993459) + ((((x - (((x.toUInt32 >>> ((1 : Int32).toUInt32 &&& Int32.toUInt32 31)).toInt32) &&& 1431655765)).toUInt32 >>> ((2 : Int32).toUInt32 &&& Int32.toUInt32 31)).toInt32) &&& 858993459)) + (((((x - (((x.toUInt32 >>> ((1 : Int32).toUInt32 &&& Int32.toUInt32 31)).toInt32) &&& 1431655765)) &&& 858993459) + ((((x - (((x.toUInt32 >>> ((1 : Int32).toUInt32 &&& Int32.toUInt32 31)).toInt32) &&& 1431655765)).toUInt32 >>> ((2 : Int32).toUInt32 &&& Int32.toUInt32 31)).toInt32) &&& 858993459)).toUInt32 >>> ((4 : Int32).toUInt32 &&& Int32.toUInt32 31)).toInt32)) &&& 252645135) + (((((((x - (((x.toUInt32 >>> ((1 : Int32).toUInt32 &&& Int32.toUInt32 31)).toInt32) &&& 1431655765)) &&& 858993459) + ((((x - (((x.toUInt32 >>> ((1 : Int32).toUInt32 &&& Int32.toUInt32 31)).toInt32) &&& 1431655765)).toUInt32 >>> ((2 : Int32).toUInt32 &&& Int32.toUInt32 31)).toInt32) &&& 858993459)) + (((((x - (((x.toUInt32 >>> ((1 : Int32).toUInt32 &&& Int32.toUInt32 31)).toInt32) &&& 1431655765)) &&& 858993459) + ((((x - (((x.toUInt32 >>> ((1 : Int32).toUInt32 &&& Int32.toUInt32 31)).toInt32) &&& 1431655765)).toUInt32 >>> ((2 : Int32).toUInt32 &&& Int32.toUInt32 31)).toInt32) &&& 858993459)).toUInt32 >>> ((4 : Int32).toUInt32 &&& Int32.toUInt32 31)).toInt32)) &&& 252645135).toUInt32 >>> ((8 : Int32).toUInt32 &&& Int32.toUInt32 31)).toInt32)).toUInt32 >>> ((16 : Int32).toUInt32 &&& Int32.toUInt32 31)).toInt32)))]) hx hb dJ6_bitCount_0f7a4_47 rfl hl (by decide) rfl (fun ls hl => ?_)
  refine lv_iload_n hx hb dJ6_bitCount_0f7a4_48 rfl (lv_at hl 0 rfl) ?_
  refine lv_bipush (v := 63) hx hb dJ6_bitCount_0f7a4_49 (by decide) ?_
  refine lv_iand hx hb dJ6_bitCount_0f7a4_51 ?_
  exact R_i X hr hk hM ⟨rfl, rfl⟩ dJ6_bitCount_0f7a4_52
set_option maxHeartbeats 4000000 in
set_option maxRecDepth 100000 in
theorem c_X11_isOfKind_k0 (l : Launch) (g : Gp) (M : Mem) (o : Nat) (kk nu v k : Int32) (h_o : M o = some (starE0 g kk nu v)) : Met l yX11_isOfKind (wsM yX11_isOfKind cX11_isOfKind 2 (some .boolean)) (rmD 1 0 0) (Pre g M [.ref o, .int k]) (Qi g (fun r M1 => (fKin 0 k) = r ∧ M = M1)) 0 0 (gF g) := M_start (by decide +kernel) (Nat.le_of_ble_eq_true rfl) fun p e s m args below meth c ls X hr hk hnm hM hl => by
  have X : Cx g p m c cX11_isOfKind 2 s args RX11 := X
  have hx := X.1.1
  have hb := X.1.2.1
  have hl : lv_has ls 2 [(0, .ref o), (1, .int k)] := hl
  refine lv_iload_n hx hb dX11_isOfKind_0 rfl (lv_at hl 1 rfl) ?_
  by_cases w_1 : k = 0
  · skip
    refine lv_tableIn (off := 39) (tgt := 40) hx hb dX11_isOfKind_1 (by rw [w_1]; decide) (by rw [w_1]; decide) (by rw [w_1]; rfl) (by decide) ?_
    refine lv_iconst (v := 1) hx hb dX11_isOfKind_40 (by decide) ?_
    exact R_z X hr hk (Or.inr rfl) hM ⟨(by simp [fKin, *]), rfl⟩ dX11_isOfKind_41
  by_cases w_2 : k = 1
  · skip
    refine lv_tableIn (off := 41) (tgt := 42) hx hb dX11_isOfKind_1 (by rw [w_2]; decide) (by rw [w_2]; decide) (by rw [w_2]; rfl) (by decide) ?_
    refine lv_aload_n hx hb dX11_isOfKind_42 rfl (lv_at hl 0 rfl) ?_
    refine r_instN X hM h_o rfl q_354 (by decide +kernel) dX11_isOfKind_43 ?_
    exact R_z X hr hk (Or.inl rfl) hM ⟨(by simp [fKin, *]), rfl⟩ dX11_isOfKind_46
  by_cases w_3 : k = 2
  · skip
    refine lv_tableIn (off := 46) (tgt := 47) hx hb dX11_isOfKind_1 (by rw [w_3]; decide) (by rw [w_3]; decide) (by rw [w_3]; rfl) (by decide) ?_
    refine lv_aload_n hx hb dX11_isOfKind_47 rfl (lv_at hl 0 rfl) ?_
    refine r_instN X hM h_o rfl q_404 (by decide +kernel) dX11_isOfKind_48 ?_
    exact R_z X hr hk (Or.inl rfl) hM ⟨(by simp [fKin, *]), rfl⟩ dX11_isOfKind_51
  by_cases w_4 : k = 3
  · skip
    refine lv_tableIn (off := 51) (tgt := 52) hx hb dX11_isOfKind_1 (by rw [w_4]; decide) (by rw [w_4]; decide) (by rw [w_4]; rfl) (by decide) ?_
    refine lv_aload_n hx hb dX11_isOfKind_52 rfl (lv_at hl 0 rfl) ?_
    refine r_instN X hM h_o rfl q_415 (by decide +kernel) dX11_isOfKind_53 ?_
    exact R_z X hr hk (Or.inl rfl) hM ⟨(by simp [fKin, *]), rfl⟩ dX11_isOfKind_56
  by_cases w_5 : k = 4
  · skip
    refine lv_tableIn (off := 56) (tgt := 57) hx hb dX11_isOfKind_1 (by rw [w_5]; decide) (by rw [w_5]; decide) (by rw [w_5]; rfl) (by decide) ?_
    refine lv_aload_n hx hb dX11_isOfKind_57 rfl (lv_at hl 0 rfl) ?_
    refine r_instN X hM h_o rfl q_426 (by decide +kernel) dX11_isOfKind_58 ?_
    exact R_z X hr hk (Or.inl rfl) hM ⟨(by simp [fKin, *]), rfl⟩ dX11_isOfKind_61
  by_cases w_6 : k = 5
  · skip
    refine lv_tableIn (off := 61) (tgt := 62) hx hb dX11_isOfKind_1 (by rw [w_6]; decide) (by rw [w_6]; decide) (by rw [w_6]; rfl) (by decide) ?_
    refine lv_aload_n hx hb dX11_isOfKind_62 rfl (lv_at hl 0 rfl) ?_
    refine r_instN X hM h_o rfl q_437 (by decide +kernel) dX11_isOfKind_63 ?_
    exact R_z X hr hk (Or.inl rfl) hM ⟨(by simp [fKin, *]), rfl⟩ dX11_isOfKind_66
  refine lv_tableOut (tgt := 67) hx hb dX11_isOfKind_1 (by have z0 := i32ne w_1 (by decide : ((0 : Int32)).toInt = 0); have z1 := i32ne w_2 (by decide : ((1 : Int32)).toInt = 1); have z2 := i32ne w_3 (by decide : ((2 : Int32)).toInt = 2); have z3 := i32ne w_4 (by decide : ((3 : Int32)).toInt = 3); have z4 := i32ne w_5 (by decide : ((4 : Int32)).toInt = 4); have z5 := i32ne w_6 (by decide : ((5 : Int32)).toInt = 5); omega) (by decide) ?_
  refine lv_aload_n hx hb dX11_isOfKind_67 rfl (lv_at hl 0 rfl) ?_
  refine r_instN X hM h_o rfl q_448 (by decide +kernel) dX11_isOfKind_68 ?_
  exact R_z X hr hk (Or.inl rfl) hM ⟨(by simp [fKin, *]), rfl⟩ dX11_isOfKind_71
set_option maxHeartbeats 4000000 in
set_option maxRecDepth 100000 in
theorem c_X11_isOfKind_k1 (l : Launch) (g : Gp) (M : Mem) (o : Nat) (kk nu v k : Int32) (h_o : M o = some (starE1 g kk nu v)) : Met l yX11_isOfKind (wsM yX11_isOfKind cX11_isOfKind 2 (some .boolean)) (rmD 1 0 0) (Pre g M [.ref o, .int k]) (Qi g (fun r M1 => (fKin 1 k) = r ∧ M = M1)) 0 0 (gF g) := M_start (by decide +kernel) (Nat.le_of_ble_eq_true rfl) fun p e s m args below meth c ls X hr hk hnm hM hl => by
  have X : Cx g p m c cX11_isOfKind 2 s args RX11 := X
  have hx := X.1.1
  have hb := X.1.2.1
  have hl : lv_has ls 2 [(0, .ref o), (1, .int k)] := hl
  refine lv_iload_n hx hb dX11_isOfKind_0 rfl (lv_at hl 1 rfl) ?_
  by_cases w_1 : k = 0
  · skip
    refine lv_tableIn (off := 39) (tgt := 40) hx hb dX11_isOfKind_1 (by rw [w_1]; decide) (by rw [w_1]; decide) (by rw [w_1]; rfl) (by decide) ?_
    refine lv_iconst (v := 1) hx hb dX11_isOfKind_40 (by decide) ?_
    exact R_z X hr hk (Or.inr rfl) hM ⟨(by simp [fKin, *]), rfl⟩ dX11_isOfKind_41
  by_cases w_2 : k = 1
  · skip
    refine lv_tableIn (off := 41) (tgt := 42) hx hb dX11_isOfKind_1 (by rw [w_2]; decide) (by rw [w_2]; decide) (by rw [w_2]; rfl) (by decide) ?_
    refine lv_aload_n hx hb dX11_isOfKind_42 rfl (lv_at hl 0 rfl) ?_
    refine r_instS X hM h_o rfl q_354 dX11_isOfKind_43 ?_
    exact R_z X hr hk (Or.inr rfl) hM ⟨(by simp [fKin, *]), rfl⟩ dX11_isOfKind_46
  by_cases w_3 : k = 2
  · skip
    refine lv_tableIn (off := 46) (tgt := 47) hx hb dX11_isOfKind_1 (by rw [w_3]; decide) (by rw [w_3]; decide) (by rw [w_3]; rfl) (by decide) ?_
    refine lv_aload_n hx hb dX11_isOfKind_47 rfl (lv_at hl 0 rfl) ?_
    refine r_instN X hM h_o rfl q_404 (by decide +kernel) dX11_isOfKind_48 ?_
    exact R_z X hr hk (Or.inl rfl) hM ⟨(by simp [fKin, *]), rfl⟩ dX11_isOfKind_51
  by_cases w_4 : k = 3
  · skip
    refine lv_tableIn (off := 51) (tgt := 52) hx hb dX11_isOfKind_1 (by rw [w_4]; decide) (by rw [w_4]; decide) (by rw [w_4]; rfl) (by decide) ?_
    refine lv_aload_n hx hb dX11_isOfKind_52 rfl (lv_at hl 0 rfl) ?_
    refine r_instN X hM h_o rfl q_415 (by decide +kernel) dX11_isOfKind_53 ?_
    exact R_z X hr hk (Or.inl rfl) hM ⟨(by simp [fKin, *]), rfl⟩ dX11_isOfKind_56
  by_cases w_5 : k = 4
  · skip
    refine lv_tableIn (off := 56) (tgt := 57) hx hb dX11_isOfKind_1 (by rw [w_5]; decide) (by rw [w_5]; decide) (by rw [w_5]; rfl) (by decide) ?_
    refine lv_aload_n hx hb dX11_isOfKind_57 rfl (lv_at hl 0 rfl) ?_
    refine r_instN X hM h_o rfl q_426 (by decide +kernel) dX11_isOfKind_58 ?_
    exact R_z X hr hk (Or.inl rfl) hM ⟨(by simp [fKin, *]), rfl⟩ dX11_isOfKind_61
  by_cases w_6 : k = 5
  · skip
    refine lv_tableIn (off := 61) (tgt := 62) hx hb dX11_isOfKind_1 (by rw [w_6]; decide) (by rw [w_6]; decide) (by rw [w_6]; rfl) (by decide) ?_
    refine lv_aload_n hx hb dX11_isOfKind_62 rfl (lv_at hl 0 rfl) ?_
    refine r_instN X hM h_o rfl q_437 (by decide +kernel) dX11_isOfKind_63 ?_
    exact R_z X hr hk (Or.inl rfl) hM ⟨(by simp [fKin, *]), rfl⟩ dX11_isOfKind_66
  refine lv_tableOut (tgt := 67) hx hb dX11_isOfKind_1 (by have z0 := i32ne w_1 (by decide : ((0 : Int32)).toInt = 0); have z1 := i32ne w_2 (by decide : ((1 : Int32)).toInt = 1); have z2 := i32ne w_3 (by decide : ((2 : Int32)).toInt = 2); have z3 := i32ne w_4 (by decide : ((3 : Int32)).toInt = 3); have z4 := i32ne w_5 (by decide : ((4 : Int32)).toInt = 4); have z5 := i32ne w_6 (by decide : ((5 : Int32)).toInt = 5); omega) (by decide) ?_
  refine lv_aload_n hx hb dX11_isOfKind_67 rfl (lv_at hl 0 rfl) ?_
  refine r_instN X hM h_o rfl q_448 (by decide +kernel) dX11_isOfKind_68 ?_
  exact R_z X hr hk (Or.inl rfl) hM ⟨(by simp [fKin, *]), rfl⟩ dX11_isOfKind_71
set_option maxHeartbeats 4000000 in
set_option maxRecDepth 100000 in
theorem c_X11_isOfKind_k2 (l : Launch) (g : Gp) (M : Mem) (o : Nat) (kk nu v k : Int32) (h_o : M o = some (starE2 g kk nu v)) : Met l yX11_isOfKind (wsM yX11_isOfKind cX11_isOfKind 2 (some .boolean)) (rmD 1 0 0) (Pre g M [.ref o, .int k]) (Qi g (fun r M1 => (fKin 2 k) = r ∧ M = M1)) 0 0 (gF g) := M_start (by decide +kernel) (Nat.le_of_ble_eq_true rfl) fun p e s m args below meth c ls X hr hk hnm hM hl => by
  have X : Cx g p m c cX11_isOfKind 2 s args RX11 := X
  have hx := X.1.1
  have hb := X.1.2.1
  have hl : lv_has ls 2 [(0, .ref o), (1, .int k)] := hl
  refine lv_iload_n hx hb dX11_isOfKind_0 rfl (lv_at hl 1 rfl) ?_
  by_cases w_1 : k = 0
  · skip
    refine lv_tableIn (off := 39) (tgt := 40) hx hb dX11_isOfKind_1 (by rw [w_1]; decide) (by rw [w_1]; decide) (by rw [w_1]; rfl) (by decide) ?_
    refine lv_iconst (v := 1) hx hb dX11_isOfKind_40 (by decide) ?_
    exact R_z X hr hk (Or.inr rfl) hM ⟨(by simp [fKin, *]), rfl⟩ dX11_isOfKind_41
  by_cases w_2 : k = 1
  · skip
    refine lv_tableIn (off := 41) (tgt := 42) hx hb dX11_isOfKind_1 (by rw [w_2]; decide) (by rw [w_2]; decide) (by rw [w_2]; rfl) (by decide) ?_
    refine lv_aload_n hx hb dX11_isOfKind_42 rfl (lv_at hl 0 rfl) ?_
    refine r_instN X hM h_o rfl q_354 (by decide +kernel) dX11_isOfKind_43 ?_
    exact R_z X hr hk (Or.inl rfl) hM ⟨(by simp [fKin, *]), rfl⟩ dX11_isOfKind_46
  by_cases w_3 : k = 2
  · skip
    refine lv_tableIn (off := 46) (tgt := 47) hx hb dX11_isOfKind_1 (by rw [w_3]; decide) (by rw [w_3]; decide) (by rw [w_3]; rfl) (by decide) ?_
    refine lv_aload_n hx hb dX11_isOfKind_47 rfl (lv_at hl 0 rfl) ?_
    refine r_instS X hM h_o rfl q_404 dX11_isOfKind_48 ?_
    exact R_z X hr hk (Or.inr rfl) hM ⟨(by simp [fKin, *]), rfl⟩ dX11_isOfKind_51
  by_cases w_4 : k = 3
  · skip
    refine lv_tableIn (off := 51) (tgt := 52) hx hb dX11_isOfKind_1 (by rw [w_4]; decide) (by rw [w_4]; decide) (by rw [w_4]; rfl) (by decide) ?_
    refine lv_aload_n hx hb dX11_isOfKind_52 rfl (lv_at hl 0 rfl) ?_
    refine r_instN X hM h_o rfl q_415 (by decide +kernel) dX11_isOfKind_53 ?_
    exact R_z X hr hk (Or.inl rfl) hM ⟨(by simp [fKin, *]), rfl⟩ dX11_isOfKind_56
  by_cases w_5 : k = 4
  · skip
    refine lv_tableIn (off := 56) (tgt := 57) hx hb dX11_isOfKind_1 (by rw [w_5]; decide) (by rw [w_5]; decide) (by rw [w_5]; rfl) (by decide) ?_
    refine lv_aload_n hx hb dX11_isOfKind_57 rfl (lv_at hl 0 rfl) ?_
    refine r_instN X hM h_o rfl q_426 (by decide +kernel) dX11_isOfKind_58 ?_
    exact R_z X hr hk (Or.inl rfl) hM ⟨(by simp [fKin, *]), rfl⟩ dX11_isOfKind_61
  by_cases w_6 : k = 5
  · skip
    refine lv_tableIn (off := 61) (tgt := 62) hx hb dX11_isOfKind_1 (by rw [w_6]; decide) (by rw [w_6]; decide) (by rw [w_6]; rfl) (by decide) ?_
    refine lv_aload_n hx hb dX11_isOfKind_62 rfl (lv_at hl 0 rfl) ?_
    refine r_instN X hM h_o rfl q_437 (by decide +kernel) dX11_isOfKind_63 ?_
    exact R_z X hr hk (Or.inl rfl) hM ⟨(by simp [fKin, *]), rfl⟩ dX11_isOfKind_66
  refine lv_tableOut (tgt := 67) hx hb dX11_isOfKind_1 (by have z0 := i32ne w_1 (by decide : ((0 : Int32)).toInt = 0); have z1 := i32ne w_2 (by decide : ((1 : Int32)).toInt = 1); have z2 := i32ne w_3 (by decide : ((2 : Int32)).toInt = 2); have z3 := i32ne w_4 (by decide : ((3 : Int32)).toInt = 3); have z4 := i32ne w_5 (by decide : ((4 : Int32)).toInt = 4); have z5 := i32ne w_6 (by decide : ((5 : Int32)).toInt = 5); omega) (by decide) ?_
  refine lv_aload_n hx hb dX11_isOfKind_67 rfl (lv_at hl 0 rfl) ?_
  refine r_instN X hM h_o rfl q_448 (by decide +kernel) dX11_isOfKind_68 ?_
  exact R_z X hr hk (Or.inl rfl) hM ⟨(by simp [fKin, *]), rfl⟩ dX11_isOfKind_71
set_option maxHeartbeats 4000000 in
set_option maxRecDepth 100000 in
theorem c_X11_isOfKind_k3 (l : Launch) (g : Gp) (M : Mem) (o : Nat) (kk nu v k : Int32) (h_o : M o = some (starE3 g kk nu v)) : Met l yX11_isOfKind (wsM yX11_isOfKind cX11_isOfKind 2 (some .boolean)) (rmD 1 0 0) (Pre g M [.ref o, .int k]) (Qi g (fun r M1 => (fKin 3 k) = r ∧ M = M1)) 0 0 (gF g) := M_start (by decide +kernel) (Nat.le_of_ble_eq_true rfl) fun p e s m args below meth c ls X hr hk hnm hM hl => by
  have X : Cx g p m c cX11_isOfKind 2 s args RX11 := X
  have hx := X.1.1
  have hb := X.1.2.1
  have hl : lv_has ls 2 [(0, .ref o), (1, .int k)] := hl
  refine lv_iload_n hx hb dX11_isOfKind_0 rfl (lv_at hl 1 rfl) ?_
  by_cases w_1 : k = 0
  · skip
    refine lv_tableIn (off := 39) (tgt := 40) hx hb dX11_isOfKind_1 (by rw [w_1]; decide) (by rw [w_1]; decide) (by rw [w_1]; rfl) (by decide) ?_
    refine lv_iconst (v := 1) hx hb dX11_isOfKind_40 (by decide) ?_
    exact R_z X hr hk (Or.inr rfl) hM ⟨(by simp [fKin, *]), rfl⟩ dX11_isOfKind_41
  by_cases w_2 : k = 1
  · skip
    refine lv_tableIn (off := 41) (tgt := 42) hx hb dX11_isOfKind_1 (by rw [w_2]; decide) (by rw [w_2]; decide) (by rw [w_2]; rfl) (by decide) ?_
    refine lv_aload_n hx hb dX11_isOfKind_42 rfl (lv_at hl 0 rfl) ?_
    refine r_instN X hM h_o rfl q_354 (by decide +kernel) dX11_isOfKind_43 ?_
    exact R_z X hr hk (Or.inl rfl) hM ⟨(by simp [fKin, *]), rfl⟩ dX11_isOfKind_46
  by_cases w_3 : k = 2
  · skip
    refine lv_tableIn (off := 46) (tgt := 47) hx hb dX11_isOfKind_1 (by rw [w_3]; decide) (by rw [w_3]; decide) (by rw [w_3]; rfl) (by decide) ?_
    refine lv_aload_n hx hb dX11_isOfKind_47 rfl (lv_at hl 0 rfl) ?_
    refine r_instN X hM h_o rfl q_404 (by decide +kernel) dX11_isOfKind_48 ?_
    exact R_z X hr hk (Or.inl rfl) hM ⟨(by simp [fKin, *]), rfl⟩ dX11_isOfKind_51
  by_cases w_4 : k = 3
  · skip
    refine lv_tableIn (off := 51) (tgt := 52) hx hb dX11_isOfKind_1 (by rw [w_4]; decide) (by rw [w_4]; decide) (by rw [w_4]; rfl) (by decide) ?_
    refine lv_aload_n hx hb dX11_isOfKind_52 rfl (lv_at hl 0 rfl) ?_
    refine r_instS X hM h_o rfl q_415 dX11_isOfKind_53 ?_
    exact R_z X hr hk (Or.inr rfl) hM ⟨(by simp [fKin, *]), rfl⟩ dX11_isOfKind_56
  by_cases w_5 : k = 4
  · skip
    refine lv_tableIn (off := 56) (tgt := 57) hx hb dX11_isOfKind_1 (by rw [w_5]; decide) (by rw [w_5]; decide) (by rw [w_5]; rfl) (by decide) ?_
    refine lv_aload_n hx hb dX11_isOfKind_57 rfl (lv_at hl 0 rfl) ?_
    refine r_instN X hM h_o rfl q_426 (by decide +kernel) dX11_isOfKind_58 ?_
    exact R_z X hr hk (Or.inl rfl) hM ⟨(by simp [fKin, *]), rfl⟩ dX11_isOfKind_61
  by_cases w_6 : k = 5
  · skip
    refine lv_tableIn (off := 61) (tgt := 62) hx hb dX11_isOfKind_1 (by rw [w_6]; decide) (by rw [w_6]; decide) (by rw [w_6]; rfl) (by decide) ?_
    refine lv_aload_n hx hb dX11_isOfKind_62 rfl (lv_at hl 0 rfl) ?_
    refine r_instN X hM h_o rfl q_437 (by decide +kernel) dX11_isOfKind_63 ?_
    exact R_z X hr hk (Or.inl rfl) hM ⟨(by simp [fKin, *]), rfl⟩ dX11_isOfKind_66
  refine lv_tableOut (tgt := 67) hx hb dX11_isOfKind_1 (by have z0 := i32ne w_1 (by decide : ((0 : Int32)).toInt = 0); have z1 := i32ne w_2 (by decide : ((1 : Int32)).toInt = 1); have z2 := i32ne w_3 (by decide : ((2 : Int32)).toInt = 2); have z3 := i32ne w_4 (by decide : ((3 : Int32)).toInt = 3); have z4 := i32ne w_5 (by decide : ((4 : Int32)).toInt = 4); have z5 := i32ne w_6 (by decide : ((5 : Int32)).toInt = 5); omega) (by decide) ?_
  refine lv_aload_n hx hb dX11_isOfKind_67 rfl (lv_at hl 0 rfl) ?_
  refine r_instN X hM h_o rfl q_448 (by decide +kernel) dX11_isOfKind_68 ?_
  exact R_z X hr hk (Or.inl rfl) hM ⟨(by simp [fKin, *]), rfl⟩ dX11_isOfKind_71
set_option maxHeartbeats 4000000 in
set_option maxRecDepth 100000 in
theorem c_X11_isOfKind_k4 (l : Launch) (g : Gp) (M : Mem) (o : Nat) (kk nu v k : Int32) (h_o : M o = some (starE4 g kk nu v)) : Met l yX11_isOfKind (wsM yX11_isOfKind cX11_isOfKind 2 (some .boolean)) (rmD 1 0 0) (Pre g M [.ref o, .int k]) (Qi g (fun r M1 => (fKin 4 k) = r ∧ M = M1)) 0 0 (gF g) := M_start (by decide +kernel) (Nat.le_of_ble_eq_true rfl) fun p e s m args below meth c ls X hr hk hnm hM hl => by
  have X : Cx g p m c cX11_isOfKind 2 s args RX11 := X
  have hx := X.1.1
  have hb := X.1.2.1
  have hl : lv_has ls 2 [(0, .ref o), (1, .int k)] := hl
  refine lv_iload_n hx hb dX11_isOfKind_0 rfl (lv_at hl 1 rfl) ?_
  by_cases w_1 : k = 0
  · skip
    refine lv_tableIn (off := 39) (tgt := 40) hx hb dX11_isOfKind_1 (by rw [w_1]; decide) (by rw [w_1]; decide) (by rw [w_1]; rfl) (by decide) ?_
    refine lv_iconst (v := 1) hx hb dX11_isOfKind_40 (by decide) ?_
    exact R_z X hr hk (Or.inr rfl) hM ⟨(by simp [fKin, *]), rfl⟩ dX11_isOfKind_41
  by_cases w_2 : k = 1
  · skip
    refine lv_tableIn (off := 41) (tgt := 42) hx hb dX11_isOfKind_1 (by rw [w_2]; decide) (by rw [w_2]; decide) (by rw [w_2]; rfl) (by decide) ?_
    refine lv_aload_n hx hb dX11_isOfKind_42 rfl (lv_at hl 0 rfl) ?_
    refine r_instY X hM h_o rfl q_354 (by decide +kernel) dX11_isOfKind_43 ?_
    exact R_z X hr hk (Or.inr rfl) hM ⟨(by simp [fKin, *]), rfl⟩ dX11_isOfKind_46
  by_cases w_3 : k = 2
  · skip
    refine lv_tableIn (off := 46) (tgt := 47) hx hb dX11_isOfKind_1 (by rw [w_3]; decide) (by rw [w_3]; decide) (by rw [w_3]; rfl) (by decide) ?_
    refine lv_aload_n hx hb dX11_isOfKind_47 rfl (lv_at hl 0 rfl) ?_
    refine r_instN X hM h_o rfl q_404 (by decide +kernel) dX11_isOfKind_48 ?_
    exact R_z X hr hk (Or.inl rfl) hM ⟨(by simp [fKin, *]), rfl⟩ dX11_isOfKind_51
  by_cases w_4 : k = 3
  · skip
    refine lv_tableIn (off := 51) (tgt := 52) hx hb dX11_isOfKind_1 (by rw [w_4]; decide) (by rw [w_4]; decide) (by rw [w_4]; rfl) (by decide) ?_
    refine lv_aload_n hx hb dX11_isOfKind_52 rfl (lv_at hl 0 rfl) ?_
    refine r_instN X hM h_o rfl q_415 (by decide +kernel) dX11_isOfKind_53 ?_
    exact R_z X hr hk (Or.inl rfl) hM ⟨(by simp [fKin, *]), rfl⟩ dX11_isOfKind_56
  by_cases w_5 : k = 4
  · skip
    refine lv_tableIn (off := 56) (tgt := 57) hx hb dX11_isOfKind_1 (by rw [w_5]; decide) (by rw [w_5]; decide) (by rw [w_5]; rfl) (by decide) ?_
    refine lv_aload_n hx hb dX11_isOfKind_57 rfl (lv_at hl 0 rfl) ?_
    refine r_instS X hM h_o rfl q_426 dX11_isOfKind_58 ?_
    exact R_z X hr hk (Or.inr rfl) hM ⟨(by simp [fKin, *]), rfl⟩ dX11_isOfKind_61
  by_cases w_6 : k = 5
  · skip
    refine lv_tableIn (off := 61) (tgt := 62) hx hb dX11_isOfKind_1 (by rw [w_6]; decide) (by rw [w_6]; decide) (by rw [w_6]; rfl) (by decide) ?_
    refine lv_aload_n hx hb dX11_isOfKind_62 rfl (lv_at hl 0 rfl) ?_
    refine r_instN X hM h_o rfl q_437 (by decide +kernel) dX11_isOfKind_63 ?_
    exact R_z X hr hk (Or.inl rfl) hM ⟨(by simp [fKin, *]), rfl⟩ dX11_isOfKind_66
  refine lv_tableOut (tgt := 67) hx hb dX11_isOfKind_1 (by have z0 := i32ne w_1 (by decide : ((0 : Int32)).toInt = 0); have z1 := i32ne w_2 (by decide : ((1 : Int32)).toInt = 1); have z2 := i32ne w_3 (by decide : ((2 : Int32)).toInt = 2); have z3 := i32ne w_4 (by decide : ((3 : Int32)).toInt = 3); have z4 := i32ne w_5 (by decide : ((4 : Int32)).toInt = 4); have z5 := i32ne w_6 (by decide : ((5 : Int32)).toInt = 5); omega) (by decide) ?_
  refine lv_aload_n hx hb dX11_isOfKind_67 rfl (lv_at hl 0 rfl) ?_
  refine r_instN X hM h_o rfl q_448 (by decide +kernel) dX11_isOfKind_68 ?_
  exact R_z X hr hk (Or.inl rfl) hM ⟨(by simp [fKin, *]), rfl⟩ dX11_isOfKind_71
set_option maxHeartbeats 4000000 in
set_option maxRecDepth 100000 in
theorem c_X11_isOfKind_k5 (l : Launch) (g : Gp) (M : Mem) (o : Nat) (kk nu v k : Int32) (h_o : M o = some (starE5 g kk nu v)) : Met l yX11_isOfKind (wsM yX11_isOfKind cX11_isOfKind 2 (some .boolean)) (rmD 1 0 0) (Pre g M [.ref o, .int k]) (Qi g (fun r M1 => (fKin 5 k) = r ∧ M = M1)) 0 0 (gF g) := M_start (by decide +kernel) (Nat.le_of_ble_eq_true rfl) fun p e s m args below meth c ls X hr hk hnm hM hl => by
  have X : Cx g p m c cX11_isOfKind 2 s args RX11 := X
  have hx := X.1.1
  have hb := X.1.2.1
  have hl : lv_has ls 2 [(0, .ref o), (1, .int k)] := hl
  refine lv_iload_n hx hb dX11_isOfKind_0 rfl (lv_at hl 1 rfl) ?_
  by_cases w_1 : k = 0
  · skip
    refine lv_tableIn (off := 39) (tgt := 40) hx hb dX11_isOfKind_1 (by rw [w_1]; decide) (by rw [w_1]; decide) (by rw [w_1]; rfl) (by decide) ?_
    refine lv_iconst (v := 1) hx hb dX11_isOfKind_40 (by decide) ?_
    exact R_z X hr hk (Or.inr rfl) hM ⟨(by simp [fKin, *]), rfl⟩ dX11_isOfKind_41
  by_cases w_2 : k = 1
  · skip
    refine lv_tableIn (off := 41) (tgt := 42) hx hb dX11_isOfKind_1 (by rw [w_2]; decide) (by rw [w_2]; decide) (by rw [w_2]; rfl) (by decide) ?_
    refine lv_aload_n hx hb dX11_isOfKind_42 rfl (lv_at hl 0 rfl) ?_
    refine r_instN X hM h_o rfl q_354 (by decide +kernel) dX11_isOfKind_43 ?_
    exact R_z X hr hk (Or.inl rfl) hM ⟨(by simp [fKin, *]), rfl⟩ dX11_isOfKind_46
  by_cases w_3 : k = 2
  · skip
    refine lv_tableIn (off := 46) (tgt := 47) hx hb dX11_isOfKind_1 (by rw [w_3]; decide) (by rw [w_3]; decide) (by rw [w_3]; rfl) (by decide) ?_
    refine lv_aload_n hx hb dX11_isOfKind_47 rfl (lv_at hl 0 rfl) ?_
    refine r_instY X hM h_o rfl q_404 (by decide +kernel) dX11_isOfKind_48 ?_
    exact R_z X hr hk (Or.inr rfl) hM ⟨(by simp [fKin, *]), rfl⟩ dX11_isOfKind_51
  by_cases w_4 : k = 3
  · skip
    refine lv_tableIn (off := 51) (tgt := 52) hx hb dX11_isOfKind_1 (by rw [w_4]; decide) (by rw [w_4]; decide) (by rw [w_4]; rfl) (by decide) ?_
    refine lv_aload_n hx hb dX11_isOfKind_52 rfl (lv_at hl 0 rfl) ?_
    refine r_instN X hM h_o rfl q_415 (by decide +kernel) dX11_isOfKind_53 ?_
    exact R_z X hr hk (Or.inl rfl) hM ⟨(by simp [fKin, *]), rfl⟩ dX11_isOfKind_56
  by_cases w_5 : k = 4
  · skip
    refine lv_tableIn (off := 56) (tgt := 57) hx hb dX11_isOfKind_1 (by rw [w_5]; decide) (by rw [w_5]; decide) (by rw [w_5]; rfl) (by decide) ?_
    refine lv_aload_n hx hb dX11_isOfKind_57 rfl (lv_at hl 0 rfl) ?_
    refine r_instN X hM h_o rfl q_426 (by decide +kernel) dX11_isOfKind_58 ?_
    exact R_z X hr hk (Or.inl rfl) hM ⟨(by simp [fKin, *]), rfl⟩ dX11_isOfKind_61
  by_cases w_6 : k = 5
  · skip
    refine lv_tableIn (off := 61) (tgt := 62) hx hb dX11_isOfKind_1 (by rw [w_6]; decide) (by rw [w_6]; decide) (by rw [w_6]; rfl) (by decide) ?_
    refine lv_aload_n hx hb dX11_isOfKind_62 rfl (lv_at hl 0 rfl) ?_
    refine r_instS X hM h_o rfl q_437 dX11_isOfKind_63 ?_
    exact R_z X hr hk (Or.inr rfl) hM ⟨(by simp [fKin, *]), rfl⟩ dX11_isOfKind_66
  refine lv_tableOut (tgt := 67) hx hb dX11_isOfKind_1 (by have z0 := i32ne w_1 (by decide : ((0 : Int32)).toInt = 0); have z1 := i32ne w_2 (by decide : ((1 : Int32)).toInt = 1); have z2 := i32ne w_3 (by decide : ((2 : Int32)).toInt = 2); have z3 := i32ne w_4 (by decide : ((3 : Int32)).toInt = 3); have z4 := i32ne w_5 (by decide : ((4 : Int32)).toInt = 4); have z5 := i32ne w_6 (by decide : ((5 : Int32)).toInt = 5); omega) (by decide) ?_
  refine lv_aload_n hx hb dX11_isOfKind_67 rfl (lv_at hl 0 rfl) ?_
  refine r_instN X hM h_o rfl q_448 (by decide +kernel) dX11_isOfKind_68 ?_
  exact R_z X hr hk (Or.inl rfl) hM ⟨(by simp [fKin, *]), rfl⟩ dX11_isOfKind_71
set_option maxHeartbeats 4000000 in
set_option maxRecDepth 100000 in
theorem c_X11_isOfKind_k6 (l : Launch) (g : Gp) (M : Mem) (o : Nat) (kk nu v k : Int32) (h_o : M o = some (starE6 g kk nu v)) : Met l yX11_isOfKind (wsM yX11_isOfKind cX11_isOfKind 2 (some .boolean)) (rmD 1 0 0) (Pre g M [.ref o, .int k]) (Qi g (fun r M1 => (fKin 6 k) = r ∧ M = M1)) 0 0 (gF g) := M_start (by decide +kernel) (Nat.le_of_ble_eq_true rfl) fun p e s m args below meth c ls X hr hk hnm hM hl => by
  have X : Cx g p m c cX11_isOfKind 2 s args RX11 := X
  have hx := X.1.1
  have hb := X.1.2.1
  have hl : lv_has ls 2 [(0, .ref o), (1, .int k)] := hl
  refine lv_iload_n hx hb dX11_isOfKind_0 rfl (lv_at hl 1 rfl) ?_
  by_cases w_1 : k = 0
  · skip
    refine lv_tableIn (off := 39) (tgt := 40) hx hb dX11_isOfKind_1 (by rw [w_1]; decide) (by rw [w_1]; decide) (by rw [w_1]; rfl) (by decide) ?_
    refine lv_iconst (v := 1) hx hb dX11_isOfKind_40 (by decide) ?_
    exact R_z X hr hk (Or.inr rfl) hM ⟨(by simp [fKin, *]), rfl⟩ dX11_isOfKind_41
  by_cases w_2 : k = 1
  · skip
    refine lv_tableIn (off := 41) (tgt := 42) hx hb dX11_isOfKind_1 (by rw [w_2]; decide) (by rw [w_2]; decide) (by rw [w_2]; rfl) (by decide) ?_
    refine lv_aload_n hx hb dX11_isOfKind_42 rfl (lv_at hl 0 rfl) ?_
    refine r_instN X hM h_o rfl q_354 (by decide +kernel) dX11_isOfKind_43 ?_
    exact R_z X hr hk (Or.inl rfl) hM ⟨(by simp [fKin, *]), rfl⟩ dX11_isOfKind_46
  by_cases w_3 : k = 2
  · skip
    refine lv_tableIn (off := 46) (tgt := 47) hx hb dX11_isOfKind_1 (by rw [w_3]; decide) (by rw [w_3]; decide) (by rw [w_3]; rfl) (by decide) ?_
    refine lv_aload_n hx hb dX11_isOfKind_47 rfl (lv_at hl 0 rfl) ?_
    refine r_instN X hM h_o rfl q_404 (by decide +kernel) dX11_isOfKind_48 ?_
    exact R_z X hr hk (Or.inl rfl) hM ⟨(by simp [fKin, *]), rfl⟩ dX11_isOfKind_51
  by_cases w_4 : k = 3
  · skip
    refine lv_tableIn (off := 51) (tgt := 52) hx hb dX11_isOfKind_1 (by rw [w_4]; decide) (by rw [w_4]; decide) (by rw [w_4]; rfl) (by decide) ?_
    refine lv_aload_n hx hb dX11_isOfKind_52 rfl (lv_at hl 0 rfl) ?_
    refine r_instY X hM h_o rfl q_415 (by decide +kernel) dX11_isOfKind_53 ?_
    exact R_z X hr hk (Or.inr rfl) hM ⟨(by simp [fKin, *]), rfl⟩ dX11_isOfKind_56
  by_cases w_5 : k = 4
  · skip
    refine lv_tableIn (off := 56) (tgt := 57) hx hb dX11_isOfKind_1 (by rw [w_5]; decide) (by rw [w_5]; decide) (by rw [w_5]; rfl) (by decide) ?_
    refine lv_aload_n hx hb dX11_isOfKind_57 rfl (lv_at hl 0 rfl) ?_
    refine r_instN X hM h_o rfl q_426 (by decide +kernel) dX11_isOfKind_58 ?_
    exact R_z X hr hk (Or.inl rfl) hM ⟨(by simp [fKin, *]), rfl⟩ dX11_isOfKind_61
  by_cases w_6 : k = 5
  · skip
    refine lv_tableIn (off := 61) (tgt := 62) hx hb dX11_isOfKind_1 (by rw [w_6]; decide) (by rw [w_6]; decide) (by rw [w_6]; rfl) (by decide) ?_
    refine lv_aload_n hx hb dX11_isOfKind_62 rfl (lv_at hl 0 rfl) ?_
    refine r_instN X hM h_o rfl q_437 (by decide +kernel) dX11_isOfKind_63 ?_
    exact R_z X hr hk (Or.inl rfl) hM ⟨(by simp [fKin, *]), rfl⟩ dX11_isOfKind_66
  refine lv_tableOut (tgt := 67) hx hb dX11_isOfKind_1 (by have z0 := i32ne w_1 (by decide : ((0 : Int32)).toInt = 0); have z1 := i32ne w_2 (by decide : ((1 : Int32)).toInt = 1); have z2 := i32ne w_3 (by decide : ((2 : Int32)).toInt = 2); have z3 := i32ne w_4 (by decide : ((3 : Int32)).toInt = 3); have z4 := i32ne w_5 (by decide : ((4 : Int32)).toInt = 4); have z5 := i32ne w_6 (by decide : ((5 : Int32)).toInt = 5); omega) (by decide) ?_
  refine lv_aload_n hx hb dX11_isOfKind_67 rfl (lv_at hl 0 rfl) ?_
  refine r_instS X hM h_o rfl q_448 dX11_isOfKind_68 ?_
  exact R_z X hr hk (Or.inr rfl) hM ⟨(by simp [fKin, *]), rfl⟩ dX11_isOfKind_71
theorem c_X11_isOfKind (l : Launch) (g : Gp) (M : Mem) (o kd : Nat) (nu v k : Int32) (h_o : M o = some (starC g kd nu v)) (hkd : kd ≤ 6) : Met l yX11_isOfKind (wsM yX11_isOfKind cX11_isOfKind 2 (some .boolean)) (rmD 1 0 0) (Pre g M [.ref o, .int k]) (Qi g (fun r M1 => (fKin kd k) = r ∧ M = M1)) 0 0 (gF g) := by
  rcases (show kd = 0 ∨ kd = 1 ∨ kd = 2 ∨ kd = 3 ∨ kd = 4 ∨ kd = 5 ∨ kd = 6 by omega) with rfl | rfl | rfl | rfl | rfl | rfl | rfl
  · exact c_X11_isOfKind_k0 l g M o (nI 0) nu v k h_o
  · exact c_X11_isOfKind_k1 l g M o (nI 1) nu v k h_o
  · exact c_X11_isOfKind_k2 l g M o (nI 2) nu v k h_o
  · exact c_X11_isOfKind_k3 l g M o (nI 3) nu v k h_o
  · exact c_X11_isOfKind_k4 l g M o (nI 4) nu v k h_o
  · exact c_X11_isOfKind_k5 l g M o (nI 5) nu v k h_o
  · exact c_X11_isOfKind_k6 l g M o (nI 6) nu v k h_o
set_option maxHeartbeats 4000000 in
set_option maxRecDepth 100000 in
theorem c_X11_of (l : Launch) (g : Gp) (M : Mem) (ik : Int32) (en : En) (x w : Int32) (h0 : M (gA g 0) = some (custE g ik)) (h3 : M (gA g 3) = some (roofN g (eNi en) (nI (eL en)) (eSk en) (eHi en))) (h5 : M (gA g 5) = some (aS g 6 (eS en))) (h6 : M (gA g 6) = some (aI g 6 (eRo en))) (h7 : M (gA g 7) = some (aI g 6 (ePh en))) (hE : EnOk g M en) : Met l yX11_of (wsM yX11_of cX11_of 4 (some .int)) (rmD 6 0 0) (Pre g M [.ref (gA g 0), .int x, .int w]) (Qi g (fun r M1 => (opOf en x w) = r ∧ M = M1)) 0 0 (gF g) := M_start (by decide +kernel) (Nat.le_of_ble_eq_true rfl) fun p e s m args below meth c ls X hr hk hnm hM hl => by
  have X : Cx g p m c cX11_of 4 s args RX11 := X
  have hx := X.1.1
  have hb := X.1.2.1
  have hl : lv_has ls 4 [(0, .ref (gA g 0)), (1, .int x), (2, .int w)] := hl
  refine lv_aload_n hx hb dX11_of_0 rfl (lv_at hl 0 rfl) ?_
  refine r_get (T := TX11) (N := 7) (ci := 11) (v := .ref (gA g 3)) X hM iX11 rfl 1 (by decide) q_177 (Or.inl rfl) h0 rfl dX11_of_1 ?_
  refine lv_iload_n hx hb dX11_of_4 rfl (lv_at hl 1 rfl) ?_
  refine K_q (G_V (As := [.int x]) (rest := []) X hM (c_X4_starAt l g _ en (eNi en) (eSk en) (eHi en) x h3 h5 ) lk_X11_98 h3 rfl rfl hl.1 rfl (Nat.le_of_ble_eq_true rfl) (by decide) dX11_of_5 ⟨Nat.le_of_ble_eq_true rfl, Nat.le_of_ble_eq_true rfl⟩) hM (fun r M1 H locs hM hp => ?_)
  obtain ⟨rfl, rfl⟩ := hp
  rcases fStar_cases hE (x) with ⟨e_j_1, h_j_1⟩ | ⟨j_1, h_j_1, x_j_1, e_j_1⟩
  · rw [e_j_1]
    have il_j_1 := fIsL_0 h_j_1
    refine l_nstore_n (lv' := [(3, .null), (0, .ref (gA g 0)), (1, .int x), (2, .int w)]) hx hb dX11_of_8 rfl hl (by decide) rfl (fun ls hl => ?_)
    refine l_nload_n hx hb dX11_of_9 rfl (lv_at hl 0 rfl) ?_
    refine lv_ifnonnullN hx hb dX11_of_10 ?_
    refine lv_iconst (v := -1) hx hb dX11_of_13 (by decide) ?_
    exact R_i X hr hk hM ⟨(by unfold opOf; (first | rw [if_pos il_j_1] | rw [if_neg il_j_1] | skip); all_goals (first | rfl | (simp [*]))), rfl⟩ dX11_of_14
  · rw [e_j_1]
    obtain ⟨s_j_1, m_j_1, hkd⟩ := hE.2.2 j_1 h_j_1
    have il_j_1 := fIsL_1n x_j_1 h_j_1 hE.1
    have jc_j_1 := clampj x_j_1 h_j_1 hE.1
    refine lv_astore_n (lv' := [(3, .ref (eSt en j_1)), (0, .ref (gA g 0)), (1, .int x), (2, .int w)]) hx hb dX11_of_8 rfl hl (by decide) rfl (fun ls hl => ?_)
    refine lv_aload_n hx hb dX11_of_9 rfl (lv_at hl 0 rfl) ?_
    refine lv_ifnonnull (tgt := 15) hx hb dX11_of_10 (by decide) ?_
    refine lv_iload_n hx hb dX11_of_15 rfl (lv_at hl 3 rfl) ?_
    by_cases w_2 : w = 0
    · skip
      refine lv_tableIn (off := 40) (tgt := 56) hx hb dX11_of_16 (by rw [w_2]; decide) (by rw [w_2]; decide) (by rw [w_2]; rfl) (by decide) ?_
      refine lv_aload_n hx hb dX11_of_56 rfl (lv_at hl 0 rfl) ?_
      refine sg_X11_102 X hM m_j_1 (kd := eKd en j_1) hkd dX11_of_57 ?_
      exact R_i X hr hk hM ⟨(by unfold opOf; (try simp only [jc_j_1]); (first | rw [if_pos il_j_1] | rw [if_neg il_j_1] | skip); (first | rw [if_pos w_2] | rw [if_neg w_2] | skip); all_goals (first | rfl | (simp [*]))), rfl⟩ dX11_of_60
    by_cases w_3 : w = 1
    · skip
      refine lv_tableIn (off := 45) (tgt := 61) hx hb dX11_of_16 (by rw [w_3]; decide) (by rw [w_3]; decide) (by rw [w_3]; rfl) (by decide) ?_
      refine lv_aload_n hx hb dX11_of_61 rfl (lv_at hl 0 rfl) ?_
      refine sg_X11_107 X hM m_j_1 (kd := eKd en j_1) hkd dX11_of_62 ?_
      exact R_i X hr hk hM ⟨(by unfold opOf; (try simp only [jc_j_1]); (first | rw [if_pos il_j_1] | rw [if_neg il_j_1] | skip); (first | rw [if_pos w_2] | rw [if_neg w_2] | skip); (first | rw [if_pos w_3] | rw [if_neg w_3] | skip); all_goals (first | rfl | (simp [*]))), rfl⟩ dX11_of_65
    by_cases w_4 : w = 2
    · skip
      refine lv_tableIn (off := 50) (tgt := 66) hx hb dX11_of_16 (by rw [w_4]; decide) (by rw [w_4]; decide) (by rw [w_4]; rfl) (by decide) ?_
      refine lv_aload_n hx hb dX11_of_66 rfl (lv_at hl 1 rfl) ?_
      refine r_get (T := TX11) (N := 7) (ci := 11) (v := .ref (gA g 3)) X hM iX11 rfl 1 (by decide) q_177 (Or.inl rfl) h0 rfl dX11_of_67 ?_
      refine r_get (T := TX4) (N := 14) (ci := 4) (v := .ref (gA g 6)) X hM iX4 rfl 6 (by decide) q_107 (Or.inl rfl) h3 rfl dX11_of_70 ?_
      refine lv_iload_n hx hb dX11_of_73 rfl (lv_at hl 2 rfl) ?_
      refine K_i (G_S (As := [.ref (gA g 6), .int x]) (rest := []) X hM (c_X11_at l g _ (gA g 6) 6 (eRo en) x h6 (by decide)) lk_X11_113 rfl hl.1 rfl (Nat.le_of_ble_eq_true rfl) (by decide) dX11_of_74 ⟨Nat.le_of_ble_eq_true rfl, Nat.le_of_ble_eq_true rfl⟩) hM (fun r M1 H locs hM hp => ?_)
      obtain ⟨rfl, rfl⟩ := hp
      exact R_i X hr hk hM ⟨(by unfold opOf; (try simp only [jc_j_1]); (first | rw [if_pos il_j_1] | rw [if_neg il_j_1] | skip); (first | rw [if_pos w_2] | rw [if_neg w_2] | skip); (first | rw [if_pos w_3] | rw [if_neg w_3] | skip); (first | rw [if_pos w_4] | rw [if_neg w_4] | skip); all_goals (first | rfl | (simp [*]))), rfl⟩ dX11_of_77
    by_cases w_5 : w = 3
    · skip
      refine lv_tableIn (off := 62) (tgt := 78) hx hb dX11_of_16 (by rw [w_5]; decide) (by rw [w_5]; decide) (by rw [w_5]; rfl) (by decide) ?_
      refine lv_aload_n hx hb dX11_of_78 rfl (lv_at hl 1 rfl) ?_
      refine r_get (T := TX11) (N := 7) (ci := 11) (v := .ref (gA g 3)) X hM iX11 rfl 1 (by decide) q_177 (Or.inl rfl) h0 rfl dX11_of_79 ?_
      refine r_get (T := TX4) (N := 14) (ci := 4) (v := .ref (gA g 7)) X hM iX4 rfl 7 (by decide) q_109 (Or.inl rfl) h3 rfl dX11_of_82 ?_
      refine lv_iload_n hx hb dX11_of_85 rfl (lv_at hl 2 rfl) ?_
      refine K_i (G_S (As := [.ref (gA g 7), .int x]) (rest := []) X hM (c_X11_at l g _ (gA g 7) 6 (ePh en) x h7 (by decide)) lk_X11_113 rfl hl.1 rfl (Nat.le_of_ble_eq_true rfl) (by decide) dX11_of_86 ⟨Nat.le_of_ble_eq_true rfl, Nat.le_of_ble_eq_true rfl⟩) hM (fun r M1 H locs hM hp => ?_)
      obtain ⟨rfl, rfl⟩ := hp
      exact R_i X hr hk hM ⟨(by unfold opOf; (try simp only [jc_j_1]); (first | rw [if_pos il_j_1] | rw [if_neg il_j_1] | skip); (first | rw [if_pos w_2] | rw [if_neg w_2] | skip); (first | rw [if_pos w_3] | rw [if_neg w_3] | skip); (first | rw [if_pos w_4] | rw [if_neg w_4] | skip); (first | rw [if_pos w_5] | rw [if_neg w_5] | skip); all_goals (first | rfl | (simp [*]))), rfl⟩ dX11_of_89
    by_cases w_6 : w = 4
    · skip
      refine lv_tableIn (off := 74) (tgt := 90) hx hb dX11_of_16 (by rw [w_6]; decide) (by rw [w_6]; decide) (by rw [w_6]; rfl) (by decide) ?_
      refine lv_aload_n hx hb dX11_of_90 rfl (lv_at hl 1 rfl) ?_
      refine r_get (T := TX11) (N := 7) (ci := 11) (v := .ref (gA g 3)) X hM iX11 rfl 1 (by decide) q_177 (Or.inl rfl) h0 rfl dX11_of_91 ?_
      refine r_get (T := TX4) (N := 14) (ci := 4) (v := .int (eHi en)) X hM iX4 rfl 3 (by decide) q_102 (Or.inl rfl) h3 rfl dX11_of_94 ?_
      refine lv_iload_n hx hb dX11_of_97 rfl (lv_at hl 2 rfl) ?_
      refine K_i (G_S (As := [.int (eHi en), .int x]) (rest := []) X hM (c_X11_bitOf l g _ (eHi en) x  ) lk_X11_123 rfl hl.1 rfl (Nat.le_of_ble_eq_true rfl) (by decide) dX11_of_98 ⟨Nat.le_of_ble_eq_true rfl, Nat.le_of_ble_eq_true rfl⟩) hM (fun r M1 H locs hM hp => ?_)
      obtain ⟨rfl, rfl⟩ := hp
      exact R_i X hr hk hM ⟨(by unfold opOf; (try simp only [jc_j_1]); (first | rw [if_pos il_j_1] | rw [if_neg il_j_1] | skip); (first | rw [if_pos w_2] | rw [if_neg w_2] | skip); (first | rw [if_pos w_3] | rw [if_neg w_3] | skip); (first | rw [if_pos w_4] | rw [if_neg w_4] | skip); (first | rw [if_pos w_5] | rw [if_neg w_5] | skip); (first | rw [if_pos w_6] | rw [if_neg w_6] | skip); all_goals (first | rfl | (simp [*]))), rfl⟩ dX11_of_101
    by_cases w_7 : w = 5
    · skip
      refine lv_tableIn (off := 86) (tgt := 102) hx hb dX11_of_16 (by rw [w_7]; decide) (by rw [w_7]; decide) (by rw [w_7]; rfl) (by decide) ?_
      refine lv_aload_n hx hb dX11_of_102 rfl (lv_at hl 1 rfl) ?_
      refine r_get (T := TX11) (N := 7) (ci := 11) (v := .ref (gA g 3)) X hM iX11 rfl 1 (by decide) q_177 (Or.inl rfl) h0 rfl dX11_of_103 ?_
      refine lv_iload_n hx hb dX11_of_106 rfl (lv_at hl 2 rfl) ?_
      refine lv_aload_n hx hb dX11_of_107 rfl (lv_at hl 1 rfl) ?_
      refine r_get (T := TX11) (N := 7) (ci := 11) (v := .ref (gA g 3)) X hM iX11 rfl 1 (by decide) q_177 (Or.inl rfl) h0 rfl dX11_of_108 ?_
      refine r_get (T := TX4) (N := 14) (ci := 4) (v := .int (eNi en)) X hM iX4 rfl 0 (by decide) q_96 (Or.inl rfl) h3 rfl dX11_of_111 ?_
      refine lv_aload_n hx hb dX11_of_114 rfl (lv_at hl 1 rfl) ?_
      refine r_get (T := TX11) (N := 7) (ci := 11) (v := .ref (gA g 3)) X hM iX11 rfl 1 (by decide) q_177 (Or.inl rfl) h0 rfl dX11_of_115 ?_
      refine r_get (T := TX4) (N := 14) (ci := 4) (v := .int (eHi en)) X hM iX4 rfl 3 (by decide) q_102 (Or.inl rfl) h3 rfl dX11_of_118 ?_
      refine K_i (G_V (As := [.int x, .int (eNi en), .int (eHi en)]) (rest := []) X hM (c_X4_isUp l g _ en (eNi en) (eSk en) (eHi en) x j_1 (eNi en) (eHi en) h3 h5 h6 h7 hE x_j_1 h_j_1) lk_X11_130 h3 rfl rfl hl.1 rfl (Nat.le_of_ble_eq_true rfl) (by decide) dX11_of_121 ⟨Nat.le_of_ble_eq_true rfl, Nat.le_of_ble_eq_true rfl⟩) hM (fun r M1 H locs hM hp => ?_)
      obtain ⟨rfl, rfl⟩ := hp
      refine lv_if_eq (tgt := 131) hx hb dX11_of_124 (by decide) (fun c_8 => ?_) (fun c_8 => ?_)
      · skip
        refine lv_iconst (v := 0) hx hb dX11_of_131 (by decide) ?_
        exact R_i X hr hk hM ⟨(by unfold opOf; (try simp only [jc_j_1]); (first | rw [if_pos il_j_1] | rw [if_neg il_j_1] | skip); (first | rw [if_pos w_2] | rw [if_neg w_2] | skip); (first | rw [if_pos w_3] | rw [if_neg w_3] | skip); (first | rw [if_pos w_4] | rw [if_neg w_4] | skip); (first | rw [if_pos w_5] | rw [if_neg w_5] | skip); (first | rw [if_pos w_6] | rw [if_neg w_6] | skip); (first | rw [if_pos w_7] | rw [if_neg w_7] | skip); (first | rw [if_pos c_8] | rw [if_neg c_8] | skip); all_goals (first | rfl | (simp [*]))), rfl⟩ dX11_of_132
      · skip
        refine lv_iconst (v := 1) hx hb dX11_of_127 (by decide) ?_
        refine lv_goto (tgt := 132) hx hb dX11_of_128 (by decide) ?_
        exact R_i X hr hk hM ⟨(by unfold opOf; (try simp only [jc_j_1]); (first | rw [if_pos il_j_1] | rw [if_neg il_j_1] | skip); (first | rw [if_pos w_2] | rw [if_neg w_2] | skip); (first | rw [if_pos w_3] | rw [if_neg w_3] | skip); (first | rw [if_pos w_4] | rw [if_neg w_4] | skip); (first | rw [if_pos w_5] | rw [if_neg w_5] | skip); (first | rw [if_pos w_6] | rw [if_neg w_6] | skip); (first | rw [if_pos w_7] | rw [if_neg w_7] | skip); (first | rw [if_pos c_8] | rw [if_neg c_8] | skip); all_goals (first | rfl | (simp [*]))), rfl⟩ dX11_of_132
    refine lv_tableOut (tgt := 133) hx hb dX11_of_16 (by have z0 := i32ne w_2 (by decide : ((0 : Int32)).toInt = 0); have z1 := i32ne w_3 (by decide : ((1 : Int32)).toInt = 1); have z2 := i32ne w_4 (by decide : ((2 : Int32)).toInt = 2); have z3 := i32ne w_5 (by decide : ((3 : Int32)).toInt = 3); have z4 := i32ne w_6 (by decide : ((4 : Int32)).toInt = 4); have z5 := i32ne w_7 (by decide : ((5 : Int32)).toInt = 5); omega) (by decide) ?_
    refine lv_iconst (v := -1) hx hb dX11_of_133 (by decide) ?_
    exact R_i X hr hk hM ⟨(by unfold opOf; (try simp only [jc_j_1]); (first | rw [if_pos il_j_1] | rw [if_neg il_j_1] | skip); (first | rw [if_pos w_2] | rw [if_neg w_2] | skip); (first | rw [if_pos w_3] | rw [if_neg w_3] | skip); (first | rw [if_pos w_4] | rw [if_neg w_4] | skip); (first | rw [if_pos w_5] | rw [if_neg w_5] | skip); (first | rw [if_pos w_6] | rw [if_neg w_6] | skip); (first | rw [if_pos w_7] | rw [if_neg w_7] | skip); all_goals (first | rfl | (simp [*]))), rfl⟩ dX11_of_134
set_option maxHeartbeats 4000000 in
set_option maxRecDepth 100000 in
theorem c_X11_base (l : Launch) (g : Gp) (M : Mem) (ik : Int32) (en : En) (x ho n : Int32) (h0 : M (gA g 0) = some (custE g ik)) (h3 : M (gA g 3) = some (roofN g (eNi en) (nI (eL en)) (eSk en) (eHi en))) (h5 : M (gA g 5) = some (aS g 6 (eS en))) (h9 : M (gA g 9) = some (skyE (gA g 10) (gA g 11) (gA g 12) (nI (eZ en)) (eTu en) (eCl en))) (h10 : M (gA g 10) = some (aI g 100 (eF1 en))) (h11 : M (gA g 11) = some (aI g 100 (eF2 en))) (h12 : M (gA g 12) = some (aI g 100 (eF3 en))) (hE : EnOk g M en) : Met l yX11_base (wsM yX11_base cX11_base 5 (some .int)) (rmD 4 0 0) (Pre g M [.ref (gA g 0), .int x, .int ho, .int n]) (Qi g (fun r M1 => (opBase en x ho n) = r ∧ M = M1)) 0 0 (gF g) := M_start (by decide +kernel) (Nat.le_of_ble_eq_true rfl) fun p e s m args below meth c ls X hr hk hnm hM hl => by
  have X : Cx g p m c cX11_base 5 s args RX11 := X
  have hx := X.1.1
  have hb := X.1.2.1
  have hl : lv_has ls 5 [(0, .ref (gA g 0)), (1, .int x), (2, .int ho), (3, .int n)] := hl
  refine lv_aload_n hx hb dX11_base_0 rfl (lv_at hl 0 rfl) ?_
  refine r_get (T := TX11) (N := 7) (ci := 11) (v := .ref (gA g 3)) X hM iX11 rfl 1 (by decide) q_177 (Or.inl rfl) h0 rfl dX11_base_1 ?_
  refine lv_iload_n hx hb dX11_base_4 rfl (lv_at hl 1 rfl) ?_
  refine K_q (G_V (As := [.int x]) (rest := []) X hM (c_X4_starAt l g _ en (eNi en) (eSk en) (eHi en) x h3 h5 ) lk_X11_98 h3 rfl rfl hl.1 rfl (Nat.le_of_ble_eq_true rfl) (by decide) dX11_base_5 ⟨Nat.le_of_ble_eq_true rfl, Nat.le_of_ble_eq_true rfl⟩) hM (fun r M1 H locs hM hp => ?_)
  obtain ⟨rfl, rfl⟩ := hp
  rcases fStar_cases hE (x) with ⟨e_j_1, h_j_1⟩ | ⟨j_1, h_j_1, x_j_1, e_j_1⟩
  · rw [e_j_1]
    have il_j_1 := fIsL_0 h_j_1
    refine l_nstore (lv' := [(4, .null), (0, .ref (gA g 0)), (1, .int x), (2, .int ho), (3, .int n)]) hx hb dX11_base_8 hl (by decide) rfl (fun ls hl => ?_)
    refine l_nload hx hb dX11_base_10 (lv_at hl 0 rfl) ?_
    refine lv_ifnullN (tgt := 34) hx hb dX11_base_12 (by decide) ?_
    refine lv_ldc (v := -9999999) hx hb X.1.2.2.2.1 (X.1.2.2.2.2 _ q_517) dX11_base_34 ?_
    exact R_i X hr hk hM ⟨(by unfold opBase; (first | rw [if_pos il_j_1] | rw [if_neg il_j_1] | skip); all_goals (first | rfl | (simp [*]))), rfl⟩ dX11_base_36
  · rw [e_j_1]
    obtain ⟨s_j_1, m_j_1, hkd⟩ := hE.2.2 j_1 h_j_1
    have il_j_1 := fIsL_1n x_j_1 h_j_1 hE.1
    have jc_j_1 := clampj x_j_1 h_j_1 hE.1
    refine lv_astore (lv' := [(4, .ref (eSt en j_1)), (0, .ref (gA g 0)), (1, .int x), (2, .int ho), (3, .int n)]) hx hb dX11_base_8 hl (by decide) rfl (fun ls hl => ?_)
    refine lv_aload hx hb dX11_base_10 (lv_at hl 0 rfl) ?_
    refine lv_ifnull hx hb dX11_base_12 ?_
    refine lv_iload_n hx hb dX11_base_15 rfl (lv_at hl 3 rfl) ?_
    refine lv_iconst (v := 0) hx hb dX11_base_16 (by decide) ?_
    refine lv_iconst (v := 1) hx hb dX11_base_17 (by decide) ?_
    refine K_i (G_S (As := [.int ho, .int 0, .int 1]) (rest := []) X hM (c_X11_isIn l g _ ho 0 1  ) lk_X11_53 rfl hl.1 rfl (Nat.le_of_ble_eq_true rfl) (by decide) dX11_base_18 ⟨Nat.le_of_ble_eq_true rfl, Nat.le_of_ble_eq_true rfl⟩) hM (fun r M1 H locs hM hp => ?_)
    obtain ⟨rfl, rfl⟩ := hp
    refine lv_if_eq (tgt := 34) hx hb dX11_base_21 (by decide) (fun c_2 => ?_) (fun c_2 => ?_)
    · skip
      refine lv_ldc (v := -9999999) hx hb X.1.2.2.2.1 (X.1.2.2.2.2 _ q_517) dX11_base_34 ?_
      exact R_i X hr hk hM ⟨(by unfold opBase; (try simp only [jc_j_1]); (first | rw [if_pos il_j_1] | rw [if_neg il_j_1] | skip); (first | rw [if_pos c_2] | rw [if_neg c_2] | skip); all_goals (first | rfl | (simp [*]))), rfl⟩ dX11_base_36
    · skip
      refine lv_iload_n hx hb dX11_base_24 rfl (lv_at hl 4 rfl) ?_
      refine lv_iconst (v := 0) hx hb dX11_base_25 (by decide) ?_
      refine lv_bipush (v := 60) hx hb dX11_base_26 (by decide) ?_
      refine K_i (G_S (As := [.int n, .int 0, .int 60]) (rest := []) X hM (c_X11_isIn l g _ n 0 60  ) lk_X11_53 rfl hl.1 rfl (Nat.le_of_ble_eq_true rfl) (by decide) dX11_base_28 ⟨Nat.le_of_ble_eq_true rfl, Nat.le_of_ble_eq_true rfl⟩) hM (fun r M1 H locs hM hp => ?_)
      obtain ⟨rfl, rfl⟩ := hp
      refine lv_if_ne (tgt := 37) hx hb dX11_base_31 (by decide) (fun c_3 => ?_) (fun c_3 => ?_)
      · skip
        refine lv_aload_n hx hb dX11_base_37 rfl (lv_at hl 1 rfl) ?_
        refine r_get (T := TX11) (N := 7) (ci := 11) (v := .ref (gA g 3)) X hM iX11 rfl 1 (by decide) q_177 (Or.inl rfl) h0 rfl dX11_base_38 ?_
        refine r_get (T := TX4) (N := 14) (ci := 4) (v := .ref (gA g 9)) X hM iX4 rfl 9 (by decide) q_113 (Or.inl rfl) h3 rfl dX11_base_41 ?_
        refine lv_aload hx hb dX11_base_44 (lv_at hl 0 rfl) ?_
        refine lv_iload_n hx hb dX11_base_46 rfl (lv_at hl 3 rfl) ?_
        refine lv_aload_n hx hb dX11_base_47 rfl (lv_at hl 1 rfl) ?_
        refine r_get (T := TX11) (N := 7) (ci := 11) (v := .ref (gA g 3)) X hM iX11 rfl 1 (by decide) q_177 (Or.inl rfl) h0 rfl dX11_base_48 ?_
        refine r_get (T := TX4) (N := 14) (ci := 4) (v := .int (eNi en)) X hM iX4 rfl 0 (by decide) q_96 (Or.inl rfl) h3 rfl dX11_base_51 ?_
        refine lv_iload_n hx hb dX11_base_54 rfl (lv_at hl 4 rfl) ?_
        refine lv_iadd hx hb dX11_base_55 ?_
        refine K_i (G_V (As := [.ref (eSt en j_1), .int ho, .int ((eNi en) + n)]) (rest := []) X hM (c_X6_baseOf l g _ (gA g 9) (gA g 10) (gA g 11) (gA g 12) 100 (eF1 en) (eF2 en) (eF3 en) (eZ en) (eTu en) (eCl en) (eSt en j_1) (eKd en j_1) (nI j_1) (eVv en j_1) ho ((eNi en) + n) h9 h10 h11 h12 m_j_1 (by decide) (by have := hE.2.1; omega) hkd) lk_X11_134 h9 rfl rfl hl.1 rfl (Nat.le_of_ble_eq_true rfl) (by decide) dX11_base_56 ⟨Nat.le_of_ble_eq_true rfl, Nat.le_of_ble_eq_true rfl⟩) hM (fun r M1 H locs hM hp => ?_)
        obtain ⟨rfl, rfl⟩ := hp
        exact R_i X hr hk hM ⟨(by unfold opBase; (try simp only [jc_j_1]); (first | rw [if_pos il_j_1] | rw [if_neg il_j_1] | skip); (first | rw [if_pos c_2] | rw [if_neg c_2] | skip); (first | rw [if_pos c_3] | rw [if_neg c_3] | skip); all_goals (first | rfl | (simp [*]))), rfl⟩ dX11_base_59
      · skip
        refine lv_ldc (v := -9999999) hx hb X.1.2.2.2.1 (X.1.2.2.2.2 _ q_517) dX11_base_34 ?_
        exact R_i X hr hk hM ⟨(by unfold opBase; (try simp only [jc_j_1]); (first | rw [if_pos il_j_1] | rw [if_neg il_j_1] | skip); (first | rw [if_pos c_2] | rw [if_neg c_2] | skip); (first | rw [if_pos c_3] | rw [if_neg c_3] | skip); all_goals (first | rfl | (simp [*]))), rfl⟩ dX11_base_36
set_option maxHeartbeats 4000000 in
set_option maxRecDepth 100000 in
theorem c_X11_worth (l : Launch) (g : Gp) (M : Mem) (ik : Int32) (en : En) (x ho n : Int32) (h0 : M (gA g 0) = some (custE g ik)) (h3 : M (gA g 3) = some (roofN g (eNi en) (nI (eL en)) (eSk en) (eHi en))) (h5 : M (gA g 5) = some (aS g 6 (eS en))) (h8 : M (gA g 8) = some (aI g 24 (eRw en))) (h9 : M (gA g 9) = some (skyE (gA g 10) (gA g 11) (gA g 12) (nI (eZ en)) (eTu en) (eCl en))) (h10 : M (gA g 10) = some (aI g 100 (eF1 en))) (h11 : M (gA g 11) = some (aI g 100 (eF2 en))) (h12 : M (gA g 12) = some (aI g 100 (eF3 en))) (hE : EnOk g M en) : Met l yX11_worth (wsM yX11_worth cX11_worth 5 (some .int)) (rmD 5 0 0) (Pre g M [.ref (gA g 0), .int x, .int ho, .int n]) (Qi g (fun r M1 => (opWorth en x ho n) = r ∧ M = M1)) 0 0 (gF g) := M_start (by decide +kernel) (Nat.le_of_ble_eq_true rfl) fun p e s m args below meth c ls X hr hk hnm hM hl => by
  have X : Cx g p m c cX11_worth 5 s args RX11 := X
  have hx := X.1.1
  have hb := X.1.2.1
  have hl : lv_has ls 5 [(0, .ref (gA g 0)), (1, .int x), (2, .int ho), (3, .int n)] := hl
  refine lv_aload_n hx hb dX11_worth_0 rfl (lv_at hl 0 rfl) ?_
  refine r_get (T := TX11) (N := 7) (ci := 11) (v := .ref (gA g 3)) X hM iX11 rfl 1 (by decide) q_177 (Or.inl rfl) h0 rfl dX11_worth_1 ?_
  refine lv_iload_n hx hb dX11_worth_4 rfl (lv_at hl 1 rfl) ?_
  refine K_q (G_V (As := [.int x]) (rest := []) X hM (c_X4_starAt l g _ en (eNi en) (eSk en) (eHi en) x h3 h5 ) lk_X11_98 h3 rfl rfl hl.1 rfl (Nat.le_of_ble_eq_true rfl) (by decide) dX11_worth_5 ⟨Nat.le_of_ble_eq_true rfl, Nat.le_of_ble_eq_true rfl⟩) hM (fun r M1 H locs hM hp => ?_)
  obtain ⟨rfl, rfl⟩ := hp
  rcases fStar_cases hE (x) with ⟨e_j_1, h_j_1⟩ | ⟨j_1, h_j_1, x_j_1, e_j_1⟩
  · rw [e_j_1]
    have il_j_1 := fIsL_0 h_j_1
    refine l_nstore (lv' := [(4, .null), (0, .ref (gA g 0)), (1, .int x), (2, .int ho), (3, .int n)]) hx hb dX11_worth_8 hl (by decide) rfl (fun ls hl => ?_)
    refine l_nload hx hb dX11_worth_10 (lv_at hl 0 rfl) ?_
    refine lv_ifnullN (tgt := 24) hx hb dX11_worth_12 (by decide) ?_
    refine lv_iconst (v := -1) hx hb dX11_worth_24 (by decide) ?_
    exact R_i X hr hk hM ⟨(by unfold opWorth; (first | rw [if_pos il_j_1] | rw [if_neg il_j_1] | skip); all_goals (first | rfl | (simp [*]))), rfl⟩ dX11_worth_25
  · rw [e_j_1]
    obtain ⟨s_j_1, m_j_1, hkd⟩ := hE.2.2 j_1 h_j_1
    have il_j_1 := fIsL_1n x_j_1 h_j_1 hE.1
    have jc_j_1 := clampj x_j_1 h_j_1 hE.1
    refine lv_astore (lv' := [(4, .ref (eSt en j_1)), (0, .ref (gA g 0)), (1, .int x), (2, .int ho), (3, .int n)]) hx hb dX11_worth_8 hl (by decide) rfl (fun ls hl => ?_)
    refine lv_aload hx hb dX11_worth_10 (lv_at hl 0 rfl) ?_
    refine lv_ifnull hx hb dX11_worth_12 ?_
    refine lv_iload_n hx hb dX11_worth_15 rfl (lv_at hl 3 rfl) ?_
    refine lv_iconst (v := 0) hx hb dX11_worth_16 (by decide) ?_
    refine lv_iconst (v := 1) hx hb dX11_worth_17 (by decide) ?_
    refine K_i (G_S (As := [.int ho, .int 0, .int 1]) (rest := []) X hM (c_X11_isIn l g _ ho 0 1  ) lk_X11_53 rfl hl.1 rfl (Nat.le_of_ble_eq_true rfl) (by decide) dX11_worth_18 ⟨Nat.le_of_ble_eq_true rfl, Nat.le_of_ble_eq_true rfl⟩) hM (fun r M1 H locs hM hp => ?_)
    obtain ⟨rfl, rfl⟩ := hp
    refine lv_if_ne (tgt := 26) hx hb dX11_worth_21 (by decide) (fun c_2 => ?_) (fun c_2 => ?_)
    · skip
      refine lv_iload_n hx hb dX11_worth_26 rfl (lv_at hl 4 rfl) ?_
      refine lv_iconst (v := 0) hx hb dX11_worth_27 (by decide) ?_
      refine lv_bipush (v := 60) hx hb dX11_worth_28 (by decide) ?_
      refine K_i (G_S (As := [.int n, .int 0, .int 60]) (rest := []) X hM (c_X11_isIn l g _ n 0 60  ) lk_X11_53 rfl hl.1 rfl (Nat.le_of_ble_eq_true rfl) (by decide) dX11_worth_30 ⟨Nat.le_of_ble_eq_true rfl, Nat.le_of_ble_eq_true rfl⟩) hM (fun r M1 H locs hM hp => ?_)
      obtain ⟨rfl, rfl⟩ := hp
      refine lv_if_eq (tgt := 58) hx hb dX11_worth_33 (by decide) (fun c_3 => ?_) (fun c_3 => ?_)
      · skip
        refine lv_bipush (v := -2) hx hb dX11_worth_58 (by decide) ?_
        exact R_i X hr hk hM ⟨(by unfold opWorth; (try simp only [jc_j_1]); (first | rw [if_pos il_j_1] | rw [if_neg il_j_1] | skip); (first | rw [if_pos c_2] | rw [if_neg c_2] | skip); (first | rw [if_pos c_3] | rw [if_neg c_3] | skip); all_goals (first | rfl | (simp [*]))), rfl⟩ dX11_worth_60
      · skip
        refine lv_aload_n hx hb dX11_worth_36 rfl (lv_at hl 1 rfl) ?_
        refine r_get (T := TX11) (N := 7) (ci := 11) (v := .ref (gA g 3)) X hM iX11 rfl 1 (by decide) q_177 (Or.inl rfl) h0 rfl dX11_worth_37 ?_
        refine lv_aload hx hb dX11_worth_40 (lv_at hl 0 rfl) ?_
        refine lv_iload_n hx hb dX11_worth_42 rfl (lv_at hl 3 rfl) ?_
        refine lv_aload_n hx hb dX11_worth_43 rfl (lv_at hl 1 rfl) ?_
        refine r_get (T := TX11) (N := 7) (ci := 11) (v := .ref (gA g 3)) X hM iX11 rfl 1 (by decide) q_177 (Or.inl rfl) h0 rfl dX11_worth_44 ?_
        refine r_get (T := TX4) (N := 14) (ci := 4) (v := .int (eNi en)) X hM iX4 rfl 0 (by decide) q_96 (Or.inl rfl) h3 rfl dX11_worth_47 ?_
        refine lv_iload_n hx hb dX11_worth_50 rfl (lv_at hl 4 rfl) ?_
        refine lv_iadd hx hb dX11_worth_51 ?_
        refine K_i (G_V (As := [.ref (eSt en j_1), .int ho, .int ((eNi en) + n)]) (rest := []) X hM (c_X4_worthOf l g _ en (eNi en) (nI (eL en)) (eSk en) (eHi en) j_1 ho ((eNi en) + n) h3 h8 h9 h10 h11 h12 hE h_j_1) lk_X11_138 h3 rfl rfl hl.1 rfl (Nat.le_of_ble_eq_true rfl) (by decide) dX11_worth_52 ⟨Nat.le_of_ble_eq_true rfl, Nat.le_of_ble_eq_true rfl⟩) hM (fun r M1 H locs hM hp => ?_)
        obtain ⟨rfl, rfl⟩ := hp
        refine lv_goto (tgt := 60) hx hb dX11_worth_55 (by decide) ?_
        exact R_i X hr hk hM ⟨(by unfold opWorth; (try simp only [jc_j_1]); (first | rw [if_pos il_j_1] | rw [if_neg il_j_1] | skip); (first | rw [if_pos c_2] | rw [if_neg c_2] | skip); (first | rw [if_pos c_3] | rw [if_neg c_3] | skip); all_goals (first | rfl | (simp [*]))), rfl⟩ dX11_worth_60
    · skip
      refine lv_iconst (v := -1) hx hb dX11_worth_24 (by decide) ?_
      exact R_i X hr hk hM ⟨(by unfold opWorth; (try simp only [jc_j_1]); (first | rw [if_pos il_j_1] | rw [if_neg il_j_1] | skip); (first | rw [if_pos c_2] | rw [if_neg c_2] | skip); all_goals (first | rfl | (simp [*]))), rfl⟩ dX11_worth_25
set_option maxHeartbeats 4000000 in
set_option maxRecDepth 100000 in
theorem c_X11_told (l : Launch) (g : Gp) (M : Mem) (ik : Int32) (en : En) (w : Int32) (h0 : M (gA g 0) = some (custE g ik)) (h3 : M (gA g 3) = some (roofN g (eNi en) (nI (eL en)) (eSk en) (eHi en))) (h4 : M (gA g 4) = some (aI g 2 (eSe en))) (h5 : M (gA g 5) = some (aS g 6 (eS en))) (h6 : M (gA g 6) = some (aI g 6 (eRo en))) (h7 : M (gA g 7) = some (aI g 6 (ePh en))) (h8 : M (gA g 8) = some (aI g 24 (eRw en))) (h9 : M (gA g 9) = some (skyE (gA g 10) (gA g 11) (gA g 12) (nI (eZ en)) (eTu en) (eCl en))) (h10 : M (gA g 10) = some (aI g 100 (eF1 en))) (h11 : M (gA g 11) = some (aI g 100 (eF2 en))) (h12 : M (gA g 12) = some (aI g 100 (eF3 en))) (hE : EnOk g M en) : Met l yX11_told (wsM yX11_told cX11_told 2 (some .int)) (rmD 7 0 0) (Pre g M [.ref (gA g 0), .int w]) (Qi g (fun r M1 => (opTold en w) = r ∧ M = M1)) 0 0 (gF g) := M_start (by decide +kernel) (Nat.le_of_ble_eq_true rfl) fun p e s m args below meth c ls X hr hk hnm hM hl => by
  have X : Cx g p m c cX11_told 2 s args RX11 := X
  have hx := X.1.1
  have hb := X.1.2.1
  have hl : lv_has ls 2 [(0, .ref (gA g 0)), (1, .int w)] := hl
  refine lv_iload_n hx hb dX11_told_0 rfl (lv_at hl 1 rfl) ?_
  by_cases w_1 : w = 0
  · skip
    refine lv_tableIn (off := 55) (tgt := 56) hx hb dX11_told_1 (by rw [w_1]; decide) (by rw [w_1]; decide) (by rw [w_1]; rfl) (by decide) ?_
    refine lv_aload_n hx hb dX11_told_56 rfl (lv_at hl 0 rfl) ?_
    refine r_get (T := TX11) (N := 7) (ci := 11) (v := .ref (gA g 3)) X hM iX11 rfl 1 (by decide) q_177 (Or.inl rfl) h0 rfl dX11_told_57 ?_
    refine r_get (T := TX4) (N := 14) (ci := 4) (v := .int (eNi en)) X hM iX4 rfl 0 (by decide) q_96 (Or.inl rfl) h3 rfl dX11_told_60 ?_
    exact R_i X hr hk hM ⟨(by unfold opTold; (first | rw [if_pos w_1] | rw [if_neg w_1] | skip); all_goals (first | rfl | (simp [*]))), rfl⟩ dX11_told_63
  by_cases w_2 : w = 1
  · skip
    refine lv_tableIn (off := 63) (tgt := 64) hx hb dX11_told_1 (by rw [w_2]; decide) (by rw [w_2]; decide) (by rw [w_2]; rfl) (by decide) ?_
    refine lv_aload_n hx hb dX11_told_64 rfl (lv_at hl 0 rfl) ?_
    refine r_get (T := TX11) (N := 7) (ci := 11) (v := .ref (gA g 3)) X hM iX11 rfl 1 (by decide) q_177 (Or.inl rfl) h0 rfl dX11_told_65 ?_
    refine r_get (T := TX4) (N := 14) (ci := 4) (v := .ref (gA g 9)) X hM iX4 rfl 9 (by decide) q_113 (Or.inl rfl) h3 rfl dX11_told_68 ?_
    refine r_get (T := TX6) (N := 6) (ci := 6) (v := .int (eTu en)) X hM iX6 rfl 4 (by decide) q_76 (Or.inl rfl) h9 rfl dX11_told_71 ?_
    exact R_i X hr hk hM ⟨(by unfold opTold; (first | rw [if_pos w_1] | rw [if_neg w_1] | skip); (first | rw [if_pos w_2] | rw [if_neg w_2] | skip); all_goals (first | rfl | (simp [*]))), rfl⟩ dX11_told_74
  by_cases w_3 : w = 2
  · skip
    refine lv_tableIn (off := 74) (tgt := 75) hx hb dX11_told_1 (by rw [w_3]; decide) (by rw [w_3]; decide) (by rw [w_3]; rfl) (by decide) ?_
    refine lv_aload_n hx hb dX11_told_75 rfl (lv_at hl 0 rfl) ?_
    refine r_get (T := TX11) (N := 7) (ci := 11) (v := .ref (gA g 3)) X hM iX11 rfl 1 (by decide) q_177 (Or.inl rfl) h0 rfl dX11_told_76 ?_
    refine r_get (T := TX4) (N := 14) (ci := 4) (v := .ref (gA g 9)) X hM iX4 rfl 9 (by decide) q_113 (Or.inl rfl) h3 rfl dX11_told_79 ?_
    refine r_get (T := TX6) (N := 6) (ci := 6) (v := .int (eCl en)) X hM iX6 rfl 5 (by decide) q_79 (Or.inl rfl) h9 rfl dX11_told_82 ?_
    exact R_i X hr hk hM ⟨(by unfold opTold; (first | rw [if_pos w_1] | rw [if_neg w_1] | skip); (first | rw [if_pos w_2] | rw [if_neg w_2] | skip); (first | rw [if_pos w_3] | rw [if_neg w_3] | skip); all_goals (first | rfl | (simp [*]))), rfl⟩ dX11_told_85
  by_cases w_4 : w = 3
  · skip
    refine lv_tableIn (off := 85) (tgt := 86) hx hb dX11_told_1 (by rw [w_4]; decide) (by rw [w_4]; decide) (by rw [w_4]; rfl) (by decide) ?_
    refine lv_aload_n hx hb dX11_told_86 rfl (lv_at hl 0 rfl) ?_
    refine r_get (T := TX11) (N := 7) (ci := 11) (v := .ref (gA g 3)) X hM iX11 rfl 1 (by decide) q_177 (Or.inl rfl) h0 rfl dX11_told_87 ?_
    refine lv_aload_n hx hb dX11_told_90 rfl (lv_at hl 0 rfl) ?_
    refine r_get (T := TX11) (N := 7) (ci := 11) (v := .ref (gA g 3)) X hM iX11 rfl 1 (by decide) q_177 (Or.inl rfl) h0 rfl dX11_told_91 ?_
    refine r_get (T := TX4) (N := 14) (ci := 4) (v := .int (eNi en)) X hM iX4 rfl 0 (by decide) q_96 (Or.inl rfl) h3 rfl dX11_told_94 ?_
    refine K_i (G_V (As := [.int (eNi en)]) (rest := []) X hM (c_X4_turnOf l g _ en (eNi en) (nI (eL en)) (eSk en) (eHi en) (eNi en) h3 h9 ) lk_X11_158 h3 rfl rfl hl.1 rfl (Nat.le_of_ble_eq_true rfl) (by decide) dX11_told_97 ⟨Nat.le_of_ble_eq_true rfl, Nat.le_of_ble_eq_true rfl⟩) hM (fun r M1 H locs hM hp => ?_)
    obtain ⟨rfl, rfl⟩ := hp
    exact R_i X hr hk hM ⟨(by unfold opTold; (first | rw [if_pos w_1] | rw [if_neg w_1] | skip); (first | rw [if_pos w_2] | rw [if_neg w_2] | skip); (first | rw [if_pos w_3] | rw [if_neg w_3] | skip); (first | rw [if_pos w_4] | rw [if_neg w_4] | skip); all_goals (first | rfl | (simp [*]))), rfl⟩ dX11_told_100
  by_cases w_5 : w = 4
  · skip
    refine lv_tableIn (off := 100) (tgt := 101) hx hb dX11_told_1 (by rw [w_5]; decide) (by rw [w_5]; decide) (by rw [w_5]; rfl) (by decide) ?_
    refine lv_aload_n hx hb dX11_told_101 rfl (lv_at hl 0 rfl) ?_
    refine r_get (T := TX11) (N := 7) (ci := 11) (v := .ref (gA g 3)) X hM iX11 rfl 1 (by decide) q_177 (Or.inl rfl) h0 rfl dX11_told_102 ?_
    refine r_get (T := TX4) (N := 14) (ci := 4) (v := .int (eNi en)) X hM iX4 rfl 0 (by decide) q_96 (Or.inl rfl) h3 rfl dX11_told_105 ?_
    refine lv_aload_n hx hb dX11_told_108 rfl (lv_at hl 0 rfl) ?_
    refine r_get (T := TX11) (N := 7) (ci := 11) (v := .ref (gA g 3)) X hM iX11 rfl 1 (by decide) q_177 (Or.inl rfl) h0 rfl dX11_told_109 ?_
    refine r_get (T := TX4) (N := 14) (ci := 4) (v := .ref (gA g 9)) X hM iX4 rfl 9 (by decide) q_113 (Or.inl rfl) h3 rfl dX11_told_112 ?_
    refine r_get (T := TX6) (N := 6) (ci := 6) (v := .int (eCl en)) X hM iX6 rfl 5 (by decide) q_79 (Or.inl rfl) h9 rfl dX11_told_115 ?_
    refine K_i (G_S (As := [.int (eNi en), .int (eCl en)]) (rest := []) X hM (c_X11_isClouded l g _ (eNi en) (eCl en)  ) lk_X11_161 rfl hl.1 rfl (Nat.le_of_ble_eq_true rfl) (by decide) dX11_told_118 ⟨Nat.le_of_ble_eq_true rfl, Nat.le_of_ble_eq_true rfl⟩) hM (fun r M1 H locs hM hp => ?_)
    obtain ⟨rfl, rfl⟩ := hp
    refine lv_if_eq (tgt := 128) hx hb dX11_told_121 (by decide) (fun c_6 => ?_) (fun c_6 => ?_)
    · skip
      refine lv_iconst (v := 0) hx hb dX11_told_128 (by decide) ?_
      exact R_i X hr hk hM ⟨(by unfold opTold; (first | rw [if_pos w_1] | rw [if_neg w_1] | skip); (first | rw [if_pos w_2] | rw [if_neg w_2] | skip); (first | rw [if_pos w_3] | rw [if_neg w_3] | skip); (first | rw [if_pos w_4] | rw [if_neg w_4] | skip); (first | rw [if_pos w_5] | rw [if_neg w_5] | skip); (first | rw [if_pos c_6] | rw [if_neg c_6] | skip); all_goals (first | rfl | (simp [*]))), rfl⟩ dX11_told_129
    · skip
      refine lv_iconst (v := 1) hx hb dX11_told_124 (by decide) ?_
      refine lv_goto (tgt := 129) hx hb dX11_told_125 (by decide) ?_
      exact R_i X hr hk hM ⟨(by unfold opTold; (first | rw [if_pos w_1] | rw [if_neg w_1] | skip); (first | rw [if_pos w_2] | rw [if_neg w_2] | skip); (first | rw [if_pos w_3] | rw [if_neg w_3] | skip); (first | rw [if_pos w_4] | rw [if_neg w_4] | skip); (first | rw [if_pos w_5] | rw [if_neg w_5] | skip); (first | rw [if_pos c_6] | rw [if_neg c_6] | skip); all_goals (first | rfl | (simp [*]))), rfl⟩ dX11_told_129
  by_cases w_7 : w = 5
  · skip
    refine lv_tableIn (off := 129) (tgt := 130) hx hb dX11_told_1 (by rw [w_7]; decide) (by rw [w_7]; decide) (by rw [w_7]; rfl) (by decide) ?_
    refine lv_aload_n hx hb dX11_told_130 rfl (lv_at hl 0 rfl) ?_
    refine r_get (T := TX11) (N := 7) (ci := 11) (v := .ref (gA g 3)) X hM iX11 rfl 1 (by decide) q_177 (Or.inl rfl) h0 rfl dX11_told_131 ?_
    refine lv_aload_n hx hb dX11_told_134 rfl (lv_at hl 0 rfl) ?_
    refine r_get (T := TX11) (N := 7) (ci := 11) (v := .ref (gA g 3)) X hM iX11 rfl 1 (by decide) q_177 (Or.inl rfl) h0 rfl dX11_told_135 ?_
    refine r_get (T := TX4) (N := 14) (ci := 4) (v := .int (eNi en)) X hM iX4 rfl 0 (by decide) q_96 (Or.inl rfl) h3 rfl dX11_told_138 ?_
    refine K_i (G_V (As := [.int (eNi en)]) (rest := []) X hM (c_X4_upBits l g _ en (eNi en) (eSk en) (eNi en) h3 h5 h6 h7 hE) lk_X11_165 h3 rfl rfl hl.1 rfl (Nat.le_of_ble_eq_true rfl) (by decide) dX11_told_141 ⟨Nat.le_of_ble_eq_true rfl, Nat.le_of_ble_eq_true rfl⟩) hM (fun r M1 H locs hM hp => ?_)
    obtain ⟨rfl, rfl⟩ := hp
    exact R_i X hr hk hM ⟨(by unfold opTold; (first | rw [if_pos w_1] | rw [if_neg w_1] | skip); (first | rw [if_pos w_2] | rw [if_neg w_2] | skip); (first | rw [if_pos w_3] | rw [if_neg w_3] | skip); (first | rw [if_pos w_4] | rw [if_neg w_4] | skip); (first | rw [if_pos w_5] | rw [if_neg w_5] | skip); (first | rw [if_pos w_7] | rw [if_neg w_7] | skip); all_goals (first | rfl | (simp [*]))), rfl⟩ dX11_told_144
  by_cases w_8 : w = 6
  · skip
    refine lv_tableIn (off := 144) (tgt := 145) hx hb dX11_told_1 (by rw [w_8]; decide) (by rw [w_8]; decide) (by rw [w_8]; rfl) (by decide) ?_
    refine lv_aload_n hx hb dX11_told_145 rfl (lv_at hl 0 rfl) ?_
    refine r_get (T := TX11) (N := 7) (ci := 11) (v := .ref (gA g 3)) X hM iX11 rfl 1 (by decide) q_177 (Or.inl rfl) h0 rfl dX11_told_146 ?_
    refine r_get (T := TX4) (N := 14) (ci := 4) (v := .ref (gA g 4)) X hM iX4 rfl 4 (by decide) q_104 (Or.inl rfl) h3 rfl dX11_told_149 ?_
    refine lv_iload_n hx hb dX11_told_152 rfl (lv_at hl 1 rfl) ?_
    refine lv_bipush (v := 6) hx hb dX11_told_153 (by decide) ?_
    refine lv_isub hx hb dX11_told_155 ?_
    refine K_i (G_S (As := [.ref (gA g 4), .int (w - 6)]) (rest := []) X hM (c_X11_at l g _ (gA g 4) 2 (eSe en) (w - 6) h4 (by decide)) lk_X11_113 rfl hl.1 rfl (Nat.le_of_ble_eq_true rfl) (by decide) dX11_told_156 ⟨Nat.le_of_ble_eq_true rfl, Nat.le_of_ble_eq_true rfl⟩) hM (fun r M1 H locs hM hp => ?_)
    obtain ⟨rfl, rfl⟩ := hp
    exact R_i X hr hk hM ⟨(by unfold opTold; (first | rw [if_pos w_1] | rw [if_neg w_1] | skip); (first | rw [if_pos w_2] | rw [if_neg w_2] | skip); (first | rw [if_pos w_3] | rw [if_neg w_3] | skip); (first | rw [if_pos w_4] | rw [if_neg w_4] | skip); (first | rw [if_pos w_5] | rw [if_neg w_5] | skip); (first | rw [if_pos w_7] | rw [if_neg w_7] | skip); (first | rw [if_pos w_8] | rw [if_neg w_8] | skip); all_goals (first | rfl | (simp [*]))), rfl⟩ dX11_told_159
  by_cases w_9 : w = 7
  · skip
    refine lv_tableIn (off := 144) (tgt := 145) hx hb dX11_told_1 (by rw [w_9]; decide) (by rw [w_9]; decide) (by rw [w_9]; rfl) (by decide) ?_
    refine lv_aload_n hx hb dX11_told_145 rfl (lv_at hl 0 rfl) ?_
    refine r_get (T := TX11) (N := 7) (ci := 11) (v := .ref (gA g 3)) X hM iX11 rfl 1 (by decide) q_177 (Or.inl rfl) h0 rfl dX11_told_146 ?_
    refine r_get (T := TX4) (N := 14) (ci := 4) (v := .ref (gA g 4)) X hM iX4 rfl 4 (by decide) q_104 (Or.inl rfl) h3 rfl dX11_told_149 ?_
    refine lv_iload_n hx hb dX11_told_152 rfl (lv_at hl 1 rfl) ?_
    refine lv_bipush (v := 6) hx hb dX11_told_153 (by decide) ?_
    refine lv_isub hx hb dX11_told_155 ?_
    refine K_i (G_S (As := [.ref (gA g 4), .int (w - 6)]) (rest := []) X hM (c_X11_at l g _ (gA g 4) 2 (eSe en) (w - 6) h4 (by decide)) lk_X11_113 rfl hl.1 rfl (Nat.le_of_ble_eq_true rfl) (by decide) dX11_told_156 ⟨Nat.le_of_ble_eq_true rfl, Nat.le_of_ble_eq_true rfl⟩) hM (fun r M1 H locs hM hp => ?_)
    obtain ⟨rfl, rfl⟩ := hp
    exact R_i X hr hk hM ⟨(by unfold opTold; (first | rw [if_pos w_1] | rw [if_neg w_1] | skip); (first | rw [if_pos w_2] | rw [if_neg w_2] | skip); (first | rw [if_pos w_3] | rw [if_neg w_3] | skip); (first | rw [if_pos w_4] | rw [if_neg w_4] | skip); (first | rw [if_pos w_5] | rw [if_neg w_5] | skip); (first | rw [if_pos w_7] | rw [if_neg w_7] | skip); (first | rw [if_pos w_8] | rw [if_neg w_8] | skip); (first | rw [if_pos w_9] | rw [if_neg w_9] | skip); all_goals (first | rfl | (simp [*]))), rfl⟩ dX11_told_159
  by_cases w_10 : w = 8
  · skip
    refine lv_tableIn (off := 159) (tgt := 160) hx hb dX11_told_1 (by rw [w_10]; decide) (by rw [w_10]; decide) (by rw [w_10]; rfl) (by decide) ?_
    refine lv_aload_n hx hb dX11_told_160 rfl (lv_at hl 0 rfl) ?_
    refine r_get (T := TX11) (N := 7) (ci := 11) (v := .ref (gA g 3)) X hM iX11 rfl 1 (by decide) q_177 (Or.inl rfl) h0 rfl dX11_told_161 ?_
    refine lv_iload_n hx hb dX11_told_164 rfl (lv_at hl 1 rfl) ?_
    refine lv_bipush (v := 8) hx hb dX11_told_165 (by decide) ?_
    refine lv_isub hx hb dX11_told_167 ?_
    refine lv_aload_n hx hb dX11_told_168 rfl (lv_at hl 0 rfl) ?_
    refine r_get (T := TX11) (N := 7) (ci := 11) (v := .ref (gA g 3)) X hM iX11 rfl 1 (by decide) q_177 (Or.inl rfl) h0 rfl dX11_told_169 ?_
    refine r_get (T := TX4) (N := 14) (ci := 4) (v := .int (eNi en)) X hM iX4 rfl 0 (by decide) q_96 (Or.inl rfl) h3 rfl dX11_told_172 ?_
    refine lv_aload_n hx hb dX11_told_175 rfl (lv_at hl 0 rfl) ?_
    refine r_get (T := TX11) (N := 7) (ci := 11) (v := .ref (gA g 3)) X hM iX11 rfl 1 (by decide) q_177 (Or.inl rfl) h0 rfl dX11_told_176 ?_
    refine r_get (T := TX4) (N := 14) (ci := 4) (v := .int (eHi en)) X hM iX4 rfl 3 (by decide) q_102 (Or.inl rfl) h3 rfl dX11_told_179 ?_
    refine lv_aload_n hx hb dX11_told_182 rfl (lv_at hl 0 rfl) ?_
    refine r_get (T := TX11) (N := 7) (ci := 11) (v := .ref (gA g 3)) X hM iX11 rfl 1 (by decide) q_177 (Or.inl rfl) h0 rfl dX11_told_183 ?_
    refine r_get (T := TX4) (N := 14) (ci := 4) (v := .ref (gA g 9)) X hM iX4 rfl 9 (by decide) q_113 (Or.inl rfl) h3 rfl dX11_told_186 ?_
    refine r_get (T := TX6) (N := 6) (ci := 6) (v := .int (eCl en)) X hM iX6 rfl 5 (by decide) q_79 (Or.inl rfl) h9 rfl dX11_told_189 ?_
    refine K_i (G_V (As := [.int (w - 8), .int (eNi en), .int (eHi en), .int (eCl en)]) (rest := []) X hM (c_X4_hasFor l g _ en (eNi en) (eSk en) (eHi en) (w - 8) (eNi en) (eHi en) (eCl en) h3 h5 h6 h7 h8 h9 h10 h11 h12 hE) lk_X11_171 h3 rfl rfl hl.1 rfl (Nat.le_of_ble_eq_true rfl) (by decide) dX11_told_192 ⟨Nat.le_of_ble_eq_true rfl, Nat.le_of_ble_eq_true rfl⟩) hM (fun r M1 H locs hM hp => ?_)
    obtain ⟨rfl, rfl⟩ := hp
    exact R_i X hr hk hM ⟨(by unfold opTold; (first | rw [if_pos w_1] | rw [if_neg w_1] | skip); (first | rw [if_pos w_2] | rw [if_neg w_2] | skip); (first | rw [if_pos w_3] | rw [if_neg w_3] | skip); (first | rw [if_pos w_4] | rw [if_neg w_4] | skip); (first | rw [if_pos w_5] | rw [if_neg w_5] | skip); (first | rw [if_pos w_7] | rw [if_neg w_7] | skip); (first | rw [if_pos w_8] | rw [if_neg w_8] | skip); (first | rw [if_pos w_9] | rw [if_neg w_9] | skip); (first | rw [if_pos w_10] | rw [if_neg w_10] | skip); all_goals (first | rfl | (simp [*]))), rfl⟩ dX11_told_195
  by_cases w_11 : w = 9
  · skip
    refine lv_tableIn (off := 159) (tgt := 160) hx hb dX11_told_1 (by rw [w_11]; decide) (by rw [w_11]; decide) (by rw [w_11]; rfl) (by decide) ?_
    refine lv_aload_n hx hb dX11_told_160 rfl (lv_at hl 0 rfl) ?_
    refine r_get (T := TX11) (N := 7) (ci := 11) (v := .ref (gA g 3)) X hM iX11 rfl 1 (by decide) q_177 (Or.inl rfl) h0 rfl dX11_told_161 ?_
    refine lv_iload_n hx hb dX11_told_164 rfl (lv_at hl 1 rfl) ?_
    refine lv_bipush (v := 8) hx hb dX11_told_165 (by decide) ?_
    refine lv_isub hx hb dX11_told_167 ?_
    refine lv_aload_n hx hb dX11_told_168 rfl (lv_at hl 0 rfl) ?_
    refine r_get (T := TX11) (N := 7) (ci := 11) (v := .ref (gA g 3)) X hM iX11 rfl 1 (by decide) q_177 (Or.inl rfl) h0 rfl dX11_told_169 ?_
    refine r_get (T := TX4) (N := 14) (ci := 4) (v := .int (eNi en)) X hM iX4 rfl 0 (by decide) q_96 (Or.inl rfl) h3 rfl dX11_told_172 ?_
    refine lv_aload_n hx hb dX11_told_175 rfl (lv_at hl 0 rfl) ?_
    refine r_get (T := TX11) (N := 7) (ci := 11) (v := .ref (gA g 3)) X hM iX11 rfl 1 (by decide) q_177 (Or.inl rfl) h0 rfl dX11_told_176 ?_
    refine r_get (T := TX4) (N := 14) (ci := 4) (v := .int (eHi en)) X hM iX4 rfl 3 (by decide) q_102 (Or.inl rfl) h3 rfl dX11_told_179 ?_
    refine lv_aload_n hx hb dX11_told_182 rfl (lv_at hl 0 rfl) ?_
    refine r_get (T := TX11) (N := 7) (ci := 11) (v := .ref (gA g 3)) X hM iX11 rfl 1 (by decide) q_177 (Or.inl rfl) h0 rfl dX11_told_183 ?_
    refine r_get (T := TX4) (N := 14) (ci := 4) (v := .ref (gA g 9)) X hM iX4 rfl 9 (by decide) q_113 (Or.inl rfl) h3 rfl dX11_told_186 ?_
    refine r_get (T := TX6) (N := 6) (ci := 6) (v := .int (eCl en)) X hM iX6 rfl 5 (by decide) q_79 (Or.inl rfl) h9 rfl dX11_told_189 ?_
    refine K_i (G_V (As := [.int (w - 8), .int (eNi en), .int (eHi en), .int (eCl en)]) (rest := []) X hM (c_X4_hasFor l g _ en (eNi en) (eSk en) (eHi en) (w - 8) (eNi en) (eHi en) (eCl en) h3 h5 h6 h7 h8 h9 h10 h11 h12 hE) lk_X11_171 h3 rfl rfl hl.1 rfl (Nat.le_of_ble_eq_true rfl) (by decide) dX11_told_192 ⟨Nat.le_of_ble_eq_true rfl, Nat.le_of_ble_eq_true rfl⟩) hM (fun r M1 H locs hM hp => ?_)
    obtain ⟨rfl, rfl⟩ := hp
    exact R_i X hr hk hM ⟨(by unfold opTold; (first | rw [if_pos w_1] | rw [if_neg w_1] | skip); (first | rw [if_pos w_2] | rw [if_neg w_2] | skip); (first | rw [if_pos w_3] | rw [if_neg w_3] | skip); (first | rw [if_pos w_4] | rw [if_neg w_4] | skip); (first | rw [if_pos w_5] | rw [if_neg w_5] | skip); (first | rw [if_pos w_7] | rw [if_neg w_7] | skip); (first | rw [if_pos w_8] | rw [if_neg w_8] | skip); (first | rw [if_pos w_9] | rw [if_neg w_9] | skip); (first | rw [if_pos w_10] | rw [if_neg w_10] | skip); (first | rw [if_pos w_11] | rw [if_neg w_11] | skip); all_goals (first | rfl | (simp [*]))), rfl⟩ dX11_told_195
  refine lv_tableOut (tgt := 196) hx hb dX11_told_1 (by have z0 := i32ne w_1 (by decide : ((0 : Int32)).toInt = 0); have z1 := i32ne w_2 (by decide : ((1 : Int32)).toInt = 1); have z2 := i32ne w_3 (by decide : ((2 : Int32)).toInt = 2); have z3 := i32ne w_4 (by decide : ((3 : Int32)).toInt = 3); have z4 := i32ne w_5 (by decide : ((4 : Int32)).toInt = 4); have z5 := i32ne w_7 (by decide : ((5 : Int32)).toInt = 5); have z6 := i32ne w_8 (by decide : ((6 : Int32)).toInt = 6); have z7 := i32ne w_9 (by decide : ((7 : Int32)).toInt = 7); have z8 := i32ne w_10 (by decide : ((8 : Int32)).toInt = 8); have z9 := i32ne w_11 (by decide : ((9 : Int32)).toInt = 9); omega) (by decide) ?_
  refine lv_iconst (v := -1) hx hb dX11_told_196 (by decide) ?_
  exact R_i X hr hk hM ⟨(by unfold opTold; (first | rw [if_pos w_1] | rw [if_neg w_1] | skip); (first | rw [if_pos w_2] | rw [if_neg w_2] | skip); (first | rw [if_pos w_3] | rw [if_neg w_3] | skip); (first | rw [if_pos w_4] | rw [if_neg w_4] | skip); (first | rw [if_pos w_5] | rw [if_neg w_5] | skip); (first | rw [if_pos w_7] | rw [if_neg w_7] | skip); (first | rw [if_pos w_8] | rw [if_neg w_8] | skip); (first | rw [if_pos w_9] | rw [if_neg w_9] | skip); (first | rw [if_pos w_10] | rw [if_neg w_10] | skip); (first | rw [if_pos w_11] | rw [if_neg w_11] | skip); all_goals (first | rfl | (simp [*]))), rfl⟩ dX11_told_197
set_option maxHeartbeats 4000000 in
set_option maxRecDepth 100000 in
theorem c_X11_on (l : Launch) (g : Gp) (M : Mem) (ik : Int32) (en : En) (n w : Int32) (h0 : M (gA g 0) = some (custE g ik)) (h3 : M (gA g 3) = some (roofN g (eNi en) (nI (eL en)) (eSk en) (eHi en))) (h4 : M (gA g 4) = some (aI g 2 (eSe en))) (h5 : M (gA g 5) = some (aS g 6 (eS en))) (h6 : M (gA g 6) = some (aI g 6 (eRo en))) (h7 : M (gA g 7) = some (aI g 6 (ePh en))) (h8 : M (gA g 8) = some (aI g 24 (eRw en))) (h9 : M (gA g 9) = some (skyE (gA g 10) (gA g 11) (gA g 12) (nI (eZ en)) (eTu en) (eCl en))) (h10 : M (gA g 10) = some (aI g 100 (eF1 en))) (h11 : M (gA g 11) = some (aI g 100 (eF2 en))) (h12 : M (gA g 12) = some (aI g 100 (eF3 en))) (hE : EnOk g M en) : Met l yX11_on (wsM yX11_on cX11_on 5 (some .int)) (rmD 7 0 0) (Pre g M [.ref (gA g 0), .int n, .int w]) (Qi g (fun r M1 => (opOn en n w) = r ∧ M = M1)) 0 0 (gF g) := M_start (by decide +kernel) (Nat.le_of_ble_eq_true rfl) fun p e s m args below meth c ls X hr hk hnm hM hl => by
  have X : Cx g p m c cX11_on 5 s args RX11 := X
  have hx := X.1.1
  have hb := X.1.2.1
  have hl : lv_has ls 5 [(0, .ref (gA g 0)), (1, .int n), (2, .int w)] := hl
  refine lv_iload_n hx hb dX11_on_0 rfl (lv_at hl 2 rfl) ?_
  refine lv_iconst (v := 0) hx hb dX11_on_1 (by decide) ?_
  refine lv_iconst (v := 2) hx hb dX11_on_2 (by decide) ?_
  refine K_i (G_S (As := [.int w, .int 0, .int 2]) (rest := []) X hM (c_X11_isIn l g _ w 0 2  ) lk_X11_53 rfl hl.1 rfl (Nat.le_of_ble_eq_true rfl) (by decide) dX11_on_3 ⟨Nat.le_of_ble_eq_true rfl, Nat.le_of_ble_eq_true rfl⟩) hM (fun r M1 H locs hM hp => ?_)
  obtain ⟨rfl, rfl⟩ := hp
  refine lv_if_ne (tgt := 11) hx hb dX11_on_6 (by decide) (fun c_1 => ?_) (fun c_1 => ?_)
  · skip
    refine lv_iload_n hx hb dX11_on_11 rfl (lv_at hl 1 rfl) ?_
    refine lv_iconst (v := 0) hx hb dX11_on_12 (by decide) ?_
    refine lv_bipush (v := 60) hx hb dX11_on_13 (by decide) ?_
    refine K_i (G_S (As := [.int n, .int 0, .int 60]) (rest := []) X hM (c_X11_isIn l g _ n 0 60  ) lk_X11_53 rfl hl.1 rfl (Nat.le_of_ble_eq_true rfl) (by decide) dX11_on_15 ⟨Nat.le_of_ble_eq_true rfl, Nat.le_of_ble_eq_true rfl⟩) hM (fun r M1 H locs hM hp => ?_)
    obtain ⟨rfl, rfl⟩ := hp
    refine lv_if_ne (tgt := 24) hx hb dX11_on_18 (by decide) (fun c_2 => ?_) (fun c_2 => ?_)
    · skip
      obtain ⟨k, bk, ek⟩ := fIn_k (K := 60) (by decide) c_2
      have ck : n.toNatClampNeg = k := by rw [ek]; exact nI_clamp (by omega)
      refine lv_iload_n hx hb dX11_on_24 rfl (lv_at hl 2 rfl) ?_
      refine lv_iconst (v := 2) hx hb dX11_on_25 (by decide) ?_
      refine lv_icmp_ne (tgt := 49) hx hb dX11_on_26 (by decide) (fun c_3 => ?_) (fun c_3 => ?_)
      · skip
        refine lv_aload_n hx hb dX11_on_49 rfl (lv_at hl 0 rfl) ?_
        refine r_get (T := TX11) (N := 7) (ci := 11) (v := .ref (gA g 3)) X hM iX11 rfl 1 (by decide) q_177 (Or.inl rfl) h0 rfl dX11_on_50 ?_
        refine r_get (T := TX4) (N := 14) (ci := 4) (v := .ref (gA g 4)) X hM iX4 rfl 4 (by decide) q_104 (Or.inl rfl) h3 rfl dX11_on_53 ?_
        refine lv_iload_n hx hb dX11_on_56 rfl (lv_at hl 2 rfl) ?_
        refine K_i (G_S (As := [.ref (gA g 4), .int w]) (rest := []) X hM (c_X11_at l g _ (gA g 4) 2 (eSe en) w h4 (by decide)) lk_X11_113 rfl hl.1 rfl (Nat.le_of_ble_eq_true rfl) (by decide) dX11_on_57 ⟨Nat.le_of_ble_eq_true rfl, Nat.le_of_ble_eq_true rfl⟩) hM (fun r M1 H locs hM hp => ?_)
        obtain ⟨rfl, rfl⟩ := hp
        refine lv_istore_n (lv' := [(3, .int (fAt 2 (eSe en) w)), (0, .ref (gA g 0)), (1, .int n), (2, .int w)]) hx hb dX11_on_60 rfl hl (by decide) rfl (fun ls hl => ?_)
        refine lv_iconst (v := 0) hx hb dX11_on_61 (by decide) ?_
        refine lv_istore (lv' := [(4, .int 0), (3, .int (fAt 2 (eSe en) w)), (0, .ref (gA g 0)), (1, .int n), (2, .int w)]) hx hb dX11_on_62 hl (by decide) rfl (fun ls hl => ?_)
        have L64 : ∀ (fu : Nat) (i : Nat) (x3 : Int32) (hi : i ≤ k) (k3 : x3 = onN en w i) (H : Heap) (locs : List Loc) (hM : MW g (M) H locs) (ls : Array Slot) (hl : lv_has ls 5 [(0, .ref (gA g 0)), (1, .int n), (2, .int w), (3, .int x3), (4, .int (nI i))]), k - i < fu → W p l e (rmD 7 0 0) s m args below meth c H locs 0 0 (MQ below (Qi g (fun r M1 => (opOn en n w) = r ∧ M = M1)) args s 0 0 (gF g)) (F0 m 64 ls []) := by
          intro fu
          induction fu with
          | zero => intro i x3 hi k3 H locs hM ls hl hmu; exact absurd hmu (Nat.not_lt_zero _)
          | succ fu ih =>
            intro i x3 hi k3 H locs hM ls hl hmu
            refine lv_iload hx hb dX11_on_64 (lv_at hl 4 rfl) ?_
            refine lv_iload_n hx hb dX11_on_66 rfl (lv_at hl 1 rfl) ?_
            refine lv_icmp_ge (tgt := 135) hx hb dX11_on_67 (by decide) (fun c_4 => ?_) (fun c_4 => ?_)
            · skip
              rw [ek] at c_4
              have hz1 : k ≤ i := (nI_leI (by omega) (by omega)).mp c_4
              have hz2 : i = k := by omega
              rw [hz2] at k3
              refine lv_iload_n hx hb dX11_on_135 rfl (lv_at hl 3 rfl) ?_
              exact R_i X hr hk hM ⟨(by unfold opOn; rw [if_neg c_1, if_neg c_2, if_neg c_3, ck, k3]), rfl⟩ dX11_on_136
            · skip
              rw [ek] at c_4
              have hz1 : i < k := by
                rcases Nat.lt_or_ge i (k) with q | q
                · exact q
                · exact absurd ((nI_leI (by omega) (by omega)).mpr q) c_4
              refine lv_aload_n hx hb dX11_on_70 rfl (lv_at hl 0 rfl) ?_
              refine r_get (T := TX11) (N := 7) (ci := 11) (v := .ref (gA g 3)) X hM iX11 rfl 1 (by decide) q_177 (Or.inl rfl) h0 rfl dX11_on_71 ?_
              refine lv_aload_n hx hb dX11_on_74 rfl (lv_at hl 0 rfl) ?_
              refine r_get (T := TX11) (N := 7) (ci := 11) (v := .ref (gA g 3)) X hM iX11 rfl 1 (by decide) q_177 (Or.inl rfl) h0 rfl dX11_on_75 ?_
              refine r_get (T := TX4) (N := 14) (ci := 4) (v := .int (eNi en)) X hM iX4 rfl 0 (by decide) q_96 (Or.inl rfl) h3 rfl dX11_on_78 ?_
              refine lv_iload hx hb dX11_on_81 (lv_at hl 4 rfl) ?_
              refine lv_iadd hx hb dX11_on_83 ?_
              refine K_i (G_V (As := [.int ((eNi en) + (nI i))]) (rest := []) X hM (c_X4_turnOf l g _ en (eNi en) (nI (eL en)) (eSk en) (eHi en) ((eNi en) + (nI i)) h3 h9 ) lk_X11_158 h3 rfl rfl hl.1 rfl (Nat.le_of_ble_eq_true rfl) (by decide) dX11_on_84 ⟨Nat.le_of_ble_eq_true rfl, Nat.le_of_ble_eq_true rfl⟩) hM (fun r M1 H locs hM hp => ?_)
              obtain ⟨rfl, rfl⟩ := hp
              refine lv_iload_n hx hb dX11_on_87 rfl (lv_at hl 2 rfl) ?_
              refine lv_icmp_ne (tgt := 129) hx hb dX11_on_88 (by decide) (fun c_5 => ?_) (fun c_5 => ?_)
              · skip
                refine lv_iinc (v := (nI i) + 1) (lv' := [(4, .int ((nI i) + 1)), (0, .ref (gA g 0)), (1, .int n), (2, .int w), (3, .int x3)]) hx hb dX11_on_129 hl (k := 4) rfl rfl (by decide) rfl (fun ls hl => ?_)
                refine lv_goto (tgt := 64) hx hb dX11_on_132 (by decide) ?_
                exact ih (i + 1) x3 (by omega) (by rw [k3, onN]; simp [*]) _ _ hM _ ((by rw [← nI_1]; exact lv_sub hl [1, 2, 3, 4, 0] rfl)) (by omega)
              · skip
                refine lv_iload_n hx hb dX11_on_91 rfl (lv_at hl 3 rfl) ?_
                refine lv_aload_n hx hb dX11_on_92 rfl (lv_at hl 0 rfl) ?_
                refine r_get (T := TX11) (N := 7) (ci := 11) (v := .ref (gA g 3)) X hM iX11 rfl 1 (by decide) q_177 (Or.inl rfl) h0 rfl dX11_on_93 ?_
                refine lv_iload_n hx hb dX11_on_96 rfl (lv_at hl 2 rfl) ?_
                refine lv_aload_n hx hb dX11_on_97 rfl (lv_at hl 0 rfl) ?_
                refine r_get (T := TX11) (N := 7) (ci := 11) (v := .ref (gA g 3)) X hM iX11 rfl 1 (by decide) q_177 (Or.inl rfl) h0 rfl dX11_on_98 ?_
                refine r_get (T := TX4) (N := 14) (ci := 4) (v := .int (eNi en)) X hM iX4 rfl 0 (by decide) q_96 (Or.inl rfl) h3 rfl dX11_on_101 ?_
                refine lv_iload hx hb dX11_on_104 (lv_at hl 4 rfl) ?_
                refine lv_iadd hx hb dX11_on_106 ?_
                refine lv_aload_n hx hb dX11_on_107 rfl (lv_at hl 0 rfl) ?_
                refine r_get (T := TX11) (N := 7) (ci := 11) (v := .ref (gA g 3)) X hM iX11 rfl 1 (by decide) q_177 (Or.inl rfl) h0 rfl dX11_on_108 ?_
                refine r_get (T := TX4) (N := 14) (ci := 4) (v := .int (eHi en)) X hM iX4 rfl 3 (by decide) q_102 (Or.inl rfl) h3 rfl dX11_on_111 ?_
                refine lv_aload_n hx hb dX11_on_114 rfl (lv_at hl 0 rfl) ?_
                refine r_get (T := TX11) (N := 7) (ci := 11) (v := .ref (gA g 3)) X hM iX11 rfl 1 (by decide) q_177 (Or.inl rfl) h0 rfl dX11_on_115 ?_
                refine r_get (T := TX4) (N := 14) (ci := 4) (v := .ref (gA g 9)) X hM iX4 rfl 9 (by decide) q_113 (Or.inl rfl) h3 rfl dX11_on_118 ?_
                refine r_get (T := TX6) (N := 6) (ci := 6) (v := .int (eCl en)) X hM iX6 rfl 5 (by decide) q_79 (Or.inl rfl) h9 rfl dX11_on_121 ?_
                refine K_i (G_V (As := [.int w, .int ((eNi en) + (nI i)), .int (eHi en), .int (eCl en)]) (rest := [.int x3]) X hM (c_X4_hasFor l g _ en (eNi en) (eSk en) (eHi en) w ((eNi en) + (nI i)) (eHi en) (eCl en) h3 h5 h6 h7 h8 h9 h10 h11 h12 hE) lk_X11_171 h3 rfl rfl hl.1 rfl (Nat.le_of_ble_eq_true rfl) (by decide) dX11_on_124 ⟨Nat.le_of_ble_eq_true rfl, Nat.le_of_ble_eq_true rfl⟩) hM (fun r M1 H locs hM hp => ?_)
                obtain ⟨rfl, rfl⟩ := hp
                refine lv_iadd hx hb dX11_on_127 ?_
                refine lv_istore_n (lv' := [(3, .int (x3 + (fHas en w ((eNi en) + (nI i)) (eHi en) (eCl en)))), (0, .ref (gA g 0)), (1, .int n), (2, .int w), (4, .int (nI i))]) hx hb dX11_on_128 rfl hl (by decide) rfl (fun ls hl => ?_)
                refine lv_iinc (v := (nI i) + 1) (lv' := [(4, .int ((nI i) + 1)), (3, .int (x3 + (fHas en w ((eNi en) + (nI i)) (eHi en) (eCl en)))), (0, .ref (gA g 0)), (1, .int n), (2, .int w)]) hx hb dX11_on_129 hl (k := 4) rfl rfl (by decide) rfl (fun ls hl => ?_)
                refine lv_goto (tgt := 64) hx hb dX11_on_132 (by decide) ?_
                exact ih (i + 1) (x3 + (fHas en w ((eNi en) + (nI i)) (eHi en) (eCl en))) (by omega) (by rw [k3, onN]; simp [*]) _ _ hM _ ((by rw [← nI_1]; exact lv_sub hl [2, 3, 4, 1, 0] rfl)) (by omega)
        exact L64 (k + 1) 0 (fAt 2 (eSe en) w) (Nat.zero_le _) rfl _ _ hM _ (lv_sub hl [2, 3, 4, 1, 0] rfl) (by first | exact Nat.lt_succ_self _ | omega)
      · skip
        refine lv_aload_n hx hb dX11_on_29 rfl (lv_at hl 0 rfl) ?_
        refine r_get (T := TX11) (N := 7) (ci := 11) (v := .ref (gA g 3)) X hM iX11 rfl 1 (by decide) q_177 (Or.inl rfl) h0 rfl dX11_on_30 ?_
        refine lv_aload_n hx hb dX11_on_33 rfl (lv_at hl 0 rfl) ?_
        refine r_get (T := TX11) (N := 7) (ci := 11) (v := .ref (gA g 3)) X hM iX11 rfl 1 (by decide) q_177 (Or.inl rfl) h0 rfl dX11_on_34 ?_
        refine r_get (T := TX4) (N := 14) (ci := 4) (v := .int (eNi en)) X hM iX4 rfl 0 (by decide) q_96 (Or.inl rfl) h3 rfl dX11_on_37 ?_
        refine lv_iload_n hx hb dX11_on_40 rfl (lv_at hl 1 rfl) ?_
        refine lv_iadd hx hb dX11_on_41 ?_
        refine K_i (G_V (As := [.int ((eNi en) + n)]) (rest := []) X hM (c_X4_upBits l g _ en (eNi en) (eSk en) ((eNi en) + n) h3 h5 h6 h7 hE) lk_X11_165 h3 rfl rfl hl.1 rfl (Nat.le_of_ble_eq_true rfl) (by decide) dX11_on_42 ⟨Nat.le_of_ble_eq_true rfl, Nat.le_of_ble_eq_true rfl⟩) hM (fun r M1 H locs hM hp => ?_)
        obtain ⟨rfl, rfl⟩ := hp
        refine K_i (G_T (As := [.int (upN en ((eNi en) + n) (eL en))]) (rest := []) X hM (c_J6_bitCount_0f7a4 l g _ (upN en ((eNi en) + n) (eL en))  ) lk_X11_185 rfl hl.1 rfl (Nat.le_of_ble_eq_true rfl) (by decide) dX11_on_45 ⟨Nat.le_of_ble_eq_true rfl, Nat.le_of_ble_eq_true rfl⟩) hM (fun r M1 H locs hM hp => ?_)
        obtain ⟨rfl, rfl⟩ := hp
        exact R_i X hr hk hM ⟨(by unfold opOn; (first | rw [if_pos c_1] | rw [if_neg c_1] | skip); (first | rw [if_pos c_2] | rw [if_neg c_2] | skip); (first | rw [if_pos c_3] | rw [if_neg c_3] | skip); all_goals (first | rfl | (simp [*]))), rfl⟩ dX11_on_48
    · skip
      refine lv_bipush (v := -2) hx hb dX11_on_21 (by decide) ?_
      exact R_i X hr hk hM ⟨(by unfold opOn; (first | rw [if_pos c_1] | rw [if_neg c_1] | skip); (first | rw [if_pos c_2] | rw [if_neg c_2] | skip); all_goals (first | rfl | (simp [*]))), rfl⟩ dX11_on_23
  · skip
    refine lv_iconst (v := -1) hx hb dX11_on_9 (by decide) ?_
    exact R_i X hr hk hM ⟨(by unfold opOn; (first | rw [if_pos c_1] | rw [if_neg c_1] | skip); all_goals (first | rfl | (simp [*]))), rfl⟩ dX11_on_10
set_option maxHeartbeats 4000000 in
set_option maxRecDepth 100000 in
theorem c_X11_when (l : Launch) (g : Gp) (M : Mem) (ik : Int32) (en : En) (x : Int32) (h0 : M (gA g 0) = some (custE g ik)) (h3 : M (gA g 3) = some (roofN g (eNi en) (nI (eL en)) (eSk en) (eHi en))) (h5 : M (gA g 5) = some (aS g 6 (eS en))) (h6 : M (gA g 6) = some (aI g 6 (eRo en))) (h7 : M (gA g 7) = some (aI g 6 (ePh en))) (hE : EnOk g M en) : Met l yX11_when (wsM yX11_when cX11_when 2 (some .int)) (rmD 7 0 0) (Pre g M [.ref (gA g 0), .int x]) (Qi g (fun r M1 => (opWhen en x) = r ∧ M = M1)) 0 0 (gF g) := M_start (by decide +kernel) (Nat.le_of_ble_eq_true rfl) fun p e s m args below meth c ls X hr hk hnm hM hl => by
  have X : Cx g p m c cX11_when 2 s args RX11 := X
  have hx := X.1.1
  have hb := X.1.2.1
  have hl : lv_has ls 2 [(0, .ref (gA g 0)), (1, .int x)] := hl
  refine lv_aload_n hx hb dX11_when_0 rfl (lv_at hl 0 rfl) ?_
  refine r_get (T := TX11) (N := 7) (ci := 11) (v := .ref (gA g 3)) X hM iX11 rfl 1 (by decide) q_177 (Or.inl rfl) h0 rfl dX11_when_1 ?_
  refine lv_iload_n hx hb dX11_when_4 rfl (lv_at hl 1 rfl) ?_
  refine K_q (G_V (As := [.int x]) (rest := []) X hM (c_X4_starAt l g _ en (eNi en) (eSk en) (eHi en) x h3 h5 ) lk_X11_98 h3 rfl rfl hl.1 rfl (Nat.le_of_ble_eq_true rfl) (by decide) dX11_when_5 ⟨Nat.le_of_ble_eq_true rfl, Nat.le_of_ble_eq_true rfl⟩) hM (fun r M1 H locs hM hp => ?_)
  obtain ⟨rfl, rfl⟩ := hp
  rcases fStar_cases hE (x) with ⟨e_j_1, h_j_1⟩ | ⟨j_1, h_j_1, x_j_1, e_j_1⟩
  · rw [e_j_1]
    have il_j_1 := fIsL_0 h_j_1
    refine lv_ifnonnullN hx hb dX11_when_8 ?_
    refine lv_iconst (v := -1) hx hb dX11_when_11 (by decide) ?_
    refine lv_goto (tgt := 21) hx hb dX11_when_12 (by decide) ?_
    exact R_i X hr hk hM ⟨(by unfold opWhen; (first | rw [if_pos il_j_1] | rw [if_neg il_j_1] | skip); all_goals (first | rfl | (simp [*]))), rfl⟩ dX11_when_21
  · rw [e_j_1]
    obtain ⟨s_j_1, m_j_1, hkd⟩ := hE.2.2 j_1 h_j_1
    have il_j_1 := fIsL_1n x_j_1 h_j_1 hE.1
    have jc_j_1 := clampj x_j_1 h_j_1 hE.1
    refine lv_ifnonnull (tgt := 15) hx hb dX11_when_8 (by decide) ?_
    refine lv_aload_n hx hb dX11_when_15 rfl (lv_at hl 0 rfl) ?_
    refine lv_iload_n hx hb dX11_when_16 rfl (lv_at hl 1 rfl) ?_
    refine lv_iload_n hx hb dX11_when_17 rfl (lv_at hl 1 rfl) ?_
    refine K_i (G_V (As := [.int x, .int x]) (rest := []) X hM (c_X11_nightsTill l g _ ik en x x j_1 j_1 h0 h3 h5 h6 h7 hE x_j_1 h_j_1 x_j_1 h_j_1) lk_X11_190 h0 rfl rfl hl.1 rfl (Nat.le_of_ble_eq_true rfl) (by decide) dX11_when_18 ⟨Nat.le_of_ble_eq_true rfl, Nat.le_of_ble_eq_true rfl⟩) hM (fun r M1 H locs hM hp => ?_)
    obtain ⟨rfl, rfl⟩ := hp
    exact R_i X hr hk hM ⟨(by unfold opWhen; (try simp only [jc_j_1]); (first | rw [if_pos il_j_1] | rw [if_neg il_j_1] | skip); all_goals (first | rfl | (simp [*]))), rfl⟩ dX11_when_21
