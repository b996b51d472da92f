/-- a roof: (night, lights, skies, hidden), (seen, stars, their addresses, kinds, v), (rounds, phases, rows), (size, turn, cloud), (steps, signs, numbers) -/
abbrev En : Type := (Int32 × Nat × Int32 × Int32) × ((Nat → Int32) × (Nat → Option Nat) × (Nat → Nat) × (Nat → Nat) × (Nat → Int32)) × ((Nat → Int32) × (Nat → Int32) × (Nat → Int32)) × (Nat × Int32 × Int32) × ((Nat → Int32) × (Nat → Int32) × (Nat → Int32))
def eNi (en : En) : Int32 := en.1.1
def eL (en : En) : Nat := en.1.2.1
def eSk (en : En) : Int32 := en.1.2.2.1
def eHi (en : En) : Int32 := en.1.2.2.2
def eSe (en : En) : Nat → Int32 := en.2.1.1
def eS (en : En) : Nat → Option Nat := en.2.1.2.1
def eSt (en : En) : Nat → Nat := en.2.1.2.2.1
def eKd (en : En) : Nat → Nat := en.2.1.2.2.2.1
def eVv (en : En) : Nat → Int32 := en.2.1.2.2.2.2
def eRo (en : En) : Nat → Int32 := en.2.2.1.1
def ePh (en : En) : Nat → Int32 := en.2.2.1.2.1
def eRw (en : En) : Nat → Int32 := en.2.2.1.2.2
def eZ (en : En) : Nat := en.2.2.2.1.1
def eTu (en : En) : Int32 := en.2.2.2.1.2.1
def eCl (en : En) : Int32 := en.2.2.2.1.2.2
def eF1 (en : En) : Nat → Int32 := en.2.2.2.2.1
def eF2 (en : En) : Nat → Int32 := en.2.2.2.2.2.1
def eF3 (en : En) : Nat → Int32 := en.2.2.2.2.2.2
/-- the lights that are there stand where the roof says -/
def EnOk (g : Gp) (M : Mem) (en : En) : Prop := eL en ≤ 6 ∧ eZ en ≤ 100 ∧ ∀ j, j < eL en → eS en j = some (eSt en j) ∧ M (eSt en j) = some (starC g (eKd en j) (nI j) (eVv en j)) ∧ eKd en j ≤ 6
theorem EnOk.up {g : Gp} {M : Mem} {en : En} {a : Nat} {x e : va_E} (h : EnOk g M en) (ha : M a = some x) (hx : ∀ kd nu v, x ≠ starC g kd nu v) : EnOk g (mup M a e) en := by
  refine ⟨h.1, h.2.1, fun j hj => ⟨(h.2.2 j hj).1, ?_, (h.2.2 j hj).2.2⟩⟩
  have h1 := (h.2.2 j hj).2.1
  exact mup_r (fun q => hx _ _ _ (Option.some.inj (ha.symm.trans (q ▸ h1)))) h1
theorem nostA {a : ClassId × vp_A} : ∀ {g : Gp} (kd nu v), (Sum.inl a : va_E) ≠ starC g kd nu v := fun _ _ _ => Sum.inl_ne_inr
theorem nostO {g : Gp} {i : Nat} {fs : List Value} (h : i ∉ [8, 2, 0, 3, 10, 1, 9]) : ∀ kd nu v, (Sum.inr (i, fs) : va_E) ≠ starC g kd nu v := fun kd _ _ => ne_cls (fun e => ciOf_ne kd h e.symm)
def fStar (lights : Int32) (S : Nat → Option Nat) (x : Int32) : Option Nat := if x < 0 then none else if lights ≤ x then none else if nI 6 ≤ x then none else S x.toNatClampNeg
theorem fStar_cases {g : Gp} {M : Mem} {en : En} (h : EnOk g M en) (x : Int32) : (va_rf (fStar (nI (eL en)) (eS en) x) = .null ∧ (x < 0 ∨ nI (eL en) ≤ x)) ∨ ∃ j, j < eL en ∧ x = nI j ∧ va_rf (fStar (nI (eL en)) (eS en) x) = .ref (eSt en j) := by
  have hL := h.1
  by_cases h0 : x < 0
  · exact Or.inl ⟨by simp [fStar, h0, va_rf], Or.inl h0⟩
  · by_cases h1 : nI (eL en) ≤ x
    · exact Or.inl ⟨by simp [fStar, h0, h1, va_rf], Or.inr h1⟩
    · obtain ⟨j, hj, e⟩ := nI_of h0
      have hjl : j < eL en := by
        rcases Nat.lt_or_ge j (eL en) with q | q
        · exact q
        · exact absurd (by rw [e]; exact nI_le q hj) h1
      refine Or.inr ⟨j, hjl, e, ?_⟩
      have h6 : ¬ nI 6 ≤ x := by
        rw [e]
        exact nI_ge (by omega) (by omega)
      rw [fStar, if_neg h0, if_neg h1, if_neg h6, e, nI_clamp hj, (h.2.2 j hjl).1]
      rfl
theorem fAt_nI {n j : Nat} {f : Nat → Int32} (h : j < n) (hn : n < 2147483648) : fAt n f (nI j) = f j := by
  rw [fAt, if_neg (nI_pos (by omega)), if_neg (nI_ge h hn), nI_clamp (by omega)]
def fUpN (en : En) (j : Nat) (ni hb : Int32) : Int32 := if fBit hb (nI j) = 0 then (if fOver (eKd en j) ni (eVv en j) (eRo en j) (ePh en j) = 0 then 0 else 1) else 0
def fBase (en : En) (j : Nat) (ho ni : Int32) : Int32 := (bRun 100 (eF1 en) (eF2 en) (eF3 en) (nI j) (nI (eKd en j)) (eVv en j) ho ni (eZ en)).1
def fWorN (en : En) (j : Nat) (ho ni : Int32) : Int32 := fWorth (eKd en j) (eVv en j) (fBase en j ho ni) ho (fAt 24 (eRw en) (nI j * 4 + iR ni 4))
def fWoN (en : En) (j : Nat) (ho ni : Int32) : Int32 := if fWorN en j ho ni < 0 then 0 else fWorN en j ho ni
def fTurn (tu ni : Int32) : Int32 := if tu ≤ 0 then 0 else iR (ni / tu) 2
def upN (en : En) (ni : Int32) : Nat → Int32
  | 0 => 0
  | i + 1 => fWith (upN en ni i) (nI i) (fUpN en i ni (eHi en))
def hasN (en : En) (ho ni hb : Int32) : Nat → Int32
  | 0 => 0
  | i + 1 => if fUpN en i ni hb = 0 then hasN en ho ni hb i else hasN en ho ni hb i + fWoN en i ho ni
def fHas (en : En) (ho ni hb cl : Int32) : Int32 := if fCl ni cl = 0 then hasN en ho ni hb (eL en) else 0
def fIsL (L : Nat) (x : Int32) : Int32 := if x < 0 then 0 else if nI L ≤ x then 0 else 1
theorem fIsL_0 {L : Nat} {x : Int32} (h : x < 0 ∨ nI L ≤ x) : fIsL L x = 0 := by
  unfold fIsL
  rcases h with h | h <;> simp [h]
theorem fIsL_1 {L : Nat} {x : Int32} {j : Nat} (e : x = nI j) (h : j < L) (hL : L ≤ 6) : fIsL L x = 1 := by
  unfold fIsL
  rw [e, if_neg (nI_pos (by omega)), if_neg (nI_ge h (by omega))]
theorem fIsL_1n {L : Nat} {x : Int32} {j : Nat} (e : x = nI j) (h : j < L) (hL : L ≤ 6) : ¬ fIsL L x = 0 := by rw [fIsL_1 e h hL]; decide
theorem clampj {L : Nat} {x : Int32} {j : Nat} (e : x = nI j) (h : j < L) (hL : L ≤ 6) : x.toNatClampNeg = j := by rw [e]; exact nI_clamp (by omega)
theorem fIn_k {x M : Int32} {K : Nat} (hK : M.toInt = K) (h : ¬ fIn x 0 M = 0) : ∃ k, k ≤ K ∧ x = nI k := by
  unfold fIn at h
  by_cases h1 : x < 0
  · rw [if_pos h1] at h; exact absurd rfl h
  · rw [if_neg h1] at h
    by_cases h2 : M < x
    · rw [if_pos h2] at h; exact absurd rfl h
    · exact nI_of2 hK h1 (Int32.not_lt.mp h2)
theorem nI_j_inj {x : Int32} {a b : Nat} (h1 : x = nI a) (h2 : x = nI b) (ha : a < 2147483648) (hb : b < 2147483648) : a = b := (nI_eq ha hb).mp (h1.symm.trans h2)
theorem no_null {en : En} {x : Int32} {j : Nat} (h : x < 0 ∨ nI (eL en) ≤ x) (e : x = nI j) (hj : j < eL en) (hL : eL en ≤ 6) : False := by
  subst e
  rcases h with h | h
  · exact nI_pos (by omega) h
  · exact nI_ge hj (by omega) h

theorem lk_X4_86 : LkV RX4 86 yX4_starAt cX4_starAt 2 (some (.object "StarCustody$Star")) 1 := lkV_of q_488 q_477 q_478 q_4 q_479 ⟨by decide, by decide, by decide +kernel⟩ (by decide)
theorem lk_X4_90 : LkN RX4 90 yX11_bitOf RX11 cX11_bitOf 2 (some .int) 2 := lkNS_of (by decide +kernel) q_482 q_1 q_483 ⟨by decide, by decide, by decide +kernel⟩ (by decide)
theorem sg_X4_94 {g : Gp} {p : Program} {l : Launch} {e : Env} {R : Room} {s : State} {m : MethodId} {args : Array Value} {below : List Frame} {meth : Method} {c : Code} {H : Heap} {locs : List Loc} {cells slots : Nat} {Q : State → Prop} {cc : ByteArray} {nL : Nat} {M : Mem} {pc : Nat} {ls : Array Slot} {rest : List Value} {a kd : Nat} {nu v : Int32} (X : Cx g p m c cc nL s args RX4) (hM : MW g M H locs) (he : M a = some (starC g kd nu v)) (hkd : kd ≤ 6) (hdg : decode cc pc = .ok (.getfield 94, 3)) (kk : W p l e R s m args below meth c H locs cells slots Q (F0 m (pc + 3) ls (.int v :: rest))) : W p l e R s m args below meth c H locs cells slots Q (F0 m pc ls (.ref a :: rest)) := by
  rcases (show kd = 0 ∨ kd = 1 ∨ kd = 2 ∨ kd = 3 ∨ kd = 4 ∨ kd = 5 ∨ kd = 6 by omega) with rfl | rfl | rfl | rfl | rfl | rfl | rfl
  · exact r_get (T := TX8) (N := 4) (ci := 8) (v := .int v) X hM iX8 rfl 2 (by decide) q_380 (Or.inl rfl) he rfl hdg kk
  · exact r_get (T := TX2) (N := 4) (ci := 2) (v := .int v) X hM iX2 rfl 2 (by decide) q_380 (Or.inl rfl) he rfl hdg kk
  · exact r_get (T := TX0) (N := 4) (ci := 0) (v := .int v) X hM iX0 rfl 2 (by decide) q_380 (Or.inl rfl) he rfl hdg kk
  · exact r_get (T := TX3) (N := 4) (ci := 3) (v := .int v) X hM iX3 rfl 2 (by decide) q_380 (Or.inl rfl) he rfl hdg kk
  · exact r_get (T := TX10) (N := 4) (ci := 10) (v := .int v) X hM iX10 rfl 2 (by decide) q_380 (Or.inl rfl) he rfl hdg kk
  · exact r_get (T := TX1) (N := 4) (ci := 1) (v := .int v) X hM iX1 rfl 2 (by decide) q_380 (Or.inl rfl) he rfl hdg kk
  · exact r_get (T := TX9) (N := 4) (ci := 9) (v := .int v) X hM iX9 rfl 2 (by decide) q_380 (Or.inl rfl) he rfl hdg kk
theorem lk_X4_97 : LkN RX4 97 yX11_at RX11 cX11_at 2 (some .int) 2 := lkNS_of (by decide +kernel) q_230 q_1 q_231 ⟨by decide, by decide, by decide +kernel⟩ (by decide)
theorem sg_X4_113 {g : Gp} {p : Program} {l : Launch} {e : Env} {R : Room} {s : State} {m : MethodId} {args : Array Value} {below : List Frame} {meth : Method} {c : Code} {H : Heap} {locs : List Loc} {cells slots : Nat} {Q : State → Prop} {cc : ByteArray} {nL : Nat} {M : Mem} {pc : Nat} {ls : Array Slot} {rest : List Value} {a kd : Nat} {nu v : Int32} (X : Cx g p m c cc nL s args RX4) (hM : MW g M H locs) (he : M a = some (starC g kd nu v)) (hkd : kd ≤ 6) (hdg : decode cc pc = .ok (.getfield 113, 3)) (kk : W p l e R s m args below meth c H locs cells slots Q (F0 m (pc + 3) ls (.int nu :: rest))) : W p l e R s m args below meth c H locs cells slots Q (F0 m pc ls (.ref a :: rest)) := by
  rcases (show kd = 0 ∨ kd = 1 ∨ kd = 2 ∨ kd = 3 ∨ kd = 4 ∨ kd = 5 ∨ kd = 6 by omega) with rfl | rfl | rfl | rfl | rfl | rfl | rfl
  · exact r_get (T := TX8) (N := 4) (ci := 8) (v := .int nu) X hM iX8 rfl 1 (by decide) q_370 (Or.inl rfl) he rfl hdg kk
  · exact r_get (T := TX2) (N := 4) (ci := 2) (v := .int nu) X hM iX2 rfl 1 (by decide) q_370 (Or.inl rfl) he rfl hdg kk
  · exact r_get (T := TX0) (N := 4) (ci := 0) (v := .int nu) X hM iX0 rfl 1 (by decide) q_370 (Or.inl rfl) he rfl hdg kk
  · exact r_get (T := TX3) (N := 4) (ci := 3) (v := .int nu) X hM iX3 rfl 1 (by decide) q_370 (Or.inl rfl) he rfl hdg kk
  · exact r_get (T := TX10) (N := 4) (ci := 10) (v := .int nu) X hM iX10 rfl 1 (by decide) q_370 (Or.inl rfl) he rfl hdg kk
  · exact r_get (T := TX1) (N := 4) (ci := 1) (v := .int nu) X hM iX1 rfl 1 (by decide) q_370 (Or.inl rfl) he rfl hdg kk
  · exact r_get (T := TX9) (N := 4) (ci := 9) (v := .int nu) X hM iX9 rfl 1 (by decide) q_370 (Or.inl rfl) he rfl hdg kk
theorem lk_X4_116 : LkV RX4 116 yX6_baseOf cX6_baseOf 8 (some .int) 3 := lkV_of q_534 q_519 q_520 q_5 q_521 ⟨by decide, by decide, by decide +kernel⟩ (by decide)
theorem lk_X4_105 : LkV RX4 105 yX4_isUp cX4_isUp 5 (some .boolean) 3 := lkV_of q_596 q_485 q_486 q_4 q_487 ⟨by decide, by decide, by decide +kernel⟩ (by decide)
theorem lk_X4_109 : LkN RX4 109 yX11_withBit RX11 cX11_withBit 3 (some .int) 3 := lkNS_of (by decide +kernel) q_579 q_1 q_580 ⟨by decide, by decide, by decide +kernel⟩ (by decide)
theorem lk_X4_129 : LkN RX4 129 yX11_isClouded RX11 cX11_isClouded 2 (some .boolean) 2 := lkNS_of (by decide +kernel) q_590 q_1 q_591 ⟨by decide, by decide, by decide +kernel⟩ (by decide)
theorem lk_X4_133 : LkV RX4 133 yX4_worthOf cX4_worthOf 5 (some .int) 3 := lkV_of q_603 q_531 q_532 q_4 q_533 ⟨by decide, by decide, by decide +kernel⟩ (by decide)
set_option maxHeartbeats 4000000 in
set_option maxRecDepth 100000 in
theorem c_X4_starAt (l : Launch) (g : Gp) (M : Mem) (en : En) (yn yk yh x : Int32) (h3 : M (gA g 3) = some (roofN g yn (nI (eL en)) yk yh)) (h5 : M (gA g 5) = some (aS g 6 (eS en))) : Met l yX4_starAt (wsM yX4_starAt cX4_starAt 2 (some (.object "StarCustody$Star"))) (rmD 1 0 0) (Pre g M [.ref (gA g 3), .int x]) (Qq g (fun r M1 => (fStar (nI (eL en)) (eS en) x) = r ∧ M = M1)) 0 0 (gF g) := M_start (by decide +kernel) (Nat.le_of_ble_eq_true rfl) fun p e s m args below meth c ls X hr hk hnm hM hl => by
  have X : Cx g p m c cX4_starAt 2 s args RX4 := X
  have hx := X.1.1
  have hb := X.1.2.1
  have hl : lv_has ls 2 [(0, .ref (gA g 3)), (1, .int x)] := hl
  refine lv_iload_n hx hb dX4_starAt_0 rfl (lv_at hl 1 rfl) ?_
  refine lv_if_lt (tgt := 30) hx hb dX4_starAt_1 (by decide) (fun c_1 => ?_) (fun c_1 => ?_)
  · skip
    refine lv_null hx hb dX4_starAt_30 ?_
    exact R_q (r := none) rfl X hr hk hM ⟨(by simp [fStar, *]), rfl⟩ dX4_starAt_31
  · skip
    refine lv_iload_n hx hb dX4_starAt_4 rfl (lv_at hl 1 rfl) ?_
    refine lv_aload_n hx hb dX4_starAt_5 rfl (lv_at hl 0 rfl) ?_
    refine r_get (T := TX4) (N := 14) (ci := 4) (v := .int (nI (eL en))) X hM iX4 rfl 1 (by decide) q_97 (Or.inl rfl) h3 rfl dX4_starAt_6 ?_
    refine lv_icmp_ge (tgt := 30) hx hb dX4_starAt_9 (by decide) (fun c_2 => ?_) (fun c_2 => ?_)
    · skip
      refine lv_null hx hb dX4_starAt_30 ?_
      exact R_q (r := none) rfl X hr hk hM ⟨(by simp [fStar, *]), rfl⟩ dX4_starAt_31
    · skip
      refine lv_iload_n hx hb dX4_starAt_12 rfl (lv_at hl 1 rfl) ?_
      refine lv_aload_n hx hb dX4_starAt_13 rfl (lv_at hl 0 rfl) ?_
      refine r_get (T := TX4) (N := 14) (ci := 4) (v := .ref (gA g 5)) X hM iX4 rfl 5 (by decide) q_105 (Or.inl rfl) h3 rfl dX4_starAt_14 ?_
      refine r_alen (v := nI 6) 2 X hM h5 rfl rfl dX4_starAt_17 ?_
      refine lv_icmp_ge (tgt := 30) hx hb dX4_starAt_18 (by decide) (fun c_3 => ?_) (fun c_3 => ?_)
      · skip
        refine lv_null hx hb dX4_starAt_30 ?_
        exact R_q (r := none) rfl X hr hk hM ⟨(by simp [fStar, *]), rfl⟩ dX4_starAt_31
      · skip
        have hin := vp_in_of2 c_1 c_3 (by decide)
        refine lv_aload_n hx hb dX4_starAt_21 rfl (lv_at hl 0 rfl) ?_
        refine r_get (T := TX4) (N := 14) (ci := 4) (v := .ref (gA g 5)) X hM iX4 rfl 5 (by decide) q_105 (Or.inl rfl) h3 rfl dX4_starAt_22 ?_
        refine lv_iload_n hx hb dX4_starAt_25 rfl (lv_at hl 1 rfl) ?_
        refine r_aald (i := x) X hM h5 hin dX4_starAt_26 ?_
        refine lv_goto (tgt := 31) hx hb dX4_starAt_27 (by decide) ?_
        exact R_q (r := (eS en) x.toNatClampNeg) rfl X hr hk hM ⟨(by simp [fStar, *]), rfl⟩ dX4_starAt_31
set_option maxHeartbeats 4000000 in
set_option maxRecDepth 100000 in
theorem c_X4_turnOf (l : Launch) (g : Gp) (M : Mem) (en : En) (yn yl yk yh x : Int32) (h3 : M (gA g 3) = some (roofN g yn yl yk yh)) (h9 : M (gA g 9) = some (skyE (gA g 10) (gA g 11) (gA g 12) (nI (eZ en)) (eTu en) (eCl en))) : Met l yX4_turnOf (wsM yX4_turnOf cX4_turnOf 2 (some .int)) (rmD 1 0 0) (Pre g M [.ref (gA g 3), .int x]) (Qi g (fun r M1 => (fTurn (eTu en) x) = r ∧ M = M1)) 0 0 (gF g) := M_start (by decide +kernel) (Nat.le_of_ble_eq_true rfl) fun p e s m args below meth c ls X hr hk hnm hM hl => by
  have X : Cx g p m c cX4_turnOf 2 s args RX4 := X
  have hx := X.1.1
  have hb := X.1.2.1
  have hl : lv_has ls 2 [(0, .ref (gA g 3)), (1, .int x)] := hl
  refine lv_aload_n hx hb dX4_turnOf_0 rfl (lv_at hl 0 rfl) ?_
  refine r_get (T := TX4) (N := 14) (ci := 4) (v := .ref (gA g 9)) X hM iX4 rfl 9 (by decide) q_112 (Or.inl rfl) h3 rfl dX4_turnOf_1 ?_
  refine r_get (T := TX6) (N := 6) (ci := 6) (v := .int (eTu en)) X hM iX6 rfl 4 (by decide) q_74 (Or.inl rfl) h9 rfl dX4_turnOf_4 ?_
  refine lv_if_le (tgt := 24) hx hb dX4_turnOf_7 (by decide) (fun c_1 => ?_) (fun c_1 => ?_)
  · skip
    refine lv_iconst (v := 0) hx hb dX4_turnOf_24 (by decide) ?_
    exact R_i X hr hk hM ⟨(by simp [fTurn, *]), rfl⟩ dX4_turnOf_25
  · skip
    refine lv_iload_n hx hb dX4_turnOf_10 rfl (lv_at hl 1 rfl) ?_
    refine lv_aload_n hx hb dX4_turnOf_11 rfl (lv_at hl 0 rfl) ?_
    refine r_get (T := TX4) (N := 14) (ci := 4) (v := .ref (gA g 9)) X hM iX4 rfl 9 (by decide) q_112 (Or.inl rfl) h3 rfl dX4_turnOf_12 ?_
    refine r_get (T := TX6) (N := 6) (ci := 6) (v := .int (eTu en)) X hM iX6 rfl 4 (by decide) q_74 (Or.inl rfl) h9 rfl dX4_turnOf_15 ?_
    refine lv_idiv hx hb dX4_turnOf_18 (fun hz => c_1 (by rw [hz]; decide)) ?_
    refine lv_iconst (v := 2) hx hb dX4_turnOf_19 (by decide) ?_
    refine l_irem hx hb dX4_turnOf_20 (by decide) ?_
    refine lv_goto (tgt := 25) hx hb dX4_turnOf_21 (by decide) ?_
    exact R_i X hr hk hM ⟨(by simp [fTurn, *]), rfl⟩ dX4_turnOf_25
set_option maxHeartbeats 4000000 in
set_option maxRecDepth 100000 in
theorem c_X4_isUp (l : Launch) (g : Gp) (M : Mem) (en : En) (yn yk yh x : Int32) (j : Nat) (ni bi : Int32) (h3 : M (gA g 3) = some (roofN g yn (nI (eL en)) yk yh)) (h5 : M (gA g 5) = some (aS g 6 (eS en))) (h6 : M (gA g 6) = some (aI g 6 (eRo en))) (h7 : M (gA g 7) = some (aI g 6 (ePh en))) (hE : EnOk g M en) (ej : x = nI j) (hj : j < eL en) : Met l yX4_isUp (wsM yX4_isUp cX4_isUp 5 (some .boolean)) (rmD 5 0 0) (Pre g M [.ref (gA g 3), .int x, .int ni, .int bi]) (Qi g (fun r M1 => (fUpN en j ni bi) = r ∧ M = M1)) 0 0 (gF g) := M_start (by decide +kernel) (Nat.le_of_ble_eq_true rfl) fun p e s m args below meth c ls X hr hk hnm hM hl => by
  have X : Cx g p m c cX4_isUp 5 s args RX4 := X
  have hx := X.1.1
  have hb := X.1.2.1
  have hl : lv_has ls 5 [(0, .ref (gA g 3)), (1, .int x), (2, .int ni), (3, .int bi)] := hl
  refine lv_aload_n hx hb dX4_isUp_0 rfl (lv_at hl 0 rfl) ?_
  refine lv_iload_n hx hb dX4_isUp_1 rfl (lv_at hl 1 rfl) ?_
  refine K_q (G_V (As := [.int x]) (rest := []) X hM (c_X4_starAt l g _ en yn yk yh x h3 h5 ) lk_X4_86 h3 rfl rfl hl.1 rfl (Nat.le_of_ble_eq_true rfl) (by decide) dX4_isUp_2 ⟨Nat.le_of_ble_eq_true rfl, Nat.le_of_ble_eq_true rfl⟩) hM (fun r M1 H locs hM hp => ?_)
  obtain ⟨rfl, rfl⟩ := hp
  rcases fStar_cases hE (x) with ⟨e_j_1, h_j_1⟩ | ⟨j_1, h_j_1, x_j_1, e_j_1⟩
  · rw [e_j_1]
    exact (no_null h_j_1 ej hj hE.1).elim
  · rw [e_j_1]
    obtain ⟨s_j_1, m_j_1, hkd⟩ := hE.2.2 j_1 h_j_1
    refine lv_astore (lv' := [(4, .ref (eSt en j_1)), (0, .ref (gA g 3)), (1, .int x), (2, .int ni), (3, .int bi)]) hx hb dX4_isUp_5 hl (by decide) rfl (fun ls hl => ?_)
    refine lv_aload hx hb dX4_isUp_7 (lv_at hl 0 rfl) ?_
    refine lv_ifnull hx hb dX4_isUp_9 ?_
    refine lv_iload_n hx hb dX4_isUp_12 rfl (lv_at hl 4 rfl) ?_
    refine lv_iload_n hx hb dX4_isUp_13 rfl (lv_at hl 2 rfl) ?_
    refine K_i (G_SN (As := [.int bi, .int x]) (rest := []) X hM (c_X11_bitOf l g _ bi x  ) lk_X4_90 q_482 rfl hl.1 rfl (Nat.le_of_ble_eq_true rfl) (by decide) dX4_isUp_14 ⟨Nat.le_of_ble_eq_true rfl, Nat.le_of_ble_eq_true rfl⟩) hM (fun r M1 H locs hM hp => ?_)
    obtain ⟨rfl, rfl⟩ := hp
    refine lv_if_ne (tgt := 54) hx hb dX4_isUp_17 (by decide) (fun c_2 => ?_) (fun c_2 => ?_)
    · skip
      refine lv_iconst (v := 0) hx hb dX4_isUp_54 (by decide) ?_
      exact R_z X hr hk (Or.inl rfl) hM ⟨(by have e9 := nI_j_inj x_j_1 ej (by have := hE.1; omega) (by have := hE.1; omega); subst e9; subst ej; have h6 : j_1 < 6 := (by have := hE.1; omega); simp_all [fUpN, fAt_nI h6]), rfl⟩ dX4_isUp_55
    · skip
      refine lv_aload hx hb dX4_isUp_20 (lv_at hl 0 rfl) ?_
      refine lv_iload_n hx hb dX4_isUp_22 rfl (lv_at hl 3 rfl) ?_
      refine lv_aload hx hb dX4_isUp_23 (lv_at hl 0 rfl) ?_
      refine sg_X4_94 X hM m_j_1 (kd := eKd en j_1) hkd dX4_isUp_25 ?_
      refine lv_aload_n hx hb dX4_isUp_28 rfl (lv_at hl 1 rfl) ?_
      refine r_get (T := TX4) (N := 14) (ci := 4) (v := .ref (gA g 6)) X hM iX4 rfl 6 (by decide) q_106 (Or.inl rfl) h3 rfl dX4_isUp_29 ?_
      refine lv_iload_n hx hb dX4_isUp_32 rfl (lv_at hl 2 rfl) ?_
      refine K_i (G_SN (As := [.ref (gA g 6), .int x]) (rest := [.int (eVv en j_1), .int ni, .ref (eSt en j_1)]) X hM (c_X11_at l g _ (gA g 6) 6 (eRo en) x h6 (by decide)) lk_X4_97 q_230 rfl hl.1 rfl (Nat.le_of_ble_eq_true rfl) (by decide) dX4_isUp_33 ⟨Nat.le_of_ble_eq_true rfl, Nat.le_of_ble_eq_true rfl⟩) hM (fun r M1 H locs hM hp => ?_)
      obtain ⟨rfl, rfl⟩ := hp
      refine lv_aload_n hx hb dX4_isUp_36 rfl (lv_at hl 1 rfl) ?_
      refine r_get (T := TX4) (N := 14) (ci := 4) (v := .ref (gA g 7)) X hM iX4 rfl 7 (by decide) q_108 (Or.inl rfl) h3 rfl dX4_isUp_37 ?_
      refine lv_iload_n hx hb dX4_isUp_40 rfl (lv_at hl 2 rfl) ?_
      refine K_i (G_SN (As := [.ref (gA g 7), .int x]) (rest := [.int (fAt 6 (eRo en) x), .int (eVv en j_1), .int ni, .ref (eSt en j_1)]) X hM (c_X11_at l g _ (gA g 7) 6 (ePh en) x h7 (by decide)) lk_X4_97 q_230 rfl hl.1 rfl (Nat.le_of_ble_eq_true rfl) (by decide) dX4_isUp_41 ⟨Nat.le_of_ble_eq_true rfl, Nat.le_of_ble_eq_true rfl⟩) hM (fun r M1 H locs hM hp => ?_)
      obtain ⟨rfl, rfl⟩ := hp
      refine K_i (vr_isOver_X4 (rest := []) X hM m_j_1 hkd hl.1 (Nat.le_of_ble_eq_true rfl) (by decide) dX4_isUp_44 ⟨Nat.le_of_ble_eq_true rfl, Nat.le_of_ble_eq_true rfl⟩) hM (fun r M1 H locs hM hp => ?_)
      obtain ⟨rfl, rfl⟩ := hp
      refine lv_if_eq (tgt := 54) hx hb dX4_isUp_47 (by decide) (fun c_3 => ?_) (fun c_3 => ?_)
      · skip
        refine lv_iconst (v := 0) hx hb dX4_isUp_54 (by decide) ?_
        exact R_z X hr hk (Or.inl rfl) hM ⟨(by have e9 := nI_j_inj x_j_1 ej (by have := hE.1; omega) (by have := hE.1; omega); subst e9; subst ej; have h6 : j_1 < 6 := (by have := hE.1; omega); simp_all [fUpN, fAt_nI h6]), rfl⟩ dX4_isUp_55
      · skip
        refine lv_iconst (v := 1) hx hb dX4_isUp_50 (by decide) ?_
        refine lv_goto (tgt := 55) hx hb dX4_isUp_51 (by decide) ?_
        exact R_z X hr hk (Or.inr rfl) hM ⟨(by have e9 := nI_j_inj x_j_1 ej (by have := hE.1; omega) (by have := hE.1; omega); subst e9; subst ej; have h6 : j_1 < 6 := (by have := hE.1; omega); simp_all [fUpN, fAt_nI h6]), rfl⟩ dX4_isUp_55
set_option maxHeartbeats 4000000 in
set_option maxRecDepth 100000 in
theorem c_X4_worthOf (l : Launch) (g : Gp) (M : Mem) (en : En) (yn yl yk yh : Int32) (j : Nat) (ho ni : Int32) (h3 : M (gA g 3) = some (roofN g yn yl yk yh)) (h8 : M (gA g 8) = some (aI g 24 (eRw en))) (h9 : M (gA g 9) = some (skyE (gA g 10) (gA g 11) (gA g 12) (nI (eZ en)) (eTu en) (eCl en))) (h10 : M (gA g 10) = some (aI g 100 (eF1 en))) (h11 : M (gA g 11) = some (aI g 100 (eF2 en))) (h12 : M (gA g 12) = some (aI g 100 (eF3 en))) (hE : EnOk g M en) (hj : j < eL en) : Met l yX4_worthOf (wsM yX4_worthOf cX4_worthOf 5 (some .int)) (rmD 4 0 0) (Pre g M [.ref (gA g 3), .ref (eSt en j), .int ho, .int ni]) (Qi g (fun r M1 => (fWoN en j ho ni) = r ∧ M = M1)) 0 0 (gF g) := M_start (by decide +kernel) (Nat.le_of_ble_eq_true rfl) fun p e s m args below meth c ls X hr hk hnm hM hl => by
  have X : Cx g p m c cX4_worthOf 5 s args RX4 := X
  have hx := X.1.1
  have hb := X.1.2.1
  have hl : lv_has ls 5 [(0, .ref (gA g 3)), (1, .ref (eSt en j)), (2, .int ho), (3, .int ni)] := hl
  obtain ⟨s_j, m_j, hkd⟩ := hE.2.2 j hj
  refine lv_aload_n hx hb dX4_worthOf_0 rfl (lv_at hl 0 rfl) ?_
  refine r_get (T := TX4) (N := 14) (ci := 4) (v := .ref (gA g 8)) X hM iX4 rfl 8 (by decide) q_110 (Or.inl rfl) h3 rfl dX4_worthOf_1 ?_
  refine lv_aload_n hx hb dX4_worthOf_4 rfl (lv_at hl 1 rfl) ?_
  refine sg_X4_113 X hM m_j (kd := eKd en j) hkd dX4_worthOf_5 ?_
  refine lv_iconst (v := 4) hx hb dX4_worthOf_8 (by decide) ?_
  refine lv_imul hx hb dX4_worthOf_9 ?_
  refine lv_iload_n hx hb dX4_worthOf_10 rfl (lv_at hl 3 rfl) ?_
  refine lv_iconst (v := 4) hx hb dX4_worthOf_11 (by decide) ?_
  refine l_irem hx hb dX4_worthOf_12 (by decide) ?_
  refine lv_iadd hx hb dX4_worthOf_13 ?_
  refine K_i (G_SN (As := [.ref (gA g 8), .int (((nI j) * 4) + (iR ni 4))]) (rest := []) X hM (c_X11_at l g _ (gA g 8) 24 (eRw en) (((nI j) * 4) + (iR ni 4)) h8 (by decide)) lk_X4_97 q_230 rfl hl.1 rfl (Nat.le_of_ble_eq_true rfl) (by decide) dX4_worthOf_14 ⟨Nat.le_of_ble_eq_true rfl, Nat.le_of_ble_eq_true rfl⟩) hM (fun r M1 H locs hM hp => ?_)
  obtain ⟨rfl, rfl⟩ := hp
  refine lv_istore (lv' := [(4, .int (fAt 24 (eRw en) (((nI j) * 4) + (iR ni 4)))), (0, .ref (gA g 3)), (1, .ref (eSt en j)), (2, .int ho), (3, .int ni)]) hx hb dX4_worthOf_17 hl (by decide) rfl (fun ls hl => ?_)
  refine lv_aload_n hx hb dX4_worthOf_19 rfl (lv_at hl 2 rfl) ?_
  refine lv_aload_n hx hb dX4_worthOf_20 rfl (lv_at hl 1 rfl) ?_
  refine r_get (T := TX4) (N := 14) (ci := 4) (v := .ref (gA g 9)) X hM iX4 rfl 9 (by decide) q_112 (Or.inl rfl) h3 rfl dX4_worthOf_21 ?_
  refine lv_aload_n hx hb dX4_worthOf_24 rfl (lv_at hl 2 rfl) ?_
  refine lv_iload_n hx hb dX4_worthOf_25 rfl (lv_at hl 3 rfl) ?_
  refine lv_iload_n hx hb dX4_worthOf_26 rfl (lv_at hl 4 rfl) ?_
  refine K_i (G_V (As := [.ref (eSt en j), .int ho, .int ni]) (rest := [.ref (eSt en j)]) X hM (c_X6_baseOf l g _ (gA g 9) (gA g 10) (gA g 11) (gA g 12) 100 (eF1 en) (eF2 en) (eF3 en) (eZ en) (eTu en) (eCl en) (eSt en j) (eKd en j) (nI j) (eVv en j) ho ni h9 h10 h11 h12 m_j (by decide) (by have := hE.2.1; omega) hkd) lk_X4_116 h9 rfl rfl hl.1 rfl (Nat.le_of_ble_eq_true rfl) (by decide) dX4_worthOf_27 ⟨Nat.le_of_ble_eq_true rfl, Nat.le_of_ble_eq_true rfl⟩) hM (fun r M1 H locs hM hp => ?_)
  obtain ⟨rfl, rfl⟩ := hp
  refine lv_iload_n hx hb dX4_worthOf_30 rfl (lv_at hl 3 rfl) ?_
  refine lv_iload hx hb dX4_worthOf_31 (lv_at hl 0 rfl) ?_
  refine K_i (vr_worthBy_X4 (rest := []) X hM m_j hkd hl.1 (Nat.le_of_ble_eq_true rfl) (by decide) dX4_worthOf_33 ⟨Nat.le_of_ble_eq_true rfl, Nat.le_of_ble_eq_true rfl⟩) hM (fun r M1 H locs hM hp => ?_)
  obtain ⟨rfl, rfl⟩ := hp
  refine lv_iconst (v := 0) hx hb dX4_worthOf_36 (by decide) ?_
  refine r_max X hl.1 q_561 q_36 q_3 q_37 (by decide) (Nat.le_of_ble_eq_true rfl) (Nat.le_of_ble_eq_true rfl) (Nat.le_of_ble_eq_true rfl) dX4_worthOf_37 ?_
  exact R_i X hr hk hM ⟨rfl, rfl⟩ dX4_worthOf_40
set_option maxHeartbeats 4000000 in
set_option maxRecDepth 100000 in
theorem c_X4_upBits (l : Launch) (g : Gp) (M : Mem) (en : En) (yn yk ni : Int32) (h3 : M (gA g 3) = some (roofN g yn (nI (eL en)) yk (eHi en))) (h5 : M (gA g 5) = some (aS g 6 (eS en))) (h6 : M (gA g 6) = some (aI g 6 (eRo en))) (h7 : M (gA g 7) = some (aI g 6 (ePh en))) (hE : EnOk g M en) : Met l yX4_upBits (wsM yX4_upBits cX4_upBits 4 (some .int)) (rmD 6 0 0) (Pre g M [.ref (gA g 3), .int ni]) (Qi g (fun r M1 => (upN en ni (eL en)) = r ∧ M = M1)) 0 0 (gF g) := M_start (by decide +kernel) (Nat.le_of_ble_eq_true rfl) fun p e s m args below meth c ls X hr hk hnm hM hl => by
  have X : Cx g p m c cX4_upBits 4 s args RX4 := X
  have hx := X.1.1
  have hb := X.1.2.1
  have hl : lv_has ls 4 [(0, .ref (gA g 3)), (1, .int ni)] := hl
  refine lv_iconst (v := 0) hx hb dX4_upBits_0 (by decide) ?_
  refine lv_istore_n (lv' := [(2, .int 0), (0, .ref (gA g 3)), (1, .int ni)]) hx hb dX4_upBits_1 rfl hl (by decide) rfl (fun ls hl => ?_)
  refine lv_iconst (v := 0) hx hb dX4_upBits_2 (by decide) ?_
  refine lv_istore_n (lv' := [(3, .int 0), (2, .int 0), (0, .ref (gA g 3)), (1, .int ni)]) hx hb dX4_upBits_3 rfl hl (by decide) rfl (fun ls hl => ?_)
  have L4 : ∀ (fu : Nat) (i : Nat) (x2 : Int32) (hi : i ≤ eL en) (h2 : x2 = upN en ni i) (H : Heap) (locs : List Loc) (hM : MW g (M) H locs) (ls : Array Slot) (hl : lv_has ls 4 [(0, .ref (gA g 3)), (1, .int ni), (2, .int x2), (3, .int (nI i))]), eL en - i < fu → W p l e (rmD 6 0 0) s m args below meth c H locs 0 0 (MQ below (Qi g (fun r M1 => (upN en ni (eL en)) = r ∧ M = M1)) args s 0 0 (gF g)) (F0 m 4 ls []) := by
    intro fu
    induction fu with
    | zero => intro i x2 hi h2 H locs hM ls hl hmu; exact absurd hmu (Nat.not_lt_zero _)
    | succ fu ih =>
      intro i x2 hi h2 H locs hM ls hl hmu
      refine lv_iload_n hx hb dX4_upBits_4 rfl (lv_at hl 3 rfl) ?_
      refine lv_aload_n hx hb dX4_upBits_5 rfl (lv_at hl 0 rfl) ?_
      refine r_get (T := TX4) (N := 14) (ci := 4) (v := .int (nI (eL en))) X hM iX4 rfl 1 (by decide) q_97 (Or.inl rfl) h3 rfl dX4_upBits_6 ?_
      refine lv_icmp_ge (tgt := 34) hx hb dX4_upBits_9 (by decide) (fun c_1 => ?_) (fun c_1 => ?_)
      · skip
        have hz1 : eL en ≤ i := (nI_leI (by have := hE.1; omega) (by have := hE.1; omega)).mp c_1
        have hz2 : i = eL en := by omega
        rw [hz2] at h2
        refine lv_iload_n hx hb dX4_upBits_34 rfl (lv_at hl 2 rfl) ?_
        exact R_i X hr hk hM ⟨h2.symm, rfl⟩ dX4_upBits_35
      · skip
        have hz1 : i < eL en := by
          rcases Nat.lt_or_ge i (eL en) with q | q
          · exact q
          · exact absurd ((nI_leI (by have := hE.1; omega) (by have := hE.1; omega)).mpr q) c_1
        refine lv_iload_n hx hb dX4_upBits_12 rfl (lv_at hl 2 rfl) ?_
        refine lv_iload_n hx hb dX4_upBits_13 rfl (lv_at hl 3 rfl) ?_
        refine lv_aload_n hx hb dX4_upBits_14 rfl (lv_at hl 0 rfl) ?_
        refine lv_iload_n hx hb dX4_upBits_15 rfl (lv_at hl 3 rfl) ?_
        refine lv_iload_n hx hb dX4_upBits_16 rfl (lv_at hl 1 rfl) ?_
        refine lv_aload_n hx hb dX4_upBits_17 rfl (lv_at hl 0 rfl) ?_
        refine r_get (T := TX4) (N := 14) (ci := 4) (v := .int (eHi en)) X hM iX4 rfl 3 (by decide) q_101 (Or.inl rfl) h3 rfl dX4_upBits_18 ?_
        refine K_i (G_V (As := [.int (nI i), .int ni, .int (eHi en)]) (rest := [.int (nI i), .int x2]) X hM (c_X4_isUp l g _ en yn yk (eHi en) (nI i) i ni (eHi en) h3 h5 h6 h7 hE rfl hz1) lk_X4_105 h3 rfl rfl hl.1 rfl (Nat.le_of_ble_eq_true rfl) (by decide) dX4_upBits_21 ⟨Nat.le_of_ble_eq_true rfl, Nat.le_of_ble_eq_true rfl⟩) hM (fun r M1 H locs hM hp => ?_)
        obtain ⟨rfl, rfl⟩ := hp
        refine K_i (G_SN (As := [.int x2, .int (nI i), .int (fUpN en i ni (eHi en))]) (rest := []) X hM (c_X11_withBit l g _ x2 (nI i) (fUpN en i ni (eHi en))  ) lk_X4_109 q_579 rfl hl.1 rfl (Nat.le_of_ble_eq_true rfl) (by decide) dX4_upBits_24 ⟨Nat.le_of_ble_eq_true rfl, Nat.le_of_ble_eq_true rfl⟩) hM (fun r M1 H locs hM hp => ?_)
        obtain ⟨rfl, rfl⟩ := hp
        refine lv_istore_n (lv' := [(2, .int (fWith x2 (nI i) (fUpN en i ni (eHi en)))), (0, .ref (gA g 3)), (1, .int ni), (3, .int (nI i))]) hx hb dX4_upBits_27 rfl hl (by decide) rfl (fun ls hl => ?_)
        refine lv_iinc (v := (nI i) + 1) (lv' := [(3, .int ((nI i) + 1)), (2, .int (fWith x2 (nI i) (fUpN en i ni (eHi en)))), (0, .ref (gA g 3)), (1, .int ni)]) hx hb dX4_upBits_28 hl (k := 3) rfl rfl (by decide) rfl (fun ls hl => ?_)
        refine lv_goto (tgt := 4) hx hb dX4_upBits_31 (by decide) ?_
        exact ih (i + 1) (fWith x2 (nI i) (fUpN en i ni (eHi en))) (by omega) (by rw [h2]; rfl) _ _ hM _ ((by rw [← nI_1]; exact lv_sub hl [2, 3, 1, 0] rfl)) (by omega)
  exact L4 (eL en - 0 + 1) 0 0 (Nat.zero_le _) rfl _ _ hM _ (lv_sub hl [2, 3, 1, 0] rfl) (by first | exact Nat.lt_succ_self _ | omega)
set_option maxHeartbeats 4000000 in
set_option maxRecDepth 100000 in
theorem c_X4_hasFor (l : Launch) (g : Gp) (M : Mem) (en : En) (yn yk yh ho ni bi cl : Int32) (h3 : M (gA g 3) = some (roofN g yn (nI (eL en)) yk yh)) (h5 : M (gA g 5) = some (aS g 6 (eS en))) (h6 : M (gA g 6) = some (aI g 6 (eRo en))) (h7 : M (gA g 7) = some (aI g 6 (ePh en))) (h8 : M (gA g 8) = some (aI g 24 (eRw en))) (h9 : M (gA g 9) = some (skyE (gA g 10) (gA g 11) (gA g 12) (nI (eZ en)) (eTu en) (eCl en))) (h10 : M (gA g 10) = some (aI g 100 (eF1 en))) (h11 : M (gA g 11) = some (aI g 100 (eF2 en))) (h12 : M (gA g 12) = some (aI g 100 (eF3 en))) (hE : EnOk g M en) : Met l yX4_hasFor (wsM yX4_hasFor cX4_hasFor 8 (some .int)) (rmD 6 0 0) (Pre g M [.ref (gA g 3), .int ho, .int ni, .int bi, .int cl]) (Qi g (fun r M1 => (fHas en ho ni bi cl) = r ∧ M = M1)) 0 0 (gF g) := M_start (by decide +kernel) (Nat.le_of_ble_eq_true rfl) fun p e s m args below meth c ls X hr hk hnm hM hl => by
  have X : Cx g p m c cX4_hasFor 8 s args RX4 := X
  have hx := X.1.1
  have hb := X.1.2.1
  have hl : lv_has ls 8 [(0, .ref (gA g 3)), (1, .int ho), (2, .int ni), (3, .int bi), (4, .int cl)] := hl
  refine lv_iload_n hx hb dX4_hasFor_0 rfl (lv_at hl 2 rfl) ?_
  refine lv_iload hx hb dX4_hasFor_1 (lv_at hl 4 rfl) ?_
  refine K_i (G_SN (As := [.int ni, .int cl]) (rest := []) X hM (c_X11_isClouded l g _ ni cl  ) lk_X4_129 q_590 rfl hl.1 rfl (Nat.le_of_ble_eq_true rfl) (by decide) dX4_hasFor_3 ⟨Nat.le_of_ble_eq_true rfl, Nat.le_of_ble_eq_true rfl⟩) hM (fun r M1 H locs hM hp => ?_)
  obtain ⟨rfl, rfl⟩ := hp
  refine lv_if_eq (tgt := 11) hx hb dX4_hasFor_6 (by decide) (fun c_1 => ?_) (fun c_1 => ?_)
  · skip
    
    refine lv_iconst (v := 0) hx hb dX4_hasFor_11 (by decide) ?_
    refine lv_istore (lv' := [(5, .int 0), (0, .ref (gA g 3)), (1, .int ho), (2, .int ni), (3, .int bi), (4, .int cl)]) hx hb dX4_hasFor_12 hl (by decide) rfl (fun ls hl => ?_)
    refine lv_iconst (v := 0) hx hb dX4_hasFor_14 (by decide) ?_
    refine lv_istore (lv' := [(6, .int 0), (5, .int 0), (0, .ref (gA g 3)), (1, .int ho), (2, .int ni), (3, .int bi), (4, .int cl)]) hx hb dX4_hasFor_15 hl (by decide) rfl (fun ls hl => ?_)
    have L17 : ∀ (fu : Nat) (i : Nat) (x5 : Int32) (hi : i ≤ eL en) (k5 : x5 = hasN en ho ni bi i) (H : Heap) (locs : List Loc) (hM : MW g (M) H locs) (ls : Array Slot) (hl : lv_has ls 8 [(0, .ref (gA g 3)), (1, .int ho), (2, .int ni), (3, .int bi), (4, .int cl), (5, .int x5), (6, .int (nI i))]), eL en - i < fu → W p l e (rmD 6 0 0) s m args below meth c H locs 0 0 (MQ below (Qi g (fun r M1 => (fHas en ho ni bi cl) = r ∧ M = M1)) args s 0 0 (gF g)) (F0 m 17 ls []) := by
      intro fu
      induction fu with
      | zero => intro i x5 hi k5 H locs hM ls hl hmu; exact absurd hmu (Nat.not_lt_zero _)
      | succ fu ih =>
        intro i x5 hi k5 H locs hM ls hl hmu
        refine lv_iload hx hb dX4_hasFor_17 (lv_at hl 6 rfl) ?_
        refine lv_aload_n hx hb dX4_hasFor_19 rfl (lv_at hl 0 rfl) ?_
        refine r_get (T := TX4) (N := 14) (ci := 4) (v := .int (nI (eL en))) X hM iX4 rfl 1 (by decide) q_97 (Or.inl rfl) h3 rfl dX4_hasFor_20 ?_
        refine lv_icmp_ge (tgt := 69) hx hb dX4_hasFor_23 (by decide) (fun c_2 => ?_) (fun c_2 => ?_)
        · skip
          have hz1 : eL en ≤ i := (nI_leI (by have := hE.1; omega) (by have := hE.1; omega)).mp c_2
          have hz2 : i = eL en := by omega
          rw [hz2] at k5
          refine lv_iload hx hb dX4_hasFor_69 (lv_at hl 5 rfl) ?_
          exact R_i X hr hk hM ⟨(by simp [fHas, *]), rfl⟩ dX4_hasFor_71
        · skip
          have hz1 : i < eL en := by
            rcases Nat.lt_or_ge i (eL en) with q | q
            · exact q
            · exact absurd ((nI_leI (by have := hE.1; omega) (by have := hE.1; omega)).mpr q) c_2
          refine lv_aload_n hx hb dX4_hasFor_26 rfl (lv_at hl 0 rfl) ?_
          refine lv_iload hx hb dX4_hasFor_27 (lv_at hl 6 rfl) ?_
          refine K_q (G_V (As := [.int (nI i)]) (rest := []) X hM (c_X4_starAt l g _ en yn yk yh (nI i) h3 h5 ) lk_X4_86 h3 rfl rfl hl.1 rfl (Nat.le_of_ble_eq_true rfl) (by decide) dX4_hasFor_29 ⟨Nat.le_of_ble_eq_true rfl, Nat.le_of_ble_eq_true rfl⟩) hM (fun r M1 H locs hM hp => ?_)
          obtain ⟨rfl, rfl⟩ := hp
          rcases fStar_cases hE (nI i) with ⟨e_j_3, h_j_3⟩ | ⟨j_3, h_j_3, x_j_3, e_j_3⟩
          · rw [e_j_3]
            exact (no_null h_j_3 rfl hz1 hE.1).elim
          · rw [e_j_3]
            have e9 : i = j_3 := (nI_eq (by have := hE.1; omega) (by have := hE.1; omega)).mp x_j_3
            subst e9
            obtain ⟨s_j_3, m_j_3, hkd⟩ := hE.2.2 i h_j_3
            refine lv_astore (lv' := [(7, .ref (eSt en i)), (0, .ref (gA g 3)), (1, .int ho), (2, .int ni), (3, .int bi), (4, .int cl), (5, .int x5), (6, .int (nI i))]) hx hb dX4_hasFor_32 hl (by decide) rfl (fun ls hl => ?_)
            refine lv_aload hx hb dX4_hasFor_34 (lv_at hl 0 rfl) ?_
            refine lv_ifnull hx hb dX4_hasFor_36 ?_
            refine lv_aload_n hx hb dX4_hasFor_39 rfl (lv_at hl 1 rfl) ?_
            refine lv_iload hx hb dX4_hasFor_40 (lv_at hl 7 rfl) ?_
            refine lv_iload_n hx hb dX4_hasFor_42 rfl (lv_at hl 3 rfl) ?_
            refine lv_iload_n hx hb dX4_hasFor_43 rfl (lv_at hl 4 rfl) ?_
            refine K_i (G_V (As := [.int (nI i), .int ni, .int bi]) (rest := []) X hM (c_X4_isUp l g _ en yn yk yh (nI i) i ni bi h3 h5 h6 h7 hE rfl hz1) lk_X4_105 h3 rfl rfl hl.1 rfl (Nat.le_of_ble_eq_true rfl) (by decide) dX4_hasFor_44 ⟨Nat.le_of_ble_eq_true rfl, Nat.le_of_ble_eq_true rfl⟩) hM (fun r M1 H locs hM hp => ?_)
            obtain ⟨rfl, rfl⟩ := hp
            refine lv_if_eq (tgt := 63) hx hb dX4_hasFor_47 (by decide) (fun c_4 => ?_) (fun c_4 => ?_)
            · skip
              refine lv_iinc (v := (nI i) + 1) (lv' := [(6, .int ((nI i) + 1)), (7, .ref (eSt en i)), (0, .ref (gA g 3)), (1, .int ho), (2, .int ni), (3, .int bi), (4, .int cl), (5, .int x5)]) hx hb dX4_hasFor_63 hl (k := 7) rfl rfl (by decide) rfl (fun ls hl => ?_)
              refine lv_goto (tgt := 17) hx hb dX4_hasFor_66 (by decide) ?_
              exact ih (i + 1) x5 (by omega) (by rw [k5, hasN]; simp [*]) _ _ hM _ ((by rw [← nI_1]; exact lv_sub hl [2, 3, 4, 5, 6, 7, 0] rfl)) (by omega)
            · skip
              refine lv_iload hx hb dX4_hasFor_50 (lv_at hl 6 rfl) ?_
              refine lv_aload_n hx hb dX4_hasFor_52 rfl (lv_at hl 1 rfl) ?_
              refine lv_aload hx hb dX4_hasFor_53 (lv_at hl 0 rfl) ?_
              refine lv_iload_n hx hb dX4_hasFor_55 rfl (lv_at hl 2 rfl) ?_
              refine lv_iload_n hx hb dX4_hasFor_56 rfl (lv_at hl 3 rfl) ?_
              refine K_i (G_V (As := [.ref (eSt en i), .int ho, .int ni]) (rest := [.int x5]) X hM (c_X4_worthOf l g _ en yn (nI (eL en)) yk yh i ho ni h3 h8 h9 h10 h11 h12 hE h_j_3) lk_X4_133 h3 rfl rfl hl.1 rfl (Nat.le_of_ble_eq_true rfl) (by decide) dX4_hasFor_57 ⟨Nat.le_of_ble_eq_true rfl, Nat.le_of_ble_eq_true rfl⟩) hM (fun r M1 H locs hM hp => ?_)
              obtain ⟨rfl, rfl⟩ := hp
              refine lv_iadd hx hb dX4_hasFor_60 ?_
              refine lv_istore (lv' := [(5, .int (x5 + (fWoN en i ho ni))), (7, .ref (eSt en i)), (0, .ref (gA g 3)), (1, .int ho), (2, .int ni), (3, .int bi), (4, .int cl), (6, .int (nI i))]) hx hb dX4_hasFor_61 hl (by decide) rfl (fun ls hl => ?_)
              refine lv_iinc (v := (nI i) + 1) (lv' := [(6, .int ((nI i) + 1)), (5, .int (x5 + (fWoN en i ho ni))), (7, .ref (eSt en i)), (0, .ref (gA g 3)), (1, .int ho), (2, .int ni), (3, .int bi), (4, .int cl)]) hx hb dX4_hasFor_63 hl (k := 7) rfl rfl (by decide) rfl (fun ls hl => ?_)
              refine lv_goto (tgt := 17) hx hb dX4_hasFor_66 (by decide) ?_
              exact ih (i + 1) (x5 + (fWoN en i ho ni)) (by omega) (by rw [k5, hasN]; simp [*]) _ _ hM _ ((by rw [← nI_1]; exact lv_sub hl [3, 4, 5, 6, 7, 1, 0] rfl)) (by omega)
    exact L17 (eL en - 0 + 1) 0 0 (Nat.zero_le _) rfl _ _ hM _ (lv_sub hl [2, 3, 4, 5, 6, 1, 0] rfl) (by first | exact Nat.lt_succ_self _ | omega)
  · skip
    refine lv_iconst (v := 0) hx hb dX4_hasFor_9 (by decide) ?_
    exact R_i X hr hk hM ⟨(by simp [fHas, *]), rfl⟩ dX4_hasFor_10
