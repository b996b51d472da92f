def ciOf (kd : Nat) : Nat := match kd with | 0 => 8 | 1 => 2 | 2 => 0 | 3 => 3 | 4 => 10 | 5 => 1 | _ => 9
def starC (g : Gp) (kd : Nat) (nu v : Int32) : va_E := .inr (ciOf kd, [.int (nI kd), .int nu, .int v, .ref (gA g 1)])
theorem ciOf_ne (kd : Nat) {j : Nat} (h : j ∉ [8, 2, 0, 3, 10, 1, 9]) : ciOf kd ≠ j := by
  intro e
  apply h
  rw [← e]
  unfold ciOf
  split <;> decide
theorem ne_star {g : Gp} {M : Mem} {a b kd j : Nat} {nu v : Int32} {fs : List Value} (ha : M a = some (starC g kd nu v)) (hb : M b = some (.inr (j, fs))) (h : j ∉ [8, 2, 0, 3, 10, 1, 9]) : a ≠ b := ne_kind ha hb (ne_cls (ciOf_ne kd h))
theorem ne_star_r {g : Gp} {M : Mem} {a b kd j : Nat} {nu v : Int32} {fs : List Value} (hb : M b = some (.inr (j, fs))) (ha : M a = some (starC g kd nu v)) (h : j ∉ [8, 2, 0, 3, 10, 1, 9]) : b ≠ a := Ne.symm (ne_star ha hb h)
def fSt (n r h : Int32) : Int32 := if r ≤ 0 then 0 else if iR (n + h) r = 0 then 1 else 0
def fMo (n r h : Int32) : Int32 := if r = 1 then 1 else if r ≤ 0 then 0 else if iR (n + h) r < r / 2 then 1 else 0
def fCo (n v r h : Int32) : Int32 := if n < 10 * v then 0 else if fSt n r h = 0 then 0 else 1
def fGu (n v r h : Int32) : Int32 := if iR n 7 = 0 then 0 else if fCo n v r h = 0 then 0 else 1
def fTw (n r h : Int32) : Int32 := if fMo n r h = 0 then fSt n r h else 1
def fOver (kd : Nat) (n v r h : Int32) : Int32 := match kd with | 1 => fMo n r h | 2 => fCo n v r h | 4 => fTw n r h | 5 => fGu n v r h | _ => fSt n r h
def fWorth (kd : Nat) (v b ho t : Int32) : Int32 := match kd with | 1 => 2 + b | 3 => b + v | 4 => (2 + b) * 2 | 5 => 5 + b + (if ho = 1 then v else 0) | 6 => b + v + t | _ => 5 + b
theorem fSt_01 (n r h : Int32) : fSt n r h = 0 ∨ fSt n r h = 1 := by
  unfold fSt
  split
  · exact Or.inl rfl
  · split
    · exact Or.inr rfl
    · exact Or.inl rfl
theorem fOver_01 (kd : Nat) (n v r h : Int32) : fOver kd n v r h = 0 ∨ fOver kd n v r h = 1 := by
  have h1 := fSt_01 n r h
  have hm : fMo n r h = 0 ∨ fMo n r h = 1 := by
    unfold fMo
    split
    · exact Or.inr rfl
    · split
      · exact Or.inl rfl
      · split
        · exact Or.inr rfl
        · exact Or.inl rfl
  have hc : fCo n v r h = 0 ∨ fCo n v r h = 1 := by
    unfold fCo
    split
    · exact Or.inl rfl
    · split
      · exact Or.inl rfl
      · exact Or.inr rfl
  have hg : fGu n v r h = 0 ∨ fGu n v r h = 1 := by
    unfold fGu
    split
    · exact Or.inl rfl
    · split
      · exact Or.inl rfl
      · exact Or.inr rfl
  have ht : fTw n r h = 0 ∨ fTw n r h = 1 := by
    unfold fTw
    split
    · exact h1
    · exact Or.inr rfl
  unfold fOver
  split
  · exact hm
  · exact hc
  · exact ht
  · exact hg
  · exact h1

theorem lx_X0_7 : LkX RX0 7 ⟨"StarCustody$Star", "isOver", "(IIII)Z"⟩ yX8_isOver cX8_isOver 5 (some .boolean) 4 := lkX_of q_498 q_494 q_414 (Or.inl rfl) q_492 q_13 q_512 (by decide) rfl (by decide +kernel) (by decide)
theorem lx_X1_7 : LkX RX1 7 ⟨"StarCustody$Comet", "isOver", "(IIII)Z"⟩ yX0_isOver cX0_isOver 5 (some .boolean) 4 := lkX_of q_502 q_1216 q_447 (Or.inl rfl) q_496 q_15 q_497 (by decide) rfl (by decide +kernel) (by decide)
theorem lx_X10_7 : LkX RX10 7 ⟨"StarCustody$Moon", "isOver", "(IIII)Z"⟩ yX2_isOver cX2_isOver 5 (some .boolean) 4 := lkX_of q_511 q_1217 q_436 (Or.inl rfl) q_504 q_14 q_505 (by decide) rfl (by decide +kernel) (by decide)
theorem lx_X10_11 : LkX RX10 11 ⟨"StarCustody$Moon", "worthBy", "(III)I"⟩ yX2_worthBy cX2_worthBy 4 (some .int) 3 := lkX_of q_559 q_1219 q_436 (Or.inl rfl) q_547 q_14 q_548 (by decide) rfl (by decide +kernel) (by decide)
theorem lx_X1_11 : LkX RX1 11 ⟨"StarCustody$Comet", "worthBy", "(III)I"⟩ yX8_worthBy cX8_worthBy 4 (some .int) 3 := lkX_of q_543 q_544 q_447 (Or.inr q_414) q_536 q_13 q_560 (by decide) rfl (by decide +kernel) (by decide)
theorem lx_X9_7 : LkX RX9 7 ⟨"StarCustody$Nebula", "worthBy", "(III)I"⟩ yX3_worthBy cX3_worthBy 4 (some .int) 3 := lkX_of q_555 q_1218 q_458 (Or.inl rfl) q_550 q_16 q_551 (by decide) rfl (by decide +kernel) (by decide)
theorem lu_X4_101_X8 : LkU RX4 101 RX8 "StarCustody$Star" ⟨"StarCustody$Star", "isOver", "(IIII)Z"⟩ yX8_isOver cX8_isOver 5 (some .boolean) 4 := lkU_of q_491 q_494 q_493 q_492 q_13 q_512 q_512 q_492 ⟨by decide, by decide, by decide +kernel⟩ (by decide)
theorem lu_X4_101_X2 : LkU RX4 101 RX2 "StarCustody$Star" ⟨"StarCustody$Star", "isOver", "(IIII)Z"⟩ yX2_isOver cX2_isOver 5 (some .boolean) 4 := lkU_of q_491 q_494 q_503 q_504 q_14 q_505 q_512 q_492 ⟨by decide, by decide, by decide +kernel⟩ (by decide)
theorem lu_X4_101_X0 : LkU RX4 101 RX0 "StarCustody$Star" ⟨"StarCustody$Star", "isOver", "(IIII)Z"⟩ yX0_isOver cX0_isOver 5 (some .boolean) 4 := lkU_of q_491 q_494 q_495 q_496 q_15 q_497 q_512 q_492 ⟨by decide, by decide, by decide +kernel⟩ (by decide)
theorem lu_X4_101_X3 : LkU RX4 101 RX3 "StarCustody$Star" ⟨"StarCustody$Star", "isOver", "(IIII)Z"⟩ yX8_isOver cX8_isOver 5 (some .boolean) 4 := lkU_of q_491 q_494 q_506 q_492 q_13 q_512 q_512 q_492 ⟨by decide, by decide, by decide +kernel⟩ (by decide)
theorem lu_X4_101_X10 : LkU RX4 101 RX10 "StarCustody$Star" ⟨"StarCustody$Star", "isOver", "(IIII)Z"⟩ yX10_isOver cX10_isOver 5 (some .boolean) 4 := lkU_of q_491 q_494 q_508 q_509 q_17 q_510 q_512 q_492 ⟨by decide, by decide, by decide +kernel⟩ (by decide)
theorem lu_X4_101_X1 : LkU RX4 101 RX1 "StarCustody$Star" ⟨"StarCustody$Star", "isOver", "(IIII)Z"⟩ yX1_isOver cX1_isOver 5 (some .boolean) 4 := lkU_of q_491 q_494 q_499 q_500 q_18 q_501 q_512 q_492 ⟨by decide, by decide, by decide +kernel⟩ (by decide)
theorem lu_X4_101_X9 : LkU RX4 101 RX9 "StarCustody$Star" ⟨"StarCustody$Star", "isOver", "(IIII)Z"⟩ yX8_isOver cX8_isOver 5 (some .boolean) 4 := lkU_of q_491 q_494 q_507 q_492 q_13 q_512 q_512 q_492 ⟨by decide, by decide, by decide +kernel⟩ (by decide)
theorem lu_X4_120_X8 : LkU RX4 120 RX8 "StarCustody$Star" ⟨"StarCustody$Star", "worthBy", "(III)I"⟩ yX8_worthBy cX8_worthBy 4 (some .int) 3 := lkU_of q_535 q_538 q_537 q_536 q_13 q_560 q_560 q_536 ⟨by decide, by decide, by decide +kernel⟩ (by decide)
theorem lu_X4_120_X2 : LkU RX4 120 RX2 "StarCustody$Star" ⟨"StarCustody$Star", "worthBy", "(III)I"⟩ yX2_worthBy cX2_worthBy 4 (some .int) 3 := lkU_of q_535 q_538 q_546 q_547 q_14 q_548 q_560 q_536 ⟨by decide, by decide, by decide +kernel⟩ (by decide)
theorem lu_X4_120_X0 : LkU RX4 120 RX0 "StarCustody$Star" ⟨"StarCustody$Star", "worthBy", "(III)I"⟩ yX8_worthBy cX8_worthBy 4 (some .int) 3 := lkU_of q_535 q_538 q_539 q_536 q_13 q_560 q_560 q_536 ⟨by decide, by decide, by decide +kernel⟩ (by decide)
theorem lu_X4_120_X3 : LkU RX4 120 RX3 "StarCustody$Star" ⟨"StarCustody$Star", "worthBy", "(III)I"⟩ yX3_worthBy cX3_worthBy 4 (some .int) 3 := lkU_of q_535 q_538 q_549 q_550 q_16 q_551 q_560 q_536 ⟨by decide, by decide, by decide +kernel⟩ (by decide)
theorem lu_X4_120_X10 : LkU RX4 120 RX10 "StarCustody$Star" ⟨"StarCustody$Star", "worthBy", "(III)I"⟩ yX10_worthBy cX10_worthBy 4 (some .int) 3 := lkU_of q_535 q_538 q_556 q_557 q_17 q_558 q_560 q_536 ⟨by decide, by decide, by decide +kernel⟩ (by decide)
theorem lu_X4_120_X1 : LkU RX4 120 RX1 "StarCustody$Star" ⟨"StarCustody$Star", "worthBy", "(III)I"⟩ yX1_worthBy cX1_worthBy 4 (some .int) 3 := lkU_of q_535 q_538 q_540 q_541 q_18 q_542 q_560 q_536 ⟨by decide, by decide, by decide +kernel⟩ (by decide)
theorem lu_X4_120_X9 : LkU RX4 120 RX9 "StarCustody$Star" ⟨"StarCustody$Star", "worthBy", "(III)I"⟩ yX9_worthBy cX9_worthBy 4 (some .int) 3 := lkU_of q_535 q_538 q_552 q_553 q_19 q_554 q_560 q_536 ⟨by decide, by decide, by decide +kernel⟩ (by decide)
theorem lu_X11_285_X8 : LkU RX11 285 RX8 "StarCustody$Star" ⟨"StarCustody$Star", "isOver", "(IIII)Z"⟩ yX8_isOver cX8_isOver 5 (some .boolean) 4 := lkU_of q_681 q_494 q_493 q_492 q_13 q_512 q_512 q_492 ⟨by decide, by decide, by decide +kernel⟩ (by decide)
theorem lu_X11_285_X2 : LkU RX11 285 RX2 "StarCustody$Star" ⟨"StarCustody$Star", "isOver", "(IIII)Z"⟩ yX2_isOver cX2_isOver 5 (some .boolean) 4 := lkU_of q_681 q_494 q_503 q_504 q_14 q_505 q_512 q_492 ⟨by decide, by decide, by decide +kernel⟩ (by decide)
theorem lu_X11_285_X0 : LkU RX11 285 RX0 "StarCustody$Star" ⟨"StarCustody$Star", "isOver", "(IIII)Z"⟩ yX0_isOver cX0_isOver 5 (some .boolean) 4 := lkU_of q_681 q_494 q_495 q_496 q_15 q_497 q_512 q_492 ⟨by decide, by decide, by decide +kernel⟩ (by decide)
theorem lu_X11_285_X3 : LkU RX11 285 RX3 "StarCustody$Star" ⟨"StarCustody$Star", "isOver", "(IIII)Z"⟩ yX8_isOver cX8_isOver 5 (some .boolean) 4 := lkU_of q_681 q_494 q_506 q_492 q_13 q_512 q_512 q_492 ⟨by decide, by decide, by decide +kernel⟩ (by decide)
theorem lu_X11_285_X10 : LkU RX11 285 RX10 "StarCustody$Star" ⟨"StarCustody$Star", "isOver", "(IIII)Z"⟩ yX10_isOver cX10_isOver 5 (some .boolean) 4 := lkU_of q_681 q_494 q_508 q_509 q_17 q_510 q_512 q_492 ⟨by decide, by decide, by decide +kernel⟩ (by decide)
theorem lu_X11_285_X1 : LkU RX11 285 RX1 "StarCustody$Star" ⟨"StarCustody$Star", "isOver", "(IIII)Z"⟩ yX1_isOver cX1_isOver 5 (some .boolean) 4 := lkU_of q_681 q_494 q_499 q_500 q_18 q_501 q_512 q_492 ⟨by decide, by decide, by decide +kernel⟩ (by decide)
theorem lu_X11_285_X9 : LkU RX11 285 RX9 "StarCustody$Star" ⟨"StarCustody$Star", "isOver", "(IIII)Z"⟩ yX8_isOver cX8_isOver 5 (some .boolean) 4 := lkU_of q_681 q_494 q_507 q_492 q_13 q_512 q_512 q_492 ⟨by decide, by decide, by decide +kernel⟩ (by decide)
set_option maxHeartbeats 4000000 in
set_option maxRecDepth 100000 in
theorem c_X8_isOver (l : Launch) (g : Gp) (M : Mem) (o : Nat) (n w ro ph : Int32) : Met l yX8_isOver (wsM yX8_isOver cX8_isOver 5 (some .boolean)) (rmD 1 0 0) (Pre g M [.ref o, .int n, .int w, .int ro, .int ph]) (Qi g (fun r M1 => (fSt n ro ph) = r ∧ M = M1)) 0 0 (gF g) := M_start (by decide +kernel) (Nat.le_of_ble_eq_true rfl) fun p e s m args below meth c ls X hr hk hnm hM hl => by
  have X : Cx g p m c cX8_isOver 5 s args RX8 := X
  have hx := X.1.1
  have hb := X.1.2.1
  have hl : lv_has ls 5 [(0, .ref o), (1, .int n), (2, .int w), (3, .int ro), (4, .int ph)] := hl
  refine lv_iload_n hx hb dX8_isOver_0 rfl (lv_at hl 3 rfl) ?_
  refine lv_if_le (tgt := 17) hx hb dX8_isOver_1 (by decide) (fun c_1 => ?_) (fun c_1 => ?_)
  · skip
    refine lv_iconst (v := 0) hx hb dX8_isOver_17 (by decide) ?_
    exact R_z X hr hk (Or.inl rfl) hM ⟨(by simp [fSt, *]), rfl⟩ dX8_isOver_18
  · skip
    refine lv_iload_n hx hb dX8_isOver_4 rfl (lv_at hl 1 rfl) ?_
    refine lv_iload hx hb dX8_isOver_5 (lv_at hl 4 rfl) ?_
    refine lv_iadd hx hb dX8_isOver_7 ?_
    refine lv_iload_n hx hb dX8_isOver_8 rfl (lv_at hl 3 rfl) ?_
    refine l_irem hx hb dX8_isOver_9 (fun hz => by subst hz; exact absurd (by decide) c_1) ?_
    refine lv_if_ne (tgt := 17) hx hb dX8_isOver_10 (by decide) (fun c_2 => ?_) (fun c_2 => ?_)
    · skip
      refine lv_iconst (v := 0) hx hb dX8_isOver_17 (by decide) ?_
      exact R_z X hr hk (Or.inl rfl) hM ⟨(by simp [fSt, *]), rfl⟩ dX8_isOver_18
    · skip
      refine lv_iconst (v := 1) hx hb dX8_isOver_13 (by decide) ?_
      refine lv_goto (tgt := 18) hx hb dX8_isOver_14 (by decide) ?_
      exact R_z X hr hk (Or.inr rfl) hM ⟨(by simp [fSt, *]), rfl⟩ dX8_isOver_18
set_option maxHeartbeats 4000000 in
set_option maxRecDepth 100000 in
theorem c_X2_isOver (l : Launch) (g : Gp) (M : Mem) (o : Nat) (n w ro ph : Int32) : Met l yX2_isOver (wsM yX2_isOver cX2_isOver 5 (some .boolean)) (rmD 1 0 0) (Pre g M [.ref o, .int n, .int w, .int ro, .int ph]) (Qi g (fun r M1 => (fMo n ro ph) = r ∧ M = M1)) 0 0 (gF g) := M_start (by decide +kernel) (Nat.le_of_ble_eq_true rfl) fun p e s m args below meth c ls X hr hk hnm hM hl => by
  have X : Cx g p m c cX2_isOver 5 s args RX2 := X
  have hx := X.1.1
  have hb := X.1.2.1
  have hl : lv_has ls 5 [(0, .ref o), (1, .int n), (2, .int w), (3, .int ro), (4, .int ph)] := hl
  refine lv_iload_n hx hb dX2_isOver_0 rfl (lv_at hl 3 rfl) ?_
  refine lv_iconst (v := 1) hx hb dX2_isOver_1 (by decide) ?_
  refine lv_icmp_eq (tgt := 21) hx hb dX2_isOver_2 (by decide) (fun c_1 => ?_) (fun c_1 => ?_)
  · skip
    refine lv_iconst (v := 1) hx hb dX2_isOver_21 (by decide) ?_
    refine lv_goto (tgt := 26) hx hb dX2_isOver_22 (by decide) ?_
    exact R_z X hr hk (Or.inr rfl) hM ⟨(by simp [fMo, *]), rfl⟩ dX2_isOver_26
  · skip
    refine lv_iload_n hx hb dX2_isOver_5 rfl (lv_at hl 3 rfl) ?_
    refine lv_if_le (tgt := 25) hx hb dX2_isOver_6 (by decide) (fun c_2 => ?_) (fun c_2 => ?_)
    · skip
      refine lv_iconst (v := 0) hx hb dX2_isOver_25 (by decide) ?_
      exact R_z X hr hk (Or.inl rfl) hM ⟨(by simp [fMo, *]), rfl⟩ dX2_isOver_26
    · skip
      refine lv_iload_n hx hb dX2_isOver_9 rfl (lv_at hl 1 rfl) ?_
      refine lv_iload hx hb dX2_isOver_10 (lv_at hl 4 rfl) ?_
      refine lv_iadd hx hb dX2_isOver_12 ?_
      refine lv_iload_n hx hb dX2_isOver_13 rfl (lv_at hl 3 rfl) ?_
      refine l_irem hx hb dX2_isOver_14 (fun hz => by subst hz; exact absurd (by decide) c_2) ?_
      refine lv_iload_n hx hb dX2_isOver_15 rfl (lv_at hl 3 rfl) ?_
      refine lv_iconst (v := 2) hx hb dX2_isOver_16 (by decide) ?_
      refine lv_idiv hx hb dX2_isOver_17 (by decide) ?_
      refine lv_icmp_ge (tgt := 25) hx hb dX2_isOver_18 (by decide) (fun c_3 => ?_) (fun c_3 => ?_)
      · skip
        refine lv_iconst (v := 0) hx hb dX2_isOver_25 (by decide) ?_
        exact R_z X hr hk (Or.inl rfl) hM ⟨(by simp [fMo, *]), rfl⟩ dX2_isOver_26
      · skip
        refine lv_iconst (v := 1) hx hb dX2_isOver_21 (by decide) ?_
        refine lv_goto (tgt := 26) hx hb dX2_isOver_22 (by decide) ?_
        exact R_z X hr hk (Or.inr rfl) hM ⟨(by simp [fMo, *]), rfl⟩ dX2_isOver_26
set_option maxHeartbeats 4000000 in
set_option maxRecDepth 100000 in
theorem c_X0_isOver_k2 (l : Launch) (g : Gp) (M : Mem) (kk nu v : Int32) (o : Nat) (n w ro ph : Int32) (h_o : M o = some (starE2 g kk nu v)) : Met l yX0_isOver (wsM yX0_isOver cX0_isOver 5 (some .boolean)) (rmD 2 0 0) (Pre g M [.ref o, .int n, .int w, .int ro, .int ph]) (Qi g (fun r M1 => (fCo n w ro ph) = r ∧ M = M1)) 0 0 (gF g) := M_start (by decide +kernel) (Nat.le_of_ble_eq_true rfl) fun p e s m args below meth c ls X hr hk hnm hM hl => by
  have X : Cx g p m c cX0_isOver 5 s args RX0 := X
  have hx := X.1.1
  have hb := X.1.2.1
  have hl : lv_has ls 5 [(0, .ref o), (1, .int n), (2, .int w), (3, .int ro), (4, .int ph)] := hl
  refine lv_iload_n hx hb dX0_isOver_0 rfl (lv_at hl 1 rfl) ?_
  refine lv_bipush (v := 10) hx hb dX0_isOver_1 (by decide) ?_
  refine lv_iload_n hx hb dX0_isOver_3 rfl (lv_at hl 2 rfl) ?_
  refine lv_imul hx hb dX0_isOver_4 ?_
  refine lv_icmp_lt (tgt := 24) hx hb dX0_isOver_5 (by decide) (fun c_1 => ?_) (fun c_1 => ?_)
  · skip
    refine lv_iconst (v := 0) hx hb dX0_isOver_24 (by decide) ?_
    exact R_z X hr hk (Or.inl rfl) hM ⟨(by simp [fCo, *]), rfl⟩ dX0_isOver_25
  · skip
    refine lv_aload_n hx hb dX0_isOver_8 rfl (lv_at hl 0 rfl) ?_
    refine lv_iload_n hx hb dX0_isOver_9 rfl (lv_at hl 1 rfl) ?_
    refine lv_iload_n hx hb dX0_isOver_10 rfl (lv_at hl 2 rfl) ?_
    refine lv_iload_n hx hb dX0_isOver_11 rfl (lv_at hl 3 rfl) ?_
    refine lv_iload hx hb dX0_isOver_12 (lv_at hl 4 rfl) ?_
    refine K_i (G_X (As := [.int n, .int w, .int ro, .int ph]) (rest := []) X hM (c_X8_isOver l g _ o n w ro ph  ) lx_X0_7 h_o rfl rfl hl.1 rfl (Nat.le_of_ble_eq_true rfl) (by decide) dX0_isOver_14 ⟨Nat.le_of_ble_eq_true rfl, Nat.le_of_ble_eq_true rfl⟩) hM (fun r M1 H locs hM hp => ?_)
    obtain ⟨rfl, rfl⟩ := hp
    refine lv_if_eq (tgt := 24) hx hb dX0_isOver_17 (by decide) (fun c_2 => ?_) (fun c_2 => ?_)
    · skip
      refine lv_iconst (v := 0) hx hb dX0_isOver_24 (by decide) ?_
      exact R_z X hr hk (Or.inl rfl) hM ⟨(by simp [fCo, *]), rfl⟩ dX0_isOver_25
    · skip
      refine lv_iconst (v := 1) hx hb dX0_isOver_20 (by decide) ?_
      refine lv_goto (tgt := 25) hx hb dX0_isOver_21 (by decide) ?_
      exact R_z X hr hk (Or.inr rfl) hM ⟨(by simp [fCo, *]), rfl⟩ dX0_isOver_25
set_option maxHeartbeats 4000000 in
set_option maxRecDepth 100000 in
theorem c_X0_isOver_k5 (l : Launch) (g : Gp) (M : Mem) (kk nu v : Int32) (o : Nat) (n w ro ph : Int32) (h_o : M o = some (starE5 g kk nu v)) : Met l yX0_isOver (wsM yX0_isOver cX0_isOver 5 (some .boolean)) (rmD 2 0 0) (Pre g M [.ref o, .int n, .int w, .int ro, .int ph]) (Qi g (fun r M1 => (fCo n w ro ph) = r ∧ M = M1)) 0 0 (gF g) := M_start (by decide +kernel) (Nat.le_of_ble_eq_true rfl) fun p e s m args below meth c ls X hr hk hnm hM hl => by
  have X : Cx g p m c cX0_isOver 5 s args RX0 := X
  have hx := X.1.1
  have hb := X.1.2.1
  have hl : lv_has ls 5 [(0, .ref o), (1, .int n), (2, .int w), (3, .int ro), (4, .int ph)] := hl
  refine lv_iload_n hx hb dX0_isOver_0 rfl (lv_at hl 1 rfl) ?_
  refine lv_bipush (v := 10) hx hb dX0_isOver_1 (by decide) ?_
  refine lv_iload_n hx hb dX0_isOver_3 rfl (lv_at hl 2 rfl) ?_
  refine lv_imul hx hb dX0_isOver_4 ?_
  refine lv_icmp_lt (tgt := 24) hx hb dX0_isOver_5 (by decide) (fun c_1 => ?_) (fun c_1 => ?_)
  · skip
    refine lv_iconst (v := 0) hx hb dX0_isOver_24 (by decide) ?_
    exact R_z X hr hk (Or.inl rfl) hM ⟨(by simp [fCo, *]), rfl⟩ dX0_isOver_25
  · skip
    refine lv_aload_n hx hb dX0_isOver_8 rfl (lv_at hl 0 rfl) ?_
    refine lv_iload_n hx hb dX0_isOver_9 rfl (lv_at hl 1 rfl) ?_
    refine lv_iload_n hx hb dX0_isOver_10 rfl (lv_at hl 2 rfl) ?_
    refine lv_iload_n hx hb dX0_isOver_11 rfl (lv_at hl 3 rfl) ?_
    refine lv_iload hx hb dX0_isOver_12 (lv_at hl 4 rfl) ?_
    refine K_i (G_X (As := [.int n, .int w, .int ro, .int ph]) (rest := []) X hM (c_X8_isOver l g _ o n w ro ph  ) lx_X0_7 h_o rfl rfl hl.1 rfl (Nat.le_of_ble_eq_true rfl) (by decide) dX0_isOver_14 ⟨Nat.le_of_ble_eq_true rfl, Nat.le_of_ble_eq_true rfl⟩) hM (fun r M1 H locs hM hp => ?_)
    obtain ⟨rfl, rfl⟩ := hp
    refine lv_if_eq (tgt := 24) hx hb dX0_isOver_17 (by decide) (fun c_2 => ?_) (fun c_2 => ?_)
    · skip
      refine lv_iconst (v := 0) hx hb dX0_isOver_24 (by decide) ?_
      exact R_z X hr hk (Or.inl rfl) hM ⟨(by simp [fCo, *]), rfl⟩ dX0_isOver_25
    · skip
      refine lv_iconst (v := 1) hx hb dX0_isOver_20 (by decide) ?_
      refine lv_goto (tgt := 25) hx hb dX0_isOver_21 (by decide) ?_
      exact R_z X hr hk (Or.inr rfl) hM ⟨(by simp [fCo, *]), rfl⟩ dX0_isOver_25
set_option maxHeartbeats 4000000 in
set_option maxRecDepth 100000 in
theorem c_X1_isOver_k5 (l : Launch) (g : Gp) (M : Mem) (kk nu v : Int32) (o : Nat) (n w ro ph : Int32) (h_o : M o = some (starE5 g kk nu v)) : Met l yX1_isOver (wsM yX1_isOver cX1_isOver 5 (some .boolean)) (rmD 3 0 0) (Pre g M [.ref o, .int n, .int w, .int ro, .int ph]) (Qi g (fun r M1 => (fGu n w ro ph) = r ∧ M = M1)) 0 0 (gF g) := M_start (by decide +kernel) (Nat.le_of_ble_eq_true rfl) fun p e s m args below meth c ls X hr hk hnm hM hl => by
  have X : Cx g p m c cX1_isOver 5 s args RX1 := X
  have hx := X.1.1
  have hb := X.1.2.1
  have hl : lv_has ls 5 [(0, .ref o), (1, .int n), (2, .int w), (3, .int ro), (4, .int ph)] := hl
  refine lv_iload_n hx hb dX1_isOver_0 rfl (lv_at hl 1 rfl) ?_
  refine lv_bipush (v := 7) hx hb dX1_isOver_1 (by decide) ?_
  refine l_irem hx hb dX1_isOver_3 (by decide) ?_
  refine lv_if_eq (tgt := 23) hx hb dX1_isOver_4 (by decide) (fun c_1 => ?_) (fun c_1 => ?_)
  · skip
    refine lv_iconst (v := 0) hx hb dX1_isOver_23 (by decide) ?_
    exact R_z X hr hk (Or.inl rfl) hM ⟨(by simp [fGu, *]), rfl⟩ dX1_isOver_24
  · skip
    refine lv_aload_n hx hb dX1_isOver_7 rfl (lv_at hl 0 rfl) ?_
    refine lv_iload_n hx hb dX1_isOver_8 rfl (lv_at hl 1 rfl) ?_
    refine lv_iload_n hx hb dX1_isOver_9 rfl (lv_at hl 2 rfl) ?_
    refine lv_iload_n hx hb dX1_isOver_10 rfl (lv_at hl 3 rfl) ?_
    refine lv_iload hx hb dX1_isOver_11 (lv_at hl 4 rfl) ?_
    refine K_i (G_X (As := [.int n, .int w, .int ro, .int ph]) (rest := []) X hM (c_X0_isOver_k5 l g _ kk nu v o n w ro ph h_o ) lx_X1_7 h_o rfl rfl hl.1 rfl (Nat.le_of_ble_eq_true rfl) (by decide) dX1_isOver_13 ⟨Nat.le_of_ble_eq_true rfl, Nat.le_of_ble_eq_true rfl⟩) hM (fun r M1 H locs hM hp => ?_)
    obtain ⟨rfl, rfl⟩ := hp
    refine lv_if_eq (tgt := 23) hx hb dX1_isOver_16 (by decide) (fun c_2 => ?_) (fun c_2 => ?_)
    · skip
      refine lv_iconst (v := 0) hx hb dX1_isOver_23 (by decide) ?_
      exact R_z X hr hk (Or.inl rfl) hM ⟨(by simp [fGu, *]), rfl⟩ dX1_isOver_24
    · skip
      refine lv_iconst (v := 1) hx hb dX1_isOver_19 (by decide) ?_
      refine lv_goto (tgt := 24) hx hb dX1_isOver_20 (by decide) ?_
      exact R_z X hr hk (Or.inr rfl) hM ⟨(by simp [fGu, *]), rfl⟩ dX1_isOver_24
set_option maxHeartbeats 4000000 in
set_option maxRecDepth 100000 in
theorem c_X10_isOver_k4 (l : Launch) (g : Gp) (M : Mem) (kk nu v : Int32) (o : Nat) (n w ro ph : Int32) (h_o : M o = some (starE4 g kk nu v)) : Met l yX10_isOver (wsM yX10_isOver cX10_isOver 5 (some .boolean)) (rmD 2 0 0) (Pre g M [.ref o, .int n, .int w, .int ro, .int ph]) (Qi g (fun r M1 => (fTw n ro ph) = r ∧ M = M1)) 0 0 (gF g) := M_start (by decide +kernel) (Nat.le_of_ble_eq_true rfl) fun p e s m args below meth c ls X hr hk hnm hM hl => by
  have X : Cx g p m c cX10_isOver 5 s args RX10 := X
  have hx := X.1.1
  have hb := X.1.2.1
  have hl : lv_has ls 5 [(0, .ref o), (1, .int n), (2, .int w), (3, .int ro), (4, .int ph)] := hl
  refine lv_aload_n hx hb dX10_isOver_0 rfl (lv_at hl 0 rfl) ?_
  refine lv_iload_n hx hb dX10_isOver_1 rfl (lv_at hl 1 rfl) ?_
  refine lv_iload_n hx hb dX10_isOver_2 rfl (lv_at hl 2 rfl) ?_
  refine lv_iload_n hx hb dX10_isOver_3 rfl (lv_at hl 3 rfl) ?_
  refine lv_iload hx hb dX10_isOver_4 (lv_at hl 4 rfl) ?_
  refine K_i (G_X (As := [.int n, .int w, .int ro, .int ph]) (rest := []) X hM (c_X2_isOver l g _ o n w ro ph  ) lx_X10_7 h_o rfl rfl hl.1 rfl (Nat.le_of_ble_eq_true rfl) (by decide) dX10_isOver_6 ⟨Nat.le_of_ble_eq_true rfl, Nat.le_of_ble_eq_true rfl⟩) hM (fun r M1 H locs hM hp => ?_)
  obtain ⟨rfl, rfl⟩ := hp
  refine lv_if_ne (tgt := 25) hx hb dX10_isOver_9 (by decide) (fun c_1 => ?_) (fun c_1 => ?_)
  · skip
    refine lv_iconst (v := 1) hx hb dX10_isOver_25 (by decide) ?_
    refine lv_goto (tgt := 30) hx hb dX10_isOver_26 (by decide) ?_
    exact R_z X hr hk (Or.inr rfl) hM ⟨(by simp [fTw, fSt, *]), rfl⟩ dX10_isOver_30
  · skip
    refine lv_iload_n hx hb dX10_isOver_12 rfl (lv_at hl 3 rfl) ?_
    refine lv_if_le (tgt := 29) hx hb dX10_isOver_13 (by decide) (fun c_2 => ?_) (fun c_2 => ?_)
    · skip
      refine lv_iconst (v := 0) hx hb dX10_isOver_29 (by decide) ?_
      exact R_z X hr hk (Or.inl rfl) hM ⟨(by simp [fTw, fSt, *]), rfl⟩ dX10_isOver_30
    · skip
      refine lv_iload_n hx hb dX10_isOver_16 rfl (lv_at hl 1 rfl) ?_
      refine lv_iload hx hb dX10_isOver_17 (lv_at hl 4 rfl) ?_
      refine lv_iadd hx hb dX10_isOver_19 ?_
      refine lv_iload_n hx hb dX10_isOver_20 rfl (lv_at hl 3 rfl) ?_
      refine l_irem hx hb dX10_isOver_21 (fun hz => by subst hz; exact absurd (by decide) c_2) ?_
      refine lv_if_ne (tgt := 29) hx hb dX10_isOver_22 (by decide) (fun c_3 => ?_) (fun c_3 => ?_)
      · skip
        refine lv_iconst (v := 0) hx hb dX10_isOver_29 (by decide) ?_
        exact R_z X hr hk (Or.inl rfl) hM ⟨(by simp [fTw, fSt, *]), rfl⟩ dX10_isOver_30
      · skip
        refine lv_iconst (v := 1) hx hb dX10_isOver_25 (by decide) ?_
        refine lv_goto (tgt := 30) hx hb dX10_isOver_26 (by decide) ?_
        exact R_z X hr hk (Or.inr rfl) hM ⟨(by simp [fTw, fSt, *]), rfl⟩ dX10_isOver_30
set_option maxHeartbeats 4000000 in
set_option maxRecDepth 100000 in
theorem c_X8_worthBy (l : Launch) (g : Gp) (M : Mem) (o : Nat) (b ho t : Int32) : Met l yX8_worthBy (wsM yX8_worthBy cX8_worthBy 4 (some .int)) (rmD 1 0 0) (Pre g M [.ref o, .int b, .int ho, .int t]) (Qi g (fun r M1 => (5 + b) = r ∧ M = M1)) 0 0 (gF g) := M_start (by decide +kernel) (Nat.le_of_ble_eq_true rfl) fun p e s m args below meth c ls X hr hk hnm hM hl => by
  have X : Cx g p m c cX8_worthBy 4 s args RX8 := X
  have hx := X.1.1
  have hb := X.1.2.1
  have hl : lv_has ls 4 [(0, .ref o), (1, .int b), (2, .int ho), (3, .int t)] := hl
  refine lv_iconst (v := 5) hx hb dX8_worthBy_0 (by decide) ?_
  refine lv_iload_n hx hb dX8_worthBy_1 rfl (lv_at hl 1 rfl) ?_
  refine lv_iadd hx hb dX8_worthBy_2 ?_
  exact R_i X hr hk hM ⟨rfl, rfl⟩ dX8_worthBy_3
set_option maxHeartbeats 4000000 in
set_option maxRecDepth 100000 in
theorem c_X2_worthBy (l : Launch) (g : Gp) (M : Mem) (o : Nat) (b ho t : Int32) : Met l yX2_worthBy (wsM yX2_worthBy cX2_worthBy 4 (some .int)) (rmD 1 0 0) (Pre g M [.ref o, .int b, .int ho, .int t]) (Qi g (fun r M1 => (2 + b) = r ∧ M = M1)) 0 0 (gF g) := M_start (by decide +kernel) (Nat.le_of_ble_eq_true rfl) fun p e s m args below meth c ls X hr hk hnm hM hl => by
  have X : Cx g p m c cX2_worthBy 4 s args RX2 := X
  have hx := X.1.1
  have hb := X.1.2.1
  have hl : lv_has ls 4 [(0, .ref o), (1, .int b), (2, .int ho), (3, .int t)] := hl
  refine lv_iconst (v := 2) hx hb dX2_worthBy_0 (by decide) ?_
  refine lv_iload_n hx hb dX2_worthBy_1 rfl (lv_at hl 1 rfl) ?_
  refine lv_iadd hx hb dX2_worthBy_2 ?_
  exact R_i X hr hk hM ⟨rfl, rfl⟩ dX2_worthBy_3
set_option maxHeartbeats 4000000 in
set_option maxRecDepth 100000 in
theorem c_X3_worthBy_k3 (l : Launch) (g : Gp) (M : Mem) (kk nu v : Int32) (o : Nat) (b ho t : Int32) (h_o : M o = some (starE3 g kk nu v)) : Met l yX3_worthBy (wsM yX3_worthBy cX3_worthBy 4 (some .int)) (rmD 1 0 0) (Pre g M [.ref o, .int b, .int ho, .int t]) (Qi g (fun r M1 => (b + v) = r ∧ M = M1)) 0 0 (gF g) := M_start (by decide +kernel) (Nat.le_of_ble_eq_true rfl) fun p e s m args below meth c ls X hr hk hnm hM hl => by
  have X : Cx g p m c cX3_worthBy 4 s args RX3 := X
  have hx := X.1.1
  have hb := X.1.2.1
  have hl : lv_has ls 4 [(0, .ref o), (1, .int b), (2, .int ho), (3, .int t)] := hl
  refine lv_iload_n hx hb dX3_worthBy_0 rfl (lv_at hl 1 rfl) ?_
  refine lv_aload_n hx hb dX3_worthBy_1 rfl (lv_at hl 0 rfl) ?_
  refine r_get (T := TX3) (N := 4) (ci := 3) (v := .int v) X hM iX3 rfl 2 (by decide) q_373 (Or.inr q_374) h_o rfl dX3_worthBy_2 ?_
  refine lv_iadd hx hb dX3_worthBy_5 ?_
  exact R_i X hr hk hM ⟨rfl, rfl⟩ dX3_worthBy_6
set_option maxHeartbeats 4000000 in
set_option maxRecDepth 100000 in
theorem c_X3_worthBy_k6 (l : Launch) (g : Gp) (M : Mem) (kk nu v : Int32) (o : Nat) (b ho t : Int32) (h_o : M o = some (starE6 g kk nu v)) : Met l yX3_worthBy (wsM yX3_worthBy cX3_worthBy 4 (some .int)) (rmD 1 0 0) (Pre g M [.ref o, .int b, .int ho, .int t]) (Qi g (fun r M1 => (b + v) = r ∧ M = M1)) 0 0 (gF g) := M_start (by decide +kernel) (Nat.le_of_ble_eq_true rfl) fun p e s m args below meth c ls X hr hk hnm hM hl => by
  have X : Cx g p m c cX3_worthBy 4 s args RX3 := X
  have hx := X.1.1
  have hb := X.1.2.1
  have hl : lv_has ls 4 [(0, .ref o), (1, .int b), (2, .int ho), (3, .int t)] := hl
  refine lv_iload_n hx hb dX3_worthBy_0 rfl (lv_at hl 1 rfl) ?_
  refine lv_aload_n hx hb dX3_worthBy_1 rfl (lv_at hl 0 rfl) ?_
  refine r_get (T := TX9) (N := 4) (ci := 9) (v := .int v) X hM iX9 rfl 2 (by decide) q_373 (Or.inr q_374) h_o rfl dX3_worthBy_2 ?_
  refine lv_iadd hx hb dX3_worthBy_5 ?_
  exact R_i X hr hk hM ⟨rfl, rfl⟩ dX3_worthBy_6
set_option maxHeartbeats 4000000 in
set_option maxRecDepth 100000 in
theorem c_X10_worthBy_k4 (l : Launch) (g : Gp) (M : Mem) (kk nu v : Int32) (o : Nat) (b ho t : Int32) (h_o : M o = some (starE4 g kk nu v)) : Met l yX10_worthBy (wsM yX10_worthBy cX10_worthBy 4 (some .int)) (rmD 2 0 0) (Pre g M [.ref o, .int b, .int ho, .int t]) (Qi g (fun r M1 => ((2 + b) * 2) = r ∧ M = M1)) 0 0 (gF g) := M_start (by decide +kernel) (Nat.le_of_ble_eq_true rfl) fun p e s m args below meth c ls X hr hk hnm hM hl => by
  have X : Cx g p m c cX10_worthBy 4 s args RX10 := X
  have hx := X.1.1
  have hb := X.1.2.1
  have hl : lv_has ls 4 [(0, .ref o), (1, .int b), (2, .int ho), (3, .int t)] := hl
  refine lv_aload_n hx hb dX10_worthBy_0 rfl (lv_at hl 0 rfl) ?_
  refine lv_iload_n hx hb dX10_worthBy_1 rfl (lv_at hl 1 rfl) ?_
  refine lv_iload_n hx hb dX10_worthBy_2 rfl (lv_at hl 2 rfl) ?_
  refine lv_iload_n hx hb dX10_worthBy_3 rfl (lv_at hl 3 rfl) ?_
  refine K_i (G_X (As := [.int b, .int ho, .int t]) (rest := []) X hM (c_X2_worthBy l g _ o b ho t  ) lx_X10_11 h_o rfl rfl hl.1 rfl (Nat.le_of_ble_eq_true rfl) (by decide) dX10_worthBy_4 ⟨Nat.le_of_ble_eq_true rfl, Nat.le_of_ble_eq_true rfl⟩) hM (fun r M1 H locs hM hp => ?_)
  obtain ⟨rfl, rfl⟩ := hp
  refine lv_iconst (v := 2) hx hb dX10_worthBy_7 (by decide) ?_
  refine lv_imul hx hb dX10_worthBy_8 ?_
  exact R_i X hr hk hM ⟨rfl, rfl⟩ dX10_worthBy_9
set_option maxHeartbeats 4000000 in
set_option maxRecDepth 100000 in
theorem c_X1_worthBy_k5 (l : Launch) (g : Gp) (M : Mem) (kk nu v : Int32) (o : Nat) (b ho t : Int32) (h_o : M o = some (starE5 g kk nu v)) : Met l yX1_worthBy (wsM yX1_worthBy cX1_worthBy 4 (some .int)) (rmD 2 0 0) (Pre g M [.ref o, .int b, .int ho, .int t]) (Qi g (fun r M1 => (5 + b + (if ho = 1 then v else 0)) = r ∧ M = M1)) 0 0 (gF g) := M_start (by decide +kernel) (Nat.le_of_ble_eq_true rfl) fun p e s m args below meth c ls X hr hk hnm hM hl => by
  have X : Cx g p m c cX1_worthBy 4 s args RX1 := X
  have hx := X.1.1
  have hb := X.1.2.1
  have hl : lv_has ls 4 [(0, .ref o), (1, .int b), (2, .int ho), (3, .int t)] := hl
  refine lv_aload_n hx hb dX1_worthBy_0 rfl (lv_at hl 0 rfl) ?_
  refine lv_iload_n hx hb dX1_worthBy_1 rfl (lv_at hl 1 rfl) ?_
  refine lv_iload_n hx hb dX1_worthBy_2 rfl (lv_at hl 2 rfl) ?_
  refine lv_iload_n hx hb dX1_worthBy_3 rfl (lv_at hl 3 rfl) ?_
  refine K_i (G_X (As := [.int b, .int ho, .int t]) (rest := []) X hM (c_X8_worthBy l g _ o b ho t  ) lx_X1_11 h_o rfl rfl hl.1 rfl (Nat.le_of_ble_eq_true rfl) (by decide) dX1_worthBy_4 ⟨Nat.le_of_ble_eq_true rfl, Nat.le_of_ble_eq_true rfl⟩) hM (fun r M1 H locs hM hp => ?_)
  obtain ⟨rfl, rfl⟩ := hp
  refine lv_iload_n hx hb dX1_worthBy_7 rfl (lv_at hl 2 rfl) ?_
  refine lv_iconst (v := 1) hx hb dX1_worthBy_8 (by decide) ?_
  refine lv_icmp_ne (tgt := 19) hx hb dX1_worthBy_9 (by decide) (fun c_1 => ?_) (fun c_1 => ?_)
  · skip
    refine lv_iconst (v := 0) hx hb dX1_worthBy_19 (by decide) ?_
    refine lv_iadd hx hb dX1_worthBy_20 ?_
    exact R_i X hr hk hM ⟨(by simp [*]), rfl⟩ dX1_worthBy_21
  · skip
    refine lv_aload_n hx hb dX1_worthBy_12 rfl (lv_at hl 0 rfl) ?_
    refine r_get (T := TX1) (N := 4) (ci := 1) (v := .int v) X hM iX1 rfl 2 (by decide) q_375 (Or.inr q_376) h_o rfl dX1_worthBy_13 ?_
    refine lv_goto (tgt := 20) hx hb dX1_worthBy_16 (by decide) ?_
    refine lv_iadd hx hb dX1_worthBy_20 ?_
    exact R_i X hr hk hM ⟨(by simp [*]), rfl⟩ dX1_worthBy_21
set_option maxHeartbeats 4000000 in
set_option maxRecDepth 100000 in
theorem c_X9_worthBy_k6 (l : Launch) (g : Gp) (M : Mem) (kk nu v : Int32) (o : Nat) (b ho t : Int32) (h_o : M o = some (starE6 g kk nu v)) : Met l yX9_worthBy (wsM yX9_worthBy cX9_worthBy 4 (some .int)) (rmD 2 0 0) (Pre g M [.ref o, .int b, .int ho, .int t]) (Qi g (fun r M1 => (b + v + t) = r ∧ M = M1)) 0 0 (gF g) := M_start (by decide +kernel) (Nat.le_of_ble_eq_true rfl) fun p e s m args below meth c ls X hr hk hnm hM hl => by
  have X : Cx g p m c cX9_worthBy 4 s args RX9 := X
  have hx := X.1.1
  have hb := X.1.2.1
  have hl : lv_has ls 4 [(0, .ref o), (1, .int b), (2, .int ho), (3, .int t)] := hl
  refine lv_aload_n hx hb dX9_worthBy_0 rfl (lv_at hl 0 rfl) ?_
  refine lv_iload_n hx hb dX9_worthBy_1 rfl (lv_at hl 1 rfl) ?_
  refine lv_iload_n hx hb dX9_worthBy_2 rfl (lv_at hl 2 rfl) ?_
  refine lv_iload_n hx hb dX9_worthBy_3 rfl (lv_at hl 3 rfl) ?_
  refine K_i (G_X (As := [.int b, .int ho, .int t]) (rest := []) X hM (c_X3_worthBy_k6 l g _ kk nu v o b ho t h_o ) lx_X9_7 h_o rfl rfl hl.1 rfl (Nat.le_of_ble_eq_true rfl) (by decide) dX9_worthBy_4 ⟨Nat.le_of_ble_eq_true rfl, Nat.le_of_ble_eq_true rfl⟩) hM (fun r M1 H locs hM hp => ?_)
  obtain ⟨rfl, rfl⟩ := hp
  refine lv_iload_n hx hb dX9_worthBy_7 rfl (lv_at hl 3 rfl) ?_
  refine lv_iadd hx hb dX9_worthBy_8 ?_
  exact R_i X hr hk hM ⟨rfl, rfl⟩ dX9_worthBy_9
set_option maxHeartbeats 1000000 in
theorem vr_isOver_X4 {g : Gp} {p : Program} {l : Launch} {e : Env} {s : State} {m : MethodId} {args : Array Value} {below : List Frame} {meth : Method} {c : Code} {H : Heap} {locs : List Loc} {cells slots : Nat} {cc : ByteArray} {nL : Nat} {M : Mem} {pc : Nat} {ls : Array Slot} {rest : List Value} {o kd d mcR msR : Nat} {nu v n w ro ph : Int32} (X : Cx g p m c cc nL s args RX4) (hM : MW g M H locs) (he : M o = some (starC g kd nu v)) (hkd : kd ≤ 6) (hls : ls.size = nL) (hW : (rest.map fun v => v.category).sum ≤ 8) (hd : 4 ≤ d) (hdg : decode cc pc = .ok (.invokevirtual 101, 3)) (hf : cells ≤ mcR ∧ slots ≤ msR) : va_Run p l e (rmD d mcR msR) s m args below meth c H locs cells slots 0 0 (F0 m pc ls (.int ph :: .int ro :: .int w :: .int n :: .ref o :: rest)) rest (Qi g (fun r M1 => fOver kd n w ro ph = r ∧ M = M1) #[.ref o, .int n, .int w, .int ro, .int ph]) (gF g) := by
  rcases (show kd = 0 ∨ kd = 1 ∨ kd = 2 ∨ kd = 3 ∨ kd = 4 ∨ kd = 5 ∨ kd = 6 by omega) with rfl | rfl | rfl | rfl | rfl | rfl | rfl
  · exact G_U (As := [.int n, .int w, .int ro, .int ph]) X hM (c_X8_isOver l g M o n w ro ph) lu_X4_101_X8 he rfl rfl hls rfl hW (by omega) hdg hf
  · exact G_U (As := [.int n, .int w, .int ro, .int ph]) X hM (c_X2_isOver l g M o n w ro ph) lu_X4_101_X2 he rfl rfl hls rfl hW (by omega) hdg hf
  · exact G_U (As := [.int n, .int w, .int ro, .int ph]) X hM (c_X0_isOver_k2 l g M (nI 2) nu v o n w ro ph he) lu_X4_101_X0 he rfl rfl hls rfl hW (by omega) hdg hf
  · exact G_U (As := [.int n, .int w, .int ro, .int ph]) X hM (c_X8_isOver l g M o n w ro ph) lu_X4_101_X3 he rfl rfl hls rfl hW (by omega) hdg hf
  · exact G_U (As := [.int n, .int w, .int ro, .int ph]) X hM (c_X10_isOver_k4 l g M (nI 4) nu v o n w ro ph he) lu_X4_101_X10 he rfl rfl hls rfl hW (by omega) hdg hf
  · exact G_U (As := [.int n, .int w, .int ro, .int ph]) X hM (c_X1_isOver_k5 l g M (nI 5) nu v o n w ro ph he) lu_X4_101_X1 he rfl rfl hls rfl hW (by omega) hdg hf
  · exact G_U (As := [.int n, .int w, .int ro, .int ph]) X hM (c_X8_isOver l g M o n w ro ph) lu_X4_101_X9 he rfl rfl hls rfl hW (by omega) hdg hf
set_option maxHeartbeats 1000000 in
theorem vr_worthBy_X4 {g : Gp} {p : Program} {l : Launch} {e : Env} {s : State} {m : MethodId} {args : Array Value} {below : List Frame} {meth : Method} {c : Code} {H : Heap} {locs : List Loc} {cells slots : Nat} {cc : ByteArray} {nL : Nat} {M : Mem} {pc : Nat} {ls : Array Slot} {rest : List Value} {o kd d mcR msR : Nat} {nu v b ho t : Int32} (X : Cx g p m c cc nL s args RX4) (hM : MW g M H locs) (he : M o = some (starC g kd nu v)) (hkd : kd ≤ 6) (hls : ls.size = nL) (hW : (rest.map fun v => v.category).sum ≤ 8) (hd : 3 ≤ d) (hdg : decode cc pc = .ok (.invokevirtual 120, 3)) (hf : cells ≤ mcR ∧ slots ≤ msR) : va_Run p l e (rmD d mcR msR) s m args below meth c H locs cells slots 0 0 (F0 m pc ls (.int t :: .int ho :: .int b :: .ref o :: rest)) rest (Qi g (fun r M1 => fWorth kd v b ho t = r ∧ M = M1) #[.ref o, .int b, .int ho, .int t]) (gF g) := by
  rcases (show kd = 0 ∨ kd = 1 ∨ kd = 2 ∨ kd = 3 ∨ kd = 4 ∨ kd = 5 ∨ kd = 6 by omega) with rfl | rfl | rfl | rfl | rfl | rfl | rfl
  · exact G_U (As := [.int b, .int ho, .int t]) X hM (c_X8_worthBy l g M o b ho t) lu_X4_120_X8 he rfl rfl hls rfl hW (by omega) hdg hf
  · exact G_U (As := [.int b, .int ho, .int t]) X hM (c_X2_worthBy l g M o b ho t) lu_X4_120_X2 he rfl rfl hls rfl hW (by omega) hdg hf
  · exact G_U (As := [.int b, .int ho, .int t]) X hM (c_X8_worthBy l g M o b ho t) lu_X4_120_X0 he rfl rfl hls rfl hW (by omega) hdg hf
  · exact G_U (As := [.int b, .int ho, .int t]) X hM (c_X3_worthBy_k3 l g M (nI 3) nu v o b ho t he) lu_X4_120_X3 he rfl rfl hls rfl hW (by omega) hdg hf
  · exact G_U (As := [.int b, .int ho, .int t]) X hM (c_X10_worthBy_k4 l g M (nI 4) nu v o b ho t he) lu_X4_120_X10 he rfl rfl hls rfl hW (by omega) hdg hf
  · exact G_U (As := [.int b, .int ho, .int t]) X hM (c_X1_worthBy_k5 l g M (nI 5) nu v o b ho t he) lu_X4_120_X1 he rfl rfl hls rfl hW (by omega) hdg hf
  · exact G_U (As := [.int b, .int ho, .int t]) X hM (c_X9_worthBy_k6 l g M (nI 6) nu v o b ho t he) lu_X4_120_X9 he rfl rfl hls rfl hW (by omega) hdg hf
set_option maxHeartbeats 1000000 in
theorem vr_isOver_X11 {g : Gp} {p : Program} {l : Launch} {e : Env} {s : State} {m : MethodId} {args : Array Value} {below : List Frame} {meth : Method} {c : Code} {H : Heap} {locs : List Loc} {cells slots : Nat} {cc : ByteArray} {nL : Nat} {M : Mem} {pc : Nat} {ls : Array Slot} {rest : List Value} {o kd d mcR msR : Nat} {nu v n w ro ph : Int32} (X : Cx g p m c cc nL s args RX11) (hM : MW g M H locs) (he : M o = some (starC g kd nu v)) (hkd : kd ≤ 6) (hls : ls.size = nL) (hW : (rest.map fun v => v.category).sum ≤ 8) (hd : 4 ≤ d) (hdg : decode cc pc = .ok (.invokevirtual 285, 3)) (hf : cells ≤ mcR ∧ slots ≤ msR) : va_Run p l e (rmD d mcR msR) s m args below meth c H locs cells slots 0 0 (F0 m pc ls (.int ph :: .int ro :: .int w :: .int n :: .ref o :: rest)) rest (Qi g (fun r M1 => fOver kd n w ro ph = r ∧ M = M1) #[.ref o, .int n, .int w, .int ro, .int ph]) (gF g) := by
  rcases (show kd = 0 ∨ kd = 1 ∨ kd = 2 ∨ kd = 3 ∨ kd = 4 ∨ kd = 5 ∨ kd = 6 by omega) with rfl | rfl | rfl | rfl | rfl | rfl | rfl
  · exact G_U (As := [.int n, .int w, .int ro, .int ph]) X hM (c_X8_isOver l g M o n w ro ph) lu_X11_285_X8 he rfl rfl hls rfl hW (by omega) hdg hf
  · exact G_U (As := [.int n, .int w, .int ro, .int ph]) X hM (c_X2_isOver l g M o n w ro ph) lu_X11_285_X2 he rfl rfl hls rfl hW (by omega) hdg hf
  · exact G_U (As := [.int n, .int w, .int ro, .int ph]) X hM (c_X0_isOver_k2 l g M (nI 2) nu v o n w ro ph he) lu_X11_285_X0 he rfl rfl hls rfl hW (by omega) hdg hf
  · exact G_U (As := [.int n, .int w, .int ro, .int ph]) X hM (c_X8_isOver l g M o n w ro ph) lu_X11_285_X3 he rfl rfl hls rfl hW (by omega) hdg hf
  · exact G_U (As := [.int n, .int w, .int ro, .int ph]) X hM (c_X10_isOver_k4 l g M (nI 4) nu v o n w ro ph he) lu_X11_285_X10 he rfl rfl hls rfl hW (by omega) hdg hf
  · exact G_U (As := [.int n, .int w, .int ro, .int ph]) X hM (c_X1_isOver_k5 l g M (nI 5) nu v o n w ro ph he) lu_X11_285_X1 he rfl rfl hls rfl hW (by omega) hdg hf
  · exact G_U (As := [.int n, .int w, .int ro, .int ph]) X hM (c_X8_isOver l g M o n w ro ph) lu_X11_285_X9 he rfl rfl hls rfl hW (by omega) hdg hf
