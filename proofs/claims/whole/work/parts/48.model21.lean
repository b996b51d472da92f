def mNoS (f : Nat → Int32) (j t i : Nat) (z : Int32) : Int32 := if z = 0 then 0 else if f (64 + i) = nI j then (if mUp f j (nI t + f (70 + i)) = (if f (76 + i) = 1 then 1 else 0) then 1 else 0) else 1
def mNo (f : Nat → Int32) (j t : Nat) : Nat → Int32
  | 0 => 1
  | i + 1 => mNoS f j t i (mNo f j t i)
theorem mNo_01 (f : Nat → Int32) (j t : Nat) : ∀ i, mNo f j t i = 0 ∨ mNo f j t i = 1 := fun i => by
  cases i with
  | zero => exact Or.inr rfl
  | succ i =>
    show mNoS f j t i (mNo f j t i) = 0 ∨ mNoS f j t i (mNo f j t i) = 1
    unfold mNoS
    repeat' split
    all_goals first | exact Or.inl rfl | exact Or.inr rfl
theorem upd_id {f : Nat → Int32} {a : Nat} {x : Int32} (h : f a = x) : upd f a x = f := by
  funext q
  unfold upd
  by_cases k : q = a
  · rw [if_pos k, k, h]
  · rw [if_neg k]
def mFi (f : Nat → Int32) (w j t nn mo : Nat) : Nat → Int32 × Int32
  | 0 => (0, -5)
  | i + 1 => if mNo (upd f w (nI (mo - i))) j t nn = 0 then mFi f w j t nn mo i else ((mFi f w j t nn mo i).1 + 1, nI (mo - i))
def mFit (f : Nat → Int32) (w j t nn le mo : Nat) (x : Int32) : Int32 := if x = 0 then (mFi f w j t nn mo (mo + 1 - le)).1 else (mFi f w j t nn mo (mo + 1 - le)).2
theorem fit_hr {f : Nat → Int32} {w j v : Nat} (h : ¬ f (28 + j) = 0) (hw : w = 28 + j → 1 ≤ v) (hv : v < 100) : ¬ upd f w (nI v) (28 + j) = 0 := by
  by_cases k : w = 28 + j
  · subst k
    rw [upd_eq]
    exact nI_ne0 (hw rfl) (by omega)
  · rw [upd_ne (fun q => k q.symm)]
    exact h
theorem i32_am1 (x : Int32) : x + (-1) = x - 1 := Int32.toBitVec_inj.mp (by simp [BitVec.sub_eq_add_neg])
theorem nI_vm {mo i : Nat} (h : i ≤ mo) : nI (mo + 1 - i) - 1 = nI (mo - i) := by
  rw [show mo + 1 - i = (mo - i) + 1 by omega, nI_pred]
def mFitC (f : Nat → Int32) (L w t nn le mo : Nat) (y x : Int32) : Int32 := if fIsL L y = 0 then -1 else if fIn x 0 1 = 0 then -1 else mFit f (w + y.toNatClampNeg) y.toNatClampNeg t nn le mo x
theorem lN_0 : lN 0 = 0 := rfl
theorem lcmp_ge {a : Nat} (h : a < 9223372036854775808) : (0 : Int32) ≤ lg_cmp (lN a) 0 := (lg_cmp_ge _ _).mpr ((pk_lLE (a := 0) (by decide) h).mpr (Nat.zero_le _))
theorem lcmp_eq {a : Nat} (h : a < 9223372036854775808) : lg_cmp (lN a) 0 = 0 ↔ a = 0 := (lg_cmp_eq _ _).trans (pk_lEQ (b := 0) h (by decide))

theorem lk_X12_196 : LkV RX12 196 yX12_areAsNoted cX12_areAsNoted 4 (some .boolean) 1 := lkV_of q_1115 q_1117 qs_41 q_7 q_1118 ⟨by decide, by decide, by decide +kernel⟩ (by decide)
theorem lk_X12_199 : LkV RX12 199 yX12_fitting cX12_fitting 11 (some .int) 5 := lkV_of q_1111 q_1113 qs_40 q_7 q_1114 ⟨by decide, by decide, by decide +kernel⟩ (by decide)
set_option maxHeartbeats 4000000 in
set_option maxRecDepth 100000 in
theorem c_X12_areAsNoted (l : Launch) (g : Gp) (M : Mem) (m0 m1 m2 m3 m4 m5 m6 m7 m8 m9 m10 m11 : Int32) (f : Nat → Int32) (j t nn : Nat) (h46 : M (gA g 46) = some (mdE g m0 m1 m2 m3 m4 m5 m6 m7 m8 m9 m10 m11)) (h47 : M (gA g 47) = some (aI g 929 f)) (hj : j < 6) (hr0 : ¬ f (28 + j) = 0) (h0 : f 0 = nI t) (h11 : f 11 = nI nn) (hnn : nn ≤ 6) : Met l yX12_areAsNoted (wsM yX12_areAsNoted cX12_areAsNoted 4 (some .boolean)) (rmD 2 0 0) (Pre g M [.ref (gA g 46), .int (nI j)]) (Qi g (fun r M1 => (mNo f j t nn) = r ∧ M = M1)) 0 0 (gF g) := M_start (by decide +kernel) (Nat.le_of_ble_eq_true rfl) fun p e s m args below meth c ls X hr hk hnm hM hl => by
  have X : Cx g p m c cX12_areAsNoted 4 s args RX12 := X
  have hx := X.1.1
  have hb := X.1.2.1
  have hl : lv_has ls 4 [(0, .ref (gA g 46)), (1, .int (nI j))] := hl
  refine lv_iconst (v := 1) hx hb dX12_areAsNoted_0 (by decide) ?_
  refine lv_istore_n (lv' := [(2, .int 1), (0, .ref (gA g 46)), (1, .int (nI j))]) hx hb dX12_areAsNoted_1 rfl hl (by decide) rfl (fun ls hl => ?_)
  refine lv_iconst (v := 0) hx hb dX12_areAsNoted_2 (by decide) ?_
  refine lv_istore_n (lv' := [(3, .int 0), (2, .int 1), (0, .ref (gA g 46)), (1, .int (nI j))]) hx hb dX12_areAsNoted_3 rfl hl (by decide) rfl (fun ls hl => ?_)
  have L4 : ∀ (fu : Nat) (i : Nat) (x2 : Int32) (hi : i ≤ nn) (k2 : x2 = mNo f j t i) (H : Heap) (locs : List Loc) (hM : MW g (M) H locs) (ls : Array Slot) (hl : lv_has ls 4 [(0, .ref (gA g 46)), (1, .int (nI j)), (2, .int x2), (3, .int (nI i))]), nn - i < fu → W p l e (rmD 2 0 0) s m args below meth c H locs 0 0 (MQ below (Qi g (fun r M1 => (mNo f j t nn) = r ∧ M = M1)) args s 0 0 (gF g)) (F0 m 4 ls []) := by
    intro fu
    induction fu with
    | zero => intro i x2 hi k2 H locs hM ls hl hmu; exact absurd hmu (Nat.not_lt_zero _)
    | succ fu ih =>
      intro i x2 hi k2 H locs hM ls hl hmu
      refine lv_iload_n hx hb dX12_areAsNoted_4 rfl (lv_at hl 3 rfl) ?_
      refine lv_aload_n hx hb dX12_areAsNoted_5 rfl (lv_at hl 0 rfl) ?_
      refine r_get (T := TX12) (N := 20) (ci := 12) (v := .ref (gA g 47)) X hM iX12 rfl 1 (by decide) q_836 (Or.inl rfl) h46 rfl dX12_areAsNoted_6 ?_
      refine lv_bipush (v := 11) hx hb dX12_areAsNoted_9 (by decide) ?_
      refine r_iald (i := 11) X hM h47 (vp_in_nI (n := 11) (by decide) (by decide)) dX12_areAsNoted_11 ?_
      rw [show ((11 : Int32)).toNatClampNeg = 11 from by decide]
      rw [h11]
      refine lv_icmp_ge (tgt := 86) hx hb dX12_areAsNoted_12 (by decide) (fun c_1 => ?_) (fun c_1 => ?_)
      · skip
        have hz1 : nn ≤ i := (nI_leI (by omega) (by omega)).mp c_1
        have hz2 : i = nn := by omega
        refine lv_iload_n hx hb dX12_areAsNoted_86 rfl (lv_at hl 2 rfl) ?_
        exact R_z X hr hk (by rw [k2]; exact mNo_01 f j t i) hM ⟨(by rw [k2, hz2]), rfl⟩ dX12_areAsNoted_87
      · skip
        have hz1 : i < nn := by
          rcases Nat.lt_or_ge i (nn) with q | q
          · exact q
          · exact absurd ((nI_leI (by omega) (by omega)).mpr q) c_1
        refine l_joinM (ls := ls) hM 79 (mNoS f j t i x2) [] (fun H locs hM => ?_) (fun J15 => ?_)
        · skip
          refine lv_istore_n (lv' := [(2, .int (mNoS f j t i x2)), (0, .ref (gA g 46)), (1, .int (nI j)), (3, .int (nI i))]) hx hb dX12_areAsNoted_79 rfl hl (by decide) rfl (fun ls hl => ?_)
          refine lv_iinc (v := (nI i) + 1) (lv' := [(3, .int ((nI i) + 1)), (2, .int (mNoS f j t i x2)), (0, .ref (gA g 46)), (1, .int (nI j))]) hx hb dX12_areAsNoted_80 hl (k := 3) rfl rfl (by decide) rfl (fun ls hl => ?_)
          refine lv_goto (tgt := 4) hx hb dX12_areAsNoted_83 (by decide) ?_
          exact ih (i + 1) (mNoS f j t i x2) (by omega) (by rw [k2]; rfl) _ _ hM _ ((by rw [← nI_1]; exact lv_sub hl [2, 3, 1, 0] rfl)) (by omega)
        refine lv_iload_n hx hb dX12_areAsNoted_15 rfl (lv_at hl 2 rfl) ?_
        refine lv_if_eq (tgt := 78) hx hb dX12_areAsNoted_16 (by decide) (fun c_2 => ?_) (fun c_2 => ?_)
        · skip
          refine lv_iconst (v := 0) hx hb dX12_areAsNoted_78 (by decide) ?_
          exact J15 _ _ _ hM (by unfold mNoS; (first | rw [if_pos c_2] | rw [if_neg c_2] | skip))
        · skip
          refine lv_aload_n hx hb dX12_areAsNoted_19 rfl (lv_at hl 0 rfl) ?_
          refine r_get (T := TX12) (N := 20) (ci := 12) (v := .ref (gA g 47)) X hM iX12 rfl 1 (by decide) q_836 (Or.inl rfl) h46 rfl dX12_areAsNoted_20 ?_
          refine lv_bipush (v := 64) hx hb dX12_areAsNoted_23 (by decide) ?_
          refine lv_iload_n hx hb dX12_areAsNoted_25 rfl (lv_at hl 3 rfl) ?_
          refine lv_iadd hx hb dX12_areAsNoted_26 ?_
          rw [show (64 : Int32) + (nI i) = nI (64 + i) from nI_add 64 i]
          refine r_iald (i := nI (64 + i)) X hM h47 (vp_in_nI (by omega) (by decide)) dX12_areAsNoted_27 ?_
          rw [nI_clamp (show 64 + i < 2147483648 by omega)]
          refine lv_iload_n hx hb dX12_areAsNoted_28 rfl (lv_at hl 1 rfl) ?_
          refine lv_icmp_ne (tgt := 74) hx hb dX12_areAsNoted_29 (by decide) (fun c_3 => ?_) (fun c_3 => ?_)
          · skip
            refine lv_iconst (v := 1) hx hb dX12_areAsNoted_74 (by decide) ?_
            refine lv_goto (tgt := 79) hx hb dX12_areAsNoted_75 (by decide) ?_
            exact J15 _ _ _ hM (by unfold mNoS; (first | rw [if_pos c_2] | rw [if_neg c_2] | skip); (first | rw [if_pos c_3] | rw [if_neg c_3] | skip))
          · skip
            refine lv_aload_n hx hb dX12_areAsNoted_32 rfl (lv_at hl 0 rfl) ?_
            refine lv_iload_n hx hb dX12_areAsNoted_33 rfl (lv_at hl 1 rfl) ?_
            refine lv_aload_n hx hb dX12_areAsNoted_34 rfl (lv_at hl 0 rfl) ?_
            refine r_get (T := TX12) (N := 20) (ci := 12) (v := .ref (gA g 47)) X hM iX12 rfl 1 (by decide) q_836 (Or.inl rfl) h46 rfl dX12_areAsNoted_35 ?_
            refine lv_iconst (v := 0) hx hb dX12_areAsNoted_38 (by decide) ?_
            refine r_iald (i := 0) X hM h47 (vp_in_nI (n := 0) (by decide) (by decide)) dX12_areAsNoted_39 ?_
            rw [show ((0 : Int32)).toNatClampNeg = 0 from by decide]
            rw [h0]
            refine lv_aload_n hx hb dX12_areAsNoted_40 rfl (lv_at hl 0 rfl) ?_
            refine r_get (T := TX12) (N := 20) (ci := 12) (v := .ref (gA g 47)) X hM iX12 rfl 1 (by decide) q_836 (Or.inl rfl) h46 rfl dX12_areAsNoted_41 ?_
            refine lv_bipush (v := 70) hx hb dX12_areAsNoted_44 (by decide) ?_
            refine lv_iload_n hx hb dX12_areAsNoted_46 rfl (lv_at hl 3 rfl) ?_
            refine lv_iadd hx hb dX12_areAsNoted_47 ?_
            rw [show (70 : Int32) + (nI i) = nI (70 + i) from nI_add 70 i]
            refine r_iald (i := nI (70 + i)) X hM h47 (vp_in_nI (by omega) (by decide)) dX12_areAsNoted_48 ?_
            rw [nI_clamp (show 70 + i < 2147483648 by omega)]
            refine lv_iadd hx hb dX12_areAsNoted_49 ?_
            refine K_i (G_V (As := [.int (nI j), .int ((nI t) + (f (70 + i)))]) (rest := []) X hM (c_X12_isUp l g _ m0 m1 m2 m3 m4 m5 m6 m7 m8 m9 m10 m11 f j ((nI t) + (f (70 + i))) h46 h47 hj hr0) lk_X12_141 h46 rfl rfl hl.1 rfl (Nat.le_of_ble_eq_true rfl) (by decide) dX12_areAsNoted_50 ⟨Nat.le_of_ble_eq_true rfl, Nat.le_of_ble_eq_true rfl⟩) hM (fun r M1 H locs hM hp => ?_)
            obtain ⟨rfl, rfl⟩ := hp
            refine lv_aload_n hx hb dX12_areAsNoted_53 rfl (lv_at hl 0 rfl) ?_
            refine r_get (T := TX12) (N := 20) (ci := 12) (v := .ref (gA g 47)) X hM iX12 rfl 1 (by decide) q_836 (Or.inl rfl) h46 rfl dX12_areAsNoted_54 ?_
            refine lv_bipush (v := 76) hx hb dX12_areAsNoted_57 (by decide) ?_
            refine lv_iload_n hx hb dX12_areAsNoted_59 rfl (lv_at hl 3 rfl) ?_
            refine lv_iadd hx hb dX12_areAsNoted_60 ?_
            rw [show (76 : Int32) + (nI i) = nI (76 + i) from nI_add 76 i]
            refine r_iald (i := nI (76 + i)) X hM h47 (vp_in_nI (by omega) (by decide)) dX12_areAsNoted_61 ?_
            rw [nI_clamp (show 76 + i < 2147483648 by omega)]
            refine lv_iconst (v := 1) hx hb dX12_areAsNoted_62 (by decide) ?_
            refine l_joinM (ls := ls) hM 71 (if f (76 + i) = 1 then 1 else 0) [.int (mUp f j ((nI t) + (f (70 + i))))] (fun H locs hM => ?_) (fun J63 => ?_)
            · skip
              refine lv_icmp_ne (tgt := 78) hx hb dX12_areAsNoted_71 (by decide) (fun c_4 => ?_) (fun c_4 => ?_)
              · skip
                refine lv_iconst (v := 0) hx hb dX12_areAsNoted_78 (by decide) ?_
                exact J15 _ _ _ hM (by unfold mNoS; (first | rw [if_pos c_2] | rw [if_neg c_2] | skip); (first | rw [if_pos c_3] | rw [if_neg c_3] | skip); (first | rw [if_pos c_4] | rw [if_neg c_4] | skip))
              · skip
                refine lv_iconst (v := 1) hx hb dX12_areAsNoted_74 (by decide) ?_
                refine lv_goto (tgt := 79) hx hb dX12_areAsNoted_75 (by decide) ?_
                exact J15 _ _ _ hM (by unfold mNoS; (first | rw [if_pos c_2] | rw [if_neg c_2] | skip); (first | rw [if_pos c_3] | rw [if_neg c_3] | skip); (first | rw [if_pos c_4] | rw [if_neg c_4] | skip))
            refine lv_icmp_ne (tgt := 70) hx hb dX12_areAsNoted_63 (by decide) (fun c_5 => ?_) (fun c_5 => ?_)
            · skip
              refine lv_iconst (v := 0) hx hb dX12_areAsNoted_70 (by decide) ?_
              exact J63 _ _ _ hM (by (first | rw [if_pos c_5] | rw [if_neg c_5] | skip); all_goals (first | rfl | simp [*]))
            · skip
              refine lv_iconst (v := 1) hx hb dX12_areAsNoted_66 (by decide) ?_
              refine lv_goto (tgt := 71) hx hb dX12_areAsNoted_67 (by decide) ?_
              exact J63 _ _ _ hM (by (first | rw [if_pos c_5] | rw [if_neg c_5] | skip); all_goals (first | rfl | simp [*]))
  exact L4 (nn + 1) 0 1 (Nat.zero_le _) rfl _ _ hM _ (lv_sub hl [2, 3, 1, 0] rfl) (by first | exact Nat.lt_succ_self _ | omega)
set_option maxHeartbeats 4000000 in
set_option maxRecDepth 100000 in
theorem c_X12_fitting (l : Launch) (g : Gp) (M : Mem) (m0 m1 m2 m3 m4 m5 m6 m7 m8 m9 m10 m11 : Int32) (f : Nat → Int32) (w j t nn le mo : Nat) (x : Int32) (h46 : M (gA g 46) = some (mdE g m0 m1 m2 m3 m4 m5 m6 m7 m8 m9 m10 m11)) (h47 : M (gA g 47) = some (aI g 929 f)) (hj : j < 6) (hr0 : ¬ f (28 + j) = 0) (h0 : f 0 = nI t) (h11 : f 11 = nI nn) (hnn : nn ≤ 6) (hw : w = 28 + j ∨ w = 34 + j ∨ w = 22 + j) (hw2 : w = 28 + j → 1 ≤ le) (hmo : mo ≤ 30) (hle : le ≤ 1) : Met l yX12_fitting (wsM yX12_fitting cX12_fitting 11 (some .int)) (rmD 3 0 0) (Pre g M [.ref (gA g 46), .int (nI j), .int (nI w), .int (nI le), .int (nI mo), .int x]) (Qi g (fun r M1 => (mFit f w j t nn le mo x) = r ∧ M = M1)) 0 0 (gF g) := M_start (by decide +kernel) (Nat.le_of_ble_eq_true rfl) fun p e s m args below meth c ls X hr hk hnm hM hl => by
  have X : Cx g p m c cX12_fitting 11 s args RX12 := X
  have hx := X.1.1
  have hb := X.1.2.1
  have hl : lv_has ls 11 [(0, .ref (gA g 46)), (1, .int (nI j)), (2, .int (nI w)), (3, .int (nI le)), (4, .int (nI mo)), (5, .int x)] := hl
  refine lv_aload_n hx hb dX12_fitting_0 rfl (lv_at hl 0 rfl) ?_
  refine r_get (T := TX12) (N := 20) (ci := 12) (v := .ref (gA g 47)) X hM iX12 rfl 1 (by decide) q_836 (Or.inl rfl) h46 rfl dX12_fitting_1 ?_
  refine lv_iload_n hx hb dX12_fitting_4 rfl (lv_at hl 2 rfl) ?_
  refine r_iald (i := nI w) X hM h47 (vp_in_nI (by omega) (by decide)) dX12_fitting_5 ?_
  rw [nI_clamp (show w < 2147483648 by omega)]
  refine lv_istore (lv' := [(6, .int (f w)), (0, .ref (gA g 46)), (1, .int (nI j)), (2, .int (nI w)), (3, .int (nI le)), (4, .int (nI mo)), (5, .int x)]) hx hb dX12_fitting_6 hl (by decide) rfl (fun ls hl => ?_)
  refine lv_iconst (v := 0) hx hb dX12_fitting_8 (by decide) ?_
  refine lv_istore (lv' := [(7, .int 0), (6, .int (f w)), (0, .ref (gA g 46)), (1, .int (nI j)), (2, .int (nI w)), (3, .int (nI le)), (4, .int (nI mo)), (5, .int x)]) hx hb dX12_fitting_9 hl (by decide) rfl (fun ls hl => ?_)
  refine lv_bipush (v := -5) hx hb dX12_fitting_11 (by decide) ?_
  refine lv_istore (lv' := [(8, .int (-5)), (7, .int 0), (6, .int (f w)), (0, .ref (gA g 46)), (1, .int (nI j)), (2, .int (nI w)), (3, .int (nI le)), (4, .int (nI mo)), (5, .int x)]) hx hb dX12_fitting_13 hl (by decide) rfl (fun ls hl => ?_)
  refine lv_iload hx hb dX12_fitting_15 (lv_at hl 7 rfl) ?_
  refine lv_istore (lv' := [(9, .int (nI mo)), (8, .int (-5)), (7, .int 0), (6, .int (f w)), (0, .ref (gA g 46)), (1, .int (nI j)), (2, .int (nI w)), (3, .int (nI le)), (4, .int (nI mo)), (5, .int x)]) hx hb dX12_fitting_17 hl (by decide) rfl (fun ls hl => ?_)
  have L19 : ∀ (fu : Nat) (i : Nat) (xv x7 x8 : Int32) (hi : i ≤ mo + 1 - le) (kf : (x7, x8) = mFi f w j t nn mo i) (H : Heap) (locs : List Loc) (hM : MW g (mup M (gA g 47) (aI g 929 (upd f w xv))) H locs) (ls : Array Slot) (hl : lv_has ls 11 [(0, .ref (gA g 46)), (1, .int (nI j)), (2, .int (nI w)), (3, .int (nI le)), (5, .int x), (6, .int (f w)), (7, .int x7), (8, .int x8), (9, .int (nI (mo + 1 - i) - 1))]), mo + 1 - le - i < fu → W p l e (rmD 3 0 0) s m args below meth c H locs 0 0 (MQ below (Qi g (fun r M1 => (mFit f w j t nn le mo x) = r ∧ M = M1)) args s 0 0 (gF g)) (F0 m 19 ls []) := by
    intro fu
    induction fu with
    | zero => intro i xv x7 x8 hi kf H locs hM ls hl hmu; exact absurd hmu (Nat.not_lt_zero _)
    | succ fu ih =>
      intro i xv x7 x8 hi kf H locs hM ls hl hmu
      refine lv_iload hx hb dX12_fitting_19 (lv_at hl 8 rfl) ?_
      refine lv_iload_n hx hb dX12_fitting_21 rfl (lv_at hl 3 rfl) ?_
      refine lv_icmp_lt (tgt := 75) hx hb dX12_fitting_22 (by decide) (fun c_1 => ?_) (fun c_1 => ?_)
      · skip
        have hz2 : i = mo + 1 - le := by
          rcases Nat.lt_or_ge mo (le + i) with q | q
          · omega
          · refine absurd (show nI (mo + 1 - i) - 1 < nI le from c_1) ?_
            rw [nI_vm (by omega)]
            exact nI_nlt (by omega) (by omega)
        refine lv_aload_n hx hb dX12_fitting_75 rfl (lv_at hl 0 rfl) ?_
        refine r_get (T := TX12) (N := 20) (ci := 12) (v := .ref (gA g 47)) X hM iX12 rfl 1 (by decide) q_836 (Or.inl rfl) (mup_r (X.2.ne (i := 46) (j := 47) (by decide) (by decide) (by decide)) h46) rfl dX12_fitting_76 ?_
        refine lv_iload_n hx hb dX12_fitting_79 rfl (lv_at hl 2 rfl) ?_
        refine lv_iload hx hb dX12_fitting_80 (lv_at hl 5 rfl) ?_
        refine r_iast (i := nI w) (x := f w) X hM (mup_s _ _ _) (vp_in_nI (by omega) (by decide)) dX12_fitting_82 (fun H locs hM => ?_)
        rw [nI_clamp (show w < 2147483648 by omega)] at hM
        rw [show upd (upd f w xv) w (f w) = f from by rw [upd_upd]; exact upd_id rfl] at hM
        rw [mup_i] at hM
        have hM : MW g (mup M (gA g 47) (aI g 929 f)) H locs := hM
        refine lv_iload hx hb dX12_fitting_83 (lv_at hl 4 rfl) ?_
        refine lv_if_ne (tgt := 93) hx hb dX12_fitting_85 (by decide) (fun c_2 => ?_) (fun c_2 => ?_)
        · skip
          refine lv_iload hx hb dX12_fitting_93 (lv_at hl 7 rfl) ?_
          exact R_i X hr hk hM ⟨(by unfold mFit; rw [← hz2, ← kf]; first | rw [if_pos c_2] | rw [if_neg c_2]), (by rw [mup_id h47])⟩ dX12_fitting_95
        · skip
          refine lv_iload hx hb dX12_fitting_88 (lv_at hl 6 rfl) ?_
          refine lv_goto (tgt := 95) hx hb dX12_fitting_90 (by decide) ?_
          exact R_i X hr hk hM ⟨(by unfold mFit; rw [← hz2, ← kf]; first | rw [if_pos c_2] | rw [if_neg c_2]), (by rw [mup_id h47])⟩ dX12_fitting_95
      · skip
        have hz1 : le + i ≤ mo := by
          rcases Nat.lt_or_ge mo (le + i) with q | q
          · refine absurd ?_ c_1
            show nI (mo + 1 - i) - 1 < nI le
            rw [show mo + 1 - i = le by omega]
            rcases (show le = 0 ∨ le = 1 by omega) with q_ | q_ <;> rw [q_] <;> decide
          · exact q
        rw [show nI (mo + 1 - i) - 1 = nI (mo - i) from nI_vm (by omega)] at hl
        refine lv_aload_n hx hb dX12_fitting_25 rfl (lv_at hl 0 rfl) ?_
        refine r_get (T := TX12) (N := 20) (ci := 12) (v := .ref (gA g 47)) X hM iX12 rfl 1 (by decide) q_836 (Or.inl rfl) (mup_r (X.2.ne (i := 46) (j := 47) (by decide) (by decide) (by decide)) h46) rfl dX12_fitting_26 ?_
        refine lv_iload_n hx hb dX12_fitting_29 rfl (lv_at hl 2 rfl) ?_
        refine lv_iload hx hb dX12_fitting_30 (lv_at hl 8 rfl) ?_
        refine r_iast (i := nI w) (x := nI (mo - i)) X hM (mup_s _ _ _) (vp_in_nI (by omega) (by decide)) dX12_fitting_32 (fun H locs hM => ?_)
        rw [nI_clamp (show w < 2147483648 by omega)] at hM
        rw [show upd (upd f w xv) w (nI (mo - i)) = upd f w (nI (mo - i)) from upd_upd _ _ _ _] at hM
        rw [mup_i] at hM
        have hM : MW g (mup M (gA g 47) (aI g 929 (upd f w (nI (mo - i))))) H locs := hM
        refine lv_aload_n hx hb dX12_fitting_33 rfl (lv_at hl 0 rfl) ?_
        refine lv_iload_n hx hb dX12_fitting_34 rfl (lv_at hl 1 rfl) ?_
        refine K_i (G_V (As := [.int (nI j)]) (rest := []) X hM (c_X12_areAsNoted l g _ m0 m1 m2 m3 m4 m5 m6 m7 m8 m9 m10 m11 (upd f w (nI (mo - i))) j t nn (mup_r (X.2.ne (i := 46) (j := 47) (by decide) (by decide) (by decide)) h46) (mup_s _ _ _) hj (fit_hr hr0 (fun q => by have := hw2 q; omega) (by omega)) (by rw [upd_ne (by omega)]; exact h0) (by rw [upd_ne (by omega)]; exact h11) hnn) lk_X12_196 (mup_r (X.2.ne (i := 46) (j := 47) (by decide) (by decide) (by decide)) h46) rfl rfl hl.1 rfl (Nat.le_of_ble_eq_true rfl) (by decide) dX12_fitting_35 ⟨Nat.le_of_ble_eq_true rfl, Nat.le_of_ble_eq_true rfl⟩) hM (fun r M1 H locs hM hp => ?_)
        obtain ⟨rfl, rfl⟩ := hp
        refine lv_topi (fun va e_va => ?_)
        refine lv_istore (lv' := [(10, .int va), (0, .ref (gA g 46)), (1, .int (nI j)), (2, .int (nI w)), (3, .int (nI le)), (5, .int x), (6, .int (f w)), (7, .int x7), (8, .int x8), (9, .int (nI (mo - i)))]) hx hb dX12_fitting_38 hl (by decide) rfl (fun ls hl => ?_)
        refine lv_iload hx hb dX12_fitting_40 (lv_at hl 7 rfl) ?_
        refine lv_iload hx hb dX12_fitting_42 (lv_at hl 0 rfl) ?_
        refine l_joinM (ls := ls) hM 52 (if va = 0 then 0 else 1) [.int x7] (fun H locs hM => ?_) (fun J44 => ?_)
        · skip
          refine lv_iadd hx hb dX12_fitting_52 ?_
          refine lv_istore (lv' := [(7, .int (x7 + (if va = 0 then 0 else 1))), (10, .int va), (0, .ref (gA g 46)), (1, .int (nI j)), (2, .int (nI w)), (3, .int (nI le)), (5, .int x), (6, .int (f w)), (8, .int x8), (9, .int (nI (mo - i)))]) hx hb dX12_fitting_53 hl (by decide) rfl (fun ls hl => ?_)
          refine l_joinM (ls := ls) hM 67 (if va = 0 then x8 else nI (mo - i)) [] (fun H locs hM => ?_) (fun J55 => ?_)
          · skip
            refine lv_istore (lv' := [(8, .int (if va = 0 then x8 else nI (mo - i))), (7, .int (x7 + (if va = 0 then 0 else 1))), (10, .int va), (0, .ref (gA g 46)), (1, .int (nI j)), (2, .int (nI w)), (3, .int (nI le)), (5, .int x), (6, .int (f w)), (9, .int (nI (mo - i)))]) hx hb dX12_fitting_67 hl (by decide) rfl (fun ls hl => ?_)
            refine lv_iinc (v := (nI (mo - i)) + (-1)) (lv' := [(9, .int ((nI (mo - i)) + (-1))), (8, .int (if va = 0 then x8 else nI (mo - i))), (7, .int (x7 + (if va = 0 then 0 else 1))), (10, .int va), (0, .ref (gA g 46)), (1, .int (nI j)), (2, .int (nI w)), (3, .int (nI le)), (5, .int x), (6, .int (f w))]) hx hb dX12_fitting_69 hl (k := 9) rfl rfl (by decide) rfl (fun ls hl => ?_)
            refine lv_goto (tgt := 19) hx hb dX12_fitting_72 (by decide) ?_
            exact ih (i + 1) (nI (mo - i)) (x7 + (if va = 0 then 0 else 1)) (if va = 0 then x8 else nI (mo - i)) (by omega) (by rw [mFi, ← kf, ← e_va]; by_cases q_ : va = 0 <;> simp only [q_, if_true, if_false, Int32.add_zero]) _ _ hM _ ((by rw [show nI (mo + 1 - (i + 1)) - 1 = nI (mo - i) + (-1) from by rw [i32_am1]; rw [show mo + 1 - (i + 1) = mo - i by omega]]; exact lv_sub hl [4, 5, 6, 7, 8, 9, 2, 1, 0] rfl)) (by omega)
          refine lv_iload hx hb dX12_fitting_55 (lv_at hl 1 rfl) ?_
          refine lv_if_eq (tgt := 65) hx hb dX12_fitting_57 (by decide) (fun c_3 => ?_) (fun c_3 => ?_)
          · skip
            refine lv_iload hx hb dX12_fitting_65 (lv_at hl 8 rfl) ?_
            exact J55 _ _ _ hM (by (first | rw [if_pos c_3] | rw [if_neg c_3] | skip))
          · skip
            refine lv_iload hx hb dX12_fitting_60 (lv_at hl 9 rfl) ?_
            refine lv_goto (tgt := 67) hx hb dX12_fitting_62 (by decide) ?_
            exact J55 _ _ _ hM (by (first | rw [if_pos c_3] | rw [if_neg c_3] | skip))
        refine lv_if_eq (tgt := 51) hx hb dX12_fitting_44 (by decide) (fun c_4 => ?_) (fun c_4 => ?_)
        · skip
          refine lv_iconst (v := 0) hx hb dX12_fitting_51 (by decide) ?_
          exact J44 _ _ _ hM (by (first | rw [if_pos c_4] | rw [if_neg c_4] | skip); all_goals (first | rfl | simp [*]))
        · skip
          refine lv_iconst (v := 1) hx hb dX12_fitting_47 (by decide) ?_
          refine lv_goto (tgt := 52) hx hb dX12_fitting_48 (by decide) ?_
          exact J44 _ _ _ hM (by (first | rw [if_pos c_4] | rw [if_neg c_4] | skip); all_goals (first | rfl | simp [*]))
  exact L19 (mo + 1 - le + 1) 0 (f w) 0 (-5) (Nat.zero_le _) rfl _ _ (by rw [upd_id rfl, mup_id h47]; exact hM) _ ((by rw [show nI (mo + 1 - 0) - 1 = nI mo from nI_vm (by omega)]; exact lv_sub hl [4, 5, 6, 7, 9, 3, 2, 1, 0] rfl)) (by first | exact Nat.lt_succ_self _ | omega)
set_option maxHeartbeats 4000000 in
set_option maxRecDepth 100000 in
theorem c_X12_rounds (l : Launch) (g : Gp) (M : Mem) (m0 m1 m2 m3 m4 m5 m6 m7 m8 m9 m10 m11 : Int32) (f : Nat → Int32) (L : Nat) (t nn : Nat) (y x : Int32) (h46 : M (gA g 46) = some (mdE g m0 m1 m2 m3 m4 m5 m6 m7 m8 m9 m10 m11)) (h47 : M (gA g 47) = some (aI g 929 f)) (hO : MOk f L) (h0 : f 0 = nI t) (ht : t < 10000) (h11 : f 11 = nI nn) (hnn : nn ≤ 6) : Met l yX12_rounds (wsM yX12_rounds cX12_rounds 3 (some .int)) (rmD 4 0 0) (Pre g M [.ref (gA g 46), .int y, .int x]) (Qi g (fun r M1 => (mFitC f L 28 t nn 1 30 y x) = r ∧ M = M1)) 0 0 (gF g) := M_start (by decide +kernel) (Nat.le_of_ble_eq_true rfl) fun p e s m args below meth c ls X hr hk hnm hM hl => by
  have X : Cx g p m c cX12_rounds 3 s args RX12 := X
  have hx := X.1.1
  have hb := X.1.2.1
  have hl : lv_has ls 3 [(0, .ref (gA g 46)), (1, .int y), (2, .int x)] := hl
  obtain ⟨h9, hL, hR, hS⟩ := id hO
  refine lv_aload_n hx hb dX12_rounds_0 rfl (lv_at hl 0 rfl) ?_
  refine lv_iload_n hx hb dX12_rounds_1 rfl (lv_at hl 1 rfl) ?_
  refine K_i (G_V (As := [.int y]) (rest := []) X hM (c_X12_isLightL l g _ m0 m1 m2 m3 m4 m5 m6 m7 m8 m9 m10 m11 f L y h46 h47 h9 hL) lk_X12_148 h46 rfl rfl hl.1 rfl (Nat.le_of_ble_eq_true rfl) (by decide) dX12_rounds_2 ⟨Nat.le_of_ble_eq_true rfl, Nat.le_of_ble_eq_true rfl⟩) hM (fun r M1 H locs hM hp => ?_)
  obtain ⟨rfl, rfl⟩ := hp
  refine lv_if_eq (tgt := 33) hx hb dX12_rounds_5 (by decide) (fun c_1 => ?_) (fun c_1 => ?_)
  · skip
    refine lv_iconst (v := -1) hx hb dX12_rounds_33 (by decide) ?_
    exact R_i X hr hk hM ⟨(by unfold mFitC; (try simp only [hcj]); (first | rw [if_pos c_1] | rw [if_neg c_1] | skip)), rfl⟩ dX12_rounds_34
  · skip
    obtain ⟨j, hj, rfl⟩ := fIsL_k hL c_1
    have hcj : (nI j).toNatClampNeg = j := nI_clamp (by omega)
    refine lv_iload_n hx hb dX12_rounds_8 rfl (lv_at hl 2 rfl) ?_
    refine lv_iconst (v := 0) hx hb dX12_rounds_9 (by decide) ?_
    refine lv_iconst (v := 1) hx hb dX12_rounds_10 (by decide) ?_
    refine K_i (G_S (As := [.int x, .int 0, .int 1]) (rest := []) X hM (c_X12_in l g _ x 0 1  ) lk_X12_41 rfl hl.1 rfl (Nat.le_of_ble_eq_true rfl) (by decide) dX12_rounds_11 ⟨Nat.le_of_ble_eq_true rfl, Nat.le_of_ble_eq_true rfl⟩) hM (fun r M1 H locs hM hp => ?_)
    obtain ⟨rfl, rfl⟩ := hp
    refine lv_if_eq (tgt := 33) hx hb dX12_rounds_14 (by decide) (fun c_2 => ?_) (fun c_2 => ?_)
    · skip
      refine lv_iconst (v := -1) hx hb dX12_rounds_33 (by decide) ?_
      exact R_i X hr hk hM ⟨(by unfold mFitC; (try simp only [hcj]); (first | rw [if_pos c_1] | rw [if_neg c_1] | skip); (first | rw [if_pos c_2] | rw [if_neg c_2] | skip)), rfl⟩ dX12_rounds_34
    · skip
      refine lv_aload_n hx hb dX12_rounds_17 rfl (lv_at hl 0 rfl) ?_
      refine lv_iload_n hx hb dX12_rounds_18 rfl (lv_at hl 1 rfl) ?_
      refine lv_bipush (v := 28) hx hb dX12_rounds_19 (by decide) ?_
      refine lv_iload_n hx hb dX12_rounds_21 rfl (lv_at hl 1 rfl) ?_
      refine lv_iadd hx hb dX12_rounds_22 ?_
      rw [show (28 : Int32) + (nI j) = nI (28 + j) from nI_add 28 j]
      refine lv_iconst (v := 1) hx hb dX12_rounds_23 (by decide) ?_
      refine lv_bipush (v := 30) hx hb dX12_rounds_24 (by decide) ?_
      refine lv_iload_n hx hb dX12_rounds_26 rfl (lv_at hl 2 rfl) ?_
      refine K_i (G_V (As := [.int (nI j), .int (nI (28 + j)), .int 1, .int 30, .int x]) (rest := []) X hM (c_X12_fitting l g _ m0 m1 m2 m3 m4 m5 m6 m7 m8 m9 m10 m11 f (28 + j) j t nn 1 30 x h46 h47 (by omega) (hR _ (by omega)) h0 h11 hnn (by omega) (by omega) (by decide) (by decide)) lk_X12_199 h46 rfl rfl hl.1 rfl (Nat.le_of_ble_eq_true rfl) (by decide) dX12_rounds_27 ⟨Nat.le_of_ble_eq_true rfl, Nat.le_of_ble_eq_true rfl⟩) hM (fun r M1 H locs hM hp => ?_)
      obtain ⟨rfl, rfl⟩ := hp
      refine lv_goto (tgt := 34) hx hb dX12_rounds_30 (by decide) ?_
      exact R_i X hr hk hM ⟨(by unfold mFitC; (try simp only [hcj]); (first | rw [if_pos c_1] | rw [if_neg c_1] | skip); (first | rw [if_pos c_2] | rw [if_neg c_2] | skip)), rfl⟩ dX12_rounds_34
set_option maxHeartbeats 4000000 in
set_option maxRecDepth 100000 in
theorem c_X12_phases (l : Launch) (g : Gp) (M : Mem) (m0 m1 m2 m3 m4 m5 m6 m7 m8 m9 m10 m11 : Int32) (f : Nat → Int32) (L : Nat) (t nn : Nat) (y x : Int32) (h46 : M (gA g 46) = some (mdE g m0 m1 m2 m3 m4 m5 m6 m7 m8 m9 m10 m11)) (h47 : M (gA g 47) = some (aI g 929 f)) (hO : MOk f L) (h0 : f 0 = nI t) (ht : t < 10000) (h11 : f 11 = nI nn) (hnn : nn ≤ 6) : Met l yX12_phases (wsM yX12_phases cX12_phases 3 (some .int)) (rmD 4 0 0) (Pre g M [.ref (gA g 46), .int y, .int x]) (Qi g (fun r M1 => (mFitC f L 34 t nn 0 29 y x) = r ∧ M = M1)) 0 0 (gF g) := M_start (by decide +kernel) (Nat.le_of_ble_eq_true rfl) fun p e s m args below meth c ls X hr hk hnm hM hl => by
  have X : Cx g p m c cX12_phases 3 s args RX12 := X
  have hx := X.1.1
  have hb := X.1.2.1
  have hl : lv_has ls 3 [(0, .ref (gA g 46)), (1, .int y), (2, .int x)] := hl
  obtain ⟨h9, hL, hR, hS⟩ := id hO
  refine lv_aload_n hx hb dX12_phases_0 rfl (lv_at hl 0 rfl) ?_
  refine lv_iload_n hx hb dX12_phases_1 rfl (lv_at hl 1 rfl) ?_
  refine K_i (G_V (As := [.int y]) (rest := []) X hM (c_X12_isLightL l g _ m0 m1 m2 m3 m4 m5 m6 m7 m8 m9 m10 m11 f L y h46 h47 h9 hL) lk_X12_148 h46 rfl rfl hl.1 rfl (Nat.le_of_ble_eq_true rfl) (by decide) dX12_phases_2 ⟨Nat.le_of_ble_eq_true rfl, Nat.le_of_ble_eq_true rfl⟩) hM (fun r M1 H locs hM hp => ?_)
  obtain ⟨rfl, rfl⟩ := hp
  refine lv_if_eq (tgt := 33) hx hb dX12_phases_5 (by decide) (fun c_1 => ?_) (fun c_1 => ?_)
  · skip
    refine lv_iconst (v := -1) hx hb dX12_phases_33 (by decide) ?_
    exact R_i X hr hk hM ⟨(by unfold mFitC; (try simp only [hcj]); (first | rw [if_pos c_1] | rw [if_neg c_1] | skip)), rfl⟩ dX12_phases_34
  · skip
    obtain ⟨j, hj, rfl⟩ := fIsL_k hL c_1
    have hcj : (nI j).toNatClampNeg = j := nI_clamp (by omega)
    refine lv_iload_n hx hb dX12_phases_8 rfl (lv_at hl 2 rfl) ?_
    refine lv_iconst (v := 0) hx hb dX12_phases_9 (by decide) ?_
    refine lv_iconst (v := 1) hx hb dX12_phases_10 (by decide) ?_
    refine K_i (G_S (As := [.int x, .int 0, .int 1]) (rest := []) X hM (c_X12_in l g _ x 0 1  ) lk_X12_41 rfl hl.1 rfl (Nat.le_of_ble_eq_true rfl) (by decide) dX12_phases_11 ⟨Nat.le_of_ble_eq_true rfl, Nat.le_of_ble_eq_true rfl⟩) hM (fun r M1 H locs hM hp => ?_)
    obtain ⟨rfl, rfl⟩ := hp
    refine lv_if_eq (tgt := 33) hx hb dX12_phases_14 (by decide) (fun c_2 => ?_) (fun c_2 => ?_)
    · skip
      refine lv_iconst (v := -1) hx hb dX12_phases_33 (by decide) ?_
      exact R_i X hr hk hM ⟨(by unfold mFitC; (try simp only [hcj]); (first | rw [if_pos c_1] | rw [if_neg c_1] | skip); (first | rw [if_pos c_2] | rw [if_neg c_2] | skip)), rfl⟩ dX12_phases_34
    · skip
      refine lv_aload_n hx hb dX12_phases_17 rfl (lv_at hl 0 rfl) ?_
      refine lv_iload_n hx hb dX12_phases_18 rfl (lv_at hl 1 rfl) ?_
      refine lv_bipush (v := 34) hx hb dX12_phases_19 (by decide) ?_
      refine lv_iload_n hx hb dX12_phases_21 rfl (lv_at hl 1 rfl) ?_
      refine lv_iadd hx hb dX12_phases_22 ?_
      rw [show (34 : Int32) + (nI j) = nI (34 + j) from nI_add 34 j]
      refine lv_iconst (v := 0) hx hb dX12_phases_23 (by decide) ?_
      refine lv_bipush (v := 29) hx hb dX12_phases_24 (by decide) ?_
      refine lv_iload_n hx hb dX12_phases_26 rfl (lv_at hl 2 rfl) ?_
      refine K_i (G_V (As := [.int (nI j), .int (nI (34 + j)), .int 0, .int 29, .int x]) (rest := []) X hM (c_X12_fitting l g _ m0 m1 m2 m3 m4 m5 m6 m7 m8 m9 m10 m11 f (34 + j) j t nn 0 29 x h46 h47 (by omega) (hR _ (by omega)) h0 h11 hnn (by omega) (by omega) (by decide) (by decide)) lk_X12_199 h46 rfl rfl hl.1 rfl (Nat.le_of_ble_eq_true rfl) (by decide) dX12_phases_27 ⟨Nat.le_of_ble_eq_true rfl, Nat.le_of_ble_eq_true rfl⟩) hM (fun r M1 H locs hM hp => ?_)
      obtain ⟨rfl, rfl⟩ := hp
      refine lv_goto (tgt := 34) hx hb dX12_phases_30 (by decide) ?_
      exact R_i X hr hk hM ⟨(by unfold mFitC; (try simp only [hcj]); (first | rw [if_pos c_1] | rw [if_neg c_1] | skip); (first | rw [if_pos c_2] | rw [if_neg c_2] | skip)), rfl⟩ dX12_phases_34
set_option maxHeartbeats 4000000 in
set_option maxRecDepth 100000 in
theorem c_X12_firm (l : Launch) (g : Gp) (M : Mem) (m0 m1 m2 m3 m4 m5 m6 m7 m8 m9 m10 m11 : Int32) (f : Nat → Int32) (L : Nat) (t nn : Nat) (y x : Int32) (h46 : M (gA g 46) = some (mdE g m0 m1 m2 m3 m4 m5 m6 m7 m8 m9 m10 m11)) (h47 : M (gA g 47) = some (aI g 929 f)) (hO : MOk f L) (h0 : f 0 = nI t) (ht : t < 10000) (h11 : f 11 = nI nn) (hnn : nn ≤ 6) : Met l yX12_firm (wsM yX12_firm cX12_firm 3 (some .int)) (rmD 4 0 0) (Pre g M [.ref (gA g 46), .int y, .int x]) (Qi g (fun r M1 => (mFitC f L 22 t nn 0 9 y x) = r ∧ M = M1)) 0 0 (gF g) := M_start (by decide +kernel) (Nat.le_of_ble_eq_true rfl) fun p e s m args below meth c ls X hr hk hnm hM hl => by
  have X : Cx g p m c cX12_firm 3 s args RX12 := X
  have hx := X.1.1
  have hb := X.1.2.1
  have hl : lv_has ls 3 [(0, .ref (gA g 46)), (1, .int y), (2, .int x)] := hl
  obtain ⟨h9, hL, hR, hS⟩ := id hO
  refine lv_aload_n hx hb dX12_firm_0 rfl (lv_at hl 0 rfl) ?_
  refine lv_iload_n hx hb dX12_firm_1 rfl (lv_at hl 1 rfl) ?_
  refine K_i (G_V (As := [.int y]) (rest := []) X hM (c_X12_isLightL l g _ m0 m1 m2 m3 m4 m5 m6 m7 m8 m9 m10 m11 f L y h46 h47 h9 hL) lk_X12_148 h46 rfl rfl hl.1 rfl (Nat.le_of_ble_eq_true rfl) (by decide) dX12_firm_2 ⟨Nat.le_of_ble_eq_true rfl, Nat.le_of_ble_eq_true rfl⟩) hM (fun r M1 H locs hM hp => ?_)
  obtain ⟨rfl, rfl⟩ := hp
  refine lv_if_eq (tgt := 33) hx hb dX12_firm_5 (by decide) (fun c_1 => ?_) (fun c_1 => ?_)
  · skip
    refine lv_iconst (v := -1) hx hb dX12_firm_33 (by decide) ?_
    exact R_i X hr hk hM ⟨(by unfold mFitC; (try simp only [hcj]); (first | rw [if_pos c_1] | rw [if_neg c_1] | skip)), rfl⟩ dX12_firm_34
  · skip
    obtain ⟨j, hj, rfl⟩ := fIsL_k hL c_1
    have hcj : (nI j).toNatClampNeg = j := nI_clamp (by omega)
    refine lv_iload_n hx hb dX12_firm_8 rfl (lv_at hl 2 rfl) ?_
    refine lv_iconst (v := 0) hx hb dX12_firm_9 (by decide) ?_
    refine lv_iconst (v := 1) hx hb dX12_firm_10 (by decide) ?_
    refine K_i (G_S (As := [.int x, .int 0, .int 1]) (rest := []) X hM (c_X12_in l g _ x 0 1  ) lk_X12_41 rfl hl.1 rfl (Nat.le_of_ble_eq_true rfl) (by decide) dX12_firm_11 ⟨Nat.le_of_ble_eq_true rfl, Nat.le_of_ble_eq_true rfl⟩) hM (fun r M1 H locs hM hp => ?_)
    obtain ⟨rfl, rfl⟩ := hp
    refine lv_if_eq (tgt := 33) hx hb dX12_firm_14 (by decide) (fun c_2 => ?_) (fun c_2 => ?_)
    · skip
      refine lv_iconst (v := -1) hx hb dX12_firm_33 (by decide) ?_
      exact R_i X hr hk hM ⟨(by unfold mFitC; (try simp only [hcj]); (first | rw [if_pos c_1] | rw [if_neg c_1] | skip); (first | rw [if_pos c_2] | rw [if_neg c_2] | skip)), rfl⟩ dX12_firm_34
    · skip
      refine lv_aload_n hx hb dX12_firm_17 rfl (lv_at hl 0 rfl) ?_
      refine lv_iload_n hx hb dX12_firm_18 rfl (lv_at hl 1 rfl) ?_
      refine lv_bipush (v := 22) hx hb dX12_firm_19 (by decide) ?_
      refine lv_iload_n hx hb dX12_firm_21 rfl (lv_at hl 1 rfl) ?_
      refine lv_iadd hx hb dX12_firm_22 ?_
      rw [show (22 : Int32) + (nI j) = nI (22 + j) from nI_add 22 j]
      refine lv_iconst (v := 0) hx hb dX12_firm_23 (by decide) ?_
      refine lv_bipush (v := 9) hx hb dX12_firm_24 (by decide) ?_
      refine lv_iload_n hx hb dX12_firm_26 rfl (lv_at hl 2 rfl) ?_
      refine K_i (G_V (As := [.int (nI j), .int (nI (22 + j)), .int 0, .int 9, .int x]) (rest := []) X hM (c_X12_fitting l g _ m0 m1 m2 m3 m4 m5 m6 m7 m8 m9 m10 m11 f (22 + j) j t nn 0 9 x h46 h47 (by omega) (hR _ (by omega)) h0 h11 hnn (by omega) (by omega) (by decide) (by decide)) lk_X12_199 h46 rfl rfl hl.1 rfl (Nat.le_of_ble_eq_true rfl) (by decide) dX12_firm_27 ⟨Nat.le_of_ble_eq_true rfl, Nat.le_of_ble_eq_true rfl⟩) hM (fun r M1 H locs hM hp => ?_)
      obtain ⟨rfl, rfl⟩ := hp
      refine lv_goto (tgt := 34) hx hb dX12_firm_30 (by decide) ?_
      exact R_i X hr hk hM ⟨(by unfold mFitC; (try simp only [hcj]); (first | rw [if_pos c_1] | rw [if_neg c_1] | skip); (first | rw [if_pos c_2] | rw [if_neg c_2] | skip)), rfl⟩ dX12_firm_34
set_option maxHeartbeats 4000000 in
set_option maxRecDepth 100000 in
theorem c_X12_lowest (l : Launch) (g : Gp) (M : Mem) (u b : Nat) (pt : Int32) (hu : u < 4294967296) (hb1 : 1 ≤ b) (hb2 : b ≤ 100) : Met l yX12_lowest (wsM yX12_lowest cX12_lowest 11 (some .long)) (rmD 1 0 0) (Pre g M [.long (lN u), .long (lN b), .int pt]) (Ql g (fun r M1 => ((if pt = 0 then lN u else lN b) / lN (Nat.gcd u b)) = r ∧ M = M1)) 0 0 (gF g) := M_start (by decide +kernel) (Nat.le_of_ble_eq_true rfl) fun p e s m args below meth c ls X hr hk hnm hM hl => by
  have X : Cx g p m c cX12_lowest 11 s args RX12 := X
  have hx := X.1.1
  have hb := X.1.2.1
  have hl : lv_has ls 11 [(0, .long (lN u)), (2, .long (lN b)), (4, .int pt)] := hl
  refine lv_lload_n hx hb dX12_lowest_0 rfl (lv_at hl 0 rfl) ?_
  refine lv_lconst (v := 0) hx hb dX12_lowest_1 (by decide) ?_
  refine W.lcmp hx hb dX12_lowest_2 ?_
  refine lv_if_ge (tgt := 11) hx hb dX12_lowest_3 (by decide) (fun c_1 => ?_) (fun c_1 => ?_)
  · skip
    refine lv_lload_n hx hb dX12_lowest_11 rfl (lv_at hl 0 rfl) ?_
    refine lv_lstore (lv' := [(5, .long (lN u)), (0, .long (lN u)), (2, .long (lN b)), (4, .int pt)]) hx hb dX12_lowest_12 hl (by decide) rfl (fun ls hl => ?_)
    refine lv_lload_n hx hb dX12_lowest_14 rfl (lv_at hl 2 rfl) ?_
    refine lv_lstore (lv' := [(7, .long (lN b)), (5, .long (lN u)), (0, .long (lN u)), (2, .long (lN b)), (4, .int pt)]) hx hb dX12_lowest_15 hl (by decide) rfl (fun ls hl => ?_)
    have L17 : ∀ (fu : Nat) (xv yv : Nat) (kg : Nat.gcd xv yv = Nat.gcd u b) (hxv : xv < 4294967296) (hyv : yv < 4294967296) (H : Heap) (locs : List Loc) (hM : MW g (M) H locs) (ls : Array Slot) (hl : lv_has ls 11 [(0, .long (lN u)), (2, .long (lN b)), (4, .int pt), (5, .long (lN xv)), (7, .long (lN yv))]), yv < fu → W p l e (rmD 1 0 0) s m args below meth c H locs 0 0 (MQ below (Ql g (fun r M1 => ((if pt = 0 then lN u else lN b) / lN (Nat.gcd u b)) = r ∧ M = M1)) args s 0 0 (gF g)) (F0 m 17 ls []) := by
      intro fu
      induction fu with
      | zero => intro xv yv kg hxv hyv H locs hM ls hl hmu; exact absurd hmu (Nat.not_lt_zero _)
      | succ fu ih =>
        intro xv yv kg hxv hyv H locs hM ls hl hmu
        refine lv_lload hx hb dX12_lowest_17 (lv_at hl 4 rfl) ?_
        refine lv_lconst (v := 0) hx hb dX12_lowest_19 (by decide) ?_
        refine W.lcmp hx hb dX12_lowest_20 ?_
        refine lv_if_eq (tgt := 42) hx hb dX12_lowest_21 (by decide) (fun c_2 => ?_) (fun c_2 => ?_)
        · skip
          have hy0 : yv = 0 := (lcmp_eq (by omega)).mp c_2
          have hxg : xv = Nat.gcd u b := by rw [← kg, hy0, Nat.gcd_zero_right]
          have hxp : 0 < xv := by rw [hxg]; exact Nat.gcd_pos_of_pos_right _ (by omega)
          have hxn : ¬ lN xv = 0 := fun q => absurd ((pk_lEQ (b := 0) (by omega) (by decide)).mp q) (by omega)
          refine lv_iload hx hb dX12_lowest_42 (lv_at hl 2 rfl) ?_
          refine lv_if_ne (tgt := 51) hx hb dX12_lowest_44 (by decide) (fun c_3 => ?_) (fun c_3 => ?_)
          · skip
            refine lv_lload_n hx hb dX12_lowest_51 rfl (lv_at hl 1 rfl) ?_
            refine lv_lload hx hb dX12_lowest_52 (lv_at hl 3 rfl) ?_
            refine lv_ldiv hx hb dX12_lowest_54 hxn ?_
            exact R_l X hr hk hM ⟨(by rw [← hxg]; first | rw [if_pos c_3] | rw [if_neg c_3]), rfl⟩ dX12_lowest_55
          · skip
            refine lv_lload_n hx hb dX12_lowest_47 rfl (lv_at hl 0 rfl) ?_
            refine lv_goto (tgt := 52) hx hb dX12_lowest_48 (by decide) ?_
            refine lv_lload hx hb dX12_lowest_52 (lv_at hl 3 rfl) ?_
            refine lv_ldiv hx hb dX12_lowest_54 hxn ?_
            exact R_l X hr hk hM ⟨(by rw [← hxg]; first | rw [if_pos c_3] | rw [if_neg c_3]), rfl⟩ dX12_lowest_55
        · skip
          have hy0 : ¬ yv = 0 := fun q => c_2 ((lcmp_eq (by omega)).mpr q)
          have hyn : ¬ lN yv = 0 := fun q => hy0 ((pk_lEQ (b := 0) (by omega) (by decide)).mp q)
          have hml := Nat.mod_lt xv (show 0 < yv by omega)
          refine lv_lload hx hb dX12_lowest_24 (lv_at hl 3 rfl) ?_
          refine lv_lload hx hb dX12_lowest_26 (lv_at hl 4 rfl) ?_
          refine lv_lrem hx hb dX12_lowest_28 hyn ?_
          rw [show (lN xv) - (lN xv) / (lN yv) * (lN yv) = lN (xv % yv) from pk_lRem (by omega) (by omega) (by omega)]
          refine lv_lstore (lv' := [(9, .long (lN (xv % yv))), (0, .long (lN u)), (2, .long (lN b)), (4, .int pt), (5, .long (lN xv)), (7, .long (lN yv))]) hx hb dX12_lowest_29 hl (by decide) rfl (fun ls hl => ?_)
          refine lv_lload hx hb dX12_lowest_31 (lv_at hl 5 rfl) ?_
          refine lv_lstore (lv' := [(5, .long (lN yv)), (9, .long (lN (xv % yv))), (0, .long (lN u)), (2, .long (lN b)), (4, .int pt), (7, .long (lN yv))]) hx hb dX12_lowest_33 hl (by decide) rfl (fun ls hl => ?_)
          refine lv_lload hx hb dX12_lowest_35 (lv_at hl 1 rfl) ?_
          refine lv_lstore (lv' := [(7, .long (lN (xv % yv))), (5, .long (lN yv)), (9, .long (lN (xv % yv))), (0, .long (lN u)), (2, .long (lN b)), (4, .int pt)]) hx hb dX12_lowest_37 hl (by decide) rfl (fun ls hl => ?_)
          refine lv_goto (tgt := 17) hx hb dX12_lowest_39 (by decide) ?_
          exact ih yv (xv % yv) (by rw [← kg, Nat.gcd_comm yv, ← Nat.gcd_rec, Nat.gcd_comm]) hyv (by omega) _ _ hM _ (lv_sub hl [3, 4, 5, 1, 0] rfl) (by omega)
    exact L17 (b + 1) u b rfl hu (by omega) _ _ hM _ (lv_sub hl [2, 3, 4, 1, 0] rfl) (by first | exact Nat.lt_succ_self _ | omega)
  · skip
    exact absurd (lcmp_ge (a := u) (by omega)) c_1
