def mUps (f : Nat → Int32) (ni : Int32) : Nat → Int32
  | 0 => 0
  | i + 1 => mUps f ni i ||| (if mUp f i ni = 0 then (0 : Int32) else (1 : Int32) <<< (nI i &&& 31))

set_option maxHeartbeats 4000000 in
set_option maxRecDepth 100000 in
theorem c_X12_image (l : Launch) (g : Gp) (M : Mem) (m0 m1 m2 m3 m4 m5 m6 m7 m8 m9 m10 m11 : Int32) (f : Nat → Int32) (im : Nat → Int32) (h46 : M (gA g 46) = some (mdE g m0 m1 m2 m3 m4 m5 m6 m7 m8 m9 m10 m11)) (h47 : M (gA g 47) = some (aI g 929 f)) (h48 : M (gA g 48) = some (aI g 929 im)) : Met l yX12_image (wsM yX12_image cX12_image 2 (some .int)) (rmD 1 0 0) (Pre g M [.ref (gA g 46)]) (Qi g (fun r M1 => (f 9) = r ∧ mup (mup M (gA g 48) (aI g 929 (mCp 929 f im))) (gA g 46) (mdE g m0 1 m2 m3 m4 m5 m6 m7 m8 m9 m10 m11) = M1)) 0 0 (gF g) := M_start (by decide +kernel) (Nat.le_of_ble_eq_true rfl) fun p e s m args below meth c ls X hr hk hnm hM hl => by
  have X : Cx g p m c cX12_image 2 s args RX12 := X
  have hx := X.1.1
  have hb := X.1.2.1
  have hl : lv_has ls 2 [(0, .ref (gA g 46))] := hl
  refine lv_iconst (v := 0) hx hb dX12_image_0 (by decide) ?_
  refine lv_istore_n (lv' := [(1, .int 0), (0, .ref (gA g 46))]) hx hb dX12_image_1 rfl hl (by decide) rfl (fun ls hl => ?_)
  have L2 : ∀ (fu : Nat) (i : Nat) (hi : i ≤ 929) (H : Heap) (locs : List Loc) (hM : MW g (mup M (gA g 48) (aI g 929 (mCp i f im))) H locs) (ls : Array Slot) (hl : lv_has ls 2 [(0, .ref (gA g 46)), (1, .int (nI i))]), 929 - i < fu → W p l e (rmD 1 0 0) s m args below meth c H locs 0 0 (MQ below (Qi g (fun r M1 => (f 9) = r ∧ mup (mup M (gA g 48) (aI g 929 (mCp 929 f im))) (gA g 46) (mdE g m0 1 m2 m3 m4 m5 m6 m7 m8 m9 m10 m11) = M1)) args s 0 0 (gF g)) (F0 m 2 ls []) := by
    intro fu
    induction fu with
    | zero => intro i hi H locs hM ls hl hmu; exact absurd hmu (Nat.not_lt_zero _)
    | succ fu ih =>
      intro i hi H locs hM ls hl hmu
      refine lv_iload_n hx hb dX12_image_2 rfl (lv_at hl 1 rfl) ?_
      refine lv_sipush (v := 929) hx hb dX12_image_3 (by decide) ?_
      refine lv_icmp_ge (tgt := 27) hx hb dX12_image_6 (by decide) (fun c_1 => ?_) (fun c_1 => ?_)
      · skip
        have hz0 : nI 929 ≤ nI i := c_1
        have hz1 : 929 ≤ i := (nI_leI (by omega) (by omega)).mp hz0
        have hz2 : i = 929 := by omega
        refine lv_aload_n hx hb dX12_image_27 rfl (lv_at hl 0 rfl) ?_
        refine lv_iconst (v := 1) hx hb dX12_image_28 (by decide) ?_
        refine r_put (T := TX12) (N := 20) (ci := 12) X hM iX12 tyX12 tyX12_ok nmX12 rfl 4 (by decide) q_839 rfl (Or.inl rfl) (mup_r (X.2.ne (i := 46) (j := 48) (by decide) (by decide) (by decide)) h46) rfl rfl (Nat.le_of_ble_eq_true rfl) dX12_image_29 (fun H locs hM => ?_)
        have hM : MW g (mup (mup M (gA g 48) (aI g 929 (mCp i f im))) (gA g 46) (mdE g m0 1 m2 m3 m4 m5 m6 m7 m8 m9 m10 m11)) H locs := hM
        refine lv_aload_n hx hb dX12_image_32 rfl (lv_at hl 0 rfl) ?_
        refine r_get (T := TX12) (N := 20) (ci := 12) (v := .ref (gA g 47)) X hM iX12 rfl 1 (by decide) q_836 (Or.inl rfl) (mup_s _ _ _) rfl dX12_image_33 ?_
        refine lv_bipush (v := 9) hx hb dX12_image_36 (by decide) ?_
        refine r_iald (i := 9) X hM (mup_r (X.2.ne (i := 47) (j := 46) (by decide) (by decide) (by decide)) (mup_r (X.2.ne (i := 47) (j := 48) (by decide) (by decide) (by decide)) h47)) (vp_in_nI (n := 9) (by decide) (by decide)) dX12_image_38 ?_
        rw [show ((9 : Int32)).toNatClampNeg = 9 from by decide]
        exact R_i X hr hk hM ⟨rfl, (by rw [hz2])⟩ dX12_image_39
      · skip
        have hz1 : i < 929 := by
          rcases Nat.lt_or_ge i 929 with q | q
          · exact q
          · exact absurd (show nI 929 ≤ nI i from (nI_leI (by omega) (by omega)).mpr q) c_1
        refine lv_aload_n hx hb dX12_image_9 rfl (lv_at hl 0 rfl) ?_
        refine r_get (T := TX12) (N := 20) (ci := 12) (v := .ref (gA g 48)) X hM iX12 rfl 2 (by decide) q_837 (Or.inl rfl) (mup_r (X.2.ne (i := 46) (j := 48) (by decide) (by decide) (by decide)) h46) rfl dX12_image_10 ?_
        refine lv_iload_n hx hb dX12_image_13 rfl (lv_at hl 1 rfl) ?_
        refine lv_aload_n hx hb dX12_image_14 rfl (lv_at hl 0 rfl) ?_
        refine r_get (T := TX12) (N := 20) (ci := 12) (v := .ref (gA g 47)) X hM iX12 rfl 1 (by decide) q_836 (Or.inl rfl) (mup_r (X.2.ne (i := 46) (j := 48) (by decide) (by decide) (by decide)) h46) rfl dX12_image_15 ?_
        refine lv_iload_n hx hb dX12_image_18 rfl (lv_at hl 1 rfl) ?_
        refine r_iald (i := nI i) X hM (mup_r (X.2.ne (i := 47) (j := 48) (by decide) (by decide) (by decide)) h47) (vp_in_nI (by omega) (by decide)) dX12_image_19 ?_
        rw [nI_clamp (show i < 2147483648 by omega)]
        refine r_iast (i := nI i) (x := f i) X hM (mup_s _ _ _) (vp_in_nI (by omega) (by decide)) dX12_image_20 (fun H locs hM => ?_)
        rw [nI_clamp (show i < 2147483648 by omega)] at hM
        rw [mup_i] at hM
        have hM : MW g (mup M (gA g 48) (aI g 929 (upd (mCp i f im) i (f i)))) H locs := hM
        refine lv_iinc (v := (nI i) + 1) (lv' := [(1, .int ((nI i) + 1)), (0, .ref (gA g 46))]) hx hb dX12_image_21 hl (k := 1) rfl rfl (by decide) rfl (fun ls hl => ?_)
        refine lv_goto (tgt := 2) hx hb dX12_image_24 (by decide) ?_
        rw [mCp_s] at hM
        exact ih (i + 1) (by omega) _ _ hM _ ((by rw [← nI_1]; exact lv_sub hl [1, 0] rfl)) (by omega)
  exact L2 (929 + 1) 0 (Nat.zero_le _) _ _ (by rw [mCp_0, mup_id h48]; exact hM) _ (lv_sub hl [1, 0] rfl) (by first | exact Nat.lt_succ_self _ | omega)
set_option maxHeartbeats 4000000 in
set_option maxRecDepth 100000 in
theorem c_X12_undo_0 (l : Launch) (g : Gp) (M : Mem) (m0 m2 m3 m4 m5 m6 m7 m8 m9 m10 m11 : Int32) (h46 : M (gA g 46) = some (mdE g m0 0 m2 m3 m4 m5 m6 m7 m8 m9 m10 m11)) : Met l yX12_undo (wsM yX12_undo cX12_undo 2 (some .int)) (rmD 1 0 0) (Pre g M [.ref (gA g 46)]) (Qi g (fun r M1 => (-3) = r ∧ M = M1)) 0 0 (gF g) := M_start (by decide +kernel) (Nat.le_of_ble_eq_true rfl) fun p e s m args below meth c ls X hr hk hnm hM hl => by
  have X : Cx g p m c cX12_undo 2 s args RX12 := X
  have hx := X.1.1
  have hb := X.1.2.1
  have hl : lv_has ls 2 [(0, .ref (gA g 46))] := hl
  refine lv_aload_n hx hb dX12_undo_0 rfl (lv_at hl 0 rfl) ?_
  refine r_get (T := TX12) (N := 20) (ci := 12) (v := .int 0) X hM iX12 rfl 4 (by decide) q_839 (Or.inl rfl) h46 rfl dX12_undo_1 ?_
  refine lv_if_ne (tgt := 10) hx hb dX12_undo_4 (by decide) (fun c_1 => ?_) (fun c_1 => ?_)
  · exact absurd c_1 (by decide)
  · skip
    refine lv_bipush (v := -3) hx hb dX12_undo_7 (by decide) ?_
    exact R_i X hr hk hM ⟨rfl, rfl⟩ dX12_undo_9
set_option maxHeartbeats 4000000 in
set_option maxRecDepth 100000 in
theorem c_X12_undo_1 (l : Launch) (g : Gp) (M : Mem) (m0 m2 m3 m4 m5 m6 m7 m8 m9 m10 m11 : Int32) (f im : Nat → Int32) (h46 : M (gA g 46) = some (mdE g m0 1 m2 m3 m4 m5 m6 m7 m8 m9 m10 m11)) (h47 : M (gA g 47) = some (aI g 929 f)) (h48 : M (gA g 48) = some (aI g 929 im)) : Met l yX12_undo (wsM yX12_undo cX12_undo 2 (some .int)) (rmD 1 0 0) (Pre g M [.ref (gA g 46)]) (Qi g (fun r M1 => (im 9) = r ∧ mup M (gA g 47) (aI g 929 (mCp 929 im f)) = M1)) 0 0 (gF g) := M_start (by decide +kernel) (Nat.le_of_ble_eq_true rfl) fun p e s m args below meth c ls X hr hk hnm hM hl => by
  have X : Cx g p m c cX12_undo 2 s args RX12 := X
  have hx := X.1.1
  have hb := X.1.2.1
  have hl : lv_has ls 2 [(0, .ref (gA g 46))] := hl
  refine lv_aload_n hx hb dX12_undo_0 rfl (lv_at hl 0 rfl) ?_
  refine r_get (T := TX12) (N := 20) (ci := 12) (v := .int 1) X hM iX12 rfl 4 (by decide) q_839 (Or.inl rfl) h46 rfl dX12_undo_1 ?_
  refine lv_if_ne (tgt := 10) hx hb dX12_undo_4 (by decide) (fun c_1 => ?_) (fun c_1 => ?_)
  · skip
    refine lv_iconst (v := 0) hx hb dX12_undo_10 (by decide) ?_
    refine lv_istore_n (lv' := [(1, .int 0), (0, .ref (gA g 46))]) hx hb dX12_undo_11 rfl hl (by decide) rfl (fun ls hl => ?_)
    have L12 : ∀ (fu : Nat) (i : Nat) (hi : i ≤ 929) (H : Heap) (locs : List Loc) (hM : MW g (mup M (gA g 47) (aI g 929 (mCp i im f))) H locs) (ls : Array Slot) (hl : lv_has ls 2 [(0, .ref (gA g 46)), (1, .int (nI i))]), 929 - i < fu → W p l e (rmD 1 0 0) s m args below meth c H locs 0 0 (MQ below (Qi g (fun r M1 => (im 9) = r ∧ mup M (gA g 47) (aI g 929 (mCp 929 im f)) = M1)) args s 0 0 (gF g)) (F0 m 12 ls []) := by
      intro fu
      induction fu with
      | zero => intro i hi H locs hM ls hl hmu; exact absurd hmu (Nat.not_lt_zero _)
      | succ fu ih =>
        intro i hi H locs hM ls hl hmu
        refine lv_iload_n hx hb dX12_undo_12 rfl (lv_at hl 1 rfl) ?_
        refine lv_sipush (v := 929) hx hb dX12_undo_13 (by decide) ?_
        refine lv_icmp_ge (tgt := 37) hx hb dX12_undo_16 (by decide) (fun c_2 => ?_) (fun c_2 => ?_)
        · skip
          have hz0 : nI 929 ≤ nI i := c_2
          have hz1 : 929 ≤ i := (nI_leI (by omega) (by omega)).mp hz0
          have hz2 : i = 929 := by omega
          refine lv_aload_n hx hb dX12_undo_37 rfl (lv_at hl 0 rfl) ?_
          refine r_get (T := TX12) (N := 20) (ci := 12) (v := .ref (gA g 47)) X hM iX12 rfl 1 (by decide) q_836 (Or.inl rfl) (mup_r (X.2.ne (i := 46) (j := 47) (by decide) (by decide) (by decide)) h46) rfl dX12_undo_38 ?_
          refine lv_bipush (v := 9) hx hb dX12_undo_41 (by decide) ?_
          refine r_iald (i := 9) X hM (mup_s _ _ _) (vp_in_nI (n := 9) (by decide) (by decide)) dX12_undo_43 ?_
          rw [show ((9 : Int32)).toNatClampNeg = 9 from by decide]
          exact R_i X hr hk hM ⟨(by rw [hz2]; exact (if_pos (by decide)).symm), (by rw [hz2])⟩ dX12_undo_44
        · skip
          have hz1 : i < 929 := by
            rcases Nat.lt_or_ge i 929 with q | q
            · exact q
            · exact absurd (show nI 929 ≤ nI i from (nI_leI (by omega) (by omega)).mpr q) c_2
          refine lv_aload_n hx hb dX12_undo_19 rfl (lv_at hl 0 rfl) ?_
          refine r_get (T := TX12) (N := 20) (ci := 12) (v := .ref (gA g 47)) X hM iX12 rfl 1 (by decide) q_836 (Or.inl rfl) (mup_r (X.2.ne (i := 46) (j := 47) (by decide) (by decide) (by decide)) h46) rfl dX12_undo_20 ?_
          refine lv_iload_n hx hb dX12_undo_23 rfl (lv_at hl 1 rfl) ?_
          refine lv_aload_n hx hb dX12_undo_24 rfl (lv_at hl 0 rfl) ?_
          refine r_get (T := TX12) (N := 20) (ci := 12) (v := .ref (gA g 48)) X hM iX12 rfl 2 (by decide) q_837 (Or.inl rfl) (mup_r (X.2.ne (i := 46) (j := 47) (by decide) (by decide) (by decide)) h46) rfl dX12_undo_25 ?_
          refine lv_iload_n hx hb dX12_undo_28 rfl (lv_at hl 1 rfl) ?_
          refine r_iald (i := nI i) X hM (mup_r (X.2.ne (i := 48) (j := 47) (by decide) (by decide) (by decide)) h48) (vp_in_nI (by omega) (by decide)) dX12_undo_29 ?_
          rw [nI_clamp (show i < 2147483648 by omega)]
          refine r_iast (i := nI i) (x := im i) X hM (mup_s _ _ _) (vp_in_nI (by omega) (by decide)) dX12_undo_30 (fun H locs hM => ?_)
          rw [nI_clamp (show i < 2147483648 by omega)] at hM
          rw [mup_i] at hM
          have hM : MW g (mup M (gA g 47) (aI g 929 (upd (mCp i im f) i (im i)))) H locs := hM
          refine lv_iinc (v := (nI i) + 1) (lv' := [(1, .int ((nI i) + 1)), (0, .ref (gA g 46))]) hx hb dX12_undo_31 hl (k := 1) rfl rfl (by decide) rfl (fun ls hl => ?_)
          refine lv_goto (tgt := 12) hx hb dX12_undo_34 (by decide) ?_
          rw [mCp_s] at hM
          exact ih (i + 1) (by omega) _ _ hM _ ((by rw [← nI_1]; exact lv_sub hl [1, 0] rfl)) (by omega)
    exact L12 (929 + 1) 0 (Nat.zero_le _) _ _ (by rw [mCp_0, mup_id h47]; exact hM) _ (lv_sub hl [1, 0] rfl) (by first | exact Nat.lt_succ_self _ | omega)
  · exact absurd c_1 (by decide)
set_option maxHeartbeats 4000000 in
set_option maxRecDepth 100000 in
theorem c_X12_upOn (l : Launch) (g : Gp) (M : Mem) (m0 m1 m2 m3 m4 m5 m6 m7 m8 m9 m10 m11 : Int32) (f : Nat → Int32) (L : Nat) (ni : Int32) (h46 : M (gA g 46) = some (mdE g m0 m1 m2 m3 m4 m5 m6 m7 m8 m9 m10 m11)) (h47 : M (gA g 47) = some (aI g 929 f)) (h9 : f 9 = nI L) (hL : L ≤ 6) (hR : ∀ j, j < L → ¬ f (28 + j) = 0) : Met l yX12_upOn (wsM yX12_upOn cX12_upOn 4 (some .int)) (rmD 2 0 0) (Pre g M [.ref (gA g 46), .int ni]) (Qi g (fun r M1 => (mUps f ni L) = r ∧ M = M1)) 0 0 (gF g) := M_start (by decide +kernel) (Nat.le_of_ble_eq_true rfl) fun p e s m args below meth c ls X hr hk hnm hM hl => by
  have X : Cx g p m c cX12_upOn 4 s args RX12 := X
  have hx := X.1.1
  have hb := X.1.2.1
  have hl : lv_has ls 4 [(0, .ref (gA g 46)), (1, .int ni)] := hl
  refine lv_iconst (v := 0) hx hb dX12_upOn_0 (by decide) ?_
  refine lv_istore_n (lv' := [(2, .int 0), (0, .ref (gA g 46)), (1, .int ni)]) hx hb dX12_upOn_1 rfl hl (by decide) rfl (fun ls hl => ?_)
  refine lv_iconst (v := 0) hx hb dX12_upOn_2 (by decide) ?_
  refine lv_istore_n (lv' := [(3, .int 0), (2, .int 0), (0, .ref (gA g 46)), (1, .int ni)]) hx hb dX12_upOn_3 rfl hl (by decide) rfl (fun ls hl => ?_)
  have L4 : ∀ (fu : Nat) (i : Nat) (x2 : Int32) (hi : i ≤ L) (k2 : x2 = mUps f ni i) (H : Heap) (locs : List Loc) (hM : MW g (M) H locs) (ls : Array Slot) (hl : lv_has ls 4 [(0, .ref (gA g 46)), (1, .int ni), (2, .int x2), (3, .int (nI i))]), L - i < fu → W p l e (rmD 2 0 0) s m args below meth c H locs 0 0 (MQ below (Qi g (fun r M1 => (mUps f ni L) = r ∧ M = M1)) args s 0 0 (gF g)) (F0 m 4 ls []) := by
    intro fu
    induction fu with
    | zero => intro i x2 hi k2 H locs hM ls hl hmu; exact absurd hmu (Nat.not_lt_zero _)
    | succ fu ih =>
      intro i x2 hi k2 H locs hM ls hl hmu
      refine lv_iload_n hx hb dX12_upOn_4 rfl (lv_at hl 3 rfl) ?_
      refine lv_aload_n hx hb dX12_upOn_5 rfl (lv_at hl 0 rfl) ?_
      refine r_get (T := TX12) (N := 20) (ci := 12) (v := .ref (gA g 47)) X hM iX12 rfl 1 (by decide) q_836 (Or.inl rfl) h46 rfl dX12_upOn_6 ?_
      refine lv_bipush (v := 9) hx hb dX12_upOn_9 (by decide) ?_
      refine r_iald (i := 9) X hM h47 (vp_in_nI (n := 9) (by decide) (by decide)) dX12_upOn_11 ?_
      rw [show ((9 : Int32)).toNatClampNeg = 9 from by decide]
      rw [h9]
      refine lv_icmp_ge (tgt := 40) hx hb dX12_upOn_12 (by decide) (fun c_1 => ?_) (fun c_1 => ?_)
      · skip
        have hz1 : L ≤ i := (nI_leI (by omega) (by omega)).mp c_1
        have hz2 : i = L := by omega
        refine lv_iload_n hx hb dX12_upOn_40 rfl (lv_at hl 2 rfl) ?_
        exact R_i X hr hk hM ⟨(by rw [k2, hz2]), rfl⟩ dX12_upOn_41
      · skip
        have hz1 : i < L := by
          rcases Nat.lt_or_ge i L with q | q
          · exact q
          · exact absurd ((nI_leI (by omega) (by omega)).mpr q) c_1
        refine lv_iload_n hx hb dX12_upOn_15 rfl (lv_at hl 2 rfl) ?_
        refine lv_aload_n hx hb dX12_upOn_16 rfl (lv_at hl 0 rfl) ?_
        refine lv_iload_n hx hb dX12_upOn_17 rfl (lv_at hl 3 rfl) ?_
        refine lv_iload_n hx hb dX12_upOn_18 rfl (lv_at hl 1 rfl) ?_
        refine K_i (G_V (As := [.int (nI i), .int ni]) (rest := [.int x2]) X hM (c_X12_isUp l g _ m0 m1 m2 m3 m4 m5 m6 m7 m8 m9 m10 m11 f i ni h46 h47 (by omega) (hR i hz1)) lk_X12_141 h46 rfl rfl hl.1 rfl (Nat.le_of_ble_eq_true rfl) (by decide) dX12_upOn_19 ⟨Nat.le_of_ble_eq_true rfl, Nat.le_of_ble_eq_true rfl⟩) hM (fun r M1 H locs hM hp => ?_)
        obtain ⟨rfl, rfl⟩ := hp
        refine l_joinM (ls := ls) hM 32 (if mUp f i ni = 0 then (0 : Int32) else (1 : Int32) <<< (nI i &&& 31)) [.int x2] (fun H locs hM => ?_) (fun J22 => ?_)
        · skip
          refine lv_ior hx hb dX12_upOn_32 ?_
          refine lv_istore_n (lv' := [(2, .int (x2 ||| (if mUp f i ni = 0 then (0 : Int32) else (1 : Int32) <<< (nI i &&& 31)))), (0, .ref (gA g 46)), (1, .int ni), (3, .int (nI i))]) hx hb dX12_upOn_33 rfl hl (by decide) rfl (fun ls hl => ?_)
          refine lv_iinc (v := (nI i) + 1) (lv' := [(3, .int ((nI i) + 1)), (2, .int (x2 ||| (if mUp f i ni = 0 then (0 : Int32) else (1 : Int32) <<< (nI i &&& 31)))), (0, .ref (gA g 46)), (1, .int ni)]) hx hb dX12_upOn_34 hl (k := 3) rfl rfl (by decide) rfl (fun ls hl => ?_)
          refine lv_goto (tgt := 4) hx hb dX12_upOn_37 (by decide) ?_
          exact ih (i + 1) (x2 ||| (if mUp f i ni = 0 then (0 : Int32) else (1 : Int32) <<< (nI i &&& 31))) (by omega) (by rw [k2]; rfl) _ _ hM _ ((by rw [← nI_1]; exact lv_sub hl [2, 3, 1, 0] rfl)) (by omega)
        refine lv_if_eq (tgt := 31) hx hb dX12_upOn_22 (by decide) (fun c_2 => ?_) (fun c_2 => ?_)
        · skip
          refine lv_iconst (v := 0) hx hb dX12_upOn_31 (by decide) ?_
          exact J22 _ _ _ hM (by (first | rw [if_pos c_2] | rw [if_neg c_2] | skip); all_goals (first | rfl | simp [*]))
        · skip
          refine lv_iconst (v := 1) hx hb dX12_upOn_25 (by decide) ?_
          refine lv_iload_n hx hb dX12_upOn_26 rfl (lv_at hl 3 rfl) ?_
          refine lv_ishl hx hb dX12_upOn_27 ?_
          refine lv_goto (tgt := 32) hx hb dX12_upOn_28 (by decide) ?_
          exact J22 _ _ _ hM (by (first | rw [if_pos c_2] | rw [if_neg c_2] | skip); all_goals (first | rfl | simp [*]))
  exact L4 (L + 1) 0 0 (Nat.zero_le _) rfl _ _ hM _ (lv_sub hl [2, 3, 1, 0] rfl) (by first | exact Nat.lt_succ_self _ | omega)
