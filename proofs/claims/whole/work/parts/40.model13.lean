def mCnt (x : Int32) : Nat → Int32
  | 0 => 0
  | i + 1 => mCnt x i + ((x >>> (nI i &&& 31)) &&& 1)
def mLok (f : Nat → Int32) (n1 : Nat) : Nat → Nat → Int32
  | 0, _ => -5
  | u + 1, i => if mTrn f (f 0 + f (98 + i)) = f (106 + i) then mLok f n1 u (i + 1) else nI i
theorem mLok_eq {f : Nat → Int32} {n1 N i : Nat} (h : mTrn f (f 0 + f (98 + i)) = f (106 + i)) (hi : i < N) : mLok f n1 (N - i) i = mLok f n1 (N - (i + 1)) (i + 1) := by
  obtain ⟨u, hu⟩ : ∃ u, N - i = u + 1 := ⟨N - i - 1, by omega⟩
  rw [hu, show N - (i + 1) = u by omega]
  exact if_pos h
theorem mLok_ne {f : Nat → Int32} {n1 N i : Nat} (h : ¬ mTrn f (f 0 + f (98 + i)) = f (106 + i)) (hi : i < N) : mLok f n1 (N - i) i = nI i := by
  obtain ⟨u, hu⟩ : ∃ u, N - i = u + 1 := ⟨N - i - 1, by omega⟩
  rw [hu]
  exact if_neg h

theorem lk_X12_158 : LkV RX12 158 yX12_turnOn cX12_turnOn 3 (some .int) 1 := lkV_of q_1028 q_1030 qs_29 q_7 q_1031 ⟨by decide, by decide, by decide +kernel⟩ (by decide)
set_option maxHeartbeats 4000000 in
set_option maxRecDepth 100000 in
theorem c_X12_init (l : Launch) (g : Gp) (M : Mem) (o : Nat) (h_o : M o = some (.inr (12, [.int 0, .null, .null, .null, .int 0, .int 0, .int 0, .int 0, .int 0, .int 0, .int 0, .null, .null, .null, .null, .null, .int 0, .int 0, .int 0, .int 0]))) : Met l yX12_init (wsM yX12_init cX12_init 1 none) (rmD 2 8 1987) (Pre g M [.ref o]) (Qv g (fun M1 => ∃ (b0 b1 b2 b3 b4 b5 b6 b7 : Nat), Fr M [b7, b6, b5, b4, b3, b2, b1, b0] ∧ mup (mup (mup (mup (mup (mup (mup (mup (mup M o (.inr (12, [.int 0, .ref b0, .ref b1, .ref b2, .int 0, .int 0, .int 0, .int 0, .int 0, .int 0, .int 0, .ref b3, .ref b4, .ref b5, .ref b6, .ref b7, .int 0, .int 0, .int 0, .int 0]))) b0 (aI g 929 (upd (fun _ => 0) 15 (-1)))) b1 (aI g 929 (fun _ => 0))) b2 (aI g 9 (fun _ => 0))) b3 (aI g 6 (fun _ => 0))) b4 (aZ g 64 (fun _ => 0))) b5 (aI g 18 (fun _ => 0))) b6 (aI g 12 (fun _ => 0))) b7 (aI g 20 (fun _ => 0)) = M1)) 8 1987 (gF g) := M_start (by decide +kernel) (Nat.le_of_ble_eq_true rfl) fun p e s m args below meth c ls X hr hk hnm hM hl => by
  have X : Cx g p m c cX12_init 1 s args RX12 := X
  have hx := X.1.1
  have hb := X.1.2.1
  obtain ⟨H, eH⟩ : ∃ z, z = s.heap := ⟨_, rfl⟩
  rw [← eH] at hM
  rw [← eH]
  obtain ⟨locs, eL⟩ : ∃ z : List Loc, z = [] := ⟨_, rfl⟩
  rw [← eL] at hM
  rw [← eL]
  clear eH eL
  have hl : lv_has ls 1 [(0, .ref o)] := hl
  have hM : MW g (mup M o (.inr (12, [.int 0, .null, .null, .null, .int 0, .int 0, .int 0, .int 0, .int 0, .int 0, .int 0, .null, .null, .null, .null, .null, .int 0, .int 0, .int 0, .int 0]))) H locs := by rw [mup_id h_o]; exact hM
  refine lv_aload_n hx hb dX12_init_0 rfl (lv_at hl 0 rfl) ?_
  refine r_objI X hl.1 q_835 q_27 q_28 (by decide) (Nat.le_of_ble_eq_true rfl) dX12_init_1 ?_
  refine lv_aload_n hx hb dX12_init_4 rfl (lv_at hl 0 rfl) ?_
  refine lv_sipush (v := 929) hx hb dX12_init_5 (by decide) ?_
  have hM0 := hM
  refine r_newI (N' := 929) X hM (by decide) (by decide) (by decide) (Nat.le_of_ble_eq_true rfl) (Nat.le_of_ble_eq_true rfl) q_54 dX12_init_8 (fun H1 hz hM => ?_)
  obtain ⟨nq_1, enq_1⟩ : ∃ z, z = H.size := ⟨_, rfl⟩
  have n_nq_1_o : o ≠ nq_1 := by rw [enq_1]; exact Nat.ne_of_lt (hM0.lt (mup_s _ _ _))
  have N_nq_1 : (mup M o (.inr (12, [.int 0, .null, .null, .null, .int 0, .int 0, .int 0, .int 0, .int 0, .int 0, .int 0, .null, .null, .null, .null, .null, .int 0, .int 0, .int 0, .int 0]))) nq_1 = none := hM0.fresh enq_1
  rw [← enq_1] at hM
  rw [← enq_1]
  have F_2 : Fr M [nq_1] := Fr.app (L2 := [nq_1]) (show Fr (mup M o (.inr (12, [.int 0, .null, .null, .null, .int 0, .int 0, .int 0, .int 0, .int 0, .int 0, .int 0, .null, .null, .null, .null, .null, .int 0, .int 0, .int 0, .int 0]))) [nq_1] from Fr.one N_nq_1) Fr.nil (Gr.up (Gr.nil _))
  have hM : MW g (mup (mup M o (.inr (12, [.int 0, .null, .null, .null, .int 0, .int 0, .int 0, .int 0, .int 0, .int 0, .int 0, .null, .null, .null, .null, .null, .int 0, .int 0, .int 0, .int 0]))) nq_1 (aI g 929 (fun _ => 0))) H1 locs := hM
  clear hz hM0 enq_1
  revert hM
  generalize H1 = H
  intro hM
  refine r_put (T := TX12) (N := 20) (ci := 12) X hM iX12 tyX12 tyX12_ok nmX12 rfl 1 (by decide) q_836 rfl (Or.inr ⟨hnm, rfl⟩) (mup_r n_nq_1_o (mup_s _ _ _)) rfl rfl (Nat.le_of_ble_eq_true rfl) dX12_init_10 (fun H locs hM => ?_)
  rw [mup_w _ _ _ (Ne.symm n_nq_1_o), mup_i] at hM
  have hM : MW g (mup (mup M o (.inr (12, [.int 0, .ref nq_1, .null, .null, .int 0, .int 0, .int 0, .int 0, .int 0, .int 0, .int 0, .null, .null, .null, .null, .null, .int 0, .int 0, .int 0, .int 0]))) nq_1 (aI g 929 (fun _ => 0))) H locs := hM
  refine lv_aload_n hx hb dX12_init_13 rfl (lv_at hl 0 rfl) ?_
  refine lv_sipush (v := 929) hx hb dX12_init_14 (by decide) ?_
  have hM0 := hM
  refine r_newI (N' := 929) X hM (by decide) (by decide) (by decide) (Nat.le_of_ble_eq_true rfl) (Nat.le_of_ble_eq_true rfl) q_54 dX12_init_17 (fun H1 hz hM => ?_)
  obtain ⟨nq_3, enq_3⟩ : ∃ z, z = H.size := ⟨_, rfl⟩
  have n_nq_3_o : o ≠ nq_3 := by rw [enq_3]; exact Nat.ne_of_lt (hM0.lt (mup_r n_nq_1_o (mup_s _ _ _)))
  have n_nq_3_nq_1 : nq_1 ≠ nq_3 := by rw [enq_3]; exact Nat.ne_of_lt (hM0.lt (mup_s _ _ _))
  have N_nq_3 : (mup (mup M o (.inr (12, [.int 0, .ref nq_1, .null, .null, .int 0, .int 0, .int 0, .int 0, .int 0, .int 0, .int 0, .null, .null, .null, .null, .null, .int 0, .int 0, .int 0, .int 0]))) nq_1 (aI g 929 (fun _ => 0))) nq_3 = none := hM0.fresh enq_3
  rw [← enq_3] at hM
  rw [← enq_3]
  have F_4 : Fr M [nq_3, nq_1] := Fr.app (L2 := [nq_3]) (show Fr (mup (mup M o (.inr (12, [.int 0, .ref nq_1, .null, .null, .int 0, .int 0, .int 0, .int 0, .int 0, .int 0, .int 0, .null, .null, .null, .null, .null, .int 0, .int 0, .int 0, .int 0]))) nq_1 (aI g 929 (fun _ => 0))) [nq_3] from Fr.one N_nq_3) F_2 (Gr.add (Gr.up (Gr.nil _)))
  have hM : MW g (mup (mup (mup M o (.inr (12, [.int 0, .ref nq_1, .null, .null, .int 0, .int 0, .int 0, .int 0, .int 0, .int 0, .int 0, .null, .null, .null, .null, .null, .int 0, .int 0, .int 0, .int 0]))) nq_1 (aI g 929 (fun _ => 0))) nq_3 (aI g 929 (fun _ => 0))) H1 locs := hM
  clear hz hM0 enq_3
  revert hM
  generalize H1 = H
  intro hM
  refine r_put (T := TX12) (N := 20) (ci := 12) X hM iX12 tyX12 tyX12_ok nmX12 rfl 2 (by decide) q_837 rfl (Or.inr ⟨hnm, rfl⟩) (mup_r n_nq_3_o (mup_r n_nq_1_o (mup_s _ _ _))) rfl rfl (Nat.le_of_ble_eq_true rfl) dX12_init_19 (fun H locs hM => ?_)
  rw [mup_w _ _ _ (Ne.symm n_nq_3_o), mup_w _ _ _ (Ne.symm n_nq_1_o), mup_i] at hM
  have hM : MW g (mup (mup (mup M o (.inr (12, [.int 0, .ref nq_1, .ref nq_3, .null, .int 0, .int 0, .int 0, .int 0, .int 0, .int 0, .int 0, .null, .null, .null, .null, .null, .int 0, .int 0, .int 0, .int 0]))) nq_1 (aI g 929 (fun _ => 0))) nq_3 (aI g 929 (fun _ => 0))) H locs := hM
  refine lv_aload_n hx hb dX12_init_22 rfl (lv_at hl 0 rfl) ?_
  refine lv_bipush (v := 9) hx hb dX12_init_23 (by decide) ?_
  have hM0 := hM
  refine r_newI (N' := 9) X hM (by decide) (by decide) (by decide) (Nat.le_of_ble_eq_true rfl) (Nat.le_of_ble_eq_true rfl) q_54 dX12_init_25 (fun H1 hz hM => ?_)
  obtain ⟨nq_5, enq_5⟩ : ∃ z, z = H.size := ⟨_, rfl⟩
  have n_nq_5_o : o ≠ nq_5 := by rw [enq_5]; exact Nat.ne_of_lt (hM0.lt (mup_r n_nq_3_o (mup_r n_nq_1_o (mup_s _ _ _))))
  have n_nq_5_nq_1 : nq_1 ≠ nq_5 := by rw [enq_5]; exact Nat.ne_of_lt (hM0.lt (mup_r n_nq_3_nq_1 (mup_s _ _ _)))
  have n_nq_5_nq_3 : nq_3 ≠ nq_5 := by rw [enq_5]; exact Nat.ne_of_lt (hM0.lt (mup_s _ _ _))
  have N_nq_5 : (mup (mup (mup M o (.inr (12, [.int 0, .ref nq_1, .ref nq_3, .null, .int 0, .int 0, .int 0, .int 0, .int 0, .int 0, .int 0, .null, .null, .null, .null, .null, .int 0, .int 0, .int 0, .int 0]))) nq_1 (aI g 929 (fun _ => 0))) nq_3 (aI g 929 (fun _ => 0))) nq_5 = none := hM0.fresh enq_5
  rw [← enq_5] at hM
  rw [← enq_5]
  have F_6 : Fr M [nq_5, nq_3, nq_1] := Fr.app (L2 := [nq_5]) (show Fr (mup (mup (mup M o (.inr (12, [.int 0, .ref nq_1, .ref nq_3, .null, .int 0, .int 0, .int 0, .int 0, .int 0, .int 0, .int 0, .null, .null, .null, .null, .null, .int 0, .int 0, .int 0, .int 0]))) nq_1 (aI g 929 (fun _ => 0))) nq_3 (aI g 929 (fun _ => 0))) [nq_5] from Fr.one N_nq_5) F_4 (Gr.add (Gr.add (Gr.up (Gr.nil _))))
  have hM : MW g (mup (mup (mup (mup M o (.inr (12, [.int 0, .ref nq_1, .ref nq_3, .null, .int 0, .int 0, .int 0, .int 0, .int 0, .int 0, .int 0, .null, .null, .null, .null, .null, .int 0, .int 0, .int 0, .int 0]))) nq_1 (aI g 929 (fun _ => 0))) nq_3 (aI g 929 (fun _ => 0))) nq_5 (aI g 9 (fun _ => 0))) H1 locs := hM
  clear hz hM0 enq_5
  revert hM
  generalize H1 = H
  intro hM
  refine r_put (T := TX12) (N := 20) (ci := 12) X hM iX12 tyX12 tyX12_ok nmX12 rfl 3 (by decide) q_838 rfl (Or.inr ⟨hnm, rfl⟩) (mup_r n_nq_5_o (mup_r n_nq_3_o (mup_r n_nq_1_o (mup_s _ _ _)))) rfl rfl (Nat.le_of_ble_eq_true rfl) dX12_init_27 (fun H locs hM => ?_)
  rw [mup_w _ _ _ (Ne.symm n_nq_5_o), mup_w _ _ _ (Ne.symm n_nq_3_o), mup_w _ _ _ (Ne.symm n_nq_1_o), mup_i] at hM
  have hM : MW g (mup (mup (mup (mup M o (.inr (12, [.int 0, .ref nq_1, .ref nq_3, .ref nq_5, .int 0, .int 0, .int 0, .int 0, .int 0, .int 0, .int 0, .null, .null, .null, .null, .null, .int 0, .int 0, .int 0, .int 0]))) nq_1 (aI g 929 (fun _ => 0))) nq_3 (aI g 929 (fun _ => 0))) nq_5 (aI g 9 (fun _ => 0))) H locs := hM
  refine lv_aload_n hx hb dX12_init_30 rfl (lv_at hl 0 rfl) ?_
  refine lv_bipush (v := 6) hx hb dX12_init_31 (by decide) ?_
  have hM0 := hM
  refine r_newI (N' := 6) X hM (by decide) (by decide) (by decide) (Nat.le_of_ble_eq_true rfl) (Nat.le_of_ble_eq_true rfl) q_54 dX12_init_33 (fun H1 hz hM => ?_)
  obtain ⟨nq_7, enq_7⟩ : ∃ z, z = H.size := ⟨_, rfl⟩
  have n_nq_7_o : o ≠ nq_7 := by rw [enq_7]; exact Nat.ne_of_lt (hM0.lt (mup_r n_nq_5_o (mup_r n_nq_3_o (mup_r n_nq_1_o (mup_s _ _ _)))))
  have n_nq_7_nq_1 : nq_1 ≠ nq_7 := by rw [enq_7]; exact Nat.ne_of_lt (hM0.lt (mup_r n_nq_5_nq_1 (mup_r n_nq_3_nq_1 (mup_s _ _ _))))
  have n_nq_7_nq_3 : nq_3 ≠ nq_7 := by rw [enq_7]; exact Nat.ne_of_lt (hM0.lt (mup_r n_nq_5_nq_3 (mup_s _ _ _)))
  have n_nq_7_nq_5 : nq_5 ≠ nq_7 := by rw [enq_7]; exact Nat.ne_of_lt (hM0.lt (mup_s _ _ _))
  have N_nq_7 : (mup (mup (mup (mup M o (.inr (12, [.int 0, .ref nq_1, .ref nq_3, .ref nq_5, .int 0, .int 0, .int 0, .int 0, .int 0, .int 0, .int 0, .null, .null, .null, .null, .null, .int 0, .int 0, .int 0, .int 0]))) nq_1 (aI g 929 (fun _ => 0))) nq_3 (aI g 929 (fun _ => 0))) nq_5 (aI g 9 (fun _ => 0))) nq_7 = none := hM0.fresh enq_7
  rw [← enq_7] at hM
  rw [← enq_7]
  have F_8 : Fr M [nq_7, nq_5, nq_3, nq_1] := Fr.app (L2 := [nq_7]) (show Fr (mup (mup (mup (mup M o (.inr (12, [.int 0, .ref nq_1, .ref nq_3, .ref nq_5, .int 0, .int 0, .int 0, .int 0, .int 0, .int 0, .int 0, .null, .null, .null, .null, .null, .int 0, .int 0, .int 0, .int 0]))) nq_1 (aI g 929 (fun _ => 0))) nq_3 (aI g 929 (fun _ => 0))) nq_5 (aI g 9 (fun _ => 0))) [nq_7] from Fr.one N_nq_7) F_6 (Gr.add (Gr.add (Gr.add (Gr.up (Gr.nil _)))))
  have hM : MW g (mup (mup (mup (mup (mup M o (.inr (12, [.int 0, .ref nq_1, .ref nq_3, .ref nq_5, .int 0, .int 0, .int 0, .int 0, .int 0, .int 0, .int 0, .null, .null, .null, .null, .null, .int 0, .int 0, .int 0, .int 0]))) nq_1 (aI g 929 (fun _ => 0))) nq_3 (aI g 929 (fun _ => 0))) nq_5 (aI g 9 (fun _ => 0))) nq_7 (aI g 6 (fun _ => 0))) H1 locs := hM
  clear hz hM0 enq_7
  revert hM
  generalize H1 = H
  intro hM
  refine r_put (T := TX12) (N := 20) (ci := 12) X hM iX12 tyX12 tyX12_ok nmX12 rfl 11 (by decide) q_846 rfl (Or.inr ⟨hnm, rfl⟩) (mup_r n_nq_7_o (mup_r n_nq_5_o (mup_r n_nq_3_o (mup_r n_nq_1_o (mup_s _ _ _))))) rfl rfl (Nat.le_of_ble_eq_true rfl) dX12_init_35 (fun H locs hM => ?_)
  rw [mup_w _ _ _ (Ne.symm n_nq_7_o), mup_w _ _ _ (Ne.symm n_nq_5_o), mup_w _ _ _ (Ne.symm n_nq_3_o), mup_w _ _ _ (Ne.symm n_nq_1_o), mup_i] at hM
  have hM : MW g (mup (mup (mup (mup (mup M o (.inr (12, [.int 0, .ref nq_1, .ref nq_3, .ref nq_5, .int 0, .int 0, .int 0, .int 0, .int 0, .int 0, .int 0, .ref nq_7, .null, .null, .null, .null, .int 0, .int 0, .int 0, .int 0]))) nq_1 (aI g 929 (fun _ => 0))) nq_3 (aI g 929 (fun _ => 0))) nq_5 (aI g 9 (fun _ => 0))) nq_7 (aI g 6 (fun _ => 0))) H locs := hM
  refine lv_aload_n hx hb dX12_init_38 rfl (lv_at hl 0 rfl) ?_
  refine lv_bipush (v := 64) hx hb dX12_init_39 (by decide) ?_
  have hM0 := hM
  refine r_newZ (N' := 64) X hM (by decide) (by decide) (by decide) (Nat.le_of_ble_eq_true rfl) (Nat.le_of_ble_eq_true rfl) q_896 dX12_init_41 (fun H1 hz hM => ?_)
  obtain ⟨nq_9, enq_9⟩ : ∃ z, z = H.size := ⟨_, rfl⟩
  have n_nq_9_o : o ≠ nq_9 := by rw [enq_9]; exact Nat.ne_of_lt (hM0.lt (mup_r n_nq_7_o (mup_r n_nq_5_o (mup_r n_nq_3_o (mup_r n_nq_1_o (mup_s _ _ _))))))
  have n_nq_9_nq_1 : nq_1 ≠ nq_9 := by rw [enq_9]; exact Nat.ne_of_lt (hM0.lt (mup_r n_nq_7_nq_1 (mup_r n_nq_5_nq_1 (mup_r n_nq_3_nq_1 (mup_s _ _ _)))))
  have n_nq_9_nq_3 : nq_3 ≠ nq_9 := by rw [enq_9]; exact Nat.ne_of_lt (hM0.lt (mup_r n_nq_7_nq_3 (mup_r n_nq_5_nq_3 (mup_s _ _ _))))
  have n_nq_9_nq_5 : nq_5 ≠ nq_9 := by rw [enq_9]; exact Nat.ne_of_lt (hM0.lt (mup_r n_nq_7_nq_5 (mup_s _ _ _)))
  have n_nq_9_nq_7 : nq_7 ≠ nq_9 := by rw [enq_9]; exact Nat.ne_of_lt (hM0.lt (mup_s _ _ _))
  have N_nq_9 : (mup (mup (mup (mup (mup M o (.inr (12, [.int 0, .ref nq_1, .ref nq_3, .ref nq_5, .int 0, .int 0, .int 0, .int 0, .int 0, .int 0, .int 0, .ref nq_7, .null, .null, .null, .null, .int 0, .int 0, .int 0, .int 0]))) nq_1 (aI g 929 (fun _ => 0))) nq_3 (aI g 929 (fun _ => 0))) nq_5 (aI g 9 (fun _ => 0))) nq_7 (aI g 6 (fun _ => 0))) nq_9 = none := hM0.fresh enq_9
  rw [← enq_9] at hM
  rw [← enq_9]
  have F_10 : Fr M [nq_9, nq_7, nq_5, nq_3, nq_1] := Fr.app (L2 := [nq_9]) (show Fr (mup (mup (mup (mup (mup M o (.inr (12, [.int 0, .ref nq_1, .ref nq_3, .ref nq_5, .int 0, .int 0, .int 0, .int 0, .int 0, .int 0, .int 0, .ref nq_7, .null, .null, .null, .null, .int 0, .int 0, .int 0, .int 0]))) nq_1 (aI g 929 (fun _ => 0))) nq_3 (aI g 929 (fun _ => 0))) nq_5 (aI g 9 (fun _ => 0))) nq_7 (aI g 6 (fun _ => 0))) [nq_9] from Fr.one N_nq_9) F_8 (Gr.add (Gr.add (Gr.add (Gr.add (Gr.up (Gr.nil _))))))
  have hM : MW g (mup (mup (mup (mup (mup (mup M o (.inr (12, [.int 0, .ref nq_1, .ref nq_3, .ref nq_5, .int 0, .int 0, .int 0, .int 0, .int 0, .int 0, .int 0, .ref nq_7, .null, .null, .null, .null, .int 0, .int 0, .int 0, .int 0]))) nq_1 (aI g 929 (fun _ => 0))) nq_3 (aI g 929 (fun _ => 0))) nq_5 (aI g 9 (fun _ => 0))) nq_7 (aI g 6 (fun _ => 0))) nq_9 (aZ g 64 (fun _ => 0))) H1 locs := hM
  clear hz hM0 enq_9
  revert hM
  generalize H1 = H
  intro hM
  refine r_put (T := TX12) (N := 20) (ci := 12) X hM iX12 tyX12 tyX12_ok nmX12 rfl 12 (by decide) q_847 rfl (Or.inr ⟨hnm, rfl⟩) (mup_r n_nq_9_o (mup_r n_nq_7_o (mup_r n_nq_5_o (mup_r n_nq_3_o (mup_r n_nq_1_o (mup_s _ _ _)))))) rfl rfl (Nat.le_of_ble_eq_true rfl) dX12_init_43 (fun H locs hM => ?_)
  rw [mup_w _ _ _ (Ne.symm n_nq_9_o), mup_w _ _ _ (Ne.symm n_nq_7_o), mup_w _ _ _ (Ne.symm n_nq_5_o), mup_w _ _ _ (Ne.symm n_nq_3_o), mup_w _ _ _ (Ne.symm n_nq_1_o), mup_i] at hM
  have hM : MW g (mup (mup (mup (mup (mup (mup M o (.inr (12, [.int 0, .ref nq_1, .ref nq_3, .ref nq_5, .int 0, .int 0, .int 0, .int 0, .int 0, .int 0, .int 0, .ref nq_7, .ref nq_9, .null, .null, .null, .int 0, .int 0, .int 0, .int 0]))) nq_1 (aI g 929 (fun _ => 0))) nq_3 (aI g 929 (fun _ => 0))) nq_5 (aI g 9 (fun _ => 0))) nq_7 (aI g 6 (fun _ => 0))) nq_9 (aZ g 64 (fun _ => 0))) H locs := hM
  refine lv_aload_n hx hb dX12_init_46 rfl (lv_at hl 0 rfl) ?_
  refine lv_bipush (v := 18) hx hb dX12_init_47 (by decide) ?_
  have hM0 := hM
  refine r_newI (N' := 18) X hM (by decide) (by decide) (by decide) (Nat.le_of_ble_eq_true rfl) (Nat.le_of_ble_eq_true rfl) q_54 dX12_init_49 (fun H1 hz hM => ?_)
  obtain ⟨nq_11, enq_11⟩ : ∃ z, z = H.size := ⟨_, rfl⟩
  have n_nq_11_o : o ≠ nq_11 := by rw [enq_11]; exact Nat.ne_of_lt (hM0.lt (mup_r n_nq_9_o (mup_r n_nq_7_o (mup_r n_nq_5_o (mup_r n_nq_3_o (mup_r n_nq_1_o (mup_s _ _ _)))))))
  have n_nq_11_nq_1 : nq_1 ≠ nq_11 := by rw [enq_11]; exact Nat.ne_of_lt (hM0.lt (mup_r n_nq_9_nq_1 (mup_r n_nq_7_nq_1 (mup_r n_nq_5_nq_1 (mup_r n_nq_3_nq_1 (mup_s _ _ _))))))
  have n_nq_11_nq_3 : nq_3 ≠ nq_11 := by rw [enq_11]; exact Nat.ne_of_lt (hM0.lt (mup_r n_nq_9_nq_3 (mup_r n_nq_7_nq_3 (mup_r n_nq_5_nq_3 (mup_s _ _ _)))))
  have n_nq_11_nq_5 : nq_5 ≠ nq_11 := by rw [enq_11]; exact Nat.ne_of_lt (hM0.lt (mup_r n_nq_9_nq_5 (mup_r n_nq_7_nq_5 (mup_s _ _ _))))
  have n_nq_11_nq_7 : nq_7 ≠ nq_11 := by rw [enq_11]; exact Nat.ne_of_lt (hM0.lt (mup_r n_nq_9_nq_7 (mup_s _ _ _)))
  have n_nq_11_nq_9 : nq_9 ≠ nq_11 := by rw [enq_11]; exact Nat.ne_of_lt (hM0.lt (mup_s _ _ _))
  have N_nq_11 : (mup (mup (mup (mup (mup (mup M o (.inr (12, [.int 0, .ref nq_1, .ref nq_3, .ref nq_5, .int 0, .int 0, .int 0, .int 0, .int 0, .int 0, .int 0, .ref nq_7, .ref nq_9, .null, .null, .null, .int 0, .int 0, .int 0, .int 0]))) nq_1 (aI g 929 (fun _ => 0))) nq_3 (aI g 929 (fun _ => 0))) nq_5 (aI g 9 (fun _ => 0))) nq_7 (aI g 6 (fun _ => 0))) nq_9 (aZ g 64 (fun _ => 0))) nq_11 = none := hM0.fresh enq_11
  rw [← enq_11] at hM
  rw [← enq_11]
  have F_12 : Fr M [nq_11, nq_9, nq_7, nq_5, nq_3, nq_1] := Fr.app (L2 := [nq_11]) (show Fr (mup (mup (mup (mup (mup (mup M o (.inr (12, [.int 0, .ref nq_1, .ref nq_3, .ref nq_5, .int 0, .int 0, .int 0, .int 0, .int 0, .int 0, .int 0, .ref nq_7, .ref nq_9, .null, .null, .null, .int 0, .int 0, .int 0, .int 0]))) nq_1 (aI g 929 (fun _ => 0))) nq_3 (aI g 929 (fun _ => 0))) nq_5 (aI g 9 (fun _ => 0))) nq_7 (aI g 6 (fun _ => 0))) nq_9 (aZ g 64 (fun _ => 0))) [nq_11] from Fr.one N_nq_11) F_10 (Gr.add (Gr.add (Gr.add (Gr.add (Gr.add (Gr.up (Gr.nil _)))))))
  have hM : MW g (mup (mup (mup (mup (mup (mup (mup M o (.inr (12, [.int 0, .ref nq_1, .ref nq_3, .ref nq_5, .int 0, .int 0, .int 0, .int 0, .int 0, .int 0, .int 0, .ref nq_7, .ref nq_9, .null, .null, .null, .int 0, .int 0, .int 0, .int 0]))) nq_1 (aI g 929 (fun _ => 0))) nq_3 (aI g 929 (fun _ => 0))) nq_5 (aI g 9 (fun _ => 0))) nq_7 (aI g 6 (fun _ => 0))) nq_9 (aZ g 64 (fun _ => 0))) nq_11 (aI g 18 (fun _ => 0))) H1 locs := hM
  clear hz hM0 enq_11
  revert hM
  generalize H1 = H
  intro hM
  refine r_put (T := TX12) (N := 20) (ci := 12) X hM iX12 tyX12 tyX12_ok nmX12 rfl 13 (by decide) q_848 rfl (Or.inr ⟨hnm, rfl⟩) (mup_r n_nq_11_o (mup_r n_nq_9_o (mup_r n_nq_7_o (mup_r n_nq_5_o (mup_r n_nq_3_o (mup_r n_nq_1_o (mup_s _ _ _))))))) rfl rfl (Nat.le_of_ble_eq_true rfl) dX12_init_51 (fun H locs hM => ?_)
  rw [mup_w _ _ _ (Ne.symm n_nq_11_o), mup_w _ _ _ (Ne.symm n_nq_9_o), mup_w _ _ _ (Ne.symm n_nq_7_o), mup_w _ _ _ (Ne.symm n_nq_5_o), mup_w _ _ _ (Ne.symm n_nq_3_o), mup_w _ _ _ (Ne.symm n_nq_1_o), mup_i] at hM
  have hM : MW g (mup (mup (mup (mup (mup (mup (mup M o (.inr (12, [.int 0, .ref nq_1, .ref nq_3, .ref nq_5, .int 0, .int 0, .int 0, .int 0, .int 0, .int 0, .int 0, .ref nq_7, .ref nq_9, .ref nq_11, .null, .null, .int 0, .int 0, .int 0, .int 0]))) nq_1 (aI g 929 (fun _ => 0))) nq_3 (aI g 929 (fun _ => 0))) nq_5 (aI g 9 (fun _ => 0))) nq_7 (aI g 6 (fun _ => 0))) nq_9 (aZ g 64 (fun _ => 0))) nq_11 (aI g 18 (fun _ => 0))) H locs := hM
  refine lv_aload_n hx hb dX12_init_54 rfl (lv_at hl 0 rfl) ?_
  refine lv_bipush (v := 12) hx hb dX12_init_55 (by decide) ?_
  have hM0 := hM
  refine r_newI (N' := 12) X hM (by decide) (by decide) (by decide) (Nat.le_of_ble_eq_true rfl) (Nat.le_of_ble_eq_true rfl) q_54 dX12_init_57 (fun H1 hz hM => ?_)
  obtain ⟨nq_13, enq_13⟩ : ∃ z, z = H.size := ⟨_, rfl⟩
  have n_nq_13_o : o ≠ nq_13 := by rw [enq_13]; exact Nat.ne_of_lt (hM0.lt (mup_r n_nq_11_o (mup_r n_nq_9_o (mup_r n_nq_7_o (mup_r n_nq_5_o (mup_r n_nq_3_o (mup_r n_nq_1_o (mup_s _ _ _))))))))
  have n_nq_13_nq_1 : nq_1 ≠ nq_13 := by rw [enq_13]; exact Nat.ne_of_lt (hM0.lt (mup_r n_nq_11_nq_1 (mup_r n_nq_9_nq_1 (mup_r n_nq_7_nq_1 (mup_r n_nq_5_nq_1 (mup_r n_nq_3_nq_1 (mup_s _ _ _)))))))
  have n_nq_13_nq_3 : nq_3 ≠ nq_13 := by rw [enq_13]; exact Nat.ne_of_lt (hM0.lt (mup_r n_nq_11_nq_3 (mup_r n_nq_9_nq_3 (mup_r n_nq_7_nq_3 (mup_r n_nq_5_nq_3 (mup_s _ _ _))))))
  have n_nq_13_nq_5 : nq_5 ≠ nq_13 := by rw [enq_13]; exact Nat.ne_of_lt (hM0.lt (mup_r n_nq_11_nq_5 (mup_r n_nq_9_nq_5 (mup_r n_nq_7_nq_5 (mup_s _ _ _)))))
  have n_nq_13_nq_7 : nq_7 ≠ nq_13 := by rw [enq_13]; exact Nat.ne_of_lt (hM0.lt (mup_r n_nq_11_nq_7 (mup_r n_nq_9_nq_7 (mup_s _ _ _))))
  have n_nq_13_nq_9 : nq_9 ≠ nq_13 := by rw [enq_13]; exact Nat.ne_of_lt (hM0.lt (mup_r n_nq_11_nq_9 (mup_s _ _ _)))
  have n_nq_13_nq_11 : nq_11 ≠ nq_13 := by rw [enq_13]; exact Nat.ne_of_lt (hM0.lt (mup_s _ _ _))
  have N_nq_13 : (mup (mup (mup (mup (mup (mup (mup M o (.inr (12, [.int 0, .ref nq_1, .ref nq_3, .ref nq_5, .int 0, .int 0, .int 0, .int 0, .int 0, .int 0, .int 0, .ref nq_7, .ref nq_9, .ref nq_11, .null, .null, .int 0, .int 0, .int 0, .int 0]))) nq_1 (aI g 929 (fun _ => 0))) nq_3 (aI g 929 (fun _ => 0))) nq_5 (aI g 9 (fun _ => 0))) nq_7 (aI g 6 (fun _ => 0))) nq_9 (aZ g 64 (fun _ => 0))) nq_11 (aI g 18 (fun _ => 0))) nq_13 = none := hM0.fresh enq_13
  rw [← enq_13] at hM
  rw [← enq_13]
  have F_14 : Fr M [nq_13, nq_11, nq_9, nq_7, nq_5, nq_3, nq_1] := Fr.app (L2 := [nq_13]) (show Fr (mup (mup (mup (mup (mup (mup (mup M o (.inr (12, [.int 0, .ref nq_1, .ref nq_3, .ref nq_5, .int 0, .int 0, .int 0, .int 0, .int 0, .int 0, .int 0, .ref nq_7, .ref nq_9, .ref nq_11, .null, .null, .int 0, .int 0, .int 0, .int 0]))) nq_1 (aI g 929 (fun _ => 0))) nq_3 (aI g 929 (fun _ => 0))) nq_5 (aI g 9 (fun _ => 0))) nq_7 (aI g 6 (fun _ => 0))) nq_9 (aZ g 64 (fun _ => 0))) nq_11 (aI g 18 (fun _ => 0))) [nq_13] from Fr.one N_nq_13) F_12 (Gr.add (Gr.add (Gr.add (Gr.add (Gr.add (Gr.add (Gr.up (Gr.nil _))))))))
  have hM : MW g (mup (mup (mup (mup (mup (mup (mup (mup M o (.inr (12, [.int 0, .ref nq_1, .ref nq_3, .ref nq_5, .int 0, .int 0, .int 0, .int 0, .int 0, .int 0, .int 0, .ref nq_7, .ref nq_9, .ref nq_11, .null, .null, .int 0, .int 0, .int 0, .int 0]))) nq_1 (aI g 929 (fun _ => 0))) nq_3 (aI g 929 (fun _ => 0))) nq_5 (aI g 9 (fun _ => 0))) nq_7 (aI g 6 (fun _ => 0))) nq_9 (aZ g 64 (fun _ => 0))) nq_11 (aI g 18 (fun _ => 0))) nq_13 (aI g 12 (fun _ => 0))) H1 locs := hM
  clear hz hM0 enq_13
  revert hM
  generalize H1 = H
  intro hM
  refine r_put (T := TX12) (N := 20) (ci := 12) X hM iX12 tyX12 tyX12_ok nmX12 rfl 14 (by decide) q_849 rfl (Or.inr ⟨hnm, rfl⟩) (mup_r n_nq_13_o (mup_r n_nq_11_o (mup_r n_nq_9_o (mup_r n_nq_7_o (mup_r n_nq_5_o (mup_r n_nq_3_o (mup_r n_nq_1_o (mup_s _ _ _)))))))) rfl rfl (Nat.le_of_ble_eq_true rfl) dX12_init_59 (fun H locs hM => ?_)
  rw [mup_w _ _ _ (Ne.symm n_nq_13_o), mup_w _ _ _ (Ne.symm n_nq_11_o), mup_w _ _ _ (Ne.symm n_nq_9_o), mup_w _ _ _ (Ne.symm n_nq_7_o), mup_w _ _ _ (Ne.symm n_nq_5_o), mup_w _ _ _ (Ne.symm n_nq_3_o), mup_w _ _ _ (Ne.symm n_nq_1_o), mup_i] at hM
  have hM : MW g (mup (mup (mup (mup (mup (mup (mup (mup M o (.inr (12, [.int 0, .ref nq_1, .ref nq_3, .ref nq_5, .int 0, .int 0, .int 0, .int 0, .int 0, .int 0, .int 0, .ref nq_7, .ref nq_9, .ref nq_11, .ref nq_13, .null, .int 0, .int 0, .int 0, .int 0]))) nq_1 (aI g 929 (fun _ => 0))) nq_3 (aI g 929 (fun _ => 0))) nq_5 (aI g 9 (fun _ => 0))) nq_7 (aI g 6 (fun _ => 0))) nq_9 (aZ g 64 (fun _ => 0))) nq_11 (aI g 18 (fun _ => 0))) nq_13 (aI g 12 (fun _ => 0))) H locs := hM
  refine lv_aload_n hx hb dX12_init_62 rfl (lv_at hl 0 rfl) ?_
  refine lv_bipush (v := 20) hx hb dX12_init_63 (by decide) ?_
  have hM0 := hM
  refine r_newI (N' := 20) X hM (by decide) (by decide) (by decide) (Nat.le_of_ble_eq_true rfl) (Nat.le_of_ble_eq_true rfl) q_54 dX12_init_65 (fun H1 hz hM => ?_)
  obtain ⟨nq_15, enq_15⟩ : ∃ z, z = H.size := ⟨_, rfl⟩
  have n_nq_15_o : o ≠ nq_15 := by rw [enq_15]; exact Nat.ne_of_lt (hM0.lt (mup_r n_nq_13_o (mup_r n_nq_11_o (mup_r n_nq_9_o (mup_r n_nq_7_o (mup_r n_nq_5_o (mup_r n_nq_3_o (mup_r n_nq_1_o (mup_s _ _ _)))))))))
  have n_nq_15_nq_1 : nq_1 ≠ nq_15 := by rw [enq_15]; exact Nat.ne_of_lt (hM0.lt (mup_r n_nq_13_nq_1 (mup_r n_nq_11_nq_1 (mup_r n_nq_9_nq_1 (mup_r n_nq_7_nq_1 (mup_r n_nq_5_nq_1 (mup_r n_nq_3_nq_1 (mup_s _ _ _))))))))
  have n_nq_15_nq_3 : nq_3 ≠ nq_15 := by rw [enq_15]; exact Nat.ne_of_lt (hM0.lt (mup_r n_nq_13_nq_3 (mup_r n_nq_11_nq_3 (mup_r n_nq_9_nq_3 (mup_r n_nq_7_nq_3 (mup_r n_nq_5_nq_3 (mup_s _ _ _)))))))
  have n_nq_15_nq_5 : nq_5 ≠ nq_15 := by rw [enq_15]; exact Nat.ne_of_lt (hM0.lt (mup_r n_nq_13_nq_5 (mup_r n_nq_11_nq_5 (mup_r n_nq_9_nq_5 (mup_r n_nq_7_nq_5 (mup_s _ _ _))))))
  have n_nq_15_nq_7 : nq_7 ≠ nq_15 := by rw [enq_15]; exact Nat.ne_of_lt (hM0.lt (mup_r n_nq_13_nq_7 (mup_r n_nq_11_nq_7 (mup_r n_nq_9_nq_7 (mup_s _ _ _)))))
  have n_nq_15_nq_9 : nq_9 ≠ nq_15 := by rw [enq_15]; exact Nat.ne_of_lt (hM0.lt (mup_r n_nq_13_nq_9 (mup_r n_nq_11_nq_9 (mup_s _ _ _))))
  have n_nq_15_nq_11 : nq_11 ≠ nq_15 := by rw [enq_15]; exact Nat.ne_of_lt (hM0.lt (mup_r n_nq_13_nq_11 (mup_s _ _ _)))
  have n_nq_15_nq_13 : nq_13 ≠ nq_15 := by rw [enq_15]; exact Nat.ne_of_lt (hM0.lt (mup_s _ _ _))
  have N_nq_15 : (mup (mup (mup (mup (mup (mup (mup (mup M o (.inr (12, [.int 0, .ref nq_1, .ref nq_3, .ref nq_5, .int 0, .int 0, .int 0, .int 0, .int 0, .int 0, .int 0, .ref nq_7, .ref nq_9, .ref nq_11, .ref nq_13, .null, .int 0, .int 0, .int 0, .int 0]))) nq_1 (aI g 929 (fun _ => 0))) nq_3 (aI g 929 (fun _ => 0))) nq_5 (aI g 9 (fun _ => 0))) nq_7 (aI g 6 (fun _ => 0))) nq_9 (aZ g 64 (fun _ => 0))) nq_11 (aI g 18 (fun _ => 0))) nq_13 (aI g 12 (fun _ => 0))) nq_15 = none := hM0.fresh enq_15
  rw [← enq_15] at hM
  rw [← enq_15]
  have F_16 : Fr M [nq_15, nq_13, nq_11, nq_9, nq_7, nq_5, nq_3, nq_1] := Fr.app (L2 := [nq_15]) (show Fr (mup (mup (mup (mup (mup (mup (mup (mup M o (.inr (12, [.int 0, .ref nq_1, .ref nq_3, .ref nq_5, .int 0, .int 0, .int 0, .int 0, .int 0, .int 0, .int 0, .ref nq_7, .ref nq_9, .ref nq_11, .ref nq_13, .null, .int 0, .int 0, .int 0, .int 0]))) nq_1 (aI g 929 (fun _ => 0))) nq_3 (aI g 929 (fun _ => 0))) nq_5 (aI g 9 (fun _ => 0))) nq_7 (aI g 6 (fun _ => 0))) nq_9 (aZ g 64 (fun _ => 0))) nq_11 (aI g 18 (fun _ => 0))) nq_13 (aI g 12 (fun _ => 0))) [nq_15] from Fr.one N_nq_15) F_14 (Gr.add (Gr.add (Gr.add (Gr.add (Gr.add (Gr.add (Gr.add (Gr.up (Gr.nil _)))))))))
  have hM : MW g (mup (mup (mup (mup (mup (mup (mup (mup (mup M o (.inr (12, [.int 0, .ref nq_1, .ref nq_3, .ref nq_5, .int 0, .int 0, .int 0, .int 0, .int 0, .int 0, .int 0, .ref nq_7, .ref nq_9, .ref nq_11, .ref nq_13, .null, .int 0, .int 0, .int 0, .int 0]))) nq_1 (aI g 929 (fun _ => 0))) nq_3 (aI g 929 (fun _ => 0))) nq_5 (aI g 9 (fun _ => 0))) nq_7 (aI g 6 (fun _ => 0))) nq_9 (aZ g 64 (fun _ => 0))) nq_11 (aI g 18 (fun _ => 0))) nq_13 (aI g 12 (fun _ => 0))) nq_15 (aI g 20 (fun _ => 0))) H1 locs := hM
  clear hz hM0 enq_15
  revert hM
  generalize H1 = H
  intro hM
  refine r_put (T := TX12) (N := 20) (ci := 12) X hM iX12 tyX12 tyX12_ok nmX12 rfl 15 (by decide) q_850 rfl (Or.inr ⟨hnm, rfl⟩) (mup_r n_nq_15_o (mup_r n_nq_13_o (mup_r n_nq_11_o (mup_r n_nq_9_o (mup_r n_nq_7_o (mup_r n_nq_5_o (mup_r n_nq_3_o (mup_r n_nq_1_o (mup_s _ _ _))))))))) rfl rfl (Nat.le_of_ble_eq_true rfl) dX12_init_67 (fun H locs hM => ?_)
  rw [mup_w _ _ _ (Ne.symm n_nq_15_o), mup_w _ _ _ (Ne.symm n_nq_13_o), mup_w _ _ _ (Ne.symm n_nq_11_o), mup_w _ _ _ (Ne.symm n_nq_9_o), mup_w _ _ _ (Ne.symm n_nq_7_o), mup_w _ _ _ (Ne.symm n_nq_5_o), mup_w _ _ _ (Ne.symm n_nq_3_o), mup_w _ _ _ (Ne.symm n_nq_1_o), mup_i] at hM
  have hM : MW g (mup (mup (mup (mup (mup (mup (mup (mup (mup M o (.inr (12, [.int 0, .ref nq_1, .ref nq_3, .ref nq_5, .int 0, .int 0, .int 0, .int 0, .int 0, .int 0, .int 0, .ref nq_7, .ref nq_9, .ref nq_11, .ref nq_13, .ref nq_15, .int 0, .int 0, .int 0, .int 0]))) nq_1 (aI g 929 (fun _ => 0))) nq_3 (aI g 929 (fun _ => 0))) nq_5 (aI g 9 (fun _ => 0))) nq_7 (aI g 6 (fun _ => 0))) nq_9 (aZ g 64 (fun _ => 0))) nq_11 (aI g 18 (fun _ => 0))) nq_13 (aI g 12 (fun _ => 0))) nq_15 (aI g 20 (fun _ => 0))) H locs := hM
  refine lv_aload_n hx hb dX12_init_70 rfl (lv_at hl 0 rfl) ?_
  refine r_get (T := TX12) (N := 20) (ci := 12) (v := .ref nq_1) X hM iX12 rfl 1 (by decide) q_836 (Or.inl rfl) (mup_r n_nq_15_o (mup_r n_nq_13_o (mup_r n_nq_11_o (mup_r n_nq_9_o (mup_r n_nq_7_o (mup_r n_nq_5_o (mup_r n_nq_3_o (mup_r n_nq_1_o (mup_s _ _ _))))))))) rfl dX12_init_71 ?_
  refine lv_bipush (v := 15) hx hb dX12_init_74 (by decide) ?_
  refine lv_iconst (v := -1) hx hb dX12_init_76 (by decide) ?_
  refine r_iast (i := 15) (x := -1) X hM (mup_r n_nq_15_nq_1 (mup_r n_nq_13_nq_1 (mup_r n_nq_11_nq_1 (mup_r n_nq_9_nq_1 (mup_r n_nq_7_nq_1 (mup_r n_nq_5_nq_1 (mup_r n_nq_3_nq_1 (mup_s _ _ _)))))))) (vp_in_nI (n := 15) (by decide) (by decide)) dX12_init_77 (fun H locs hM => ?_)
  rw [show ((15 : Int32)).toNatClampNeg = 15 from by decide] at hM
  rw [mup_w _ _ _ (Ne.symm n_nq_15_nq_1), mup_w _ _ _ (Ne.symm n_nq_13_nq_1), mup_w _ _ _ (Ne.symm n_nq_11_nq_1), mup_w _ _ _ (Ne.symm n_nq_9_nq_1), mup_w _ _ _ (Ne.symm n_nq_7_nq_1), mup_w _ _ _ (Ne.symm n_nq_5_nq_1), mup_w _ _ _ (Ne.symm n_nq_3_nq_1), mup_i] at hM
  have hM : MW g (mup (mup (mup (mup (mup (mup (mup (mup (mup M o (.inr (12, [.int 0, .ref nq_1, .ref nq_3, .ref nq_5, .int 0, .int 0, .int 0, .int 0, .int 0, .int 0, .int 0, .ref nq_7, .ref nq_9, .ref nq_11, .ref nq_13, .ref nq_15, .int 0, .int 0, .int 0, .int 0]))) nq_1 (aI g 929 (upd (fun _ => 0) 15 (-1)))) nq_3 (aI g 929 (fun _ => 0))) nq_5 (aI g 9 (fun _ => 0))) nq_7 (aI g 6 (fun _ => 0))) nq_9 (aZ g 64 (fun _ => 0))) nq_11 (aI g 18 (fun _ => 0))) nq_13 (aI g 12 (fun _ => 0))) nq_15 (aI g 20 (fun _ => 0))) H locs := hM
  refine W.widen (k := 8) (n := 1987) (Nat.le_of_ble_eq_true rfl) (Nat.le_of_ble_eq_true rfl) ?_
  exact R_v X hr hk hM ⟨nq_1, nq_3, nq_5, nq_7, nq_9, nq_11, nq_13, nq_15, F_16, rfl⟩ dX12_init_78
set_option maxHeartbeats 4000000 in
set_option maxRecDepth 100000 in
theorem c_X12_countOf (l : Launch) (g : Gp) (M : Mem) (x : Int32) : Met l yX12_countOf (wsM yX12_countOf cX12_countOf 3 (some .int)) (rmD 1 0 0) (Pre g M [.int x]) (Qi g (fun r M1 => (mCnt x 9) = r ∧ M = M1)) 0 0 (gF g) := M_start (by decide +kernel) (Nat.le_of_ble_eq_true rfl) fun p e s m args below meth c ls X hr hk hnm hM hl => by
  have X : Cx g p m c cX12_countOf 3 s args RX12 := X
  have hx := X.1.1
  have hb := X.1.2.1
  have hl : lv_has ls 3 [(0, .int x)] := hl
  refine lv_iconst (v := 0) hx hb dX12_countOf_0 (by decide) ?_
  refine lv_istore_n (lv' := [(1, .int 0), (0, .int x)]) hx hb dX12_countOf_1 rfl hl (by decide) rfl (fun ls hl => ?_)
  refine lv_iconst (v := 0) hx hb dX12_countOf_2 (by decide) ?_
  refine lv_istore_n (lv' := [(2, .int 0), (1, .int 0), (0, .int x)]) hx hb dX12_countOf_3 rfl hl (by decide) rfl (fun ls hl => ?_)
  have L4 : ∀ (fu : Nat) (i : Nat) (x1 : Int32) (hi : i ≤ 9) (k1 : x1 = mCnt x i) (H : Heap) (locs : List Loc) (hM : MW g (M) H locs) (ls : Array Slot) (hl : lv_has ls 3 [(0, .int x), (1, .int x1), (2, .int (nI i))]), 9 - i < fu → W p l e (rmD 1 0 0) s m args below meth c H locs 0 0 (MQ below (Qi g (fun r M1 => (mCnt x 9) = r ∧ M = M1)) args s 0 0 (gF g)) (F0 m 4 ls []) := by
    intro fu
    induction fu with
    | zero => intro i x1 hi k1 H locs hM ls hl hmu; exact absurd hmu (Nat.not_lt_zero _)
    | succ fu ih =>
      intro i x1 hi k1 H locs hM ls hl hmu
      refine lv_iload_n hx hb dX12_countOf_4 rfl (lv_at hl 2 rfl) ?_
      refine lv_bipush (v := 9) hx hb dX12_countOf_5 (by decide) ?_
      refine lv_icmp_ge (tgt := 24) hx hb dX12_countOf_7 (by decide) (fun c_1 => ?_) (fun c_1 => ?_)
      · skip
        have hz0 : nI 9 ≤ nI i := c_1
        have hz1 : 9 ≤ i := (nI_leI (by omega) (by omega)).mp hz0
        have hz2 : i = 9 := by omega
        refine lv_iload_n hx hb dX12_countOf_24 rfl (lv_at hl 1 rfl) ?_
        exact R_i X hr hk hM ⟨(by rw [k1, hz2]), rfl⟩ dX12_countOf_25
      · skip
        have hz1 : i < 9 := by
          rcases Nat.lt_or_ge i 9 with q | q
          · exact q
          · exact absurd (show nI 9 ≤ nI i from (nI_leI (by omega) (by omega)).mpr q) c_1
        refine lv_iload_n hx hb dX12_countOf_10 rfl (lv_at hl 1 rfl) ?_
        refine lv_iload_n hx hb dX12_countOf_11 rfl (lv_at hl 0 rfl) ?_
        refine lv_iload_n hx hb dX12_countOf_12 rfl (lv_at hl 2 rfl) ?_
        refine lv_ishr hx hb dX12_countOf_13 ?_
        refine lv_iconst (v := 1) hx hb dX12_countOf_14 (by decide) ?_
        refine lv_iand hx hb dX12_countOf_15 ?_
        refine lv_iadd hx hb dX12_countOf_16 ?_
        refine lv_istore_n (lv' := [(1, .int (x1 + ((x >>> ((nI i) &&& 31)) &&& 1))), (0, .int x), (2, .int (nI i))]) hx hb dX12_countOf_17 rfl hl (by decide) rfl (fun ls hl => ?_)
        refine lv_iinc (v := (nI i) + 1) (lv' := [(2, .int ((nI i) + 1)), (1, .int (x1 + ((x >>> ((nI i) &&& 31)) &&& 1))), (0, .int x)]) hx hb dX12_countOf_18 hl (k := 2) rfl rfl (by decide) rfl (fun ls hl => ?_)
        refine lv_goto (tgt := 4) hx hb dX12_countOf_21 (by decide) ?_
        exact ih (i + 1) (x1 + ((x >>> ((nI i) &&& 31)) &&& 1)) (by omega) (by rw [k1]; rfl) _ _ hM _ ((by rw [← nI_1]; exact lv_sub hl [2, 1, 0] rfl)) (by omega)
  exact L4 (9 + 1) 0 0 (Nat.zero_le _) rfl _ _ hM _ (lv_sub hl [2, 1, 0] rfl) (by first | exact Nat.lt_succ_self _ | omega)
set_option maxHeartbeats 4000000 in
set_option maxRecDepth 100000 in
theorem c_X12_looked (l : Launch) (g : Gp) (M : Mem) (m0 m1 m2 m3 m4 m5 m6 m7 m8 m9 m10 m11 : Int32) (f : Nat → Int32) (n1 : Nat) (h46 : M (gA g 46) = some (mdE g m0 m1 m2 m3 m4 m5 m6 m7 m8 m9 m10 m11)) (h47 : M (gA g 47) = some (aI g 929 f)) (hh : Hd f) (h13 : f 13 = nI n1) (hb9 : n1 ≤ 8) : Met l yX12_looked (wsM yX12_looked cX12_looked 2 (some .int)) (rmD 3 0 0) (Pre g M [.ref (gA g 46)]) (Qi g (fun r M1 => (mLok f n1 n1 0) = r ∧ M = M1)) 0 0 (gF g) := M_start (by decide +kernel) (Nat.le_of_ble_eq_true rfl) fun p e s m args below meth c ls X hr hk hnm hM hl => by
  have X : Cx g p m c cX12_looked 2 s args RX12 := X
  have hx := X.1.1
  have hb := X.1.2.1
  have hl : lv_has ls 2 [(0, .ref (gA g 46))] := hl
  refine lv_iconst (v := 0) hx hb dX12_looked_0 (by decide) ?_
  refine lv_istore_n (lv' := [(1, .int 0), (0, .ref (gA g 46))]) hx hb dX12_looked_1 rfl hl (by decide) rfl (fun ls hl => ?_)
  have L2 : ∀ (fu : Nat) (i : Nat) (hi : i ≤ n1) (kb : mLok f n1 (n1 - i) i = mLok f n1 n1 0) (H : Heap) (locs : List Loc) (hM : MW g (M) H locs) (ls : Array Slot) (hl : lv_has ls 2 [(0, .ref (gA g 46)), (1, .int (nI i))]), n1 - i < fu → W p l e (rmD 3 0 0) s m args below meth c H locs 0 0 (MQ below (Qi g (fun r M1 => (mLok f n1 n1 0) = r ∧ M = M1)) args s 0 0 (gF g)) (F0 m 2 ls []) := by
    intro fu
    induction fu with
    | zero => intro i hi kb H locs hM ls hl hmu; exact absurd hmu (Nat.not_lt_zero _)
    | succ fu ih =>
      intro i hi kb H locs hM ls hl hmu
      refine lv_iload_n hx hb dX12_looked_2 rfl (lv_at hl 1 rfl) ?_
      refine lv_aload_n hx hb dX12_looked_3 rfl (lv_at hl 0 rfl) ?_
      refine r_get (T := TX12) (N := 20) (ci := 12) (v := .ref (gA g 47)) X hM iX12 rfl 1 (by decide) q_836 (Or.inl rfl) h46 rfl dX12_looked_4 ?_
      refine lv_bipush (v := 13) hx hb dX12_looked_7 (by decide) ?_
      refine r_iald (i := 13) X hM h47 (vp_in_nI (n := 13) (by decide) (by decide)) dX12_looked_9 ?_
      rw [show ((13 : Int32)).toNatClampNeg = 13 from by decide]
      rw [h13]
      refine lv_icmp_ge (tgt := 53) hx hb dX12_looked_10 (by decide) (fun c_1 => ?_) (fun c_1 => ?_)
      · skip
        have hz1 : n1 ≤ i := (nI_leI (by omega) (by omega)).mp c_1
        have hz2 : n1 - i = 0 := by omega
        refine lv_bipush (v := -5) hx hb dX12_looked_53 (by decide) ?_
        exact R_i X hr hk hM ⟨(by rw [← kb, hz2]; rfl), rfl⟩ dX12_looked_55
      · skip
        have hz1 : i < n1 := by
          rcases Nat.lt_or_ge i n1 with q | q
          · exact q
          · exact absurd ((nI_leI (by omega) (by omega)).mpr q) c_1
        refine lv_aload_n hx hb dX12_looked_13 rfl (lv_at hl 0 rfl) ?_
        refine lv_aload_n hx hb dX12_looked_14 rfl (lv_at hl 0 rfl) ?_
        refine r_get (T := TX12) (N := 20) (ci := 12) (v := .ref (gA g 47)) X hM iX12 rfl 1 (by decide) q_836 (Or.inl rfl) h46 rfl dX12_looked_15 ?_
        refine lv_iconst (v := 0) hx hb dX12_looked_18 (by decide) ?_
        refine r_iald (i := 0) X hM h47 (vp_in_nI (n := 0) (by decide) (by decide)) dX12_looked_19 ?_
        rw [show ((0 : Int32)).toNatClampNeg = 0 from by decide]
        refine lv_aload_n hx hb dX12_looked_20 rfl (lv_at hl 0 rfl) ?_
        refine r_get (T := TX12) (N := 20) (ci := 12) (v := .ref (gA g 47)) X hM iX12 rfl 1 (by decide) q_836 (Or.inl rfl) h46 rfl dX12_looked_21 ?_
        refine lv_bipush (v := 98) hx hb dX12_looked_24 (by decide) ?_
        refine lv_iload_n hx hb dX12_looked_26 rfl (lv_at hl 1 rfl) ?_
        refine lv_iadd hx hb dX12_looked_27 ?_
        rw [show (98 : Int32) + (nI i) = nI (98 + i) from nI_add 98 i]
        refine r_iald (i := nI (98 + i)) X hM h47 (vp_in_nI (by omega) (by decide)) dX12_looked_28 ?_
        rw [nI_clamp (show 98 + i < 2147483648 by omega)]
        refine lv_iadd hx hb dX12_looked_29 ?_
        refine K_i (G_V (As := [.int ((f 0) + (f (98 + i)))]) (rest := []) X hM (c_X12_turnOn l g _ m0 m1 m2 m3 m4 m5 m6 m7 m8 m9 m10 m11 f ((f 0) + (f (98 + i))) h46 h47 hh) lk_X12_158 h46 rfl rfl hl.1 rfl (Nat.le_of_ble_eq_true rfl) (by decide) dX12_looked_30 ⟨Nat.le_of_ble_eq_true rfl, Nat.le_of_ble_eq_true rfl⟩) hM (fun r M1 H locs hM hp => ?_)
        obtain ⟨rfl, rfl⟩ := hp
        refine lv_aload_n hx hb dX12_looked_33 rfl (lv_at hl 0 rfl) ?_
        refine r_get (T := TX12) (N := 20) (ci := 12) (v := .ref (gA g 47)) X hM iX12 rfl 1 (by decide) q_836 (Or.inl rfl) h46 rfl dX12_looked_34 ?_
        refine lv_bipush (v := 106) hx hb dX12_looked_37 (by decide) ?_
        refine lv_iload_n hx hb dX12_looked_39 rfl (lv_at hl 1 rfl) ?_
        refine lv_iadd hx hb dX12_looked_40 ?_
        rw [show (106 : Int32) + (nI i) = nI (106 + i) from nI_add 106 i]
        refine r_iald (i := nI (106 + i)) X hM h47 (vp_in_nI (by omega) (by decide)) dX12_looked_41 ?_
        rw [nI_clamp (show 106 + i < 2147483648 by omega)]
        refine lv_icmp_eq (tgt := 47) hx hb dX12_looked_42 (by decide) (fun c_2 => ?_) (fun c_2 => ?_)
        · skip
          refine lv_iinc (v := (nI i) + 1) (lv' := [(1, .int ((nI i) + 1)), (0, .ref (gA g 46))]) hx hb dX12_looked_47 hl (k := 1) rfl rfl (by decide) rfl (fun ls hl => ?_)
          refine lv_goto (tgt := 2) hx hb dX12_looked_50 (by decide) ?_
          exact ih (i + 1) (by omega) (by rw [← kb, mLok_eq c_2 hz1]) _ _ hM _ ((by rw [← nI_1]; exact lv_sub hl [1, 0] rfl)) (by omega)
        · skip
          refine lv_iload_n hx hb dX12_looked_45 rfl (lv_at hl 1 rfl) ?_
          exact R_i X hr hk hM ⟨(by rw [← kb, mLok_ne c_2 hz1]), rfl⟩ dX12_looked_46
  exact L2 (n1 + 1) 0 (Nat.zero_le _) rfl _ _ hM _ (lv_sub hl [1, 0] rfl) (by first | exact Nat.lt_succ_self _ | omega)
