theorem upd_ne {f : Nat → Int32} {a b : Nat} {x : Int32} (h : b ≠ a) : upd f a x b = f b := by simp [upd, h]
theorem upd_eq {f : Nat → Int32} {a : Nat} {x : Int32} : upd f a x a = x := by simp [upd]
def mFeedN (f : Nat → Int32) (t : Nat) (x : Int32) : Int32 × (Nat → Int32) := if fIn x 0 127 = 0 then (-2, f) else if nI t = 100 then (-4, f) else (nI (t + 1), upd (upd f (114 + t) x) 14 (nI (t + 1)))
def mSt (a : Int32) : Int32 := if a = 0 then 1 else 0
def mMo (r a : Int32) : Int32 := if a < r / 2 then 1 else if r = 1 then 1 else 0
def mK (k v ni us um : Int32) : Int32 := if k = 1 then um else if k = 2 then (if us = 0 then 0 else if ni < 10 * v then 0 else 1) else if k = 3 then us else if k = 4 then (if um = 0 then (if us = 0 then 0 else 1) else 1) else if k = 5 then (if us = 0 then 0 else if ni < 10 * v then 0 else if iR ni 7 = 0 then 0 else 1) else us
def mUpB (k v h ni us um : Int32) : Int32 := if h = 0 then (if mK k v ni us um = 0 then 0 else 1) else 0
def mUp (f : Nat → Int32) (j : Nat) (ni : Int32) : Int32 := mUpB (f (16 + j)) (f (22 + j)) (f (3 + j)) ni (mSt (iR (ni + f (34 + j)) (f (28 + j)))) (mMo (f (28 + j)) (iR (ni + f (34 + j)) (f (28 + j))))

set_option maxHeartbeats 4000000 in
set_option maxRecDepth 100000 in
theorem c_X12_isHouse (l : Launch) (g : Gp) (M : Mem) (x : Int32) : Met l yX12_isHouse (wsM yX12_isHouse cX12_isHouse 1 (some .boolean)) (rmD 2 0 0) (Pre g M [.int x]) (Qi g (fun r M1 => (fIn x 0 1) = r ∧ M = M1)) 0 0 (gF g) := M_start (by decide +kernel) (Nat.le_of_ble_eq_true rfl) fun p e s m args below meth c ls X hr hk hnm hM hl => by
  have X : Cx g p m c cX12_isHouse 1 s args RX12 := X
  have hx := X.1.1
  have hb := X.1.2.1
  have hl : lv_has ls 1 [(0, .int x)] := hl
  refine lv_iload_n hx hb dX12_isHouse_0 rfl (lv_at hl 0 rfl) ?_
  refine lv_iconst (v := 0) hx hb dX12_isHouse_1 (by decide) ?_
  refine lv_iconst (v := 1) hx hb dX12_isHouse_2 (by decide) ?_
  refine K_i (G_S (As := [.int x, .int 0, .int 1]) (rest := []) X hM (c_X12_in l g _ x 0 1  ) lk_X12_41 rfl hl.1 rfl (Nat.le_of_ble_eq_true rfl) (by decide) dX12_isHouse_3 ⟨Nat.le_of_ble_eq_true rfl, Nat.le_of_ble_eq_true rfl⟩) hM (fun r M1 H locs hM hp => ?_)
  obtain ⟨rfl, rfl⟩ := hp
  exact R_z X hr hk (fIn_01 _ _ _) hM ⟨rfl, rfl⟩ dX12_isHouse_6
set_option maxHeartbeats 4000000 in
set_option maxRecDepth 100000 in
theorem c_X12_feed (l : Launch) (g : Gp) (M : Mem) (m0 m1 m2 m3 m4 m5 m6 m7 m8 m9 m10 m11 : Int32) (f : Nat → Int32) (t : Nat) (x : Int32) (h46 : M (gA g 46) = some (mdE g m0 m1 m2 m3 m4 m5 m6 m7 m8 m9 m10 m11)) (h47 : M (gA g 47) = some (aI g 929 f)) (ht : f 14 = nI t) (hb9 : t ≤ 100) : Met l yX12_feed (wsM yX12_feed cX12_feed 2 (some .int)) (rmD 2 0 0) (Pre g M [.ref (gA g 46), .int x]) (Qi g (fun r M1 => ((mFeedN f t x).1) = r ∧ mup M (gA g 47) (aI g 929 ((mFeedN f t x).2)) = M1)) 0 0 (gF g) := M_start (by decide +kernel) (Nat.le_of_ble_eq_true rfl) fun p e s m args below meth c ls X hr hk hnm hM hl => by
  have X : Cx g p m c cX12_feed 2 s args RX12 := X
  have hx := X.1.1
  have hb := X.1.2.1
  have hl : lv_has ls 2 [(0, .ref (gA g 46)), (1, .int x)] := hl
  refine lv_iload_n hx hb dX12_feed_0 rfl (lv_at hl 1 rfl) ?_
  refine lv_iconst (v := 0) hx hb dX12_feed_1 (by decide) ?_
  refine lv_bipush (v := 127) hx hb dX12_feed_2 (by decide) ?_
  refine K_i (G_S (As := [.int x, .int 0, .int 127]) (rest := []) X hM (c_X12_in l g _ x 0 127  ) lk_X12_41 rfl hl.1 rfl (Nat.le_of_ble_eq_true rfl) (by decide) dX12_feed_4 ⟨Nat.le_of_ble_eq_true rfl, Nat.le_of_ble_eq_true rfl⟩) hM (fun r M1 H locs hM hp => ?_)
  obtain ⟨rfl, rfl⟩ := hp
  refine lv_if_ne (tgt := 13) hx hb dX12_feed_7 (by decide) (fun c_1 => ?_) (fun c_1 => ?_)
  · skip
    refine lv_aload_n hx hb dX12_feed_13 rfl (lv_at hl 0 rfl) ?_
    refine r_get (T := TX12) (N := 20) (ci := 12) (v := .ref (gA g 47)) X hM iX12 rfl 1 (by decide) q_836 (Or.inl rfl) h46 rfl dX12_feed_14 ?_
    refine lv_bipush (v := 14) hx hb dX12_feed_17 (by decide) ?_
    refine r_iald (i := 14) X hM h47 (vp_in_nI (n := 14) (by decide) (by decide)) dX12_feed_19 ?_
    rw [show ((14 : Int32)).toNatClampNeg = 14 from by decide]
    rw [ht]
    refine lv_bipush (v := 100) hx hb dX12_feed_20 (by decide) ?_
    refine lv_icmp_ne (tgt := 28) hx hb dX12_feed_22 (by decide) (fun c_2 => ?_) (fun c_2 => ?_)
    · skip
      have ht9 : t < 100 := by
        rcases Nat.lt_or_ge t 100 with q | q
        · exact q
        · exact absurd (show nI t = nI 100 from by rw [show t = 100 by omega]) c_2
      refine lv_aload_n hx hb dX12_feed_28 rfl (lv_at hl 0 rfl) ?_
      refine r_get (T := TX12) (N := 20) (ci := 12) (v := .ref (gA g 47)) X hM iX12 rfl 1 (by decide) q_836 (Or.inl rfl) h46 rfl dX12_feed_29 ?_
      refine lv_bipush (v := 114) hx hb dX12_feed_32 (by decide) ?_
      refine lv_aload_n hx hb dX12_feed_34 rfl (lv_at hl 0 rfl) ?_
      refine r_get (T := TX12) (N := 20) (ci := 12) (v := .ref (gA g 47)) X hM iX12 rfl 1 (by decide) q_836 (Or.inl rfl) h46 rfl dX12_feed_35 ?_
      refine lv_bipush (v := 14) hx hb dX12_feed_38 (by decide) ?_
      refine r_iald (i := 14) X hM h47 (vp_in_nI (n := 14) (by decide) (by decide)) dX12_feed_40 ?_
      rw [show ((14 : Int32)).toNatClampNeg = 14 from by decide]
      rw [ht]
      refine lv_iadd hx hb dX12_feed_41 ?_
      rw [show (114 : Int32) + (nI t) = nI (114 + t) from nI_add 114 t]
      refine lv_iload_n hx hb dX12_feed_42 rfl (lv_at hl 1 rfl) ?_
      refine r_iast (i := nI (114 + t)) (x := x) X hM h47 (vp_in_nI (by omega) (by decide)) dX12_feed_43 (fun H locs hM => ?_)
      rw [nI_clamp (show 114 + t < 2147483648 by omega)] at hM
      have hM : MW g (mup M (gA g 47) (aI g 929 (upd f (114 + t) x))) H locs := hM
      refine lv_aload_n hx hb dX12_feed_44 rfl (lv_at hl 0 rfl) ?_
      refine r_get (T := TX12) (N := 20) (ci := 12) (v := .ref (gA g 47)) X hM iX12 rfl 1 (by decide) q_836 (Or.inl rfl) (mup_r (X.2.ne (i := 46) (j := 47) (by decide) (by decide) (by decide)) h46) rfl dX12_feed_45 ?_
      refine lv_bipush (v := 14) hx hb dX12_feed_48 (by decide) ?_
      refine lv_dup2_11 hx hb dX12_feed_50 rfl rfl ?_
      refine r_iald (i := 14) X hM (mup_s _ _ _) (vp_in_nI (n := 14) (by decide) (by decide)) dX12_feed_51 ?_
      rw [show ((14 : Int32)).toNatClampNeg = 14 from by decide]
      rw [show upd f (114 + t) x 14 = nI t from by rw [upd_ne (by omega)]; exact ht]
      refine lv_iconst (v := 1) hx hb dX12_feed_52 (by decide) ?_
      refine lv_iadd hx hb dX12_feed_53 ?_
      rw [show (nI t) + (1 : Int32) = nI (t + 1) from nI_add t 1]
      refine r_iast (i := 14) (x := nI (t + 1)) X hM (mup_s _ _ _) (vp_in_nI (n := 14) (by decide) (by decide)) dX12_feed_54 (fun H locs hM => ?_)
      rw [show ((14 : Int32)).toNatClampNeg = 14 from by decide] at hM
      rw [mup_i] at hM
      have hM : MW g (mup M (gA g 47) (aI g 929 (upd (upd f (114 + t) x) 14 (nI (t + 1))))) H locs := hM
      refine lv_aload_n hx hb dX12_feed_55 rfl (lv_at hl 0 rfl) ?_
      refine r_get (T := TX12) (N := 20) (ci := 12) (v := .ref (gA g 47)) X hM iX12 rfl 1 (by decide) q_836 (Or.inl rfl) (mup_r (X.2.ne (i := 46) (j := 47) (by decide) (by decide) (by decide)) h46) rfl dX12_feed_56 ?_
      refine lv_bipush (v := 14) hx hb dX12_feed_59 (by decide) ?_
      refine r_iald (i := 14) X hM (mup_s _ _ _) (vp_in_nI (n := 14) (by decide) (by decide)) dX12_feed_61 ?_
      rw [show ((14 : Int32)).toNatClampNeg = 14 from by decide]
      rw [show upd (upd f (114 + t) x) 14 (nI (t + 1)) 14 = nI (t + 1) from upd_eq]
      have e9 : mFeedN f t x = (nI (t + 1), upd (upd f (114 + t) x) 14 (nI (t + 1))) := by
        unfold mFeedN; (first | rw [if_pos c_1] | rw [if_neg c_1] | skip); (first | rw [if_pos c_2] | rw [if_neg c_2] | skip); all_goals first | rfl | (simp only [if_true])
      exact R_i X hr hk hM ⟨(by rw [e9]), (by rw [e9] <;> first | rfl | (dsimp only; done) | (dsimp only; simp only [mup_id h47]; done) | (simp only [mup_id h47]; done))⟩ dX12_feed_62
    · skip
      refine lv_bipush (v := -4) hx hb dX12_feed_25 (by decide) ?_
      have e9 : mFeedN f t x = (-4, f) := by
        unfold mFeedN; (first | rw [if_pos c_1] | rw [if_neg c_1] | skip); (first | rw [if_pos c_2] | rw [if_neg c_2] | skip); all_goals first | rfl | (simp only [if_true])
      exact R_i X hr hk hM ⟨(by rw [e9]), (by rw [e9] <;> first | rfl | (dsimp only; done) | (dsimp only; simp only [mup_id h47]; done) | (simp only [mup_id h47]; done) | (rw [mup_id h47]) | (dsimp only; rw [mup_id h47]))⟩ dX12_feed_27
  · skip
    refine lv_bipush (v := -2) hx hb dX12_feed_10 (by decide) ?_
    have e9 : mFeedN f t x = (-2, f) := by
      unfold mFeedN; (first | rw [if_pos c_1] | rw [if_neg c_1] | skip); all_goals first | rfl | (simp only [if_true])
    exact R_i X hr hk hM ⟨(by rw [e9]), (by rw [e9] <;> first | rfl | (dsimp only; done) | (dsimp only; simp only [mup_id h47]; done) | (simp only [mup_id h47]; done) | (rw [mup_id h47]) | (dsimp only; rw [mup_id h47]))⟩ dX12_feed_12
set_option maxHeartbeats 4000000 in
set_option maxRecDepth 100000 in
theorem c_X12_isUp (l : Launch) (g : Gp) (M : Mem) (m0 m1 m2 m3 m4 m5 m6 m7 m8 m9 m10 m11 : Int32) (f : Nat → Int32) (j : Nat) (ni : Int32) (h46 : M (gA g 46) = some (mdE g m0 m1 m2 m3 m4 m5 m6 m7 m8 m9 m10 m11)) (h47 : M (gA g 47) = some (aI g 929 f)) (hj : j < 6) (hr0 : ¬ f (28 + j) = 0) : Met l yX12_isUp (wsM yX12_isUp cX12_isUp 8 (some .boolean)) (rmD 1 0 0) (Pre g M [.ref (gA g 46), .int (nI j), .int ni]) (Qi g (fun r M1 => (mUp f j ni) = r ∧ M = M1)) 0 0 (gF g) := M_start (by decide +kernel) (Nat.le_of_ble_eq_true rfl) fun p e s m args below meth c ls X hr hk hnm hM hl => by
  have X : Cx g p m c cX12_isUp 8 s args RX12 := X
  have hx := X.1.1
  have hb := X.1.2.1
  have hl : lv_has ls 8 [(0, .ref (gA g 46)), (1, .int (nI j)), (2, .int ni)] := hl
  refine lv_aload_n hx hb dX12_isUp_0 rfl (lv_at hl 0 rfl) ?_
  refine r_get (T := TX12) (N := 20) (ci := 12) (v := .ref (gA g 47)) X hM iX12 rfl 1 (by decide) q_836 (Or.inl rfl) h46 rfl dX12_isUp_1 ?_
  refine lv_bipush (v := 28) hx hb dX12_isUp_4 (by decide) ?_
  refine lv_iload_n hx hb dX12_isUp_6 rfl (lv_at hl 1 rfl) ?_
  refine lv_iadd hx hb dX12_isUp_7 ?_
  rw [show (28 : Int32) + (nI j) = nI (28 + j) from nI_add 28 j]
  refine r_iald (i := nI (28 + j)) X hM h47 (vp_in_nI (by omega) (by decide)) dX12_isUp_8 ?_
  rw [nI_clamp (show 28 + j < 2147483648 by omega)]
  refine lv_istore_n (lv' := [(3, .int (f (28 + j))), (0, .ref (gA g 46)), (1, .int (nI j)), (2, .int ni)]) hx hb dX12_isUp_9 rfl hl (by decide) rfl (fun ls hl => ?_)
  refine lv_iload_n hx hb dX12_isUp_10 rfl (lv_at hl 3 rfl) ?_
  refine lv_aload_n hx hb dX12_isUp_11 rfl (lv_at hl 1 rfl) ?_
  refine r_get (T := TX12) (N := 20) (ci := 12) (v := .ref (gA g 47)) X hM iX12 rfl 1 (by decide) q_836 (Or.inl rfl) h46 rfl dX12_isUp_12 ?_
  refine lv_bipush (v := 34) hx hb dX12_isUp_15 (by decide) ?_
  refine lv_iload_n hx hb dX12_isUp_17 rfl (lv_at hl 2 rfl) ?_
  refine lv_iadd hx hb dX12_isUp_18 ?_
  rw [show (34 : Int32) + (nI j) = nI (34 + j) from nI_add 34 j]
  refine r_iald (i := nI (34 + j)) X hM h47 (vp_in_nI (by omega) (by decide)) dX12_isUp_19 ?_
  rw [nI_clamp (show 34 + j < 2147483648 by omega)]
  refine lv_iadd hx hb dX12_isUp_20 ?_
  refine lv_iload_n hx hb dX12_isUp_21 rfl (lv_at hl 0 rfl) ?_
  refine l_irem hx hb dX12_isUp_22 hr0 ?_
  refine lv_istore (lv' := [(4, .int (iR (ni + (f (34 + j))) (f (28 + j)))), (3, .int (f (28 + j))), (0, .ref (gA g 46)), (1, .int (nI j)), (2, .int ni)]) hx hb dX12_isUp_23 hl (by decide) rfl (fun ls hl => ?_)
  refine lv_iload hx hb dX12_isUp_25 (lv_at hl 0 rfl) ?_
  refine l_joinM (ls := ls) hM 35 (mSt (iR (ni + f (34 + j)) (f (28 + j)))) [] (fun H locs hM => ?_) (fun J27 => ?_)
  · skip
    refine lv_topi (fun us e_us => ?_)
    refine lv_istore (lv' := [(5, .int us), (4, .int (iR (ni + (f (34 + j))) (f (28 + j)))), (3, .int (f (28 + j))), (0, .ref (gA g 46)), (1, .int (nI j)), (2, .int ni)]) hx hb dX12_isUp_35 hl (by decide) rfl (fun ls hl => ?_)
    refine lv_iload hx hb dX12_isUp_37 (lv_at hl 1 rfl) ?_
    refine lv_iload_n hx hb dX12_isUp_39 rfl (lv_at hl 2 rfl) ?_
    refine lv_iconst (v := 2) hx hb dX12_isUp_40 (by decide) ?_
    refine lv_idiv hx hb dX12_isUp_41 (by decide) ?_
    refine l_joinM (ls := ls) hM 55 (mMo (f (28 + j)) (iR (ni + f (34 + j)) (f (28 + j)))) [] (fun H locs hM => ?_) (fun J42 => ?_)
    · skip
      refine lv_topi (fun um e_um => ?_)
      refine lv_istore (lv' := [(6, .int um), (5, .int us), (4, .int (iR (ni + (f (34 + j))) (f (28 + j)))), (3, .int (f (28 + j))), (0, .ref (gA g 46)), (1, .int (nI j)), (2, .int ni)]) hx hb dX12_isUp_55 hl (by decide) rfl (fun ls hl => ?_)
      refine lv_iload hx hb dX12_isUp_57 (lv_at hl 1 rfl) ?_
      refine lv_istore (lv' := [(7, .int us), (6, .int um), (5, .int us), (4, .int (iR (ni + (f (34 + j))) (f (28 + j)))), (3, .int (f (28 + j))), (0, .ref (gA g 46)), (1, .int (nI j)), (2, .int ni)]) hx hb dX12_isUp_59 hl (by decide) rfl (fun ls hl => ?_)
      refine lv_aload_n hx hb dX12_isUp_61 rfl (lv_at hl 5 rfl) ?_
      refine r_get (T := TX12) (N := 20) (ci := 12) (v := .ref (gA g 47)) X hM iX12 rfl 1 (by decide) q_836 (Or.inl rfl) h46 rfl dX12_isUp_62 ?_
      refine lv_bipush (v := 16) hx hb dX12_isUp_65 (by decide) ?_
      refine lv_iload_n hx hb dX12_isUp_67 rfl (lv_at hl 6 rfl) ?_
      refine lv_iadd hx hb dX12_isUp_68 ?_
      rw [show (16 : Int32) + (nI j) = nI (16 + j) from nI_add 16 j]
      refine r_iald (i := nI (16 + j)) X hM h47 (vp_in_nI (by omega) (by decide)) dX12_isUp_69 ?_
      rw [nI_clamp (show 16 + j < 2147483648 by omega)]
      by_cases w_1 : f (16 + j) = 1
      · skip
        refine lv_tableIn (off := 34) (tgt := 104) hx hb dX12_isUp_70 (by rw [w_1]; decide) (by rw [w_1]; decide) (by rw [w_1]; rfl) (by decide) ?_
        refine lv_iload hx hb dX12_isUp_104 (lv_at hl 1 rfl) ?_
        refine lv_istore (lv' := [(7, .int um), (6, .int um), (5, .int us), (4, .int (iR (ni + (f (34 + j))) (f (28 + j)))), (3, .int (f (28 + j))), (0, .ref (gA g 46)), (1, .int (nI j)), (2, .int ni)]) hx hb dX12_isUp_106 hl (by decide) rfl (fun ls hl => ?_)
        refine lv_goto (tgt := 200) hx hb dX12_isUp_108 (by decide) ?_
        refine lv_aload_n hx hb dX12_isUp_200 rfl (lv_at hl 5 rfl) ?_
        refine r_get (T := TX12) (N := 20) (ci := 12) (v := .ref (gA g 47)) X hM iX12 rfl 1 (by decide) q_836 (Or.inl rfl) h46 rfl dX12_isUp_201 ?_
        refine lv_iconst (v := 3) hx hb dX12_isUp_204 (by decide) ?_
        refine lv_iload_n hx hb dX12_isUp_205 rfl (lv_at hl 6 rfl) ?_
        refine lv_iadd hx hb dX12_isUp_206 ?_
        rw [show (3 : Int32) + (nI j) = nI (3 + j) from nI_add 3 j]
        refine r_iald (i := nI (3 + j)) X hM h47 (vp_in_nI (by omega) (by decide)) dX12_isUp_207 ?_
        rw [nI_clamp (show 3 + j < 2147483648 by omega)]
        refine lv_if_ne (tgt := 220) hx hb dX12_isUp_208 (by decide) (fun c_2 => ?_) (fun c_2 => ?_)
        · skip
          refine lv_iconst (v := 0) hx hb dX12_isUp_220 (by decide) ?_
          exact R_z X hr hk (Or.inl rfl) hM ⟨(by unfold mUp; rw [← e_us, ← e_um]; clear e_us e_um; unfold mUpB mK; simp [*]), rfl⟩ dX12_isUp_221
        · skip
          refine lv_iload hx hb dX12_isUp_211 (lv_at hl 0 rfl) ?_
          refine lv_if_eq (tgt := 220) hx hb dX12_isUp_213 (by decide) (fun c_3 => ?_) (fun c_3 => ?_)
          · skip
            refine lv_iconst (v := 0) hx hb dX12_isUp_220 (by decide) ?_
            exact R_z X hr hk (Or.inl rfl) hM ⟨(by unfold mUp; rw [← e_us, ← e_um]; clear e_us e_um; unfold mUpB mK; simp [*]), rfl⟩ dX12_isUp_221
          · skip
            refine lv_iconst (v := 1) hx hb dX12_isUp_216 (by decide) ?_
            refine lv_goto (tgt := 221) hx hb dX12_isUp_217 (by decide) ?_
            exact R_z X hr hk (Or.inr rfl) hM ⟨(by unfold mUp; rw [← e_us, ← e_um]; clear e_us e_um; unfold mUpB mK; simp [*]), rfl⟩ dX12_isUp_221
      by_cases w_4 : f (16 + j) = 2
      · skip
        refine lv_tableIn (off := 41) (tgt := 111) hx hb dX12_isUp_70 (by rw [w_4]; decide) (by rw [w_4]; decide) (by rw [w_4]; rfl) (by decide) ?_
        refine lv_iload hx hb dX12_isUp_111 (lv_at hl 2 rfl) ?_
        refine l_joinM (ls := ls) hM 137 (if us = 0 then 0 else if ni < 10 * f (22 + j) then 0 else 1) [] (fun H locs hM => ?_) (fun J113 => ?_)
        · skip
          refine lv_istore (lv' := [(7, .int (if us = 0 then 0 else if ni < 10 * f (22 + j) then 0 else 1)), (6, .int um), (5, .int us), (4, .int (iR (ni + (f (34 + j))) (f (28 + j)))), (3, .int (f (28 + j))), (0, .ref (gA g 46)), (1, .int (nI j)), (2, .int ni)]) hx hb dX12_isUp_137 hl (by decide) rfl (fun ls hl => ?_)
          refine lv_goto (tgt := 200) hx hb dX12_isUp_139 (by decide) ?_
          refine lv_aload_n hx hb dX12_isUp_200 rfl (lv_at hl 5 rfl) ?_
          refine r_get (T := TX12) (N := 20) (ci := 12) (v := .ref (gA g 47)) X hM iX12 rfl 1 (by decide) q_836 (Or.inl rfl) h46 rfl dX12_isUp_201 ?_
          refine lv_iconst (v := 3) hx hb dX12_isUp_204 (by decide) ?_
          refine lv_iload_n hx hb dX12_isUp_205 rfl (lv_at hl 6 rfl) ?_
          refine lv_iadd hx hb dX12_isUp_206 ?_
          rw [show (3 : Int32) + (nI j) = nI (3 + j) from nI_add 3 j]
          refine r_iald (i := nI (3 + j)) X hM h47 (vp_in_nI (by omega) (by decide)) dX12_isUp_207 ?_
          rw [nI_clamp (show 3 + j < 2147483648 by omega)]
          refine lv_if_ne (tgt := 220) hx hb dX12_isUp_208 (by decide) (fun c_5 => ?_) (fun c_5 => ?_)
          · skip
            refine lv_iconst (v := 0) hx hb dX12_isUp_220 (by decide) ?_
            exact R_z X hr hk (Or.inl rfl) hM ⟨(by unfold mUp; rw [← e_us, ← e_um]; clear e_us e_um; unfold mUpB mK; simp [*]), rfl⟩ dX12_isUp_221
          · skip
            refine lv_iload hx hb dX12_isUp_211 (lv_at hl 0 rfl) ?_
            refine lv_if_eq (tgt := 220) hx hb dX12_isUp_213 (by decide) (fun c_6 => ?_) (fun c_6 => ?_)
            · skip
              refine lv_iconst (v := 0) hx hb dX12_isUp_220 (by decide) ?_
              exact R_z X hr hk (Or.inl rfl) hM ⟨(by unfold mUp; rw [← e_us, ← e_um]; clear e_us e_um; unfold mUpB mK; simp [*]), rfl⟩ dX12_isUp_221
            · skip
              refine lv_iconst (v := 1) hx hb dX12_isUp_216 (by decide) ?_
              refine lv_goto (tgt := 221) hx hb dX12_isUp_217 (by decide) ?_
              exact R_z X hr hk (Or.inr rfl) hM ⟨(by unfold mUp; rw [← e_us, ← e_um]; clear e_us e_um; unfold mUpB mK; simp [*]), rfl⟩ dX12_isUp_221
        refine lv_if_eq (tgt := 136) hx hb dX12_isUp_113 (by decide) (fun c_7 => ?_) (fun c_7 => ?_)
        · skip
          refine lv_iconst (v := 0) hx hb dX12_isUp_136 (by decide) ?_
          exact J113 _ _ _ hM (by clear e_us e_um; simp [*])
        · skip
          refine lv_iload_n hx hb dX12_isUp_116 rfl (lv_at hl 7 rfl) ?_
          refine lv_bipush (v := 10) hx hb dX12_isUp_117 (by decide) ?_
          refine lv_aload_n hx hb dX12_isUp_119 rfl (lv_at hl 5 rfl) ?_
          refine r_get (T := TX12) (N := 20) (ci := 12) (v := .ref (gA g 47)) X hM iX12 rfl 1 (by decide) q_836 (Or.inl rfl) h46 rfl dX12_isUp_120 ?_
          refine lv_bipush (v := 22) hx hb dX12_isUp_123 (by decide) ?_
          refine lv_iload_n hx hb dX12_isUp_125 rfl (lv_at hl 6 rfl) ?_
          refine lv_iadd hx hb dX12_isUp_126 ?_
          rw [show (22 : Int32) + (nI j) = nI (22 + j) from nI_add 22 j]
          refine r_iald (i := nI (22 + j)) X hM h47 (vp_in_nI (by omega) (by decide)) dX12_isUp_127 ?_
          rw [nI_clamp (show 22 + j < 2147483648 by omega)]
          refine lv_imul hx hb dX12_isUp_128 ?_
          refine lv_icmp_lt (tgt := 136) hx hb dX12_isUp_129 (by decide) (fun c_8 => ?_) (fun c_8 => ?_)
          · skip
            refine lv_iconst (v := 0) hx hb dX12_isUp_136 (by decide) ?_
            exact J113 _ _ _ hM (by clear e_us e_um; simp [*])
          · skip
            refine lv_iconst (v := 1) hx hb dX12_isUp_132 (by decide) ?_
            refine lv_goto (tgt := 137) hx hb dX12_isUp_133 (by decide) ?_
            exact J113 _ _ _ hM (by clear e_us e_um; simp [*])
      by_cases w_9 : f (16 + j) = 3
      · skip
        refine lv_tableIn (off := 130) (tgt := 200) hx hb dX12_isUp_70 (by rw [w_9]; decide) (by rw [w_9]; decide) (by rw [w_9]; rfl) (by decide) ?_
        refine lv_aload_n hx hb dX12_isUp_200 rfl (lv_at hl 5 rfl) ?_
        refine r_get (T := TX12) (N := 20) (ci := 12) (v := .ref (gA g 47)) X hM iX12 rfl 1 (by decide) q_836 (Or.inl rfl) h46 rfl dX12_isUp_201 ?_
        refine lv_iconst (v := 3) hx hb dX12_isUp_204 (by decide) ?_
        refine lv_iload_n hx hb dX12_isUp_205 rfl (lv_at hl 6 rfl) ?_
        refine lv_iadd hx hb dX12_isUp_206 ?_
        rw [show (3 : Int32) + (nI j) = nI (3 + j) from nI_add 3 j]
        refine r_iald (i := nI (3 + j)) X hM h47 (vp_in_nI (by omega) (by decide)) dX12_isUp_207 ?_
        rw [nI_clamp (show 3 + j < 2147483648 by omega)]
        refine lv_if_ne (tgt := 220) hx hb dX12_isUp_208 (by decide) (fun c_10 => ?_) (fun c_10 => ?_)
        · skip
          refine lv_iconst (v := 0) hx hb dX12_isUp_220 (by decide) ?_
          exact R_z X hr hk (Or.inl rfl) hM ⟨(by unfold mUp; rw [← e_us, ← e_um]; clear e_us e_um; unfold mUpB mK; simp [*]), rfl⟩ dX12_isUp_221
        · skip
          refine lv_iload hx hb dX12_isUp_211 (lv_at hl 0 rfl) ?_
          refine lv_if_eq (tgt := 220) hx hb dX12_isUp_213 (by decide) (fun c_11 => ?_) (fun c_11 => ?_)
          · skip
            refine lv_iconst (v := 0) hx hb dX12_isUp_220 (by decide) ?_
            exact R_z X hr hk (Or.inl rfl) hM ⟨(by unfold mUp; rw [← e_us, ← e_um]; clear e_us e_um; unfold mUpB mK; simp [*]), rfl⟩ dX12_isUp_221
          · skip
            refine lv_iconst (v := 1) hx hb dX12_isUp_216 (by decide) ?_
            refine lv_goto (tgt := 221) hx hb dX12_isUp_217 (by decide) ?_
            exact R_z X hr hk (Or.inr rfl) hM ⟨(by unfold mUp; rw [← e_us, ← e_um]; clear e_us e_um; unfold mUpB mK; simp [*]), rfl⟩ dX12_isUp_221
      by_cases w_12 : f (16 + j) = 4
      · skip
        refine lv_tableIn (off := 72) (tgt := 142) hx hb dX12_isUp_70 (by rw [w_12]; decide) (by rw [w_12]; decide) (by rw [w_12]; rfl) (by decide) ?_
        refine lv_iload hx hb dX12_isUp_142 (lv_at hl 1 rfl) ?_
        refine l_joinM (ls := ls) hM 157 (if um = 0 then (if us = 0 then 0 else 1) else 1) [] (fun H locs hM => ?_) (fun J144 => ?_)
        · skip
          refine lv_istore (lv' := [(7, .int (if um = 0 then (if us = 0 then 0 else 1) else 1)), (6, .int um), (5, .int us), (4, .int (iR (ni + (f (34 + j))) (f (28 + j)))), (3, .int (f (28 + j))), (0, .ref (gA g 46)), (1, .int (nI j)), (2, .int ni)]) hx hb dX12_isUp_157 hl (by decide) rfl (fun ls hl => ?_)
          refine lv_goto (tgt := 200) hx hb dX12_isUp_159 (by decide) ?_
          refine lv_aload_n hx hb dX12_isUp_200 rfl (lv_at hl 5 rfl) ?_
          refine r_get (T := TX12) (N := 20) (ci := 12) (v := .ref (gA g 47)) X hM iX12 rfl 1 (by decide) q_836 (Or.inl rfl) h46 rfl dX12_isUp_201 ?_
          refine lv_iconst (v := 3) hx hb dX12_isUp_204 (by decide) ?_
          refine lv_iload_n hx hb dX12_isUp_205 rfl (lv_at hl 6 rfl) ?_
          refine lv_iadd hx hb dX12_isUp_206 ?_
          rw [show (3 : Int32) + (nI j) = nI (3 + j) from nI_add 3 j]
          refine r_iald (i := nI (3 + j)) X hM h47 (vp_in_nI (by omega) (by decide)) dX12_isUp_207 ?_
          rw [nI_clamp (show 3 + j < 2147483648 by omega)]
          refine lv_if_ne (tgt := 220) hx hb dX12_isUp_208 (by decide) (fun c_13 => ?_) (fun c_13 => ?_)
          · skip
            refine lv_iconst (v := 0) hx hb dX12_isUp_220 (by decide) ?_
            exact R_z X hr hk (Or.inl rfl) hM ⟨(by unfold mUp; rw [← e_us, ← e_um]; clear e_us e_um; unfold mUpB mK; simp [*]), rfl⟩ dX12_isUp_221
          · skip
            refine lv_iload hx hb dX12_isUp_211 (lv_at hl 0 rfl) ?_
            refine lv_if_eq (tgt := 220) hx hb dX12_isUp_213 (by decide) (fun c_14 => ?_) (fun c_14 => ?_)
            · skip
              refine lv_iconst (v := 0) hx hb dX12_isUp_220 (by decide) ?_
              exact R_z X hr hk (Or.inl rfl) hM ⟨(by unfold mUp; rw [← e_us, ← e_um]; clear e_us e_um; unfold mUpB mK; simp [*]), rfl⟩ dX12_isUp_221
            · skip
              refine lv_iconst (v := 1) hx hb dX12_isUp_216 (by decide) ?_
              refine lv_goto (tgt := 221) hx hb dX12_isUp_217 (by decide) ?_
              exact R_z X hr hk (Or.inr rfl) hM ⟨(by unfold mUp; rw [← e_us, ← e_um]; clear e_us e_um; unfold mUpB mK; simp [*]), rfl⟩ dX12_isUp_221
        refine lv_if_ne (tgt := 152) hx hb dX12_isUp_144 (by decide) (fun c_15 => ?_) (fun c_15 => ?_)
        · skip
          refine lv_iconst (v := 1) hx hb dX12_isUp_152 (by decide) ?_
          refine lv_goto (tgt := 157) hx hb dX12_isUp_153 (by decide) ?_
          exact J144 _ _ _ hM (by clear e_us e_um; simp [*])
        · skip
          refine lv_iload hx hb dX12_isUp_147 (lv_at hl 2 rfl) ?_
          refine lv_if_eq (tgt := 156) hx hb dX12_isUp_149 (by decide) (fun c_16 => ?_) (fun c_16 => ?_)
          · skip
            refine lv_iconst (v := 0) hx hb dX12_isUp_156 (by decide) ?_
            exact J144 _ _ _ hM (by clear e_us e_um; simp [*])
          · skip
            refine lv_iconst (v := 1) hx hb dX12_isUp_152 (by decide) ?_
            refine lv_goto (tgt := 157) hx hb dX12_isUp_153 (by decide) ?_
            exact J144 _ _ _ hM (by clear e_us e_um; simp [*])
      by_cases w_17 : f (16 + j) = 5
      · skip
        refine lv_tableIn (off := 92) (tgt := 162) hx hb dX12_isUp_70 (by rw [w_17]; decide) (by rw [w_17]; decide) (by rw [w_17]; rfl) (by decide) ?_
        refine lv_iload hx hb dX12_isUp_162 (lv_at hl 2 rfl) ?_
        refine l_joinM (ls := ls) hM 195 (if us = 0 then 0 else if ni < 10 * f (22 + j) then 0 else if iR ni 7 = 0 then 0 else 1) [] (fun H locs hM => ?_) (fun J164 => ?_)
        · skip
          refine lv_istore (lv' := [(7, .int (if us = 0 then 0 else if ni < 10 * f (22 + j) then 0 else if iR ni 7 = 0 then 0 else 1)), (6, .int um), (5, .int us), (4, .int (iR (ni + (f (34 + j))) (f (28 + j)))), (3, .int (f (28 + j))), (0, .ref (gA g 46)), (1, .int (nI j)), (2, .int ni)]) hx hb dX12_isUp_195 hl (by decide) rfl (fun ls hl => ?_)
          refine lv_goto (tgt := 200) hx hb dX12_isUp_197 (by decide) ?_
          refine lv_aload_n hx hb dX12_isUp_200 rfl (lv_at hl 5 rfl) ?_
          refine r_get (T := TX12) (N := 20) (ci := 12) (v := .ref (gA g 47)) X hM iX12 rfl 1 (by decide) q_836 (Or.inl rfl) h46 rfl dX12_isUp_201 ?_
          refine lv_iconst (v := 3) hx hb dX12_isUp_204 (by decide) ?_
          refine lv_iload_n hx hb dX12_isUp_205 rfl (lv_at hl 6 rfl) ?_
          refine lv_iadd hx hb dX12_isUp_206 ?_
          rw [show (3 : Int32) + (nI j) = nI (3 + j) from nI_add 3 j]
          refine r_iald (i := nI (3 + j)) X hM h47 (vp_in_nI (by omega) (by decide)) dX12_isUp_207 ?_
          rw [nI_clamp (show 3 + j < 2147483648 by omega)]
          refine lv_if_ne (tgt := 220) hx hb dX12_isUp_208 (by decide) (fun c_18 => ?_) (fun c_18 => ?_)
          · skip
            refine lv_iconst (v := 0) hx hb dX12_isUp_220 (by decide) ?_
            exact R_z X hr hk (Or.inl rfl) hM ⟨(by unfold mUp; rw [← e_us, ← e_um]; clear e_us e_um; unfold mUpB mK; simp [*]), rfl⟩ dX12_isUp_221
          · skip
            refine lv_iload hx hb dX12_isUp_211 (lv_at hl 0 rfl) ?_
            refine lv_if_eq (tgt := 220) hx hb dX12_isUp_213 (by decide) (fun c_19 => ?_) (fun c_19 => ?_)
            · skip
              refine lv_iconst (v := 0) hx hb dX12_isUp_220 (by decide) ?_
              exact R_z X hr hk (Or.inl rfl) hM ⟨(by unfold mUp; rw [← e_us, ← e_um]; clear e_us e_um; unfold mUpB mK; simp [*]), rfl⟩ dX12_isUp_221
            · skip
              refine lv_iconst (v := 1) hx hb dX12_isUp_216 (by decide) ?_
              refine lv_goto (tgt := 221) hx hb dX12_isUp_217 (by decide) ?_
              exact R_z X hr hk (Or.inr rfl) hM ⟨(by unfold mUp; rw [← e_us, ← e_um]; clear e_us e_um; unfold mUpB mK; simp [*]), rfl⟩ dX12_isUp_221
        refine lv_if_eq (tgt := 194) hx hb dX12_isUp_164 (by decide) (fun c_20 => ?_) (fun c_20 => ?_)
        · skip
          refine lv_iconst (v := 0) hx hb dX12_isUp_194 (by decide) ?_
          exact J164 _ _ _ hM (by clear e_us e_um; simp [*])
        · skip
          refine lv_iload_n hx hb dX12_isUp_167 rfl (lv_at hl 7 rfl) ?_
          refine lv_bipush (v := 10) hx hb dX12_isUp_168 (by decide) ?_
          refine lv_aload_n hx hb dX12_isUp_170 rfl (lv_at hl 5 rfl) ?_
          refine r_get (T := TX12) (N := 20) (ci := 12) (v := .ref (gA g 47)) X hM iX12 rfl 1 (by decide) q_836 (Or.inl rfl) h46 rfl dX12_isUp_171 ?_
          refine lv_bipush (v := 22) hx hb dX12_isUp_174 (by decide) ?_
          refine lv_iload_n hx hb dX12_isUp_176 rfl (lv_at hl 6 rfl) ?_
          refine lv_iadd hx hb dX12_isUp_177 ?_
          rw [show (22 : Int32) + (nI j) = nI (22 + j) from nI_add 22 j]
          refine r_iald (i := nI (22 + j)) X hM h47 (vp_in_nI (by omega) (by decide)) dX12_isUp_178 ?_
          rw [nI_clamp (show 22 + j < 2147483648 by omega)]
          refine lv_imul hx hb dX12_isUp_179 ?_
          refine lv_icmp_lt (tgt := 194) hx hb dX12_isUp_180 (by decide) (fun c_21 => ?_) (fun c_21 => ?_)
          · skip
            refine lv_iconst (v := 0) hx hb dX12_isUp_194 (by decide) ?_
            exact J164 _ _ _ hM (by clear e_us e_um; simp [*])
          · skip
            refine lv_iload_n hx hb dX12_isUp_183 rfl (lv_at hl 7 rfl) ?_
            refine lv_bipush (v := 7) hx hb dX12_isUp_184 (by decide) ?_
            refine l_irem hx hb dX12_isUp_186 (by decide) ?_
            refine lv_if_eq (tgt := 194) hx hb dX12_isUp_187 (by decide) (fun c_22 => ?_) (fun c_22 => ?_)
            · skip
              refine lv_iconst (v := 0) hx hb dX12_isUp_194 (by decide) ?_
              exact J164 _ _ _ hM (by clear e_us e_um; simp [*])
            · skip
              refine lv_iconst (v := 1) hx hb dX12_isUp_190 (by decide) ?_
              refine lv_goto (tgt := 195) hx hb dX12_isUp_191 (by decide) ?_
              exact J164 _ _ _ hM (by clear e_us e_um; simp [*])
      refine lv_tableOut (tgt := 200) hx hb dX12_isUp_70 (by have z0 := i32ne w_1 (by decide : ((1 : Int32)).toInt = 1); have z1 := i32ne w_4 (by decide : ((2 : Int32)).toInt = 2); have z2 := i32ne w_9 (by decide : ((3 : Int32)).toInt = 3); have z3 := i32ne w_12 (by decide : ((4 : Int32)).toInt = 4); have z4 := i32ne w_17 (by decide : ((5 : Int32)).toInt = 5); omega) (by decide) ?_
      refine lv_aload_n hx hb dX12_isUp_200 rfl (lv_at hl 5 rfl) ?_
      refine r_get (T := TX12) (N := 20) (ci := 12) (v := .ref (gA g 47)) X hM iX12 rfl 1 (by decide) q_836 (Or.inl rfl) h46 rfl dX12_isUp_201 ?_
      refine lv_iconst (v := 3) hx hb dX12_isUp_204 (by decide) ?_
      refine lv_iload_n hx hb dX12_isUp_205 rfl (lv_at hl 6 rfl) ?_
      refine lv_iadd hx hb dX12_isUp_206 ?_
      rw [show (3 : Int32) + (nI j) = nI (3 + j) from nI_add 3 j]
      refine r_iald (i := nI (3 + j)) X hM h47 (vp_in_nI (by omega) (by decide)) dX12_isUp_207 ?_
      rw [nI_clamp (show 3 + j < 2147483648 by omega)]
      refine lv_if_ne (tgt := 220) hx hb dX12_isUp_208 (by decide) (fun c_23 => ?_) (fun c_23 => ?_)
      · skip
        refine lv_iconst (v := 0) hx hb dX12_isUp_220 (by decide) ?_
        exact R_z X hr hk (Or.inl rfl) hM ⟨(by unfold mUp; rw [← e_us, ← e_um]; clear e_us e_um; unfold mUpB mK; simp [*]), rfl⟩ dX12_isUp_221
      · skip
        refine lv_iload hx hb dX12_isUp_211 (lv_at hl 0 rfl) ?_
        refine lv_if_eq (tgt := 220) hx hb dX12_isUp_213 (by decide) (fun c_24 => ?_) (fun c_24 => ?_)
        · skip
          refine lv_iconst (v := 0) hx hb dX12_isUp_220 (by decide) ?_
          exact R_z X hr hk (Or.inl rfl) hM ⟨(by unfold mUp; rw [← e_us, ← e_um]; clear e_us e_um; unfold mUpB mK; simp [*]), rfl⟩ dX12_isUp_221
        · skip
          refine lv_iconst (v := 1) hx hb dX12_isUp_216 (by decide) ?_
          refine lv_goto (tgt := 221) hx hb dX12_isUp_217 (by decide) ?_
          exact R_z X hr hk (Or.inr rfl) hM ⟨(by unfold mUp; rw [← e_us, ← e_um]; clear e_us e_um; unfold mUpB mK; simp [*]), rfl⟩ dX12_isUp_221
    refine lv_icmp_lt (tgt := 50) hx hb dX12_isUp_42 (by decide) (fun c_25 => ?_) (fun c_25 => ?_)
    · skip
      refine lv_iconst (v := 1) hx hb dX12_isUp_50 (by decide) ?_
      refine lv_goto (tgt := 55) hx hb dX12_isUp_51 (by decide) ?_
      exact J42 _ _ _ hM (by unfold mMo; simp [*])
    · skip
      refine lv_iload_n hx hb dX12_isUp_45 rfl (lv_at hl 2 rfl) ?_
      refine lv_iconst (v := 1) hx hb dX12_isUp_46 (by decide) ?_
      refine lv_icmp_ne (tgt := 54) hx hb dX12_isUp_47 (by decide) (fun c_26 => ?_) (fun c_26 => ?_)
      · skip
        refine lv_iconst (v := 0) hx hb dX12_isUp_54 (by decide) ?_
        exact J42 _ _ _ hM (by unfold mMo; simp [*])
      · skip
        refine lv_iconst (v := 1) hx hb dX12_isUp_50 (by decide) ?_
        refine lv_goto (tgt := 55) hx hb dX12_isUp_51 (by decide) ?_
        exact J42 _ _ _ hM (by unfold mMo; simp [*])
  refine lv_if_ne (tgt := 34) hx hb dX12_isUp_27 (by decide) (fun c_27 => ?_) (fun c_27 => ?_)
  · skip
    refine lv_iconst (v := 0) hx hb dX12_isUp_34 (by decide) ?_
    exact J27 _ _ _ hM (by unfold mSt; simp [*])
  · skip
    refine lv_iconst (v := 1) hx hb dX12_isUp_30 (by decide) ?_
    refine lv_goto (tgt := 35) hx hb dX12_isUp_31 (by decide) ?_
    exact J27 _ _ _ hM (by unfold mSt; simp [*])
