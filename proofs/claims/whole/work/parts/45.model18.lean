def mTold (f : Nat → Int32) (L t : Nat) (w : Int32) : Int32 := if w = 0 then nI t else if w = 1 then (if mTel f 214 1 = 0 then 1 else mTel f 214 1) else if w = 2 then mCl f else if w = 3 then mTrn f (nI t) else if w = 4 then (if mCld (mCl f) (nI t) = 0 then 0 else 1) else if w = 5 then mUps f (nI t) L else if w = 6 then f 1 else if w = 7 then f 2 else if w = 8 then mHas f L (mCl f) t 0 else if w = 9 then mHas f L (mCl f) t 1 else -1
theorem mCp_back {f fr h : Nat → Int32} (e : ∀ q, 9 ≤ q → h q = f q) : mCp 9 (mCp 9 f fr) h = f := by
  funext q
  unfold mCp
  by_cases k : q < 9
  · rw [if_pos k, if_pos k]
  · rw [if_neg k]
    exact e q (by omega)
def mOn (f : Nat → Int32) (L t : Nat) (n w : Int32) : Int32 := if fIn w 0 2 = 0 then -1 else if fIn n 0 60 = 0 then -2 else if w = 2 then mCnt (mUps (mGoN f L (mCl f) t n.toNatClampNeg) (nI (t + n.toNatClampNeg)) L) 9 else mGoN f L (mCl f) t n.toNatClampNeg (1 + w.toNatClampNeg)

theorem lk_X12_162 : LkV RX12 162 yX12_upOn cX12_upOn 4 (some .int) 1 := lkV_of q_1036 q_1038 qs_31 q_7 q_1039 ⟨by decide, by decide, by decide +kernel⟩ (by decide)
theorem lk_X12_175 : LkV RX12 175 yX12_keeps cX12_keeps 2 none 0 := lkV_of q_1060 q_1062 qs_34 q_7 q_1063 ⟨by decide, by decide, by decide +kernel⟩ (by decide)
theorem lk_X12_178 : LkV RX12 178 yX12_goesOn cX12_goesOn 3 none 1 := lkV_of q_1064 q_1066 qs_35 q_7 q_1067 ⟨by decide, by decide, by decide +kernel⟩ (by decide)
theorem lk_X12_184 : LkV RX12 184 yX12_goesBack cX12_goesBack 2 none 0 := lkV_of q_1071 q_1073 qs_36 q_7 q_1074 ⟨by decide, by decide, by decide +kernel⟩ (by decide)
theorem lk_X12_181 : LkS RX12 181 yX12_countOf cX12_countOf 3 (some .int) 1 := lkS_of q_1068 q_1069 q_7 q_1070 ⟨rfl, by decide, by decide, by decide +kernel⟩ (by decide)
set_option maxHeartbeats 4000000 in
set_option maxRecDepth 100000 in
theorem c_X12_told (l : Launch) (g : Gp) (M : Mem) (m0 m1 m2 m3 m4 m5 m6 m7 m8 m9 m10 m11 : Int32) (f : Nat → Int32) (L : Nat) (t : Nat) (by_ tr : Nat → Int32) (w : Int32) (h46 : M (gA g 46) = some (mdE g m0 m1 m2 m3 m4 m5 m6 m7 m8 m9 m10 m11)) (h47 : M (gA g 47) = some (aI g 929 f)) (h50 : M (gA g 50) = some (aI g 6 by_)) (h51 : M (gA g 51) = some (aZ g 64 tr)) (hO : MOk f L) (h0 : f 0 = nI t) (ht : t < 10000) : Met l yX12_told (wsM yX12_told cX12_told 2 (some .int)) (rmD 6 0 0) (Pre g M [.ref (gA g 46), .int w]) (Qi g (fun r M1 => ∃ (y0 : Nat → Int32) (y1 : Nat → Int32), (mTold f L t w) = r ∧ mup (mup (mup M (gA g 46) (mdE g m0 m1 (mCl f) m3 m4 m5 m6 m7 m8 m9 m10 m11)) (gA g 50) (aI g 6 y0)) (gA g 51) (aZ g 64 y1) = M1)) 0 0 (gF g) := M_start (by decide +kernel) (Nat.le_of_ble_eq_true rfl) fun p e s m args below meth c ls X hr hk hnm hM hl => by
  have X : Cx g p m c cX12_told 2 s args RX12 := X
  have hx := X.1.1
  have hb := X.1.2.1
  have hl : lv_has ls 2 [(0, .ref (gA g 46)), (1, .int w)] := hl
  obtain ⟨h9, hL, hR, hS⟩ := id hO
  refine lv_aload_n hx hb dX12_told_0 rfl (lv_at hl 0 rfl) ?_
  refine K_v (G_V (As := []) (rest := []) X hM (c_X12_asItIs l g _ m0 m1 m2 m3 m4 m5 m6 m7 m8 m9 m10 m11 f h46 h47 hS.hd) lk_X12_155 h46 rfl rfl hl.1 rfl (Nat.le_of_ble_eq_true rfl) (by decide) dX12_told_1 ⟨Nat.le_of_ble_eq_true rfl, Nat.le_of_ble_eq_true rfl⟩) hM (fun M1 H locs hM hp => ?_)
  subst hp
  have hM : MW g (mup M (gA g 46) (mdE g m0 m1 (mTel f 219 0) m3 m4 m5 m6 m7 m8 m9 m10 m11)) H locs := hM
  refine lv_iload_n hx hb dX12_told_4 rfl (lv_at hl 1 rfl) ?_
  by_cases w_1 : w = 0
  · skip
    refine lv_tableIn (off := 55) (tgt := 60) hx hb dX12_told_5 (by rw [w_1]; decide) (by rw [w_1]; decide) (by rw [w_1]; rfl) (by decide) ?_
    subst w_1
    refine lv_aload_n hx hb dX12_told_60 rfl (lv_at hl 0 rfl) ?_
    refine r_get (T := TX12) (N := 20) (ci := 12) (v := .ref (gA g 47)) X hM iX12 rfl 1 (by decide) q_836 (Or.inl rfl) (mup_s _ _ _) rfl dX12_told_61 ?_
    refine lv_iconst (v := 0) hx hb dX12_told_64 (by decide) ?_
    refine r_iald (i := 0) X hM (mup_r (X.2.ne (i := 47) (j := 46) (by decide) (by decide) (by decide)) h47) (vp_in_nI (n := 0) (by decide) (by decide)) dX12_told_65 ?_
    rw [show ((0 : Int32)).toNatClampNeg = 0 from by decide]
    rw [h0]
    exact R_i X hr hk hM ⟨by_, tr, (by unfold mTold; skip; all_goals first | rfl | decide), (by show mup (mup (mup M (gA g 46) (mdE g m0 m1 (mCl f) m3 m4 m5 m6 m7 m8 m9 m10 m11)) (gA g 50) (aI g 6 by_)) (gA g 51) (aZ g 64 tr) = _; rw [mup_id (a := gA g 50) (mup_r (X.2.ne (i := 50) (j := 46) (by decide) (by decide) (by decide)) h50), mup_id (a := gA g 51) (mup_r (X.2.ne (i := 51) (j := 46) (by decide) (by decide) (by decide)) h51)]; rfl)⟩ dX12_told_66
  by_cases w_2 : w = 1
  · skip
    refine lv_tableIn (off := 62) (tgt := 67) hx hb dX12_told_5 (by rw [w_2]; decide) (by rw [w_2]; decide) (by rw [w_2]; rfl) (by decide) ?_
    subst w_2
    refine lv_aload_n hx hb dX12_told_67 rfl (lv_at hl 0 rfl) ?_
    refine lv_sipush (v := 214) hx hb dX12_told_68 (by decide) ?_
    refine lv_iconst (v := 1) hx hb dX12_told_71 (by decide) ?_
    refine K_i (G_V (As := [.int 214, .int 1]) (rest := []) X hM (c_X12_tellsOf l g _ m0 m1 (mTel f 219 0) m3 m4 m5 m6 m7 m8 m9 m10 m11 f 214 1 (mup_s _ _ _) (mup_r (X.2.ne (i := 47) (j := 46) (by decide) (by decide) (by decide)) h47) hS.hd (by decide)) lk_X12_45 (mup_s _ _ _) rfl rfl hl.1 rfl (Nat.le_of_ble_eq_true rfl) (by decide) dX12_told_72 ⟨Nat.le_of_ble_eq_true rfl, Nat.le_of_ble_eq_true rfl⟩) hM (fun r M1 H locs hM hp => ?_)
    obtain ⟨rfl, rfl⟩ := hp
    refine lv_if_ne (tgt := 82) hx hb dX12_told_75 (by decide) (fun c_3 => ?_) (fun c_3 => ?_)
    · skip
      refine lv_aload_n hx hb dX12_told_82 rfl (lv_at hl 0 rfl) ?_
      refine lv_sipush (v := 214) hx hb dX12_told_83 (by decide) ?_
      refine lv_iconst (v := 1) hx hb dX12_told_86 (by decide) ?_
      refine K_i (G_V (As := [.int 214, .int 1]) (rest := []) X hM (c_X12_tellsOf l g _ m0 m1 (mTel f 219 0) m3 m4 m5 m6 m7 m8 m9 m10 m11 f 214 1 (mup_s _ _ _) (mup_r (X.2.ne (i := 47) (j := 46) (by decide) (by decide) (by decide)) h47) hS.hd (by decide)) lk_X12_45 (mup_s _ _ _) rfl rfl hl.1 rfl (Nat.le_of_ble_eq_true rfl) (by decide) dX12_told_87 ⟨Nat.le_of_ble_eq_true rfl, Nat.le_of_ble_eq_true rfl⟩) hM (fun r M1 H locs hM hp => ?_)
      obtain ⟨rfl, rfl⟩ := hp
      exact R_i X hr hk hM ⟨by_, tr, (by unfold mTold; (first | rw [if_pos c_3] | rw [if_neg c_3] | skip); all_goals first | rfl | decide), (by show mup (mup (mup M (gA g 46) (mdE g m0 m1 (mCl f) m3 m4 m5 m6 m7 m8 m9 m10 m11)) (gA g 50) (aI g 6 by_)) (gA g 51) (aZ g 64 tr) = _; rw [mup_id (a := gA g 50) (mup_r (X.2.ne (i := 50) (j := 46) (by decide) (by decide) (by decide)) h50), mup_id (a := gA g 51) (mup_r (X.2.ne (i := 51) (j := 46) (by decide) (by decide) (by decide)) h51)]; rfl)⟩ dX12_told_90
    · skip
      refine lv_iconst (v := 1) hx hb dX12_told_78 (by decide) ?_
      refine lv_goto (tgt := 90) hx hb dX12_told_79 (by decide) ?_
      exact R_i X hr hk hM ⟨by_, tr, (by unfold mTold; (first | rw [if_pos c_3] | rw [if_neg c_3] | skip); all_goals first | rfl | decide), (by show mup (mup (mup M (gA g 46) (mdE g m0 m1 (mCl f) m3 m4 m5 m6 m7 m8 m9 m10 m11)) (gA g 50) (aI g 6 by_)) (gA g 51) (aZ g 64 tr) = _; rw [mup_id (a := gA g 50) (mup_r (X.2.ne (i := 50) (j := 46) (by decide) (by decide) (by decide)) h50), mup_id (a := gA g 51) (mup_r (X.2.ne (i := 51) (j := 46) (by decide) (by decide) (by decide)) h51)]; rfl)⟩ dX12_told_90
  by_cases w_4 : w = 2
  · skip
    refine lv_tableIn (off := 86) (tgt := 91) hx hb dX12_told_5 (by rw [w_4]; decide) (by rw [w_4]; decide) (by rw [w_4]; rfl) (by decide) ?_
    subst w_4
    refine lv_aload_n hx hb dX12_told_91 rfl (lv_at hl 0 rfl) ?_
    refine r_get (T := TX12) (N := 20) (ci := 12) (v := .int (mTel f 219 0)) X hM iX12 rfl 5 (by decide) q_840 (Or.inl rfl) (mup_s _ _ _) rfl dX12_told_92 ?_
    exact R_i X hr hk hM ⟨by_, tr, (by unfold mTold; skip; all_goals first | rfl | decide), (by show mup (mup (mup M (gA g 46) (mdE g m0 m1 (mCl f) m3 m4 m5 m6 m7 m8 m9 m10 m11)) (gA g 50) (aI g 6 by_)) (gA g 51) (aZ g 64 tr) = _; rw [mup_id (a := gA g 50) (mup_r (X.2.ne (i := 50) (j := 46) (by decide) (by decide) (by decide)) h50), mup_id (a := gA g 51) (mup_r (X.2.ne (i := 51) (j := 46) (by decide) (by decide) (by decide)) h51)]; rfl)⟩ dX12_told_95
  by_cases w_5 : w = 3
  · skip
    refine lv_tableIn (off := 91) (tgt := 96) hx hb dX12_told_5 (by rw [w_5]; decide) (by rw [w_5]; decide) (by rw [w_5]; rfl) (by decide) ?_
    subst w_5
    refine lv_aload_n hx hb dX12_told_96 rfl (lv_at hl 0 rfl) ?_
    refine lv_aload_n hx hb dX12_told_97 rfl (lv_at hl 0 rfl) ?_
    refine r_get (T := TX12) (N := 20) (ci := 12) (v := .ref (gA g 47)) X hM iX12 rfl 1 (by decide) q_836 (Or.inl rfl) (mup_s _ _ _) rfl dX12_told_98 ?_
    refine lv_iconst (v := 0) hx hb dX12_told_101 (by decide) ?_
    refine r_iald (i := 0) X hM (mup_r (X.2.ne (i := 47) (j := 46) (by decide) (by decide) (by decide)) h47) (vp_in_nI (n := 0) (by decide) (by decide)) dX12_told_102 ?_
    rw [show ((0 : Int32)).toNatClampNeg = 0 from by decide]
    rw [h0]
    refine K_i (G_V (As := [.int (nI t)]) (rest := []) X hM (c_X12_turnOn l g _ m0 m1 (mTel f 219 0) m3 m4 m5 m6 m7 m8 m9 m10 m11 f (nI t) (mup_s _ _ _) (mup_r (X.2.ne (i := 47) (j := 46) (by decide) (by decide) (by decide)) h47) hS.hd) lk_X12_158 (mup_s _ _ _) rfl rfl hl.1 rfl (Nat.le_of_ble_eq_true rfl) (by decide) dX12_told_103 ⟨Nat.le_of_ble_eq_true rfl, Nat.le_of_ble_eq_true rfl⟩) hM (fun r M1 H locs hM hp => ?_)
    obtain ⟨rfl, rfl⟩ := hp
    exact R_i X hr hk hM ⟨by_, tr, (by unfold mTold; skip; all_goals first | rfl | decide), (by show mup (mup (mup M (gA g 46) (mdE g m0 m1 (mCl f) m3 m4 m5 m6 m7 m8 m9 m10 m11)) (gA g 50) (aI g 6 by_)) (gA g 51) (aZ g 64 tr) = _; rw [mup_id (a := gA g 50) (mup_r (X.2.ne (i := 50) (j := 46) (by decide) (by decide) (by decide)) h50), mup_id (a := gA g 51) (mup_r (X.2.ne (i := 51) (j := 46) (by decide) (by decide) (by decide)) h51)]; rfl)⟩ dX12_told_106
  by_cases w_6 : w = 4
  · skip
    refine lv_tableIn (off := 102) (tgt := 107) hx hb dX12_told_5 (by rw [w_6]; decide) (by rw [w_6]; decide) (by rw [w_6]; rfl) (by decide) ?_
    subst w_6
    refine lv_aload_n hx hb dX12_told_107 rfl (lv_at hl 0 rfl) ?_
    refine lv_aload_n hx hb dX12_told_108 rfl (lv_at hl 0 rfl) ?_
    refine r_get (T := TX12) (N := 20) (ci := 12) (v := .ref (gA g 47)) X hM iX12 rfl 1 (by decide) q_836 (Or.inl rfl) (mup_s _ _ _) rfl dX12_told_109 ?_
    refine lv_iconst (v := 0) hx hb dX12_told_112 (by decide) ?_
    refine r_iald (i := 0) X hM (mup_r (X.2.ne (i := 47) (j := 46) (by decide) (by decide) (by decide)) h47) (vp_in_nI (n := 0) (by decide) (by decide)) dX12_told_113 ?_
    rw [show ((0 : Int32)).toNatClampNeg = 0 from by decide]
    rw [h0]
    refine K_i (G_V (As := [.int (nI t)]) (rest := []) X hM (c_X12_isClouded l g _ m0 m1 (mTel f 219 0) m3 m4 m5 m6 m7 m8 m9 m10 m11 f (nI t) (mup_s _ _ _) (mup_r (X.2.ne (i := 47) (j := 46) (by decide) (by decide) (by decide)) h47) ) lk_X12_137 (mup_s _ _ _) rfl rfl hl.1 rfl (Nat.le_of_ble_eq_true rfl) (by decide) dX12_told_114 ⟨Nat.le_of_ble_eq_true rfl, Nat.le_of_ble_eq_true rfl⟩) hM (fun r M1 H locs hM hp => ?_)
    obtain ⟨rfl, rfl⟩ := hp
    refine lv_if_eq (tgt := 124) hx hb dX12_told_117 (by decide) (fun c_7 => ?_) (fun c_7 => ?_)
    · skip
      refine lv_iconst (v := 0) hx hb dX12_told_124 (by decide) ?_
      exact R_i X hr hk hM ⟨by_, tr, (by show (if mCld (mCl f) (nI t) = 0 then (0 : Int32) else 1) = _; exact if_pos c_7), (by show mup (mup (mup M (gA g 46) (mdE g m0 m1 (mCl f) m3 m4 m5 m6 m7 m8 m9 m10 m11)) (gA g 50) (aI g 6 by_)) (gA g 51) (aZ g 64 tr) = _; rw [mup_id (a := gA g 50) (mup_r (X.2.ne (i := 50) (j := 46) (by decide) (by decide) (by decide)) h50), mup_id (a := gA g 51) (mup_r (X.2.ne (i := 51) (j := 46) (by decide) (by decide) (by decide)) h51)]; rfl)⟩ dX12_told_125
    · skip
      refine lv_iconst (v := 1) hx hb dX12_told_120 (by decide) ?_
      refine lv_goto (tgt := 125) hx hb dX12_told_121 (by decide) ?_
      exact R_i X hr hk hM ⟨by_, tr, (by show (if mCld (mCl f) (nI t) = 0 then (0 : Int32) else 1) = _; exact if_neg c_7), (by show mup (mup (mup M (gA g 46) (mdE g m0 m1 (mCl f) m3 m4 m5 m6 m7 m8 m9 m10 m11)) (gA g 50) (aI g 6 by_)) (gA g 51) (aZ g 64 tr) = _; rw [mup_id (a := gA g 50) (mup_r (X.2.ne (i := 50) (j := 46) (by decide) (by decide) (by decide)) h50), mup_id (a := gA g 51) (mup_r (X.2.ne (i := 51) (j := 46) (by decide) (by decide) (by decide)) h51)]; rfl)⟩ dX12_told_125
  by_cases w_8 : w = 5
  · skip
    refine lv_tableIn (off := 121) (tgt := 126) hx hb dX12_told_5 (by rw [w_8]; decide) (by rw [w_8]; decide) (by rw [w_8]; rfl) (by decide) ?_
    subst w_8
    refine lv_aload_n hx hb dX12_told_126 rfl (lv_at hl 0 rfl) ?_
    refine lv_aload_n hx hb dX12_told_127 rfl (lv_at hl 0 rfl) ?_
    refine r_get (T := TX12) (N := 20) (ci := 12) (v := .ref (gA g 47)) X hM iX12 rfl 1 (by decide) q_836 (Or.inl rfl) (mup_s _ _ _) rfl dX12_told_128 ?_
    refine lv_iconst (v := 0) hx hb dX12_told_131 (by decide) ?_
    refine r_iald (i := 0) X hM (mup_r (X.2.ne (i := 47) (j := 46) (by decide) (by decide) (by decide)) h47) (vp_in_nI (n := 0) (by decide) (by decide)) dX12_told_132 ?_
    rw [show ((0 : Int32)).toNatClampNeg = 0 from by decide]
    rw [h0]
    refine K_i (G_V (As := [.int (nI t)]) (rest := []) X hM (c_X12_upOn l g _ m0 m1 (mTel f 219 0) m3 m4 m5 m6 m7 m8 m9 m10 m11 f L (nI t) (mup_s _ _ _) (mup_r (X.2.ne (i := 47) (j := 46) (by decide) (by decide) (by decide)) h47) h9 hL hR) lk_X12_162 (mup_s _ _ _) rfl rfl hl.1 rfl (Nat.le_of_ble_eq_true rfl) (by decide) dX12_told_133 ⟨Nat.le_of_ble_eq_true rfl, Nat.le_of_ble_eq_true rfl⟩) hM (fun r M1 H locs hM hp => ?_)
    obtain ⟨rfl, rfl⟩ := hp
    exact R_i X hr hk hM ⟨by_, tr, (by unfold mTold; skip; all_goals first | rfl | decide), (by show mup (mup (mup M (gA g 46) (mdE g m0 m1 (mCl f) m3 m4 m5 m6 m7 m8 m9 m10 m11)) (gA g 50) (aI g 6 by_)) (gA g 51) (aZ g 64 tr) = _; rw [mup_id (a := gA g 50) (mup_r (X.2.ne (i := 50) (j := 46) (by decide) (by decide) (by decide)) h50), mup_id (a := gA g 51) (mup_r (X.2.ne (i := 51) (j := 46) (by decide) (by decide) (by decide)) h51)]; rfl)⟩ dX12_told_136
  by_cases w_9 : w = 6
  · skip
    refine lv_tableIn (off := 132) (tgt := 137) hx hb dX12_told_5 (by rw [w_9]; decide) (by rw [w_9]; decide) (by rw [w_9]; rfl) (by decide) ?_
    subst w_9
    refine lv_aload_n hx hb dX12_told_137 rfl (lv_at hl 0 rfl) ?_
    refine r_get (T := TX12) (N := 20) (ci := 12) (v := .ref (gA g 47)) X hM iX12 rfl 1 (by decide) q_836 (Or.inl rfl) (mup_s _ _ _) rfl dX12_told_138 ?_
    refine lv_iconst (v := 1) hx hb dX12_told_141 (by decide) ?_
    refine lv_iload_n hx hb dX12_told_142 rfl (lv_at hl 1 rfl) ?_
    refine lv_iadd hx hb dX12_told_143 ?_
    rw [show (1 + 6 : Int32) = 7 from by decide]
    refine lv_bipush (v := 6) hx hb dX12_told_144 (by decide) ?_
    refine lv_isub hx hb dX12_told_146 ?_
    rw [show (7 - 6 : Int32) = 1 from by decide]
    refine r_iald (i := 1) X hM (mup_r (X.2.ne (i := 47) (j := 46) (by decide) (by decide) (by decide)) h47) (vp_in_nI (n := 1) (by decide) (by decide)) dX12_told_147 ?_
    rw [show ((1 : Int32)).toNatClampNeg = 1 from by decide]
    exact R_i X hr hk hM ⟨by_, tr, (by unfold mTold; skip; all_goals first | rfl | decide), (by show mup (mup (mup M (gA g 46) (mdE g m0 m1 (mCl f) m3 m4 m5 m6 m7 m8 m9 m10 m11)) (gA g 50) (aI g 6 by_)) (gA g 51) (aZ g 64 tr) = _; rw [mup_id (a := gA g 50) (mup_r (X.2.ne (i := 50) (j := 46) (by decide) (by decide) (by decide)) h50), mup_id (a := gA g 51) (mup_r (X.2.ne (i := 51) (j := 46) (by decide) (by decide) (by decide)) h51)]; rfl)⟩ dX12_told_148
  by_cases w_10 : w = 7
  · skip
    refine lv_tableIn (off := 132) (tgt := 137) hx hb dX12_told_5 (by rw [w_10]; decide) (by rw [w_10]; decide) (by rw [w_10]; rfl) (by decide) ?_
    subst w_10
    refine lv_aload_n hx hb dX12_told_137 rfl (lv_at hl 0 rfl) ?_
    refine r_get (T := TX12) (N := 20) (ci := 12) (v := .ref (gA g 47)) X hM iX12 rfl 1 (by decide) q_836 (Or.inl rfl) (mup_s _ _ _) rfl dX12_told_138 ?_
    refine lv_iconst (v := 1) hx hb dX12_told_141 (by decide) ?_
    refine lv_iload_n hx hb dX12_told_142 rfl (lv_at hl 1 rfl) ?_
    refine lv_iadd hx hb dX12_told_143 ?_
    rw [show (1 + 7 : Int32) = 8 from by decide]
    refine lv_bipush (v := 6) hx hb dX12_told_144 (by decide) ?_
    refine lv_isub hx hb dX12_told_146 ?_
    rw [show (8 - 6 : Int32) = 2 from by decide]
    refine r_iald (i := 2) X hM (mup_r (X.2.ne (i := 47) (j := 46) (by decide) (by decide) (by decide)) h47) (vp_in_nI (n := 2) (by decide) (by decide)) dX12_told_147 ?_
    rw [show ((2 : Int32)).toNatClampNeg = 2 from by decide]
    exact R_i X hr hk hM ⟨by_, tr, (by unfold mTold; skip; all_goals first | rfl | decide), (by show mup (mup (mup M (gA g 46) (mdE g m0 m1 (mCl f) m3 m4 m5 m6 m7 m8 m9 m10 m11)) (gA g 50) (aI g 6 by_)) (gA g 51) (aZ g 64 tr) = _; rw [mup_id (a := gA g 50) (mup_r (X.2.ne (i := 50) (j := 46) (by decide) (by decide) (by decide)) h50), mup_id (a := gA g 51) (mup_r (X.2.ne (i := 51) (j := 46) (by decide) (by decide) (by decide)) h51)]; rfl)⟩ dX12_told_148
  by_cases w_11 : w = 8
  · skip
    refine lv_tableIn (off := 144) (tgt := 149) hx hb dX12_told_5 (by rw [w_11]; decide) (by rw [w_11]; decide) (by rw [w_11]; rfl) (by decide) ?_
    subst w_11
    refine lv_aload_n hx hb dX12_told_149 rfl (lv_at hl 0 rfl) ?_
    refine lv_aload_n hx hb dX12_told_150 rfl (lv_at hl 0 rfl) ?_
    refine r_get (T := TX12) (N := 20) (ci := 12) (v := .ref (gA g 47)) X hM iX12 rfl 1 (by decide) q_836 (Or.inl rfl) (mup_s _ _ _) rfl dX12_told_151 ?_
    refine lv_iconst (v := 0) hx hb dX12_told_154 (by decide) ?_
    refine r_iald (i := 0) X hM (mup_r (X.2.ne (i := 47) (j := 46) (by decide) (by decide) (by decide)) h47) (vp_in_nI (n := 0) (by decide) (by decide)) dX12_told_155 ?_
    rw [show ((0 : Int32)).toNatClampNeg = 0 from by decide]
    rw [h0]
    refine lv_iload_n hx hb dX12_told_156 rfl (lv_at hl 1 rfl) ?_
    refine lv_bipush (v := 8) hx hb dX12_told_157 (by decide) ?_
    refine lv_isub hx hb dX12_told_159 ?_
    rw [show (8 - 8 : Int32) = 0 from by decide]
    refine K_i (G_V (As := [.int (nI t), .int 0]) (rest := []) X hM (c_X12_hasOn l g _ m0 m1 (mTel f 219 0) m3 m4 m5 m6 m7 m8 m9 m10 m11 f L t 0 by_ tr (mup_s _ _ _) (mup_r (X.2.ne (i := 47) (j := 46) (by decide) (by decide) (by decide)) h47) (mup_r (X.2.ne (i := 50) (j := 46) (by decide) (by decide) (by decide)) h50) (mup_r (X.2.ne (i := 51) (j := 46) (by decide) (by decide) (by decide)) h51) hO (by omega)) lk_X12_165 (mup_s _ _ _) rfl rfl hl.1 rfl (Nat.le_of_ble_eq_true rfl) (by decide) dX12_told_160 ⟨Nat.le_of_ble_eq_true rfl, Nat.le_of_ble_eq_true rfl⟩) hM (fun r M1 H locs hM hp => ?_)
    obtain ⟨y0_12, y1_13, rfl, rfl⟩ := hp
    have hM : MW g (mup (mup (mup M (gA g 46) (mdE g m0 m1 (mTel f 219 0) m3 m4 m5 m6 m7 m8 m9 m10 m11)) (gA g 50) (aI g 6 y0_12)) (gA g 51) (aZ g 64 y1_13)) H locs := hM
    exact R_i X hr hk hM ⟨_, _, rfl, rfl⟩ dX12_told_163
  by_cases w_14 : w = 9
  · skip
    refine lv_tableIn (off := 144) (tgt := 149) hx hb dX12_told_5 (by rw [w_14]; decide) (by rw [w_14]; decide) (by rw [w_14]; rfl) (by decide) ?_
    subst w_14
    refine lv_aload_n hx hb dX12_told_149 rfl (lv_at hl 0 rfl) ?_
    refine lv_aload_n hx hb dX12_told_150 rfl (lv_at hl 0 rfl) ?_
    refine r_get (T := TX12) (N := 20) (ci := 12) (v := .ref (gA g 47)) X hM iX12 rfl 1 (by decide) q_836 (Or.inl rfl) (mup_s _ _ _) rfl dX12_told_151 ?_
    refine lv_iconst (v := 0) hx hb dX12_told_154 (by decide) ?_
    refine r_iald (i := 0) X hM (mup_r (X.2.ne (i := 47) (j := 46) (by decide) (by decide) (by decide)) h47) (vp_in_nI (n := 0) (by decide) (by decide)) dX12_told_155 ?_
    rw [show ((0 : Int32)).toNatClampNeg = 0 from by decide]
    rw [h0]
    refine lv_iload_n hx hb dX12_told_156 rfl (lv_at hl 1 rfl) ?_
    refine lv_bipush (v := 8) hx hb dX12_told_157 (by decide) ?_
    refine lv_isub hx hb dX12_told_159 ?_
    rw [show (9 - 8 : Int32) = 1 from by decide]
    refine K_i (G_V (As := [.int (nI t), .int 1]) (rest := []) X hM (c_X12_hasOn l g _ m0 m1 (mTel f 219 0) m3 m4 m5 m6 m7 m8 m9 m10 m11 f L t 1 by_ tr (mup_s _ _ _) (mup_r (X.2.ne (i := 47) (j := 46) (by decide) (by decide) (by decide)) h47) (mup_r (X.2.ne (i := 50) (j := 46) (by decide) (by decide) (by decide)) h50) (mup_r (X.2.ne (i := 51) (j := 46) (by decide) (by decide) (by decide)) h51) hO (by omega)) lk_X12_165 (mup_s _ _ _) rfl rfl hl.1 rfl (Nat.le_of_ble_eq_true rfl) (by decide) dX12_told_160 ⟨Nat.le_of_ble_eq_true rfl, Nat.le_of_ble_eq_true rfl⟩) hM (fun r M1 H locs hM hp => ?_)
    obtain ⟨y0_15, y1_16, rfl, rfl⟩ := hp
    have hM : MW g (mup (mup (mup M (gA g 46) (mdE g m0 m1 (mTel f 219 0) m3 m4 m5 m6 m7 m8 m9 m10 m11)) (gA g 50) (aI g 6 y0_15)) (gA g 51) (aZ g 64 y1_16)) H locs := hM
    exact R_i X hr hk hM ⟨_, _, rfl, rfl⟩ dX12_told_163
  refine lv_tableOut (tgt := 164) hx hb dX12_told_5 (by have z0 := i32ne w_1 (by decide : ((0 : Int32)).toInt = 0); have z1 := i32ne w_2 (by decide : ((1 : Int32)).toInt = 1); have z2 := i32ne w_4 (by decide : ((2 : Int32)).toInt = 2); have z3 := i32ne w_5 (by decide : ((3 : Int32)).toInt = 3); have z4 := i32ne w_6 (by decide : ((4 : Int32)).toInt = 4); have z5 := i32ne w_8 (by decide : ((5 : Int32)).toInt = 5); have z6 := i32ne w_9 (by decide : ((6 : Int32)).toInt = 6); have z7 := i32ne w_10 (by decide : ((7 : Int32)).toInt = 7); have z8 := i32ne w_11 (by decide : ((8 : Int32)).toInt = 8); have z9 := i32ne w_14 (by decide : ((9 : Int32)).toInt = 9); omega) (by decide) ?_
  refine lv_iconst (v := -1) hx hb dX12_told_164 (by decide) ?_
  exact R_i X hr hk hM ⟨by_, tr, (by unfold mTold; (first | rw [if_pos w_1] | rw [if_neg w_1] | skip); (first | rw [if_pos w_2] | rw [if_neg w_2] | skip); (first | rw [if_pos w_4] | rw [if_neg w_4] | skip); (first | rw [if_pos w_5] | rw [if_neg w_5] | skip); (first | rw [if_pos w_6] | rw [if_neg w_6] | skip); (first | rw [if_pos w_8] | rw [if_neg w_8] | skip); (first | rw [if_pos w_9] | rw [if_neg w_9] | skip); (first | rw [if_pos w_10] | rw [if_neg w_10] | skip); (first | rw [if_pos w_11] | rw [if_neg w_11] | skip); (first | rw [if_pos w_14] | rw [if_neg w_14] | skip); all_goals first | rfl | decide), (by show mup (mup (mup M (gA g 46) (mdE g m0 m1 (mCl f) m3 m4 m5 m6 m7 m8 m9 m10 m11)) (gA g 50) (aI g 6 by_)) (gA g 51) (aZ g 64 tr) = _; rw [mup_id (a := gA g 50) (mup_r (X.2.ne (i := 50) (j := 46) (by decide) (by decide) (by decide)) h50), mup_id (a := gA g 51) (mup_r (X.2.ne (i := 51) (j := 46) (by decide) (by decide) (by decide)) h51)]; rfl)⟩ dX12_told_165
set_option maxHeartbeats 4000000 in
set_option maxRecDepth 100000 in
theorem c_X12_on (l : Launch) (g : Gp) (M : Mem) (m0 m1 m2 m3 m4 m5 m6 m7 m8 m9 m10 m11 : Int32) (f : Nat → Int32) (L : Nat) (t : Nat) (n w : Int32) (fr : Nat → Int32) (by_ tr : Nat → Int32) (h46 : M (gA g 46) = some (mdE g m0 m1 m2 m3 m4 m5 m6 m7 m8 m9 m10 m11)) (h47 : M (gA g 47) = some (aI g 929 f)) (h50 : M (gA g 50) = some (aI g 6 by_)) (h51 : M (gA g 51) = some (aZ g 64 tr)) (h49 : M (gA g 49) = some (aI g 9 fr)) (hO : MOk f L) (h0 : f 0 = nI t) (ht : t < 10000) : Met l yX12_on (wsM yX12_on cX12_on 4 (some .int)) (rmD 7 0 0) (Pre g M [.ref (gA g 46), .int n, .int w]) (Qi g (fun r M1 => ∃ (y2 : Int32) (y3 : Nat → Int32) (y0 : Nat → Int32) (y1 : Nat → Int32), (mOn f L t n w) = r ∧ mup (mup (mup (mup M (gA g 46) (mdE g m0 m1 y2 m3 m4 m5 m6 m7 m8 m9 m10 m11)) (gA g 49) (aI g 9 y3)) (gA g 50) (aI g 6 y0)) (gA g 51) (aZ g 64 y1) = M1)) 0 0 (gF g) := M_start (by decide +kernel) (Nat.le_of_ble_eq_true rfl) fun p e s m args below meth c ls X hr hk hnm hM hl => by
  have X : Cx g p m c cX12_on 4 s args RX12 := X
  have hx := X.1.1
  have hb := X.1.2.1
  have hl : lv_has ls 4 [(0, .ref (gA g 46)), (1, .int n), (2, .int w)] := hl
  obtain ⟨h9, hL, hR, hS⟩ := id hO
  refine lv_iload_n hx hb dX12_on_0 rfl (lv_at hl 2 rfl) ?_
  refine lv_iconst (v := 0) hx hb dX12_on_1 (by decide) ?_
  refine lv_iconst (v := 2) hx hb dX12_on_2 (by decide) ?_
  refine K_i (G_S (As := [.int w, .int 0, .int 2]) (rest := []) X hM (c_X12_in l g _ w 0 2  ) lk_X12_41 rfl hl.1 rfl (Nat.le_of_ble_eq_true rfl) (by decide) dX12_on_3 ⟨Nat.le_of_ble_eq_true rfl, Nat.le_of_ble_eq_true rfl⟩) hM (fun r M1 H locs hM hp => ?_)
  obtain ⟨rfl, rfl⟩ := hp
  refine lv_if_ne (tgt := 11) hx hb dX12_on_6 (by decide) (fun c_1 => ?_) (fun c_1 => ?_)
  · skip
    obtain ⟨j, hj, rfl⟩ := fIn_k (K := 2) (by decide) c_1
    have hcj : (nI j).toNatClampNeg = j := nI_clamp (by omega)
    refine lv_iload_n hx hb dX12_on_11 rfl (lv_at hl 1 rfl) ?_
    refine lv_iconst (v := 0) hx hb dX12_on_12 (by decide) ?_
    refine lv_bipush (v := 60) hx hb dX12_on_13 (by decide) ?_
    refine K_i (G_S (As := [.int n, .int 0, .int 60]) (rest := []) X hM (c_X12_in l g _ n 0 60  ) lk_X12_41 rfl hl.1 rfl (Nat.le_of_ble_eq_true rfl) (by decide) dX12_on_15 ⟨Nat.le_of_ble_eq_true rfl, Nat.le_of_ble_eq_true rfl⟩) hM (fun r M1 H locs hM hp => ?_)
    obtain ⟨rfl, rfl⟩ := hp
    refine lv_if_ne (tgt := 24) hx hb dX12_on_18 (by decide) (fun c_2 => ?_) (fun c_2 => ?_)
    · skip
      obtain ⟨k, bk, rfl⟩ := fIn_k (K := 60) (by decide) c_2
      have hcq : (nI k).toNatClampNeg = k := nI_clamp (by omega)
      refine lv_aload_n hx hb dX12_on_24 rfl (lv_at hl 0 rfl) ?_
      refine K_v (G_V (As := []) (rest := []) X hM (c_X12_asItIs l g _ m0 m1 m2 m3 m4 m5 m6 m7 m8 m9 m10 m11 f h46 h47 hS.hd) lk_X12_155 h46 rfl rfl hl.1 rfl (Nat.le_of_ble_eq_true rfl) (by decide) dX12_on_25 ⟨Nat.le_of_ble_eq_true rfl, Nat.le_of_ble_eq_true rfl⟩) hM (fun M1 H locs hM hp => ?_)
      subst hp
      have hM : MW g (mup M (gA g 46) (mdE g m0 m1 (mTel f 219 0) m3 m4 m5 m6 m7 m8 m9 m10 m11)) H locs := hM
      refine lv_aload_n hx hb dX12_on_28 rfl (lv_at hl 0 rfl) ?_
      refine K_v (G_V (As := []) (rest := []) X hM (c_X12_keeps l g _ m0 m1 (mTel f 219 0) m3 m4 m5 m6 m7 m8 m9 m10 m11 f fr (mup_s _ _ _) (mup_r (X.2.ne (i := 47) (j := 46) (by decide) (by decide) (by decide)) h47) (mup_r (X.2.ne (i := 49) (j := 46) (by decide) (by decide) (by decide)) h49) ) lk_X12_175 (mup_s _ _ _) rfl rfl hl.1 rfl (Nat.le_of_ble_eq_true rfl) (by decide) dX12_on_29 ⟨Nat.le_of_ble_eq_true rfl, Nat.le_of_ble_eq_true rfl⟩) hM (fun M1 H locs hM hp => ?_)
      subst hp
      have hM : MW g (mup (mup M (gA g 46) (mdE g m0 m1 (mTel f 219 0) m3 m4 m5 m6 m7 m8 m9 m10 m11)) (gA g 49) (aI g 9 (mCp 9 f fr))) H locs := hM
      refine lv_aload_n hx hb dX12_on_32 rfl (lv_at hl 0 rfl) ?_
      refine lv_iload_n hx hb dX12_on_33 rfl (lv_at hl 1 rfl) ?_
      refine K_v (G_V (As := [.int (nI k)]) (rest := []) X hM (c_X12_goesOn l g _ m0 m1 (mTel f 219 0) m3 m4 m5 m6 m7 m8 m9 m10 m11 f L t by_ tr k (mup_r (X.2.ne (i := 46) (j := 49) (by decide) (by decide) (by decide)) (mup_s _ _ _)) (mup_r (X.2.ne (i := 47) (j := 49) (by decide) (by decide) (by decide)) (mup_r (X.2.ne (i := 47) (j := 46) (by decide) (by decide) (by decide)) h47)) (mup_r (X.2.ne (i := 50) (j := 49) (by decide) (by decide) (by decide)) (mup_r (X.2.ne (i := 50) (j := 46) (by decide) (by decide) (by decide)) h50)) (mup_r (X.2.ne (i := 51) (j := 49) (by decide) (by decide) (by decide)) (mup_r (X.2.ne (i := 51) (j := 46) (by decide) (by decide) (by decide)) h51)) hO h0 (by omega) bk) lk_X12_178 (mup_r (X.2.ne (i := 46) (j := 49) (by decide) (by decide) (by decide)) (mup_s _ _ _)) rfl rfl hl.1 rfl (Nat.le_of_ble_eq_true rfl) (by decide) dX12_on_34 ⟨Nat.le_of_ble_eq_true rfl, Nat.le_of_ble_eq_true rfl⟩) hM (fun M1 H locs hM hp => ?_)
      obtain ⟨y0_3, y1_4, rfl⟩ := hp
      have hM : MW g (mup (mup (mup (mup (mup M (gA g 46) (mdE g m0 m1 (mTel f 219 0) m3 m4 m5 m6 m7 m8 m9 m10 m11)) (gA g 49) (aI g 9 (mCp 9 f fr))) (gA g 50) (aI g 6 y0_3)) (gA g 51) (aZ g 64 y1_4)) (gA g 47) (aI g 929 (mGoN f L (mTel f 219 0) t k))) H locs := hM
      refine l_joinM (ls := ls) hM 66 (if nI j = 2 then mCnt (mUps (mGoN f L (mCl f) t k) (nI (t + k)) L) 9 else mGoN f L (mCl f) t k (1 + j)) [] (fun H locs hM => ?_) (fun J37 => ?_)
      · skip
        refine lv_topi (fun vv e_vv => ?_)
        refine lv_istore_n (lv' := [(3, .int vv), (0, .ref (gA g 46)), (1, .int (nI k)), (2, .int (nI j))]) hx hb dX12_on_66 rfl hl (by decide) rfl (fun ls hl => ?_)
        refine lv_aload_n hx hb dX12_on_67 rfl (lv_at hl 1 rfl) ?_
        refine K_v (G_V (As := []) (rest := []) X hM (c_X12_goesBack l g _ m0 m1 (mTel f 219 0) m3 m4 m5 m6 m7 m8 m9 m10 m11 (mGoN f L (mTel f 219 0) t k) (mCp 9 f fr) (mup_r (X.2.ne (i := 46) (j := 47) (by decide) (by decide) (by decide)) (mup_r (X.2.ne (i := 46) (j := 51) (by decide) (by decide) (by decide)) (mup_r (X.2.ne (i := 46) (j := 50) (by decide) (by decide) (by decide)) (mup_r (X.2.ne (i := 46) (j := 49) (by decide) (by decide) (by decide)) (mup_s _ _ _))))) (mup_s _ _ _) (mup_r (X.2.ne (i := 49) (j := 47) (by decide) (by decide) (by decide)) (mup_r (X.2.ne (i := 49) (j := 51) (by decide) (by decide) (by decide)) (mup_r (X.2.ne (i := 49) (j := 50) (by decide) (by decide) (by decide)) (mup_s _ _ _)))) ) lk_X12_184 (mup_r (X.2.ne (i := 46) (j := 47) (by decide) (by decide) (by decide)) (mup_r (X.2.ne (i := 46) (j := 51) (by decide) (by decide) (by decide)) (mup_r (X.2.ne (i := 46) (j := 50) (by decide) (by decide) (by decide)) (mup_r (X.2.ne (i := 46) (j := 49) (by decide) (by decide) (by decide)) (mup_s _ _ _))))) rfl rfl hl.1 rfl (Nat.le_of_ble_eq_true rfl) (by decide) dX12_on_68 ⟨Nat.le_of_ble_eq_true rfl, Nat.le_of_ble_eq_true rfl⟩) hM (fun M1 H locs hM hp => ?_)
        subst hp
        rw [mup_i] at hM
        have hM : MW g (mup (mup (mup (mup (mup M (gA g 46) (mdE g m0 m1 (mTel f 219 0) m3 m4 m5 m6 m7 m8 m9 m10 m11)) (gA g 49) (aI g 9 (mCp 9 f fr))) (gA g 50) (aI g 6 y0_3)) (gA g 51) (aZ g 64 y1_4)) (gA g 47) (aI g 929 (mCp 9 (mCp 9 f fr) (mGoN f L (mTel f 219 0) t k)))) H locs := hM
        refine lv_iload_n hx hb dX12_on_71 rfl (lv_at hl 0 rfl) ?_
        exact R_i X hr hk hM ⟨_, _, _, _, (by unfold mOn; simp only [hcq]; (try simp only [hcj]); (first | rw [if_pos c_1] | rw [if_neg c_1] | skip); (first | rw [if_pos c_2] | rw [if_neg c_2] | skip); (try rw [← e_vv]); first | done | rfl), (by rw [mCp_back (fun q hq => (mGoN_ok hO _ h0 (by omega) k (by omega)).2.1 q (by omega))]; rw [mup_id (a := gA g 47) (mup_r (X.2.ne (i := 47) (j := 51) (by decide) (by decide) (by decide)) (mup_r (X.2.ne (i := 47) (j := 50) (by decide) (by decide) (by decide)) (mup_r (X.2.ne (i := 47) (j := 49) (by decide) (by decide) (by decide)) (mup_r (X.2.ne (i := 47) (j := 46) (by decide) (by decide) (by decide)) h47))))]; first | done | rfl)⟩ dX12_on_72
      refine lv_iload_n hx hb dX12_on_37 rfl (lv_at hl 2 rfl) ?_
      refine lv_iconst (v := 2) hx hb dX12_on_38 (by decide) ?_
      refine lv_icmp_ne (tgt := 58) hx hb dX12_on_39 (by decide) (fun c_5 => ?_) (fun c_5 => ?_)
      · skip
        refine lv_aload_n hx hb dX12_on_58 rfl (lv_at hl 0 rfl) ?_
        refine r_get (T := TX12) (N := 20) (ci := 12) (v := .ref (gA g 47)) X hM iX12 rfl 1 (by decide) q_836 (Or.inl rfl) (mup_r (X.2.ne (i := 46) (j := 47) (by decide) (by decide) (by decide)) (mup_r (X.2.ne (i := 46) (j := 51) (by decide) (by decide) (by decide)) (mup_r (X.2.ne (i := 46) (j := 50) (by decide) (by decide) (by decide)) (mup_r (X.2.ne (i := 46) (j := 49) (by decide) (by decide) (by decide)) (mup_s _ _ _))))) rfl dX12_on_59 ?_
        refine lv_iconst (v := 1) hx hb dX12_on_62 (by decide) ?_
        refine lv_iload_n hx hb dX12_on_63 rfl (lv_at hl 2 rfl) ?_
        refine lv_iadd hx hb dX12_on_64 ?_
        rw [show (1 : Int32) + (nI j) = nI (1 + j) from nI_add 1 j]
        refine r_iald (i := nI (1 + j)) X hM (mup_s _ _ _) (vp_in_nI (by omega) (by decide)) dX12_on_65 ?_
        rw [nI_clamp (show 1 + j < 2147483648 by omega)]
        exact J37 _ _ _ hM (by (first | rw [if_pos c_5] | rw [if_neg c_5] | skip); all_goals (first | rfl | simp [*]))
      · skip
        
        refine lv_aload_n hx hb dX12_on_42 rfl (lv_at hl 0 rfl) ?_
        refine lv_aload_n hx hb dX12_on_43 rfl (lv_at hl 0 rfl) ?_
        refine r_get (T := TX12) (N := 20) (ci := 12) (v := .ref (gA g 47)) X hM iX12 rfl 1 (by decide) q_836 (Or.inl rfl) (mup_r (X.2.ne (i := 46) (j := 47) (by decide) (by decide) (by decide)) (mup_r (X.2.ne (i := 46) (j := 51) (by decide) (by decide) (by decide)) (mup_r (X.2.ne (i := 46) (j := 50) (by decide) (by decide) (by decide)) (mup_r (X.2.ne (i := 46) (j := 49) (by decide) (by decide) (by decide)) (mup_s _ _ _))))) rfl dX12_on_44 ?_
        refine lv_iconst (v := 0) hx hb dX12_on_47 (by decide) ?_
        refine r_iald (i := 0) X hM (mup_s _ _ _) (vp_in_nI (n := 0) (by decide) (by decide)) dX12_on_48 ?_
        rw [show ((0 : Int32)).toNatClampNeg = 0 from by decide]
        rw [(mGoN_ok hO _ h0 (by omega) k (by omega)).1]
        refine K_i (G_V (As := [.int (nI (t + k))]) (rest := []) X hM (c_X12_upOn l g _ m0 m1 (mTel f 219 0) m3 m4 m5 m6 m7 m8 m9 m10 m11 (mGoN f L (mTel f 219 0) t k) L (nI (t + k)) (mup_r (X.2.ne (i := 46) (j := 47) (by decide) (by decide) (by decide)) (mup_r (X.2.ne (i := 46) (j := 51) (by decide) (by decide) (by decide)) (mup_r (X.2.ne (i := 46) (j := 50) (by decide) (by decide) (by decide)) (mup_r (X.2.ne (i := 46) (j := 49) (by decide) (by decide) (by decide)) (mup_s _ _ _))))) (mup_s _ _ _) (mGoN_ok hO _ h0 (by omega) k (by omega)).2.2.1 hL (mGoN_ok hO _ h0 (by omega) k (by omega)).2.2.2.2.1) lk_X12_162 (mup_r (X.2.ne (i := 46) (j := 47) (by decide) (by decide) (by decide)) (mup_r (X.2.ne (i := 46) (j := 51) (by decide) (by decide) (by decide)) (mup_r (X.2.ne (i := 46) (j := 50) (by decide) (by decide) (by decide)) (mup_r (X.2.ne (i := 46) (j := 49) (by decide) (by decide) (by decide)) (mup_s _ _ _))))) rfl rfl hl.1 rfl (Nat.le_of_ble_eq_true rfl) (by decide) dX12_on_49 ⟨Nat.le_of_ble_eq_true rfl, Nat.le_of_ble_eq_true rfl⟩) hM (fun r M1 H locs hM hp => ?_)
        obtain ⟨rfl, rfl⟩ := hp
        refine K_i (G_S (As := [.int (mUps (mGoN f L (mTel f 219 0) t k) (nI (t + k)) L)]) (rest := []) X hM (c_X12_countOf l g _ (mUps (mGoN f L (mTel f 219 0) t k) (nI (t + k)) L)  ) lk_X12_181 rfl hl.1 rfl (Nat.le_of_ble_eq_true rfl) (by decide) dX12_on_52 ⟨Nat.le_of_ble_eq_true rfl, Nat.le_of_ble_eq_true rfl⟩) hM (fun r M1 H locs hM hp => ?_)
        obtain ⟨rfl, rfl⟩ := hp
        refine lv_goto (tgt := 66) hx hb dX12_on_55 (by decide) ?_
        exact J37 _ _ _ hM (by (first | rw [if_pos c_5] | rw [if_neg c_5] | skip); all_goals (first | rfl | simp [*]))
    · skip
      refine lv_bipush (v := -2) hx hb dX12_on_21 (by decide) ?_
      exact R_i X hr hk hM ⟨m2, fr, by_, tr, (by unfold mOn; (try simp only [hcq]); (first | rw [if_pos c_1] | rw [if_neg c_1] | skip); (first | rw [if_pos c_2] | rw [if_neg c_2] | skip)), (by rw [mup_id h46, mup_id h49, mup_id h50, mup_id h51])⟩ dX12_on_23
  · skip
    refine lv_iconst (v := -1) hx hb dX12_on_9 (by decide) ?_
    exact R_i X hr hk hM ⟨m2, fr, by_, tr, (by unfold mOn; (try simp only [hcq]); (first | rw [if_pos c_1] | rw [if_neg c_1] | skip)), (by rw [mup_id h46, mup_id h49, mup_id h50, mup_id h51])⟩ dX12_on_10
