def mWo (f : Nat → Int32) (p : Nat) (ho b : Int32) (t : Nat) : Int32 := if f (16 + p) = 1 then 2 + b else if f (16 + p) = 2 then 5 + b else if f (16 + p) = 3 then b + f (22 + p) else if f (16 + p) = 4 then 2 * (2 + b) else if f (16 + p) = 5 then 5 + b + (if ho = 1 then f (22 + p) else 0) else if f (16 + p) = 6 then b + f (22 + p) + f (40 + 4 * p + t % 4) else 5 + b
def mWor (f : Nat → Int32) (p : Nat) (ho : Int32) (t : Nat) : Int32 := if 0 ≤ mWo f p ho (mBase f p ho (nI t)) t then mWo f p ho (mBase f p ho (nI t)) t else 0
def mSum (f : Nat → Int32) (t : Nat) (ho : Int32) : Nat → Int32
  | 0 => 0
  | i + 1 => mSum f t ho i + (if mUp f i (nI t) = 0 then 0 else mWor f i ho t)
def mHas (f : Nat → Int32) (L : Nat) (cl : Int32) (t : Nat) (ho : Int32) : Int32 := if mCld cl (nI t) = 0 then mSum f t ho L else 0
/-- the row of numbers is in order: L lights, rounds above 0, what is held -/
def MOk (f : Nat → Int32) (L : Nat) : Prop := f 9 = nI L ∧ L ≤ 6 ∧ (∀ j, j < L → ¬ f (28 + j) = 0) ∧ StOk f
def mBaseC (f : Nat → Int32) (L : Nat) (t : Nat) (x ho n : Int32) : Int32 := if fIsL L x = 0 then -9999999 else if fIn ho 0 1 = 0 then -9999999 else if fIn n 0 60 = 0 then -9999999 else mBase f x.toNatClampNeg ho (nI (t + n.toNatClampNeg))
def mWorC (f : Nat → Int32) (L : Nat) (t : Nat) (x ho n : Int32) : Int32 := if fIsL L x = 0 then -1 else if fIn ho 0 1 = 0 then -1 else if fIn n 0 60 = 0 then -2 else mWor f x.toNatClampNeg ho (t + n.toNatClampNeg)

theorem lk_X12_133 : LkV RX12 133 yX12_baseOf cX12_baseOf 13 (some .int) 3 := lkV_of q_991 q_993 qs_25 q_7 q_994 ⟨by decide, by decide, by decide +kernel⟩ (by decide)
theorem lk_X12_137 : LkV RX12 137 yX12_isClouded cX12_isClouded 2 (some .boolean) 1 := lkV_of q_1032 q_1034 qs_30 q_7 q_1035 ⟨by decide, by decide, by decide +kernel⟩ (by decide)
theorem lk_X12_145 : LkV RX12 145 yX12_worthOf cX12_worthOf 6 (some .int) 3 := lkV_of q_1004 q_1006 qs_27 q_7 q_1007 ⟨by decide, by decide, by decide +kernel⟩ (by decide)
set_option maxHeartbeats 4000000 in
set_option maxRecDepth 100000 in
theorem c_X12_worthOf (l : Launch) (g : Gp) (M : Mem) (m0 m1 m2 m3 m4 m5 m6 m7 m8 m9 m10 m11 : Int32) (f : Nat → Int32) (pp t : Nat) (ho : Int32) (by_ tr : Nat → Int32) (h46 : M (gA g 46) = some (mdE g m0 m1 m2 m3 m4 m5 m6 m7 m8 m9 m10 m11)) (h47 : M (gA g 47) = some (aI g 929 f)) (h50 : M (gA g 50) = some (aI g 6 by_)) (h51 : M (gA g 51) = some (aZ g 64 tr)) (hS : StOk f) (hp : pp < 6) (ht : t < 20000) : Met l yX12_worthOf (wsM yX12_worthOf cX12_worthOf 6 (some .int)) (rmD 3 0 0) (Pre g M [.ref (gA g 46), .int (nI pp), .int ho, .int (nI t)]) (Qi g (fun r M1 => ∃ (y0 : Nat → Int32) (y1 : Nat → Int32), (mWor f pp ho t) = r ∧ mup (mup M (gA g 50) (aI g 6 y0)) (gA g 51) (aZ g 64 y1) = M1)) 0 0 (gF g) := M_start (by decide +kernel) (Nat.le_of_ble_eq_true rfl) fun p e s m args below meth c ls X hr hk hnm hM hl => by
  have X : Cx g p m c cX12_worthOf 6 s args RX12 := X
  have hx := X.1.1
  have hb := X.1.2.1
  have hl : lv_has ls 6 [(0, .ref (gA g 46)), (1, .int (nI pp)), (2, .int ho), (3, .int (nI t))] := hl
  refine lv_aload_n hx hb dX12_worthOf_0 rfl (lv_at hl 0 rfl) ?_
  refine lv_iload_n hx hb dX12_worthOf_1 rfl (lv_at hl 1 rfl) ?_
  refine lv_iload_n hx hb dX12_worthOf_2 rfl (lv_at hl 2 rfl) ?_
  refine lv_iload_n hx hb dX12_worthOf_3 rfl (lv_at hl 3 rfl) ?_
  refine K_i (G_V (As := [.int (nI pp), .int ho, .int (nI t)]) (rest := []) X hM (c_X12_baseOf l g _ m0 m1 m2 m3 m4 m5 m6 m7 m8 m9 m10 m11 f pp t ho by_ tr h46 h47 h50 h51 hS hp ht) lk_X12_133 h46 rfl rfl hl.1 rfl (Nat.le_of_ble_eq_true rfl) (by decide) dX12_worthOf_4 ⟨Nat.le_of_ble_eq_true rfl, Nat.le_of_ble_eq_true rfl⟩) hM (fun r M1 H locs hM hp => ?_)
  obtain ⟨y0_1, y1_2, rfl, rfl⟩ := hp
  have hM : MW g (mup (mup M (gA g 50) (aI g 6 y0_1)) (gA g 51) (aZ g 64 y1_2)) H locs := hM
  refine lv_istore (lv' := [(4, .int (mBase f pp ho (nI t))), (0, .ref (gA g 46)), (1, .int (nI pp)), (2, .int ho), (3, .int (nI t))]) hx hb dX12_worthOf_7 hl (by decide) rfl (fun ls hl => ?_)
  refine lv_iconst (v := 5) hx hb dX12_worthOf_9 (by decide) ?_
  refine lv_iload hx hb dX12_worthOf_10 (lv_at hl 0 rfl) ?_
  refine lv_iadd hx hb dX12_worthOf_12 ?_
  refine lv_istore (lv' := [(5, .int (5 + (mBase f pp ho (nI t)))), (4, .int (mBase f pp ho (nI t))), (0, .ref (gA g 46)), (1, .int (nI pp)), (2, .int ho), (3, .int (nI t))]) hx hb dX12_worthOf_13 hl (by decide) rfl (fun ls hl => ?_)
  refine lv_aload_n hx hb dX12_worthOf_15 rfl (lv_at hl 2 rfl) ?_
  refine r_get (T := TX12) (N := 20) (ci := 12) (v := .ref (gA g 47)) X hM iX12 rfl 1 (by decide) q_836 (Or.inl rfl) (mup_r (X.2.ne (i := 46) (j := 51) (by decide) (by decide) (by decide)) (mup_r (X.2.ne (i := 46) (j := 50) (by decide) (by decide) (by decide)) h46)) rfl dX12_worthOf_16 ?_
  refine lv_bipush (v := 16) hx hb dX12_worthOf_19 (by decide) ?_
  refine lv_iload_n hx hb dX12_worthOf_21 rfl (lv_at hl 3 rfl) ?_
  refine lv_iadd hx hb dX12_worthOf_22 ?_
  rw [show (16 : Int32) + (nI pp) = nI (16 + pp) from nI_add 16 pp]
  refine r_iald (i := nI (16 + pp)) X hM (mup_r (X.2.ne (i := 47) (j := 51) (by decide) (by decide) (by decide)) (mup_r (X.2.ne (i := 47) (j := 50) (by decide) (by decide) (by decide)) h47)) (vp_in_nI (by omega) (by decide)) dX12_worthOf_23 ?_
  rw [nI_clamp (show 16 + pp < 2147483648 by omega)]
  by_cases w_3 : f (16 + pp) = 1
  · skip
    refine lv_tableIn (off := 40) (tgt := 64) hx hb dX12_worthOf_24 (by rw [w_3]; decide) (by rw [w_3]; decide) (by rw [w_3]; rfl) (by decide) ?_
    refine lv_iconst (v := 2) hx hb dX12_worthOf_64 (by decide) ?_
    refine lv_iload hx hb dX12_worthOf_65 (lv_at hl 1 rfl) ?_
    refine lv_iadd hx hb dX12_worthOf_67 ?_
    refine lv_istore (lv' := [(5, .int (2 + (mBase f pp ho (nI t)))), (4, .int (mBase f pp ho (nI t))), (0, .ref (gA g 46)), (1, .int (nI pp)), (2, .int ho), (3, .int (nI t))]) hx hb dX12_worthOf_68 hl (by decide) rfl (fun ls hl => ?_)
    refine lv_goto (tgt := 162) hx hb dX12_worthOf_70 (by decide) ?_
    refine lv_iload hx hb dX12_worthOf_162 (lv_at hl 0 rfl) ?_
    refine lv_if_ge (tgt := 171) hx hb dX12_worthOf_164 (by decide) (fun c_4 => ?_) (fun c_4 => ?_)
    · skip
      refine lv_iload hx hb dX12_worthOf_171 (lv_at hl 0 rfl) ?_
      exact R_i X hr hk hM ⟨_, _, (by have e9 : mWo f pp ho (mBase f pp ho (nI t)) t = 2 + (mBase f pp ho (nI t)) := (by unfold mWo; (first | rw [if_pos w_3] | rw [if_neg w_3] | skip)); unfold mWor; rw [e9]; (first | rw [if_pos c_4] | rw [if_neg c_4] | skip)), rfl⟩ dX12_worthOf_173
    · skip
      refine lv_iconst (v := 0) hx hb dX12_worthOf_167 (by decide) ?_
      refine lv_goto (tgt := 173) hx hb dX12_worthOf_168 (by decide) ?_
      exact R_i X hr hk hM ⟨_, _, (by have e9 : mWo f pp ho (mBase f pp ho (nI t)) t = 2 + (mBase f pp ho (nI t)) := (by unfold mWo; (first | rw [if_pos w_3] | rw [if_neg w_3] | skip)); unfold mWor; rw [e9]; (first | rw [if_pos c_4] | rw [if_neg c_4] | skip)), rfl⟩ dX12_worthOf_173
  by_cases w_5 : f (16 + pp) = 2
  · skip
    refine lv_tableIn (off := 138) (tgt := 162) hx hb dX12_worthOf_24 (by rw [w_5]; decide) (by rw [w_5]; decide) (by rw [w_5]; rfl) (by decide) ?_
    refine lv_iload hx hb dX12_worthOf_162 (lv_at hl 0 rfl) ?_
    refine lv_if_ge (tgt := 171) hx hb dX12_worthOf_164 (by decide) (fun c_6 => ?_) (fun c_6 => ?_)
    · skip
      refine lv_iload hx hb dX12_worthOf_171 (lv_at hl 0 rfl) ?_
      exact R_i X hr hk hM ⟨_, _, (by have e9 : mWo f pp ho (mBase f pp ho (nI t)) t = 5 + (mBase f pp ho (nI t)) := (by unfold mWo; (first | rw [if_pos w_3] | rw [if_neg w_3] | skip); (first | rw [if_pos w_5] | rw [if_neg w_5] | skip)); unfold mWor; rw [e9]; (first | rw [if_pos c_6] | rw [if_neg c_6] | skip)), rfl⟩ dX12_worthOf_173
    · skip
      refine lv_iconst (v := 0) hx hb dX12_worthOf_167 (by decide) ?_
      refine lv_goto (tgt := 173) hx hb dX12_worthOf_168 (by decide) ?_
      exact R_i X hr hk hM ⟨_, _, (by have e9 : mWo f pp ho (mBase f pp ho (nI t)) t = 5 + (mBase f pp ho (nI t)) := (by unfold mWo; (first | rw [if_pos w_3] | rw [if_neg w_3] | skip); (first | rw [if_pos w_5] | rw [if_neg w_5] | skip)); unfold mWor; rw [e9]; (first | rw [if_pos c_6] | rw [if_neg c_6] | skip)), rfl⟩ dX12_worthOf_173
  by_cases w_7 : f (16 + pp) = 3
  · skip
    refine lv_tableIn (off := 49) (tgt := 73) hx hb dX12_worthOf_24 (by rw [w_7]; decide) (by rw [w_7]; decide) (by rw [w_7]; rfl) (by decide) ?_
    refine lv_iload hx hb dX12_worthOf_73 (lv_at hl 1 rfl) ?_
    refine lv_aload_n hx hb dX12_worthOf_75 rfl (lv_at hl 2 rfl) ?_
    refine r_get (T := TX12) (N := 20) (ci := 12) (v := .ref (gA g 47)) X hM iX12 rfl 1 (by decide) q_836 (Or.inl rfl) (mup_r (X.2.ne (i := 46) (j := 51) (by decide) (by decide) (by decide)) (mup_r (X.2.ne (i := 46) (j := 50) (by decide) (by decide) (by decide)) h46)) rfl dX12_worthOf_76 ?_
    refine lv_bipush (v := 22) hx hb dX12_worthOf_79 (by decide) ?_
    refine lv_iload_n hx hb dX12_worthOf_81 rfl (lv_at hl 3 rfl) ?_
    refine lv_iadd hx hb dX12_worthOf_82 ?_
    rw [show (22 : Int32) + (nI pp) = nI (22 + pp) from nI_add 22 pp]
    refine r_iald (i := nI (22 + pp)) X hM (mup_r (X.2.ne (i := 47) (j := 51) (by decide) (by decide) (by decide)) (mup_r (X.2.ne (i := 47) (j := 50) (by decide) (by decide) (by decide)) h47)) (vp_in_nI (by omega) (by decide)) dX12_worthOf_83 ?_
    rw [nI_clamp (show 22 + pp < 2147483648 by omega)]
    refine lv_iadd hx hb dX12_worthOf_84 ?_
    refine lv_istore (lv' := [(5, .int ((mBase f pp ho (nI t)) + (f (22 + pp)))), (4, .int (mBase f pp ho (nI t))), (0, .ref (gA g 46)), (1, .int (nI pp)), (2, .int ho), (3, .int (nI t))]) hx hb dX12_worthOf_85 hl (by decide) rfl (fun ls hl => ?_)
    refine lv_goto (tgt := 162) hx hb dX12_worthOf_87 (by decide) ?_
    refine lv_iload hx hb dX12_worthOf_162 (lv_at hl 0 rfl) ?_
    refine lv_if_ge (tgt := 171) hx hb dX12_worthOf_164 (by decide) (fun c_8 => ?_) (fun c_8 => ?_)
    · skip
      refine lv_iload hx hb dX12_worthOf_171 (lv_at hl 0 rfl) ?_
      exact R_i X hr hk hM ⟨_, _, (by have e9 : mWo f pp ho (mBase f pp ho (nI t)) t = (mBase f pp ho (nI t)) + (f (22 + pp)) := (by unfold mWo; (first | rw [if_pos w_3] | rw [if_neg w_3] | skip); (first | rw [if_pos w_5] | rw [if_neg w_5] | skip); (first | rw [if_pos w_7] | rw [if_neg w_7] | skip)); unfold mWor; rw [e9]; (first | rw [if_pos c_8] | rw [if_neg c_8] | skip)), rfl⟩ dX12_worthOf_173
    · skip
      refine lv_iconst (v := 0) hx hb dX12_worthOf_167 (by decide) ?_
      refine lv_goto (tgt := 173) hx hb dX12_worthOf_168 (by decide) ?_
      exact R_i X hr hk hM ⟨_, _, (by have e9 : mWo f pp ho (mBase f pp ho (nI t)) t = (mBase f pp ho (nI t)) + (f (22 + pp)) := (by unfold mWo; (first | rw [if_pos w_3] | rw [if_neg w_3] | skip); (first | rw [if_pos w_5] | rw [if_neg w_5] | skip); (first | rw [if_pos w_7] | rw [if_neg w_7] | skip)); unfold mWor; rw [e9]; (first | rw [if_pos c_8] | rw [if_neg c_8] | skip)), rfl⟩ dX12_worthOf_173
  by_cases w_9 : f (16 + pp) = 4
  · skip
    refine lv_tableIn (off := 66) (tgt := 90) hx hb dX12_worthOf_24 (by rw [w_9]; decide) (by rw [w_9]; decide) (by rw [w_9]; rfl) (by decide) ?_
    refine lv_iconst (v := 2) hx hb dX12_worthOf_90 (by decide) ?_
    refine lv_iconst (v := 2) hx hb dX12_worthOf_91 (by decide) ?_
    refine lv_iload hx hb dX12_worthOf_92 (lv_at hl 1 rfl) ?_
    refine lv_iadd hx hb dX12_worthOf_94 ?_
    refine lv_imul hx hb dX12_worthOf_95 ?_
    refine lv_istore (lv' := [(5, .int (2 * (2 + (mBase f pp ho (nI t))))), (4, .int (mBase f pp ho (nI t))), (0, .ref (gA g 46)), (1, .int (nI pp)), (2, .int ho), (3, .int (nI t))]) hx hb dX12_worthOf_96 hl (by decide) rfl (fun ls hl => ?_)
    refine lv_goto (tgt := 162) hx hb dX12_worthOf_98 (by decide) ?_
    refine lv_iload hx hb dX12_worthOf_162 (lv_at hl 0 rfl) ?_
    refine lv_if_ge (tgt := 171) hx hb dX12_worthOf_164 (by decide) (fun c_10 => ?_) (fun c_10 => ?_)
    · skip
      refine lv_iload hx hb dX12_worthOf_171 (lv_at hl 0 rfl) ?_
      exact R_i X hr hk hM ⟨_, _, (by have e9 : mWo f pp ho (mBase f pp ho (nI t)) t = 2 * (2 + (mBase f pp ho (nI t))) := (by unfold mWo; (first | rw [if_pos w_3] | rw [if_neg w_3] | skip); (first | rw [if_pos w_5] | rw [if_neg w_5] | skip); (first | rw [if_pos w_7] | rw [if_neg w_7] | skip); (first | rw [if_pos w_9] | rw [if_neg w_9] | skip)); unfold mWor; rw [e9]; (first | rw [if_pos c_10] | rw [if_neg c_10] | skip)), rfl⟩ dX12_worthOf_173
    · skip
      refine lv_iconst (v := 0) hx hb dX12_worthOf_167 (by decide) ?_
      refine lv_goto (tgt := 173) hx hb dX12_worthOf_168 (by decide) ?_
      exact R_i X hr hk hM ⟨_, _, (by have e9 : mWo f pp ho (mBase f pp ho (nI t)) t = 2 * (2 + (mBase f pp ho (nI t))) := (by unfold mWo; (first | rw [if_pos w_3] | rw [if_neg w_3] | skip); (first | rw [if_pos w_5] | rw [if_neg w_5] | skip); (first | rw [if_pos w_7] | rw [if_neg w_7] | skip); (first | rw [if_pos w_9] | rw [if_neg w_9] | skip)); unfold mWor; rw [e9]; (first | rw [if_pos c_10] | rw [if_neg c_10] | skip)), rfl⟩ dX12_worthOf_173
  by_cases w_11 : f (16 + pp) = 5
  · skip
    refine lv_tableIn (off := 77) (tgt := 101) hx hb dX12_worthOf_24 (by rw [w_11]; decide) (by rw [w_11]; decide) (by rw [w_11]; rfl) (by decide) ?_
    refine lv_iconst (v := 5) hx hb dX12_worthOf_101 (by decide) ?_
    refine lv_iload hx hb dX12_worthOf_102 (lv_at hl 1 rfl) ?_
    refine lv_iadd hx hb dX12_worthOf_104 ?_
    refine l_joinM (ls := ls) hM 123 (if ho = 1 then f (22 + pp) else 0) [.int (5 + (mBase f pp ho (nI t)))] (fun H locs hM => ?_) (fun J105 => ?_)
    · skip
      refine lv_iadd hx hb dX12_worthOf_123 ?_
      refine lv_istore (lv' := [(5, .int ((5 + (mBase f pp ho (nI t))) + (if ho = 1 then f (22 + pp) else 0))), (4, .int (mBase f pp ho (nI t))), (0, .ref (gA g 46)), (1, .int (nI pp)), (2, .int ho), (3, .int (nI t))]) hx hb dX12_worthOf_124 hl (by decide) rfl (fun ls hl => ?_)
      refine lv_goto (tgt := 162) hx hb dX12_worthOf_126 (by decide) ?_
      refine lv_iload hx hb dX12_worthOf_162 (lv_at hl 0 rfl) ?_
      refine lv_if_ge (tgt := 171) hx hb dX12_worthOf_164 (by decide) (fun c_12 => ?_) (fun c_12 => ?_)
      · skip
        refine lv_iload hx hb dX12_worthOf_171 (lv_at hl 0 rfl) ?_
        exact R_i X hr hk hM ⟨_, _, (by have e9 : mWo f pp ho (mBase f pp ho (nI t)) t = (5 + (mBase f pp ho (nI t))) + (if ho = 1 then f (22 + pp) else 0) := (by unfold mWo; (first | rw [if_pos w_3] | rw [if_neg w_3] | skip); (first | rw [if_pos w_5] | rw [if_neg w_5] | skip); (first | rw [if_pos w_7] | rw [if_neg w_7] | skip); (first | rw [if_pos w_9] | rw [if_neg w_9] | skip); (first | rw [if_pos w_11] | rw [if_neg w_11] | skip)); unfold mWor; rw [e9]; (first | rw [if_pos c_12] | rw [if_neg c_12] | skip)), rfl⟩ dX12_worthOf_173
      · skip
        refine lv_iconst (v := 0) hx hb dX12_worthOf_167 (by decide) ?_
        refine lv_goto (tgt := 173) hx hb dX12_worthOf_168 (by decide) ?_
        exact R_i X hr hk hM ⟨_, _, (by have e9 : mWo f pp ho (mBase f pp ho (nI t)) t = (5 + (mBase f pp ho (nI t))) + (if ho = 1 then f (22 + pp) else 0) := (by unfold mWo; (first | rw [if_pos w_3] | rw [if_neg w_3] | skip); (first | rw [if_pos w_5] | rw [if_neg w_5] | skip); (first | rw [if_pos w_7] | rw [if_neg w_7] | skip); (first | rw [if_pos w_9] | rw [if_neg w_9] | skip); (first | rw [if_pos w_11] | rw [if_neg w_11] | skip)); unfold mWor; rw [e9]; (first | rw [if_pos c_12] | rw [if_neg c_12] | skip)), rfl⟩ dX12_worthOf_173
    refine lv_iload_n hx hb dX12_worthOf_105 rfl (lv_at hl 4 rfl) ?_
    refine lv_iconst (v := 1) hx hb dX12_worthOf_106 (by decide) ?_
    refine lv_icmp_ne (tgt := 122) hx hb dX12_worthOf_107 (by decide) (fun c_13 => ?_) (fun c_13 => ?_)
    · skip
      refine lv_iconst (v := 0) hx hb dX12_worthOf_122 (by decide) ?_
      exact J105 _ _ _ hM (by (first | rw [if_pos c_13] | rw [if_neg c_13] | skip); all_goals (first | rfl | simp [*]))
    · skip
      refine lv_aload_n hx hb dX12_worthOf_110 rfl (lv_at hl 2 rfl) ?_
      refine r_get (T := TX12) (N := 20) (ci := 12) (v := .ref (gA g 47)) X hM iX12 rfl 1 (by decide) q_836 (Or.inl rfl) (mup_r (X.2.ne (i := 46) (j := 51) (by decide) (by decide) (by decide)) (mup_r (X.2.ne (i := 46) (j := 50) (by decide) (by decide) (by decide)) h46)) rfl dX12_worthOf_111 ?_
      refine lv_bipush (v := 22) hx hb dX12_worthOf_114 (by decide) ?_
      refine lv_iload_n hx hb dX12_worthOf_116 rfl (lv_at hl 3 rfl) ?_
      refine lv_iadd hx hb dX12_worthOf_117 ?_
      rw [show (22 : Int32) + (nI pp) = nI (22 + pp) from nI_add 22 pp]
      refine r_iald (i := nI (22 + pp)) X hM (mup_r (X.2.ne (i := 47) (j := 51) (by decide) (by decide) (by decide)) (mup_r (X.2.ne (i := 47) (j := 50) (by decide) (by decide) (by decide)) h47)) (vp_in_nI (by omega) (by decide)) dX12_worthOf_118 ?_
      rw [nI_clamp (show 22 + pp < 2147483648 by omega)]
      refine lv_goto (tgt := 123) hx hb dX12_worthOf_119 (by decide) ?_
      exact J105 _ _ _ hM (by (first | rw [if_pos c_13] | rw [if_neg c_13] | skip); all_goals (first | rfl | simp [*]))
  by_cases w_14 : f (16 + pp) = 6
  · skip
    refine lv_tableIn (off := 105) (tgt := 129) hx hb dX12_worthOf_24 (by rw [w_14]; decide) (by rw [w_14]; decide) (by rw [w_14]; rfl) (by decide) ?_
    refine lv_iload hx hb dX12_worthOf_129 (lv_at hl 1 rfl) ?_
    refine lv_aload_n hx hb dX12_worthOf_131 rfl (lv_at hl 2 rfl) ?_
    refine r_get (T := TX12) (N := 20) (ci := 12) (v := .ref (gA g 47)) X hM iX12 rfl 1 (by decide) q_836 (Or.inl rfl) (mup_r (X.2.ne (i := 46) (j := 51) (by decide) (by decide) (by decide)) (mup_r (X.2.ne (i := 46) (j := 50) (by decide) (by decide) (by decide)) h46)) rfl dX12_worthOf_132 ?_
    refine lv_bipush (v := 22) hx hb dX12_worthOf_135 (by decide) ?_
    refine lv_iload_n hx hb dX12_worthOf_137 rfl (lv_at hl 3 rfl) ?_
    refine lv_iadd hx hb dX12_worthOf_138 ?_
    rw [show (22 : Int32) + (nI pp) = nI (22 + pp) from nI_add 22 pp]
    refine r_iald (i := nI (22 + pp)) X hM (mup_r (X.2.ne (i := 47) (j := 51) (by decide) (by decide) (by decide)) (mup_r (X.2.ne (i := 47) (j := 50) (by decide) (by decide) (by decide)) h47)) (vp_in_nI (by omega) (by decide)) dX12_worthOf_139 ?_
    rw [nI_clamp (show 22 + pp < 2147483648 by omega)]
    refine lv_iadd hx hb dX12_worthOf_140 ?_
    refine lv_aload_n hx hb dX12_worthOf_141 rfl (lv_at hl 2 rfl) ?_
    refine r_get (T := TX12) (N := 20) (ci := 12) (v := .ref (gA g 47)) X hM iX12 rfl 1 (by decide) q_836 (Or.inl rfl) (mup_r (X.2.ne (i := 46) (j := 51) (by decide) (by decide) (by decide)) (mup_r (X.2.ne (i := 46) (j := 50) (by decide) (by decide) (by decide)) h46)) rfl dX12_worthOf_142 ?_
    refine lv_bipush (v := 40) hx hb dX12_worthOf_145 (by decide) ?_
    refine lv_iconst (v := 4) hx hb dX12_worthOf_147 (by decide) ?_
    refine lv_iload_n hx hb dX12_worthOf_148 rfl (lv_at hl 3 rfl) ?_
    refine lv_imul hx hb dX12_worthOf_149 ?_
    rw [show (4 : Int32) * (nI pp) = nI (4 * pp) from nI_mul 4 pp]
    refine lv_iadd hx hb dX12_worthOf_150 ?_
    rw [show (40 : Int32) + (nI (4 * pp)) = nI (40 + (4 * pp)) from nI_add 40 (4 * pp)]
    refine lv_iload_n hx hb dX12_worthOf_151 rfl (lv_at hl 5 rfl) ?_
    refine lv_iconst (v := 4) hx hb dX12_worthOf_152 (by decide) ?_
    refine l_irem hx hb dX12_worthOf_153 (by decide) ?_
    rw [show iR (nI t) 4 = nI (t % 4) from iR_nI (d := 4) (by omega) (by decide) (by decide)]
    refine lv_iadd hx hb dX12_worthOf_154 ?_
    rw [show (nI (40 + (4 * pp))) + (nI (t % 4)) = nI ((40 + (4 * pp)) + (t % 4)) from nI_add (40 + (4 * pp)) (t % 4)]
    refine r_iald (i := nI ((40 + (4 * pp)) + (t % 4))) X hM (mup_r (X.2.ne (i := 47) (j := 51) (by decide) (by decide) (by decide)) (mup_r (X.2.ne (i := 47) (j := 50) (by decide) (by decide) (by decide)) h47)) (vp_in_nI (by omega) (by decide)) dX12_worthOf_155 ?_
    rw [nI_clamp (show (40 + (4 * pp)) + (t % 4) < 2147483648 by omega)]
    refine lv_iadd hx hb dX12_worthOf_156 ?_
    refine lv_istore (lv' := [(5, .int (((mBase f pp ho (nI t)) + (f (22 + pp))) + (f ((40 + (4 * pp)) + (t % 4))))), (4, .int (mBase f pp ho (nI t))), (0, .ref (gA g 46)), (1, .int (nI pp)), (2, .int ho), (3, .int (nI t))]) hx hb dX12_worthOf_157 hl (by decide) rfl (fun ls hl => ?_)
    refine lv_goto (tgt := 162) hx hb dX12_worthOf_159 (by decide) ?_
    refine lv_iload hx hb dX12_worthOf_162 (lv_at hl 0 rfl) ?_
    refine lv_if_ge (tgt := 171) hx hb dX12_worthOf_164 (by decide) (fun c_15 => ?_) (fun c_15 => ?_)
    · skip
      refine lv_iload hx hb dX12_worthOf_171 (lv_at hl 0 rfl) ?_
      exact R_i X hr hk hM ⟨_, _, (by have e9 : mWo f pp ho (mBase f pp ho (nI t)) t = ((mBase f pp ho (nI t)) + (f (22 + pp))) + (f ((40 + (4 * pp)) + (t % 4))) := (by unfold mWo; (first | rw [if_pos w_3] | rw [if_neg w_3] | skip); (first | rw [if_pos w_5] | rw [if_neg w_5] | skip); (first | rw [if_pos w_7] | rw [if_neg w_7] | skip); (first | rw [if_pos w_9] | rw [if_neg w_9] | skip); (first | rw [if_pos w_11] | rw [if_neg w_11] | skip); (first | rw [if_pos w_14] | rw [if_neg w_14] | skip)); unfold mWor; rw [e9]; (first | rw [if_pos c_15] | rw [if_neg c_15] | skip)), rfl⟩ dX12_worthOf_173
    · skip
      refine lv_iconst (v := 0) hx hb dX12_worthOf_167 (by decide) ?_
      refine lv_goto (tgt := 173) hx hb dX12_worthOf_168 (by decide) ?_
      exact R_i X hr hk hM ⟨_, _, (by have e9 : mWo f pp ho (mBase f pp ho (nI t)) t = ((mBase f pp ho (nI t)) + (f (22 + pp))) + (f ((40 + (4 * pp)) + (t % 4))) := (by unfold mWo; (first | rw [if_pos w_3] | rw [if_neg w_3] | skip); (first | rw [if_pos w_5] | rw [if_neg w_5] | skip); (first | rw [if_pos w_7] | rw [if_neg w_7] | skip); (first | rw [if_pos w_9] | rw [if_neg w_9] | skip); (first | rw [if_pos w_11] | rw [if_neg w_11] | skip); (first | rw [if_pos w_14] | rw [if_neg w_14] | skip)); unfold mWor; rw [e9]; (first | rw [if_pos c_15] | rw [if_neg c_15] | skip)), rfl⟩ dX12_worthOf_173
  refine lv_tableOut (tgt := 162) hx hb dX12_worthOf_24 (by have z0 := i32ne w_3 (by decide : ((1 : Int32)).toInt = 1); have z1 := i32ne w_5 (by decide : ((2 : Int32)).toInt = 2); have z2 := i32ne w_7 (by decide : ((3 : Int32)).toInt = 3); have z3 := i32ne w_9 (by decide : ((4 : Int32)).toInt = 4); have z4 := i32ne w_11 (by decide : ((5 : Int32)).toInt = 5); have z5 := i32ne w_14 (by decide : ((6 : Int32)).toInt = 6); omega) (by decide) ?_
  refine lv_iload hx hb dX12_worthOf_162 (lv_at hl 0 rfl) ?_
  refine lv_if_ge (tgt := 171) hx hb dX12_worthOf_164 (by decide) (fun c_16 => ?_) (fun c_16 => ?_)
  · skip
    refine lv_iload hx hb dX12_worthOf_171 (lv_at hl 0 rfl) ?_
    exact R_i X hr hk hM ⟨_, _, (by have e9 : mWo f pp ho (mBase f pp ho (nI t)) t = 5 + (mBase f pp ho (nI t)) := (by unfold mWo; (first | rw [if_pos w_3] | rw [if_neg w_3] | skip); (first | rw [if_pos w_5] | rw [if_neg w_5] | skip); (first | rw [if_pos w_7] | rw [if_neg w_7] | skip); (first | rw [if_pos w_9] | rw [if_neg w_9] | skip); (first | rw [if_pos w_11] | rw [if_neg w_11] | skip); (first | rw [if_pos w_14] | rw [if_neg w_14] | skip)); unfold mWor; rw [e9]; (first | rw [if_pos c_16] | rw [if_neg c_16] | skip)), rfl⟩ dX12_worthOf_173
  · skip
    refine lv_iconst (v := 0) hx hb dX12_worthOf_167 (by decide) ?_
    refine lv_goto (tgt := 173) hx hb dX12_worthOf_168 (by decide) ?_
    exact R_i X hr hk hM ⟨_, _, (by have e9 : mWo f pp ho (mBase f pp ho (nI t)) t = 5 + (mBase f pp ho (nI t)) := (by unfold mWo; (first | rw [if_pos w_3] | rw [if_neg w_3] | skip); (first | rw [if_pos w_5] | rw [if_neg w_5] | skip); (first | rw [if_pos w_7] | rw [if_neg w_7] | skip); (first | rw [if_pos w_9] | rw [if_neg w_9] | skip); (first | rw [if_pos w_11] | rw [if_neg w_11] | skip); (first | rw [if_pos w_14] | rw [if_neg w_14] | skip)); unfold mWor; rw [e9]; (first | rw [if_pos c_16] | rw [if_neg c_16] | skip)), rfl⟩ dX12_worthOf_173
set_option maxHeartbeats 4000000 in
set_option maxRecDepth 100000 in
theorem c_X12_hasOn (l : Launch) (g : Gp) (M : Mem) (m0 m1 m2 m3 m4 m5 m6 m7 m8 m9 m10 m11 : Int32) (f : Nat → Int32) (L : Nat) (t : Nat) (ho : Int32) (by_ tr : Nat → Int32) (h46 : M (gA g 46) = some (mdE g m0 m1 m2 m3 m4 m5 m6 m7 m8 m9 m10 m11)) (h47 : M (gA g 47) = some (aI g 929 f)) (h50 : M (gA g 50) = some (aI g 6 by_)) (h51 : M (gA g 51) = some (aZ g 64 tr)) (hO : MOk f L) (ht : t < 20000) : Met l yX12_hasOn (wsM yX12_hasOn cX12_hasOn 5 (some .int)) (rmD 4 0 0) (Pre g M [.ref (gA g 46), .int (nI t), .int ho]) (Qi g (fun r M1 => ∃ (y0 : Nat → Int32) (y1 : Nat → Int32), (mHas f L m2 t ho) = r ∧ mup (mup M (gA g 50) (aI g 6 y0)) (gA g 51) (aZ g 64 y1) = M1)) 0 0 (gF g) := M_start (by decide +kernel) (Nat.le_of_ble_eq_true rfl) fun p e s m args below meth c ls X hr hk hnm hM hl => by
  have X : Cx g p m c cX12_hasOn 5 s args RX12 := X
  have hx := X.1.1
  have hb := X.1.2.1
  have hl : lv_has ls 5 [(0, .ref (gA g 46)), (1, .int (nI t)), (2, .int ho)] := hl
  obtain ⟨h9, hL, hR, hS⟩ := id hO
  refine lv_iconst (v := 0) hx hb dX12_hasOn_0 (by decide) ?_
  refine lv_istore_n (lv' := [(3, .int 0), (0, .ref (gA g 46)), (1, .int (nI t)), (2, .int ho)]) hx hb dX12_hasOn_1 rfl hl (by decide) rfl (fun ls hl => ?_)
  refine lv_iconst (v := 0) hx hb dX12_hasOn_2 (by decide) ?_
  refine lv_istore (lv' := [(4, .int 0), (3, .int 0), (0, .ref (gA g 46)), (1, .int (nI t)), (2, .int ho)]) hx hb dX12_hasOn_3 hl (by decide) rfl (fun ls hl => ?_)
  have L5 : ∀ (fu : Nat) (i : Nat) (x3 : Int32) (b0 b1 : Nat → Int32) (hi : i ≤ L) (k3 : x3 = mSum f t ho i) (hc9 : i = 0 ∨ mCld m2 (nI t) = 0) (H : Heap) (locs : List Loc) (hM : MW g (mup (mup M (gA g 50) (aI g 6 b0)) (gA g 51) (aZ g 64 b1)) H locs) (ls : Array Slot) (hl : lv_has ls 5 [(0, .ref (gA g 46)), (1, .int (nI t)), (2, .int ho), (3, .int x3), (4, .int (nI i))]), L - i < fu → W p l e (rmD 4 0 0) s m args below meth c H locs 0 0 (MQ below (Qi g (fun r M1 => ∃ (y0 : Nat → Int32) (y1 : Nat → Int32), (mHas f L m2 t ho) = r ∧ mup (mup M (gA g 50) (aI g 6 y0)) (gA g 51) (aZ g 64 y1) = M1)) args s 0 0 (gF g)) (F0 m 5 ls []) := by
    intro fu
    induction fu with
    | zero => intro i x3 b0 b1 hi k3 hc9 H locs hM ls hl hmu; exact absurd hmu (Nat.not_lt_zero _)
    | succ fu ih =>
      intro i x3 b0 b1 hi k3 hc9 H locs hM ls hl hmu
      refine lv_iload hx hb dX12_hasOn_5 (lv_at hl 4 rfl) ?_
      refine lv_aload_n hx hb dX12_hasOn_7 rfl (lv_at hl 0 rfl) ?_
      refine r_get (T := TX12) (N := 20) (ci := 12) (v := .ref (gA g 47)) X hM iX12 rfl 1 (by decide) q_836 (Or.inl rfl) (mup_r (X.2.ne (i := 46) (j := 51) (by decide) (by decide) (by decide)) (mup_r (X.2.ne (i := 46) (j := 50) (by decide) (by decide) (by decide)) h46)) rfl dX12_hasOn_8 ?_
      refine lv_bipush (v := 9) hx hb dX12_hasOn_11 (by decide) ?_
      refine r_iald (i := 9) X hM (mup_r (X.2.ne (i := 47) (j := 51) (by decide) (by decide) (by decide)) (mup_r (X.2.ne (i := 47) (j := 50) (by decide) (by decide) (by decide)) h47)) (vp_in_nI (n := 9) (by decide) (by decide)) dX12_hasOn_13 ?_
      rw [show ((9 : Int32)).toNatClampNeg = 9 from by decide]
      rw [h9]
      refine lv_icmp_ge (tgt := 56) hx hb dX12_hasOn_14 (by decide) (fun c_1 => ?_) (fun c_1 => ?_)
      · skip
        have hz1 : L ≤ i := (nI_leI (by omega) (by omega)).mp c_1
        have hz2 : i = L := by omega
        refine lv_iload_n hx hb dX12_hasOn_56 rfl (lv_at hl 3 rfl) ?_
        exact R_i X hr hk hM ⟨_, _, (by unfold mHas; rw [k3]; rcases hc9 with q | q; (rw [← hz2, q]; split <;> rfl); rw [if_pos q, hz2]), rfl⟩ dX12_hasOn_57
      · skip
        have hz1 : i < L := by
          rcases Nat.lt_or_ge i L with q | q
          · exact q
          · exact absurd ((nI_leI (by omega) (by omega)).mpr q) c_1
        refine lv_aload_n hx hb dX12_hasOn_17 rfl (lv_at hl 0 rfl) ?_
        refine lv_iload_n hx hb dX12_hasOn_18 rfl (lv_at hl 1 rfl) ?_
        refine K_i (G_V (As := [.int (nI t)]) (rest := []) X hM (c_X12_isClouded l g _ m0 m1 m2 m3 m4 m5 m6 m7 m8 m9 m10 m11 f (nI t) (mup_r (X.2.ne (i := 46) (j := 51) (by decide) (by decide) (by decide)) (mup_r (X.2.ne (i := 46) (j := 50) (by decide) (by decide) (by decide)) h46)) (mup_r (X.2.ne (i := 47) (j := 51) (by decide) (by decide) (by decide)) (mup_r (X.2.ne (i := 47) (j := 50) (by decide) (by decide) (by decide)) h47)) ) lk_X12_137 (mup_r (X.2.ne (i := 46) (j := 51) (by decide) (by decide) (by decide)) (mup_r (X.2.ne (i := 46) (j := 50) (by decide) (by decide) (by decide)) h46)) rfl rfl hl.1 rfl (Nat.le_of_ble_eq_true rfl) (by decide) dX12_hasOn_19 ⟨Nat.le_of_ble_eq_true rfl, Nat.le_of_ble_eq_true rfl⟩) hM (fun r M1 H locs hM hp => ?_)
        obtain ⟨rfl, rfl⟩ := hp
        refine lv_if_ne (tgt := 56) hx hb dX12_hasOn_22 (by decide) (fun c_2 => ?_) (fun c_2 => ?_)
        · skip
          refine lv_iload_n hx hb dX12_hasOn_56 rfl (lv_at hl 3 rfl) ?_
          exact R_i X hr hk hM ⟨_, _, (by unfold mHas; rw [k3]; rw [if_neg c_2]; rw [(hc9.resolve_right c_2)]; rfl), rfl⟩ dX12_hasOn_57
        · skip
          refine lv_iload_n hx hb dX12_hasOn_25 rfl (lv_at hl 3 rfl) ?_
          refine lv_aload_n hx hb dX12_hasOn_26 rfl (lv_at hl 0 rfl) ?_
          refine lv_iload hx hb dX12_hasOn_27 (lv_at hl 4 rfl) ?_
          refine lv_iload_n hx hb dX12_hasOn_29 rfl (lv_at hl 1 rfl) ?_
          refine K_i (G_V (As := [.int (nI i), .int (nI t)]) (rest := [.int x3]) X hM (c_X12_isUp l g _ m0 m1 m2 m3 m4 m5 m6 m7 m8 m9 m10 m11 f i (nI t) (mup_r (X.2.ne (i := 46) (j := 51) (by decide) (by decide) (by decide)) (mup_r (X.2.ne (i := 46) (j := 50) (by decide) (by decide) (by decide)) h46)) (mup_r (X.2.ne (i := 47) (j := 51) (by decide) (by decide) (by decide)) (mup_r (X.2.ne (i := 47) (j := 50) (by decide) (by decide) (by decide)) h47)) (by omega) (hR _ (by omega))) lk_X12_141 (mup_r (X.2.ne (i := 46) (j := 51) (by decide) (by decide) (by decide)) (mup_r (X.2.ne (i := 46) (j := 50) (by decide) (by decide) (by decide)) h46)) rfl rfl hl.1 rfl (Nat.le_of_ble_eq_true rfl) (by decide) dX12_hasOn_30 ⟨Nat.le_of_ble_eq_true rfl, Nat.le_of_ble_eq_true rfl⟩) hM (fun r M1 H locs hM hp => ?_)
          obtain ⟨rfl, rfl⟩ := hp
          refine lv_if_eq (tgt := 47) hx hb dX12_hasOn_33 (by decide) (fun c_3 => ?_) (fun c_3 => ?_)
          · skip
            refine lv_iconst (v := 0) hx hb dX12_hasOn_47 (by decide) ?_
            refine lv_iadd hx hb dX12_hasOn_48 ?_
            refine lv_istore_n (lv' := [(3, .int (x3 + 0)), (0, .ref (gA g 46)), (1, .int (nI t)), (2, .int ho), (4, .int (nI i))]) hx hb dX12_hasOn_49 rfl hl (by decide) rfl (fun ls hl => ?_)
            refine lv_iinc (v := (nI i) + 1) (lv' := [(4, .int ((nI i) + 1)), (3, .int (x3 + 0)), (0, .ref (gA g 46)), (1, .int (nI t)), (2, .int ho)]) hx hb dX12_hasOn_50 hl (k := 4) rfl rfl (by decide) rfl (fun ls hl => ?_)
            refine lv_goto (tgt := 5) hx hb dX12_hasOn_53 (by decide) ?_
            exact ih (i + 1) (x3 + 0) b0 b1 (by omega) (by rw [k3, mSum]; (first | rw [if_pos c_3] | rw [if_neg c_3])) (Or.inr c_2) _ _ hM _ ((by rw [← nI_1]; exact lv_sub hl [2, 3, 4, 1, 0] rfl)) (by omega)
          · skip
            refine lv_aload_n hx hb dX12_hasOn_36 rfl (lv_at hl 0 rfl) ?_
            refine lv_iload hx hb dX12_hasOn_37 (lv_at hl 4 rfl) ?_
            refine lv_iload_n hx hb dX12_hasOn_39 rfl (lv_at hl 2 rfl) ?_
            refine lv_iload_n hx hb dX12_hasOn_40 rfl (lv_at hl 1 rfl) ?_
            refine K_i (G_V (As := [.int (nI i), .int ho, .int (nI t)]) (rest := [.int x3]) X hM (c_X12_worthOf l g _ m0 m1 m2 m3 m4 m5 m6 m7 m8 m9 m10 m11 f i t ho b0 b1 (mup_r (X.2.ne (i := 46) (j := 51) (by decide) (by decide) (by decide)) (mup_r (X.2.ne (i := 46) (j := 50) (by decide) (by decide) (by decide)) h46)) (mup_r (X.2.ne (i := 47) (j := 51) (by decide) (by decide) (by decide)) (mup_r (X.2.ne (i := 47) (j := 50) (by decide) (by decide) (by decide)) h47)) (mup_r (X.2.ne (i := 50) (j := 51) (by decide) (by decide) (by decide)) (mup_s _ _ _)) (mup_s _ _ _) hS (by omega) ht) lk_X12_145 (mup_r (X.2.ne (i := 46) (j := 51) (by decide) (by decide) (by decide)) (mup_r (X.2.ne (i := 46) (j := 50) (by decide) (by decide) (by decide)) h46)) rfl rfl hl.1 rfl (Nat.le_of_ble_eq_true rfl) (by decide) dX12_hasOn_41 ⟨Nat.le_of_ble_eq_true rfl, Nat.le_of_ble_eq_true rfl⟩) hM (fun r M1 H locs hM hp => ?_)
            obtain ⟨y0_4, y1_5, rfl, rfl⟩ := hp
            rw [mup_w _ _ _ (X.2.ne (i := 51) (j := 50) (by decide) (by decide) (by decide)), mup_i] at hM
            rw [mup_i] at hM
            have hM : MW g (mup (mup M (gA g 50) (aI g 6 y0_4)) (gA g 51) (aZ g 64 y1_5)) H locs := hM
            refine lv_goto (tgt := 48) hx hb dX12_hasOn_44 (by decide) ?_
            refine lv_iadd hx hb dX12_hasOn_48 ?_
            refine lv_istore_n (lv' := [(3, .int (x3 + (mWor f i ho t))), (0, .ref (gA g 46)), (1, .int (nI t)), (2, .int ho), (4, .int (nI i))]) hx hb dX12_hasOn_49 rfl hl (by decide) rfl (fun ls hl => ?_)
            refine lv_iinc (v := (nI i) + 1) (lv' := [(4, .int ((nI i) + 1)), (3, .int (x3 + (mWor f i ho t))), (0, .ref (gA g 46)), (1, .int (nI t)), (2, .int ho)]) hx hb dX12_hasOn_50 hl (k := 4) rfl rfl (by decide) rfl (fun ls hl => ?_)
            refine lv_goto (tgt := 5) hx hb dX12_hasOn_53 (by decide) ?_
            exact ih (i + 1) (x3 + (mWor f i ho t)) y0_4 y1_5 (by omega) (by rw [k3, mSum]; (first | rw [if_pos c_3] | rw [if_neg c_3])) (Or.inr c_2) _ _ hM _ ((by rw [← nI_1]; exact lv_sub hl [2, 3, 4, 1, 0] rfl)) (by omega)
  exact L5 (L + 1) 0 0 by_ tr (Nat.zero_le _) rfl (Or.inl rfl) _ _ (by rw [mup_id h50, mup_id h51]; exact hM) _ (lv_sub hl [2, 3, 4, 1, 0] rfl) (by first | exact Nat.lt_succ_self _ | omega)
set_option maxHeartbeats 4000000 in
set_option maxRecDepth 100000 in
theorem c_X12_base (l : Launch) (g : Gp) (M : Mem) (m0 m1 m2 m3 m4 m5 m6 m7 m8 m9 m10 m11 : Int32) (f : Nat → Int32) (L : Nat) (t : Nat) (x ho n : Int32) (by_ tr : Nat → Int32) (h46 : M (gA g 46) = some (mdE g m0 m1 m2 m3 m4 m5 m6 m7 m8 m9 m10 m11)) (h47 : M (gA g 47) = some (aI g 929 f)) (h50 : M (gA g 50) = some (aI g 6 by_)) (h51 : M (gA g 51) = some (aZ g 64 tr)) (hO : MOk f L) (h0 : f 0 = nI t) (ht : t < 10000) : Met l yX12_base (wsM yX12_base cX12_base 4 (some .int)) (rmD 4 0 0) (Pre g M [.ref (gA g 46), .int x, .int ho, .int n]) (Qi g (fun r M1 => ∃ (y0 : Nat → Int32) (y1 : Nat → Int32), (mBaseC f L t x ho n) = r ∧ mup (mup M (gA g 50) (aI g 6 y0)) (gA g 51) (aZ g 64 y1) = M1)) 0 0 (gF g) := M_start (by decide +kernel) (Nat.le_of_ble_eq_true rfl) fun p e s m args below meth c ls X hr hk hnm hM hl => by
  have X : Cx g p m c cX12_base 4 s args RX12 := X
  have hx := X.1.1
  have hb := X.1.2.1
  have hl : lv_has ls 4 [(0, .ref (gA g 46)), (1, .int x), (2, .int ho), (3, .int n)] := hl
  obtain ⟨h9, hL, hR, hS⟩ := id hO
  refine lv_aload_n hx hb dX12_base_0 rfl (lv_at hl 0 rfl) ?_
  refine lv_iload_n hx hb dX12_base_1 rfl (lv_at hl 1 rfl) ?_
  refine K_i (G_V (As := [.int x]) (rest := []) X hM (c_X12_isLightL l g _ m0 m1 m2 m3 m4 m5 m6 m7 m8 m9 m10 m11 f L x h46 h47 h9 hL) lk_X12_148 h46 rfl rfl hl.1 rfl (Nat.le_of_ble_eq_true rfl) (by decide) dX12_base_2 ⟨Nat.le_of_ble_eq_true rfl, Nat.le_of_ble_eq_true rfl⟩) hM (fun r M1 H locs hM hp => ?_)
  obtain ⟨rfl, rfl⟩ := hp
  refine lv_if_eq (tgt := 42) hx hb dX12_base_5 (by decide) (fun c_1 => ?_) (fun c_1 => ?_)
  · skip
    refine lv_ldc (v := -9999999) hx hb X.1.2.2.2.1 (X.1.2.2.2.2 _ q_999) dX12_base_42 ?_
    exact R_i X hr hk hM ⟨by_, tr, (by unfold mBaseC; (try simp only [hcj]); (try simp only [hcq]); (first | rw [if_pos c_1] | rw [if_neg c_1] | skip)), (by rw [mup_id h50, mup_id h51])⟩ dX12_base_44
  · skip
    obtain ⟨j, hj, rfl⟩ := fIsL_k hL c_1
    have hcj : (nI j).toNatClampNeg = j := nI_clamp (by omega)
    refine lv_iload_n hx hb dX12_base_8 rfl (lv_at hl 2 rfl) ?_
    refine K_i (G_S (As := [.int ho]) (rest := []) X hM (c_X12_isHouse l g _ ho  ) lk_X12_151 rfl hl.1 rfl (Nat.le_of_ble_eq_true rfl) (by decide) dX12_base_9 ⟨Nat.le_of_ble_eq_true rfl, Nat.le_of_ble_eq_true rfl⟩) hM (fun r M1 H locs hM hp => ?_)
    obtain ⟨rfl, rfl⟩ := hp
    refine lv_if_eq (tgt := 42) hx hb dX12_base_12 (by decide) (fun c_2 => ?_) (fun c_2 => ?_)
    · skip
      refine lv_ldc (v := -9999999) hx hb X.1.2.2.2.1 (X.1.2.2.2.2 _ q_999) dX12_base_42 ?_
      exact R_i X hr hk hM ⟨by_, tr, (by unfold mBaseC; (try simp only [hcj]); (try simp only [hcq]); (first | rw [if_pos c_1] | rw [if_neg c_1] | skip); (first | rw [if_pos c_2] | rw [if_neg c_2] | skip)), (by rw [mup_id h50, mup_id h51])⟩ dX12_base_44
    · skip
      refine lv_iload_n hx hb dX12_base_15 rfl (lv_at hl 3 rfl) ?_
      refine lv_iconst (v := 0) hx hb dX12_base_16 (by decide) ?_
      refine lv_bipush (v := 60) hx hb dX12_base_17 (by decide) ?_
      refine K_i (G_S (As := [.int n, .int 0, .int 60]) (rest := []) X hM (c_X12_in l g _ n 0 60  ) lk_X12_41 rfl hl.1 rfl (Nat.le_of_ble_eq_true rfl) (by decide) dX12_base_19 ⟨Nat.le_of_ble_eq_true rfl, Nat.le_of_ble_eq_true rfl⟩) hM (fun r M1 H locs hM hp => ?_)
      obtain ⟨rfl, rfl⟩ := hp
      refine lv_if_eq (tgt := 42) hx hb dX12_base_22 (by decide) (fun c_3 => ?_) (fun c_3 => ?_)
      · skip
        refine lv_ldc (v := -9999999) hx hb X.1.2.2.2.1 (X.1.2.2.2.2 _ q_999) dX12_base_42 ?_
        exact R_i X hr hk hM ⟨by_, tr, (by unfold mBaseC; (try simp only [hcj]); (try simp only [hcq]); (first | rw [if_pos c_1] | rw [if_neg c_1] | skip); (first | rw [if_pos c_2] | rw [if_neg c_2] | skip); (first | rw [if_pos c_3] | rw [if_neg c_3] | skip)), (by rw [mup_id h50, mup_id h51])⟩ dX12_base_44
      · skip
        obtain ⟨q, hq, rfl⟩ := fIn_k (K := 60) (by decide) c_3
        have hcq : (nI q).toNatClampNeg = q := nI_clamp (by omega)
        refine lv_aload_n hx hb dX12_base_25 rfl (lv_at hl 0 rfl) ?_
        refine lv_iload_n hx hb dX12_base_26 rfl (lv_at hl 1 rfl) ?_
        refine lv_iload_n hx hb dX12_base_27 rfl (lv_at hl 2 rfl) ?_
        refine lv_aload_n hx hb dX12_base_28 rfl (lv_at hl 0 rfl) ?_
        refine r_get (T := TX12) (N := 20) (ci := 12) (v := .ref (gA g 47)) X hM iX12 rfl 1 (by decide) q_836 (Or.inl rfl) h46 rfl dX12_base_29 ?_
        refine lv_iconst (v := 0) hx hb dX12_base_32 (by decide) ?_
        refine r_iald (i := 0) X hM h47 (vp_in_nI (n := 0) (by decide) (by decide)) dX12_base_33 ?_
        rw [show ((0 : Int32)).toNatClampNeg = 0 from by decide]
        rw [h0]
        refine lv_iload_n hx hb dX12_base_34 rfl (lv_at hl 3 rfl) ?_
        refine lv_iadd hx hb dX12_base_35 ?_
        rw [show (nI t) + (nI q) = nI (t + q) from nI_add t q]
        refine K_i (G_V (As := [.int (nI j), .int ho, .int (nI (t + q))]) (rest := []) X hM (c_X12_baseOf l g _ m0 m1 m2 m3 m4 m5 m6 m7 m8 m9 m10 m11 f j (t + q) ho by_ tr h46 h47 h50 h51 hS (by omega) (by omega)) lk_X12_133 h46 rfl rfl hl.1 rfl (Nat.le_of_ble_eq_true rfl) (by decide) dX12_base_36 ⟨Nat.le_of_ble_eq_true rfl, Nat.le_of_ble_eq_true rfl⟩) hM (fun r M1 H locs hM hp => ?_)
        obtain ⟨y0_4, y1_5, rfl, rfl⟩ := hp
        have hM : MW g (mup (mup M (gA g 50) (aI g 6 y0_4)) (gA g 51) (aZ g 64 y1_5)) H locs := hM
        refine lv_goto (tgt := 44) hx hb dX12_base_39 (by decide) ?_
        exact R_i X hr hk hM ⟨_, _, (by unfold mBaseC; (try simp only [hcj]); (try simp only [hcq]); (first | rw [if_pos c_1] | rw [if_neg c_1] | skip); (first | rw [if_pos c_2] | rw [if_neg c_2] | skip); (first | rw [if_pos c_3] | rw [if_neg c_3] | skip)), rfl⟩ dX12_base_44
set_option maxHeartbeats 4000000 in
set_option maxRecDepth 100000 in
theorem c_X12_worth (l : Launch) (g : Gp) (M : Mem) (m0 m1 m2 m3 m4 m5 m6 m7 m8 m9 m10 m11 : Int32) (f : Nat → Int32) (L : Nat) (t : Nat) (x ho n : Int32) (by_ tr : Nat → Int32) (h46 : M (gA g 46) = some (mdE g m0 m1 m2 m3 m4 m5 m6 m7 m8 m9 m10 m11)) (h47 : M (gA g 47) = some (aI g 929 f)) (h50 : M (gA g 50) = some (aI g 6 by_)) (h51 : M (gA g 51) = some (aZ g 64 tr)) (hO : MOk f L) (h0 : f 0 = nI t) (ht : t < 10000) : Met l yX12_worth (wsM yX12_worth cX12_worth 4 (some .int)) (rmD 5 0 0) (Pre g M [.ref (gA g 46), .int x, .int ho, .int n]) (Qi g (fun r M1 => ∃ (y0 : Nat → Int32) (y1 : Nat → Int32), (mWorC f L t x ho n) = r ∧ mup (mup M (gA g 50) (aI g 6 y0)) (gA g 51) (aZ g 64 y1) = M1)) 0 0 (gF g) := M_start (by decide +kernel) (Nat.le_of_ble_eq_true rfl) fun p e s m args below meth c ls X hr hk hnm hM hl => by
  have X : Cx g p m c cX12_worth 4 s args RX12 := X
  have hx := X.1.1
  have hb := X.1.2.1
  have hl : lv_has ls 4 [(0, .ref (gA g 46)), (1, .int x), (2, .int ho), (3, .int n)] := hl
  obtain ⟨h9, hL, hR, hS⟩ := id hO
  refine lv_aload_n hx hb dX12_worth_0 rfl (lv_at hl 0 rfl) ?_
  refine lv_iload_n hx hb dX12_worth_1 rfl (lv_at hl 1 rfl) ?_
  refine K_i (G_V (As := [.int x]) (rest := []) X hM (c_X12_isLightL l g _ m0 m1 m2 m3 m4 m5 m6 m7 m8 m9 m10 m11 f L x h46 h47 h9 hL) lk_X12_148 h46 rfl rfl hl.1 rfl (Nat.le_of_ble_eq_true rfl) (by decide) dX12_worth_2 ⟨Nat.le_of_ble_eq_true rfl, Nat.le_of_ble_eq_true rfl⟩) hM (fun r M1 H locs hM hp => ?_)
  obtain ⟨rfl, rfl⟩ := hp
  refine lv_if_eq (tgt := 15) hx hb dX12_worth_5 (by decide) (fun c_1 => ?_) (fun c_1 => ?_)
  · skip
    refine lv_iconst (v := -1) hx hb dX12_worth_15 (by decide) ?_
    exact R_i X hr hk hM ⟨by_, tr, (by unfold mWorC; (try simp only [hcj]); (try simp only [hcq]); (first | rw [if_pos c_1] | rw [if_neg c_1] | skip)), (by rw [mup_id h50, mup_id h51])⟩ dX12_worth_16
  · skip
    obtain ⟨j, hj, rfl⟩ := fIsL_k hL c_1
    have hcj : (nI j).toNatClampNeg = j := nI_clamp (by omega)
    refine lv_iload_n hx hb dX12_worth_8 rfl (lv_at hl 2 rfl) ?_
    refine K_i (G_S (As := [.int ho]) (rest := []) X hM (c_X12_isHouse l g _ ho  ) lk_X12_151 rfl hl.1 rfl (Nat.le_of_ble_eq_true rfl) (by decide) dX12_worth_9 ⟨Nat.le_of_ble_eq_true rfl, Nat.le_of_ble_eq_true rfl⟩) hM (fun r M1 H locs hM hp => ?_)
    obtain ⟨rfl, rfl⟩ := hp
    refine lv_if_ne (tgt := 17) hx hb dX12_worth_12 (by decide) (fun c_2 => ?_) (fun c_2 => ?_)
    · skip
      refine lv_iload_n hx hb dX12_worth_17 rfl (lv_at hl 3 rfl) ?_
      refine lv_iconst (v := 0) hx hb dX12_worth_18 (by decide) ?_
      refine lv_bipush (v := 60) hx hb dX12_worth_19 (by decide) ?_
      refine K_i (G_S (As := [.int n, .int 0, .int 60]) (rest := []) X hM (c_X12_in l g _ n 0 60  ) lk_X12_41 rfl hl.1 rfl (Nat.le_of_ble_eq_true rfl) (by decide) dX12_worth_21 ⟨Nat.le_of_ble_eq_true rfl, Nat.le_of_ble_eq_true rfl⟩) hM (fun r M1 H locs hM hp => ?_)
      obtain ⟨rfl, rfl⟩ := hp
      refine lv_if_eq (tgt := 44) hx hb dX12_worth_24 (by decide) (fun c_3 => ?_) (fun c_3 => ?_)
      · skip
        refine lv_bipush (v := -2) hx hb dX12_worth_44 (by decide) ?_
        exact R_i X hr hk hM ⟨by_, tr, (by unfold mWorC; (try simp only [hcj]); (try simp only [hcq]); (first | rw [if_pos c_1] | rw [if_neg c_1] | skip); (first | rw [if_pos c_2] | rw [if_neg c_2] | skip); (first | rw [if_pos c_3] | rw [if_neg c_3] | skip)), (by rw [mup_id h50, mup_id h51])⟩ dX12_worth_46
      · skip
        obtain ⟨q, hq, rfl⟩ := fIn_k (K := 60) (by decide) c_3
        have hcq : (nI q).toNatClampNeg = q := nI_clamp (by omega)
        refine lv_aload_n hx hb dX12_worth_27 rfl (lv_at hl 0 rfl) ?_
        refine lv_iload_n hx hb dX12_worth_28 rfl (lv_at hl 1 rfl) ?_
        refine lv_iload_n hx hb dX12_worth_29 rfl (lv_at hl 2 rfl) ?_
        refine lv_aload_n hx hb dX12_worth_30 rfl (lv_at hl 0 rfl) ?_
        refine r_get (T := TX12) (N := 20) (ci := 12) (v := .ref (gA g 47)) X hM iX12 rfl 1 (by decide) q_836 (Or.inl rfl) h46 rfl dX12_worth_31 ?_
        refine lv_iconst (v := 0) hx hb dX12_worth_34 (by decide) ?_
        refine r_iald (i := 0) X hM h47 (vp_in_nI (n := 0) (by decide) (by decide)) dX12_worth_35 ?_
        rw [show ((0 : Int32)).toNatClampNeg = 0 from by decide]
        rw [h0]
        refine lv_iload_n hx hb dX12_worth_36 rfl (lv_at hl 3 rfl) ?_
        refine lv_iadd hx hb dX12_worth_37 ?_
        rw [show (nI t) + (nI q) = nI (t + q) from nI_add t q]
        refine K_i (G_V (As := [.int (nI j), .int ho, .int (nI (t + q))]) (rest := []) X hM (c_X12_worthOf l g _ m0 m1 m2 m3 m4 m5 m6 m7 m8 m9 m10 m11 f j (t + q) ho by_ tr h46 h47 h50 h51 hS (by omega) (by omega)) lk_X12_145 h46 rfl rfl hl.1 rfl (Nat.le_of_ble_eq_true rfl) (by decide) dX12_worth_38 ⟨Nat.le_of_ble_eq_true rfl, Nat.le_of_ble_eq_true rfl⟩) hM (fun r M1 H locs hM hp => ?_)
        obtain ⟨y0_4, y1_5, rfl, rfl⟩ := hp
        have hM : MW g (mup (mup M (gA g 50) (aI g 6 y0_4)) (gA g 51) (aZ g 64 y1_5)) H locs := hM
        refine lv_goto (tgt := 46) hx hb dX12_worth_41 (by decide) ?_
        exact R_i X hr hk hM ⟨_, _, (by unfold mWorC; (try simp only [hcj]); (try simp only [hcq]); (first | rw [if_pos c_1] | rw [if_neg c_1] | skip); (first | rw [if_pos c_2] | rw [if_neg c_2] | skip); (first | rw [if_pos c_3] | rw [if_neg c_3] | skip)), rfl⟩ dX12_worth_46
    · skip
      refine lv_iconst (v := -1) hx hb dX12_worth_15 (by decide) ?_
      exact R_i X hr hk hM ⟨by_, tr, (by unfold mWorC; (try simp only [hcj]); (try simp only [hcq]); (first | rw [if_pos c_1] | rw [if_neg c_1] | skip); (first | rw [if_pos c_2] | rw [if_neg c_2] | skip)), (by rw [mup_id h50, mup_id h51])⟩ dX12_worth_16
