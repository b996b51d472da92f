theorem fIsL_k {L : Nat} {x : Int32} (hL : L ≤ 6) (h : ¬ fIsL L x = 0) : ∃ j, j < L ∧ x = nI j := by
  unfold fIsL at h
  by_cases h0 : x < 0
  · rw [if_pos h0] at h; exact absurd rfl h
  · rw [if_neg h0] at h
    by_cases h1 : nI L ≤ x
    · rw [if_pos h1] at h; exact absurd rfl h
    · obtain ⟨j, hj, rfl⟩ := nI_of h0
      refine ⟨j, ?_, rfl⟩
      rcases Nat.lt_or_ge j L with q | q
      · exact q
      · exact absurd (nI_le q hj) h1
theorem fIn_isL {L : Nat} (hL : L ≤ 6) (x : Int32) : fIn x 0 (nI L - 1) = fIsL L x := by
  unfold fIn fIsL
  have h : (nI L - 1 < x) ↔ (nI L ≤ x) := by
    rw [Int32.lt_iff_toInt_lt, Int32.le_iff_toInt_le]
    rcases (show L = 0 ∨ L = 1 ∨ L = 2 ∨ L = 3 ∨ L = 4 ∨ L = 5 ∨ L = 6 by omega) with rfl | rfl | rfl | rfl | rfl | rfl | rfl <;> (first | (rw [show (nI 0 - 1).toInt = -1 from by decide, show (nI 0).toInt = 0 from by decide]) | (rw [show (nI 1 - 1).toInt = 0 from by decide, show (nI 1).toInt = 1 from by decide]) | (rw [show (nI 2 - 1).toInt = 1 from by decide, show (nI 2).toInt = 2 from by decide]) | (rw [show (nI 3 - 1).toInt = 2 from by decide, show (nI 3).toInt = 3 from by decide]) | (rw [show (nI 4 - 1).toInt = 3 from by decide, show (nI 4).toInt = 4 from by decide]) | (rw [show (nI 5 - 1).toInt = 4 from by decide, show (nI 5).toInt = 5 from by decide]) | (rw [show (nI 6 - 1).toInt = 5 from by decide, show (nI 6).toInt = 6 from by decide])) <;> omega
  simp only [h]
def mOf (f : Nat → Int32) (L : Nat) (x w : Int32) : Int32 := if fIsL L x = 0 then -1 else if w = 0 then f (16 + x.toNatClampNeg) else if w = 1 then f (22 + x.toNatClampNeg) else if w = 2 then f (28 + x.toNatClampNeg) else if w = 3 then f (34 + x.toNatClampNeg) else if w = 4 then f (3 + x.toNatClampNeg) else if w = 5 then (if mUp f x.toNatClampNeg (f 0) = 0 then 0 else 1) else -1
def mHide (f : Nat → Int32) (L : Nat) (x z : Int32) : Int32 × (Nat → Int32) := if fIsL L x = 0 then (-1, f) else (f (3 + x.toNatClampNeg), upd f (3 + x.toNatClampNeg) (if z = 0 then 0 else 1))
def mSet (f : Nat → Int32) (L : Nat) (x w n : Int32) : Int32 × (Nat → Int32) := if fIsL L x = 0 then (-1, f) else if fIn w 0 1 = 0 then (-1, f) else if w = 0 then (if fIn n 1 30 = 0 then (-2, f) else (f (28 + x.toNatClampNeg), upd f (28 + x.toNatClampNeg) n)) else (if fIn n 0 29 = 0 then (-2, f) else (f (34 + x.toNatClampNeg), upd f (34 + x.toNatClampNeg) n))
def mRow (f : Nat → Int32) (L : Nat) (x k n : Int32) : Int32 × (Nat → Int32) := if fIsL L x = 0 then (-1, f) else if fIn k 0 3 = 0 then (-1, f) else if fIn n 0 9 = 0 then (-2, f) else if f (16 + x.toNatClampNeg) = 6 then (f (40 + 4 * x.toNatClampNeg + k.toNatClampNeg), upd f (40 + 4 * x.toNatClampNeg + k.toNatClampNeg) n) else (-3, f)

theorem lk_X12_148 : LkV RX12 148 yX12_isLight cX12_isLight 2 (some .boolean) 1 := lkV_of q_976 q_978 qs_23 q_7 q_979 ⟨by decide, by decide, by decide +kernel⟩ (by decide)
theorem lk_X12_141 : LkV RX12 141 yX12_isUp cX12_isUp 8 (some .boolean) 2 := lkV_of q_980 q_982 qs_24 q_7 q_983 ⟨by decide, by decide, by decide +kernel⟩ (by decide)
set_option maxHeartbeats 4000000 in
set_option maxRecDepth 100000 in
theorem c_X12_isLightL (l : Launch) (g : Gp) (M : Mem) (m0 m1 m2 m3 m4 m5 m6 m7 m8 m9 m10 m11 : Int32) (f : Nat → Int32) (L : Nat) (x : Int32) (h46 : M (gA g 46) = some (mdE g m0 m1 m2 m3 m4 m5 m6 m7 m8 m9 m10 m11)) (h47 : M (gA g 47) = some (aI g 929 f)) (h9 : f 9 = nI L) (hL : L ≤ 6) : Met l yX12_isLight (wsM yX12_isLight cX12_isLight 2 (some .boolean)) (rmD 2 0 0) (Pre g M [.ref (gA g 46), .int x]) (Qi g (fun r M1 => (fIsL L x) = r ∧ M = M1)) 0 0 (gF g) := M_start (by decide +kernel) (Nat.le_of_ble_eq_true rfl) fun p e s m args below meth c ls X hr hk hnm hM hl => by
  have X : Cx g p m c cX12_isLight 2 s args RX12 := X
  have hx := X.1.1
  have hb := X.1.2.1
  have hl : lv_has ls 2 [(0, .ref (gA g 46)), (1, .int x)] := hl
  refine lv_iload_n hx hb dX12_isLight_0 rfl (lv_at hl 1 rfl) ?_
  refine lv_iconst (v := 0) hx hb dX12_isLight_1 (by decide) ?_
  refine lv_aload_n hx hb dX12_isLight_2 rfl (lv_at hl 0 rfl) ?_
  refine r_get (T := TX12) (N := 20) (ci := 12) (v := .ref (gA g 47)) X hM iX12 rfl 1 (by decide) q_836 (Or.inl rfl) h46 rfl dX12_isLight_3 ?_
  refine lv_bipush (v := 9) hx hb dX12_isLight_6 (by decide) ?_
  refine r_iald (i := 9) X hM h47 (vp_in_nI (n := 9) (by decide) (by decide)) dX12_isLight_8 ?_
  rw [show ((9 : Int32)).toNatClampNeg = 9 from by decide]
  refine lv_iconst (v := 1) hx hb dX12_isLight_9 (by decide) ?_
  refine lv_isub hx hb dX12_isLight_10 ?_
  refine K_i (G_S (As := [.int x, .int 0, .int ((f 9) - 1)]) (rest := []) X hM (c_X12_in l g _ x 0 ((f 9) - 1)  ) lk_X12_41 rfl hl.1 rfl (Nat.le_of_ble_eq_true rfl) (by decide) dX12_isLight_11 ⟨Nat.le_of_ble_eq_true rfl, Nat.le_of_ble_eq_true rfl⟩) hM (fun r M1 H locs hM hp => ?_)
  obtain ⟨rfl, rfl⟩ := hp
  exact R_z X hr hk (fIn_01 _ _ _) hM ⟨(by rw [h9, fIn_isL hL]), rfl⟩ dX12_isLight_14
set_option maxHeartbeats 4000000 in
set_option maxRecDepth 100000 in
theorem c_X12_of (l : Launch) (g : Gp) (M : Mem) (m0 m1 m2 m3 m4 m5 m6 m7 m8 m9 m10 m11 : Int32) (f : Nat → Int32) (L : Nat) (x w : Int32) (h46 : M (gA g 46) = some (mdE g m0 m1 m2 m3 m4 m5 m6 m7 m8 m9 m10 m11)) (h47 : M (gA g 47) = some (aI g 929 f)) (h9 : f 9 = nI L) (hL : L ≤ 6) (hR : ∀ j, j < L → ¬ f (28 + j) = 0) : Met l yX12_of (wsM yX12_of cX12_of 3 (some .int)) (rmD 3 0 0) (Pre g M [.ref (gA g 46), .int x, .int w]) (Qi g (fun r M1 => (mOf f L x w) = r ∧ M = M1)) 0 0 (gF g) := M_start (by decide +kernel) (Nat.le_of_ble_eq_true rfl) fun p e s m args below meth c ls X hr hk hnm hM hl => by
  have X : Cx g p m c cX12_of 3 s args RX12 := X
  have hx := X.1.1
  have hb := X.1.2.1
  have hl : lv_has ls 3 [(0, .ref (gA g 46)), (1, .int x), (2, .int w)] := hl
  refine lv_aload_n hx hb dX12_of_0 rfl (lv_at hl 0 rfl) ?_
  refine lv_iload_n hx hb dX12_of_1 rfl (lv_at hl 1 rfl) ?_
  refine K_i (G_V (As := [.int x]) (rest := []) X hM (c_X12_isLightL l g _ m0 m1 m2 m3 m4 m5 m6 m7 m8 m9 m10 m11 f L x h46 h47 h9 hL) lk_X12_148 h46 rfl rfl hl.1 rfl (Nat.le_of_ble_eq_true rfl) (by decide) dX12_of_2 ⟨Nat.le_of_ble_eq_true rfl, Nat.le_of_ble_eq_true rfl⟩) hM (fun r M1 H locs hM hp => ?_)
  obtain ⟨rfl, rfl⟩ := hp
  refine lv_if_ne (tgt := 10) hx hb dX12_of_5 (by decide) (fun c_1 => ?_) (fun c_1 => ?_)
  · skip
    obtain ⟨j, hj, rfl⟩ := fIsL_k hL c_1
    have hcj : (nI j).toNatClampNeg = j := nI_clamp (by omega)
    refine lv_iload_n hx hb dX12_of_10 rfl (lv_at hl 2 rfl) ?_
    by_cases w_2 : w = 0
    · skip
      refine lv_tableIn (off := 37) (tgt := 48) hx hb dX12_of_11 (by rw [w_2]; decide) (by rw [w_2]; decide) (by rw [w_2]; rfl) (by decide) ?_
      refine lv_aload_n hx hb dX12_of_48 rfl (lv_at hl 0 rfl) ?_
      refine r_get (T := TX12) (N := 20) (ci := 12) (v := .ref (gA g 47)) X hM iX12 rfl 1 (by decide) q_836 (Or.inl rfl) h46 rfl dX12_of_49 ?_
      refine lv_bipush (v := 16) hx hb dX12_of_52 (by decide) ?_
      refine lv_iload_n hx hb dX12_of_54 rfl (lv_at hl 1 rfl) ?_
      refine lv_iadd hx hb dX12_of_55 ?_
      rw [show (16 : Int32) + (nI j) = nI (16 + j) from nI_add 16 j]
      refine r_iald (i := nI (16 + j)) X hM h47 (vp_in_nI (by omega) (by decide)) dX12_of_56 ?_
      rw [nI_clamp (show 16 + j < 2147483648 by omega)]
      exact R_i X hr hk hM ⟨(by unfold mOf; (try simp only [hcj]); (first | rw [if_pos c_1] | rw [if_neg c_1] | skip); (first | rw [if_pos w_2] | rw [if_neg w_2] | skip); all_goals (first | rfl | (simp [*]))), rfl⟩ dX12_of_57
    by_cases w_3 : w = 1
    · skip
      refine lv_tableIn (off := 47) (tgt := 58) hx hb dX12_of_11 (by rw [w_3]; decide) (by rw [w_3]; decide) (by rw [w_3]; rfl) (by decide) ?_
      refine lv_aload_n hx hb dX12_of_58 rfl (lv_at hl 0 rfl) ?_
      refine r_get (T := TX12) (N := 20) (ci := 12) (v := .ref (gA g 47)) X hM iX12 rfl 1 (by decide) q_836 (Or.inl rfl) h46 rfl dX12_of_59 ?_
      refine lv_bipush (v := 22) hx hb dX12_of_62 (by decide) ?_
      refine lv_iload_n hx hb dX12_of_64 rfl (lv_at hl 1 rfl) ?_
      refine lv_iadd hx hb dX12_of_65 ?_
      rw [show (22 : Int32) + (nI j) = nI (22 + j) from nI_add 22 j]
      refine r_iald (i := nI (22 + j)) X hM h47 (vp_in_nI (by omega) (by decide)) dX12_of_66 ?_
      rw [nI_clamp (show 22 + j < 2147483648 by omega)]
      exact R_i X hr hk hM ⟨(by unfold mOf; (try simp only [hcj]); (first | rw [if_pos c_1] | rw [if_neg c_1] | skip); (first | rw [if_pos w_2] | rw [if_neg w_2] | skip); (first | rw [if_pos w_3] | rw [if_neg w_3] | skip); all_goals (first | rfl | (simp [*]))), rfl⟩ dX12_of_67
    by_cases w_4 : w = 2
    · skip
      refine lv_tableIn (off := 57) (tgt := 68) hx hb dX12_of_11 (by rw [w_4]; decide) (by rw [w_4]; decide) (by rw [w_4]; rfl) (by decide) ?_
      refine lv_aload_n hx hb dX12_of_68 rfl (lv_at hl 0 rfl) ?_
      refine r_get (T := TX12) (N := 20) (ci := 12) (v := .ref (gA g 47)) X hM iX12 rfl 1 (by decide) q_836 (Or.inl rfl) h46 rfl dX12_of_69 ?_
      refine lv_bipush (v := 28) hx hb dX12_of_72 (by decide) ?_
      refine lv_iload_n hx hb dX12_of_74 rfl (lv_at hl 1 rfl) ?_
      refine lv_iadd hx hb dX12_of_75 ?_
      rw [show (28 : Int32) + (nI j) = nI (28 + j) from nI_add 28 j]
      refine r_iald (i := nI (28 + j)) X hM h47 (vp_in_nI (by omega) (by decide)) dX12_of_76 ?_
      rw [nI_clamp (show 28 + j < 2147483648 by omega)]
      exact R_i X hr hk hM ⟨(by unfold mOf; (try simp only [hcj]); (first | rw [if_pos c_1] | rw [if_neg c_1] | skip); (first | rw [if_pos w_2] | rw [if_neg w_2] | skip); (first | rw [if_pos w_3] | rw [if_neg w_3] | skip); (first | rw [if_pos w_4] | rw [if_neg w_4] | skip); all_goals (first | rfl | (simp [*]))), rfl⟩ dX12_of_77
    by_cases w_5 : w = 3
    · skip
      refine lv_tableIn (off := 67) (tgt := 78) hx hb dX12_of_11 (by rw [w_5]; decide) (by rw [w_5]; decide) (by rw [w_5]; rfl) (by decide) ?_
      refine lv_aload_n hx hb dX12_of_78 rfl (lv_at hl 0 rfl) ?_
      refine r_get (T := TX12) (N := 20) (ci := 12) (v := .ref (gA g 47)) X hM iX12 rfl 1 (by decide) q_836 (Or.inl rfl) h46 rfl dX12_of_79 ?_
      refine lv_bipush (v := 34) hx hb dX12_of_82 (by decide) ?_
      refine lv_iload_n hx hb dX12_of_84 rfl (lv_at hl 1 rfl) ?_
      refine lv_iadd hx hb dX12_of_85 ?_
      rw [show (34 : Int32) + (nI j) = nI (34 + j) from nI_add 34 j]
      refine r_iald (i := nI (34 + j)) X hM h47 (vp_in_nI (by omega) (by decide)) dX12_of_86 ?_
      rw [nI_clamp (show 34 + j < 2147483648 by omega)]
      exact R_i X hr hk hM ⟨(by unfold mOf; (try simp only [hcj]); (first | rw [if_pos c_1] | rw [if_neg c_1] | skip); (first | rw [if_pos w_2] | rw [if_neg w_2] | skip); (first | rw [if_pos w_3] | rw [if_neg w_3] | skip); (first | rw [if_pos w_4] | rw [if_neg w_4] | skip); (first | rw [if_pos w_5] | rw [if_neg w_5] | skip); all_goals (first | rfl | (simp [*]))), rfl⟩ dX12_of_87
    by_cases w_6 : w = 4
    · skip
      refine lv_tableIn (off := 77) (tgt := 88) hx hb dX12_of_11 (by rw [w_6]; decide) (by rw [w_6]; decide) (by rw [w_6]; rfl) (by decide) ?_
      refine lv_aload_n hx hb dX12_of_88 rfl (lv_at hl 0 rfl) ?_
      refine r_get (T := TX12) (N := 20) (ci := 12) (v := .ref (gA g 47)) X hM iX12 rfl 1 (by decide) q_836 (Or.inl rfl) h46 rfl dX12_of_89 ?_
      refine lv_iconst (v := 3) hx hb dX12_of_92 (by decide) ?_
      refine lv_iload_n hx hb dX12_of_93 rfl (lv_at hl 1 rfl) ?_
      refine lv_iadd hx hb dX12_of_94 ?_
      rw [show (3 : Int32) + (nI j) = nI (3 + j) from nI_add 3 j]
      refine r_iald (i := nI (3 + j)) X hM h47 (vp_in_nI (by omega) (by decide)) dX12_of_95 ?_
      rw [nI_clamp (show 3 + j < 2147483648 by omega)]
      exact R_i X hr hk hM ⟨(by unfold mOf; (try simp only [hcj]); (first | rw [if_pos c_1] | rw [if_neg c_1] | skip); (first | rw [if_pos w_2] | rw [if_neg w_2] | skip); (first | rw [if_pos w_3] | rw [if_neg w_3] | skip); (first | rw [if_pos w_4] | rw [if_neg w_4] | skip); (first | rw [if_pos w_5] | rw [if_neg w_5] | skip); (first | rw [if_pos w_6] | rw [if_neg w_6] | skip); all_goals (first | rfl | (simp [*]))), rfl⟩ dX12_of_96
    by_cases w_7 : w = 5
    · skip
      refine lv_tableIn (off := 86) (tgt := 97) hx hb dX12_of_11 (by rw [w_7]; decide) (by rw [w_7]; decide) (by rw [w_7]; rfl) (by decide) ?_
      refine lv_aload_n hx hb dX12_of_97 rfl (lv_at hl 0 rfl) ?_
      refine lv_iload_n hx hb dX12_of_98 rfl (lv_at hl 1 rfl) ?_
      refine lv_aload_n hx hb dX12_of_99 rfl (lv_at hl 0 rfl) ?_
      refine r_get (T := TX12) (N := 20) (ci := 12) (v := .ref (gA g 47)) X hM iX12 rfl 1 (by decide) q_836 (Or.inl rfl) h46 rfl dX12_of_100 ?_
      refine lv_iconst (v := 0) hx hb dX12_of_103 (by decide) ?_
      refine r_iald (i := 0) X hM h47 (vp_in_nI (n := 0) (by decide) (by decide)) dX12_of_104 ?_
      rw [show ((0 : Int32)).toNatClampNeg = 0 from by decide]
      refine K_i (G_V (As := [.int (nI j), .int (f 0)]) (rest := []) X hM (c_X12_isUp l g _ m0 m1 m2 m3 m4 m5 m6 m7 m8 m9 m10 m11 f j (f 0) h46 h47 (by omega) (hR _ (by omega))) lk_X12_141 h46 rfl rfl hl.1 rfl (Nat.le_of_ble_eq_true rfl) (by decide) dX12_of_105 ⟨Nat.le_of_ble_eq_true rfl, Nat.le_of_ble_eq_true rfl⟩) hM (fun r M1 H locs hM hp => ?_)
      obtain ⟨rfl, rfl⟩ := hp
      refine lv_if_eq (tgt := 115) hx hb dX12_of_108 (by decide) (fun c_8 => ?_) (fun c_8 => ?_)
      · skip
        refine lv_iconst (v := 0) hx hb dX12_of_115 (by decide) ?_
        exact R_i X hr hk hM ⟨(by unfold mOf; (try simp only [hcj]); (first | rw [if_pos c_1] | rw [if_neg c_1] | skip); (first | rw [if_pos w_2] | rw [if_neg w_2] | skip); (first | rw [if_pos w_3] | rw [if_neg w_3] | skip); (first | rw [if_pos w_4] | rw [if_neg w_4] | skip); (first | rw [if_pos w_5] | rw [if_neg w_5] | skip); (first | rw [if_pos w_6] | rw [if_neg w_6] | skip); (first | rw [if_pos w_7] | rw [if_neg w_7] | skip); (first | rw [if_pos c_8] | rw [if_neg c_8] | skip); all_goals (first | rfl | (simp [*]))), rfl⟩ dX12_of_116
      · skip
        refine lv_iconst (v := 1) hx hb dX12_of_111 (by decide) ?_
        refine lv_goto (tgt := 116) hx hb dX12_of_112 (by decide) ?_
        exact R_i X hr hk hM ⟨(by unfold mOf; (try simp only [hcj]); (first | rw [if_pos c_1] | rw [if_neg c_1] | skip); (first | rw [if_pos w_2] | rw [if_neg w_2] | skip); (first | rw [if_pos w_3] | rw [if_neg w_3] | skip); (first | rw [if_pos w_4] | rw [if_neg w_4] | skip); (first | rw [if_pos w_5] | rw [if_neg w_5] | skip); (first | rw [if_pos w_6] | rw [if_neg w_6] | skip); (first | rw [if_pos w_7] | rw [if_neg w_7] | skip); (first | rw [if_pos c_8] | rw [if_neg c_8] | skip); all_goals (first | rfl | (simp [*]))), rfl⟩ dX12_of_116
    refine lv_tableOut (tgt := 117) hx hb dX12_of_11 (by have z0 := i32ne w_2 (by decide : ((0 : Int32)).toInt = 0); have z1 := i32ne w_3 (by decide : ((1 : Int32)).toInt = 1); have z2 := i32ne w_4 (by decide : ((2 : Int32)).toInt = 2); have z3 := i32ne w_5 (by decide : ((3 : Int32)).toInt = 3); have z4 := i32ne w_6 (by decide : ((4 : Int32)).toInt = 4); have z5 := i32ne w_7 (by decide : ((5 : Int32)).toInt = 5); omega) (by decide) ?_
    refine lv_iconst (v := -1) hx hb dX12_of_117 (by decide) ?_
    exact R_i X hr hk hM ⟨(by unfold mOf; (try simp only [hcj]); (first | rw [if_pos c_1] | rw [if_neg c_1] | skip); (first | rw [if_pos w_2] | rw [if_neg w_2] | skip); (first | rw [if_pos w_3] | rw [if_neg w_3] | skip); (first | rw [if_pos w_4] | rw [if_neg w_4] | skip); (first | rw [if_pos w_5] | rw [if_neg w_5] | skip); (first | rw [if_pos w_6] | rw [if_neg w_6] | skip); (first | rw [if_pos w_7] | rw [if_neg w_7] | skip); all_goals (first | rfl | (simp [*]))), rfl⟩ dX12_of_118
  · skip
    refine lv_iconst (v := -1) hx hb dX12_of_8 (by decide) ?_
    exact R_i X hr hk hM ⟨(by unfold mOf; (try simp only [hcj]); (first | rw [if_pos c_1] | rw [if_neg c_1] | skip); all_goals (first | rfl | (simp [*]))), rfl⟩ dX12_of_9
set_option maxHeartbeats 4000000 in
set_option maxRecDepth 100000 in
theorem c_X12_hide (l : Launch) (g : Gp) (M : Mem) (m0 m1 m2 m3 m4 m5 m6 m7 m8 m9 m10 m11 : Int32) (f : Nat → Int32) (L : Nat) (x z : Int32) (h46 : M (gA g 46) = some (mdE g m0 m1 m2 m3 m4 m5 m6 m7 m8 m9 m10 m11)) (h47 : M (gA g 47) = some (aI g 929 f)) (h9 : f 9 = nI L) (hL : L ≤ 6) : Met l yX12_hide (wsM yX12_hide cX12_hide 4 (some .int)) (rmD 3 0 0) (Pre g M [.ref (gA g 46), .int x, .int z]) (Qi g (fun r M1 => ((mHide f L x z).1) = r ∧ mup M (gA g 47) (aI g 929 ((mHide f L x z).2)) = M1)) 0 0 (gF g) := M_start (by decide +kernel) (Nat.le_of_ble_eq_true rfl) fun p e s m args below meth c ls X hr hk hnm hM hl => by
  have X : Cx g p m c cX12_hide 4 s args RX12 := X
  have hx := X.1.1
  have hb := X.1.2.1
  have hl : lv_has ls 4 [(0, .ref (gA g 46)), (1, .int x), (2, .int z)] := hl
  refine lv_aload_n hx hb dX12_hide_0 rfl (lv_at hl 0 rfl) ?_
  refine lv_iload_n hx hb dX12_hide_1 rfl (lv_at hl 1 rfl) ?_
  refine K_i (G_V (As := [.int x]) (rest := []) X hM (c_X12_isLightL l g _ m0 m1 m2 m3 m4 m5 m6 m7 m8 m9 m10 m11 f L x h46 h47 h9 hL) lk_X12_148 h46 rfl rfl hl.1 rfl (Nat.le_of_ble_eq_true rfl) (by decide) dX12_hide_2 ⟨Nat.le_of_ble_eq_true rfl, Nat.le_of_ble_eq_true rfl⟩) hM (fun r M1 H locs hM hp => ?_)
  obtain ⟨rfl, rfl⟩ := hp
  refine lv_if_ne (tgt := 10) hx hb dX12_hide_5 (by decide) (fun c_1 => ?_) (fun c_1 => ?_)
  · skip
    obtain ⟨j, hj, rfl⟩ := fIsL_k hL c_1
    have hcj : (nI j).toNatClampNeg = j := nI_clamp (by omega)
    refine lv_aload_n hx hb dX12_hide_10 rfl (lv_at hl 0 rfl) ?_
    refine r_get (T := TX12) (N := 20) (ci := 12) (v := .ref (gA g 47)) X hM iX12 rfl 1 (by decide) q_836 (Or.inl rfl) h46 rfl dX12_hide_11 ?_
    refine lv_iconst (v := 3) hx hb dX12_hide_14 (by decide) ?_
    refine lv_iload_n hx hb dX12_hide_15 rfl (lv_at hl 1 rfl) ?_
    refine lv_iadd hx hb dX12_hide_16 ?_
    rw [show (3 : Int32) + (nI j) = nI (3 + j) from nI_add 3 j]
    refine r_iald (i := nI (3 + j)) X hM h47 (vp_in_nI (by omega) (by decide)) dX12_hide_17 ?_
    rw [nI_clamp (show 3 + j < 2147483648 by omega)]
    refine lv_istore_n (lv' := [(3, .int (f (3 + j))), (0, .ref (gA g 46)), (1, .int (nI j)), (2, .int z)]) hx hb dX12_hide_18 rfl hl (by decide) rfl (fun ls hl => ?_)
    refine lv_aload_n hx hb dX12_hide_19 rfl (lv_at hl 1 rfl) ?_
    refine r_get (T := TX12) (N := 20) (ci := 12) (v := .ref (gA g 47)) X hM iX12 rfl 1 (by decide) q_836 (Or.inl rfl) h46 rfl dX12_hide_20 ?_
    refine lv_iconst (v := 3) hx hb dX12_hide_23 (by decide) ?_
    refine lv_iload_n hx hb dX12_hide_24 rfl (lv_at hl 2 rfl) ?_
    refine lv_iadd hx hb dX12_hide_25 ?_
    rw [show (3 : Int32) + (nI j) = nI (3 + j) from nI_add 3 j]
    refine lv_iload_n hx hb dX12_hide_26 rfl (lv_at hl 3 rfl) ?_
    refine l_joinM (ls := ls) hM 35 (if z = 0 then 0 else 1) [.int (nI (3 + j)), .ref (gA g 47)] (fun H locs hM => ?_) (fun J27 => ?_)
    · skip
      refine r_iast (i := nI (3 + j)) (x := if z = 0 then 0 else 1) X hM h47 (vp_in_nI (by omega) (by decide)) dX12_hide_35 (fun H locs hM => ?_)
      rw [nI_clamp (show 3 + j < 2147483648 by omega)] at hM
      have hM : MW g (mup M (gA g 47) (aI g 929 (upd f (3 + j) (if z = 0 then 0 else 1)))) H locs := hM
      refine lv_iload_n hx hb dX12_hide_36 rfl (lv_at hl 0 rfl) ?_
      have e9 : mHide f L (nI j) z = (f (3 + j), upd f (3 + j) (if z = 0 then 0 else 1)) := by
        unfold mHide; (try simp only [hcj]); (first | rw [if_pos c_1] | rw [if_neg c_1] | skip); all_goals first | rfl | (simp only [if_true])
      exact R_i X hr hk hM ⟨(by rw [e9]), (by rw [e9] <;> first | rfl | (dsimp only; done) | (dsimp only; simp only [mup_id h47]; done) | (simp only [mup_id h47]; done))⟩ dX12_hide_37
    refine lv_if_eq (tgt := 34) hx hb dX12_hide_27 (by decide) (fun c_2 => ?_) (fun c_2 => ?_)
    · skip
      refine lv_iconst (v := 0) hx hb dX12_hide_34 (by decide) ?_
      exact J27 _ _ _ hM (by (first | rw [if_pos c_2] | rw [if_neg c_2] | skip); all_goals (first | rfl | simp [*]))
    · skip
      refine lv_iconst (v := 1) hx hb dX12_hide_30 (by decide) ?_
      refine lv_goto (tgt := 35) hx hb dX12_hide_31 (by decide) ?_
      exact J27 _ _ _ hM (by (first | rw [if_pos c_2] | rw [if_neg c_2] | skip); all_goals (first | rfl | simp [*]))
  · skip
    refine lv_iconst (v := -1) hx hb dX12_hide_8 (by decide) ?_
    have e9 : mHide f L x z = (-1, f) := by
      unfold mHide; (try simp only [hcj]); (first | rw [if_pos c_1] | rw [if_neg c_1] | skip); all_goals first | rfl | (simp only [if_true])
    exact R_i X hr hk hM ⟨(by rw [e9]), (by rw [e9] <;> first | rfl | (dsimp only; done) | (dsimp only; simp only [mup_id h47]; done) | (simp only [mup_id h47]; done) | (rw [mup_id h47]) | (dsimp only; rw [mup_id h47]))⟩ dX12_hide_9
set_option maxHeartbeats 4000000 in
set_option maxRecDepth 100000 in
theorem c_X12_set (l : Launch) (g : Gp) (M : Mem) (m0 m1 m2 m3 m4 m5 m6 m7 m8 m9 m10 m11 : Int32) (f : Nat → Int32) (L : Nat) (x w n : Int32) (h46 : M (gA g 46) = some (mdE g m0 m1 m2 m3 m4 m5 m6 m7 m8 m9 m10 m11)) (h47 : M (gA g 47) = some (aI g 929 f)) (h9 : f 9 = nI L) (hL : L ≤ 6) : Met l yX12_set (wsM yX12_set cX12_set 6 (some .int)) (rmD 3 0 0) (Pre g M [.ref (gA g 46), .int x, .int w, .int n]) (Qi g (fun r M1 => ((mSet f L x w n).1) = r ∧ mup M (gA g 47) (aI g 929 ((mSet f L x w n).2)) = M1)) 0 0 (gF g) := M_start (by decide +kernel) (Nat.le_of_ble_eq_true rfl) fun p e s m args below meth c ls X hr hk hnm hM hl => by
  have X : Cx g p m c cX12_set 6 s args RX12 := X
  have hx := X.1.1
  have hb := X.1.2.1
  have hl : lv_has ls 6 [(0, .ref (gA g 46)), (1, .int x), (2, .int w), (3, .int n)] := hl
  refine lv_aload_n hx hb dX12_set_0 rfl (lv_at hl 0 rfl) ?_
  refine lv_iload_n hx hb dX12_set_1 rfl (lv_at hl 1 rfl) ?_
  refine K_i (G_V (As := [.int x]) (rest := []) X hM (c_X12_isLightL l g _ m0 m1 m2 m3 m4 m5 m6 m7 m8 m9 m10 m11 f L x h46 h47 h9 hL) lk_X12_148 h46 rfl rfl hl.1 rfl (Nat.le_of_ble_eq_true rfl) (by decide) dX12_set_2 ⟨Nat.le_of_ble_eq_true rfl, Nat.le_of_ble_eq_true rfl⟩) hM (fun r M1 H locs hM hp => ?_)
  obtain ⟨rfl, rfl⟩ := hp
  refine lv_if_eq (tgt := 17) hx hb dX12_set_5 (by decide) (fun c_1 => ?_) (fun c_1 => ?_)
  · skip
    refine lv_iconst (v := -1) hx hb dX12_set_17 (by decide) ?_
    have e9 : mSet f L x w n = (-1, f) := by
      unfold mSet; (try simp only [hcj]); (first | rw [if_pos c_1] | rw [if_neg c_1] | skip); all_goals first | rfl | (simp only [if_true])
    exact R_i X hr hk hM ⟨(by rw [e9]), (by rw [e9] <;> first | rfl | (dsimp only; done) | (dsimp only; simp only [mup_id h47]; done) | (simp only [mup_id h47]; done) | (rw [mup_id h47]) | (dsimp only; rw [mup_id h47]))⟩ dX12_set_18
  · skip
    obtain ⟨j, hj, rfl⟩ := fIsL_k hL c_1
    have hcj : (nI j).toNatClampNeg = j := nI_clamp (by omega)
    refine lv_iload_n hx hb dX12_set_8 rfl (lv_at hl 2 rfl) ?_
    refine lv_iconst (v := 0) hx hb dX12_set_9 (by decide) ?_
    refine lv_iconst (v := 1) hx hb dX12_set_10 (by decide) ?_
    refine K_i (G_S (As := [.int w, .int 0, .int 1]) (rest := []) X hM (c_X12_in l g _ w 0 1  ) lk_X12_41 rfl hl.1 rfl (Nat.le_of_ble_eq_true rfl) (by decide) dX12_set_11 ⟨Nat.le_of_ble_eq_true rfl, Nat.le_of_ble_eq_true rfl⟩) hM (fun r M1 H locs hM hp => ?_)
    obtain ⟨rfl, rfl⟩ := hp
    refine lv_if_ne (tgt := 19) hx hb dX12_set_14 (by decide) (fun c_2 => ?_) (fun c_2 => ?_)
    · skip
      refine lv_iload_n hx hb dX12_set_19 rfl (lv_at hl 2 rfl) ?_
      refine lv_if_ne (tgt := 36) hx hb dX12_set_20 (by decide) (fun c_3 => ?_) (fun c_3 => ?_)
      · skip
        refine lv_iload_n hx hb dX12_set_36 rfl (lv_at hl 3 rfl) ?_
        refine lv_iconst (v := 0) hx hb dX12_set_37 (by decide) ?_
        refine lv_bipush (v := 29) hx hb dX12_set_38 (by decide) ?_
        refine K_i (G_S (As := [.int n, .int 0, .int 29]) (rest := []) X hM (c_X12_in l g _ n 0 29  ) lk_X12_41 rfl hl.1 rfl (Nat.le_of_ble_eq_true rfl) (by decide) dX12_set_40 ⟨Nat.le_of_ble_eq_true rfl, Nat.le_of_ble_eq_true rfl⟩) hM (fun r M1 H locs hM hp => ?_)
        obtain ⟨rfl, rfl⟩ := hp
        refine lv_if_ne (tgt := 49) hx hb dX12_set_43 (by decide) (fun c_4 => ?_) (fun c_4 => ?_)
        · skip
          refine lv_iload_n hx hb dX12_set_49 rfl (lv_at hl 2 rfl) ?_
          refine lv_if_ne (tgt := 58) hx hb dX12_set_50 (by decide) (fun c_5 => ?_) (fun c_5 => ?_)
          · skip
            refine lv_bipush (v := 34) hx hb dX12_set_58 (by decide) ?_
            refine lv_iload_n hx hb dX12_set_60 rfl (lv_at hl 1 rfl) ?_
            refine lv_iadd hx hb dX12_set_61 ?_
            rw [show (34 : Int32) + (nI j) = nI (34 + j) from nI_add 34 j]
            refine lv_istore (lv' := [(4, .int (nI (34 + j))), (0, .ref (gA g 46)), (1, .int (nI j)), (2, .int w), (3, .int n)]) hx hb dX12_set_62 hl (by decide) rfl (fun ls hl => ?_)
            refine lv_aload_n hx hb dX12_set_64 rfl (lv_at hl 1 rfl) ?_
            refine r_get (T := TX12) (N := 20) (ci := 12) (v := .ref (gA g 47)) X hM iX12 rfl 1 (by decide) q_836 (Or.inl rfl) h46 rfl dX12_set_65 ?_
            refine lv_iload hx hb dX12_set_68 (lv_at hl 0 rfl) ?_
            refine r_iald (i := nI (34 + j)) X hM h47 (vp_in_nI (by omega) (by decide)) dX12_set_70 ?_
            rw [nI_clamp (show 34 + j < 2147483648 by omega)]
            refine lv_istore (lv' := [(5, .int (f (34 + j))), (4, .int (nI (34 + j))), (0, .ref (gA g 46)), (1, .int (nI j)), (2, .int w), (3, .int n)]) hx hb dX12_set_71 hl (by decide) rfl (fun ls hl => ?_)
            refine lv_aload_n hx hb dX12_set_73 rfl (lv_at hl 2 rfl) ?_
            refine r_get (T := TX12) (N := 20) (ci := 12) (v := .ref (gA g 47)) X hM iX12 rfl 1 (by decide) q_836 (Or.inl rfl) h46 rfl dX12_set_74 ?_
            refine lv_iload hx hb dX12_set_77 (lv_at hl 1 rfl) ?_
            refine lv_iload_n hx hb dX12_set_79 rfl (lv_at hl 5 rfl) ?_
            refine r_iast (i := nI (34 + j)) (x := n) X hM h47 (vp_in_nI (by omega) (by decide)) dX12_set_80 (fun H locs hM => ?_)
            rw [nI_clamp (show 34 + j < 2147483648 by omega)] at hM
            have hM : MW g (mup M (gA g 47) (aI g 929 (upd f (34 + j) n))) H locs := hM
            refine lv_iload hx hb dX12_set_81 (lv_at hl 0 rfl) ?_
            have e9 : mSet f L (nI j) w n = (f (34 + j), upd f (34 + j) n) := by
              unfold mSet; (try simp only [hcj]); (first | rw [if_pos c_1] | rw [if_neg c_1] | skip); (first | rw [if_pos c_2] | rw [if_neg c_2] | skip); (first | rw [if_pos c_3] | rw [if_neg c_3] | skip); (first | rw [if_pos c_4] | rw [if_neg c_4] | skip); (first | rw [if_pos c_5] | rw [if_neg c_5] | skip); all_goals first | rfl | (simp only [if_true])
            exact R_i X hr hk hM ⟨(by rw [e9]), (by rw [e9] <;> first | rfl | (dsimp only; done) | (dsimp only; simp only [mup_id h47]; done) | (simp only [mup_id h47]; done))⟩ dX12_set_83
          · skip
            exact absurd c_5 c_3
        · skip
          refine lv_bipush (v := -2) hx hb dX12_set_46 (by decide) ?_
          have e9 : mSet f L (nI j) w n = (-2, f) := by
            unfold mSet; (try simp only [hcj]); (first | rw [if_pos c_1] | rw [if_neg c_1] | skip); (first | rw [if_pos c_2] | rw [if_neg c_2] | skip); (first | rw [if_pos c_3] | rw [if_neg c_3] | skip); (first | rw [if_pos c_4] | rw [if_neg c_4] | skip); all_goals first | rfl | (simp only [if_true])
          exact R_i X hr hk hM ⟨(by rw [e9]), (by rw [e9] <;> first | rfl | (dsimp only; done) | (dsimp only; simp only [mup_id h47]; done) | (simp only [mup_id h47]; done) | (rw [mup_id h47]) | (dsimp only; rw [mup_id h47]))⟩ dX12_set_48
      · skip
        refine lv_iload_n hx hb dX12_set_23 rfl (lv_at hl 3 rfl) ?_
        refine lv_iconst (v := 1) hx hb dX12_set_24 (by decide) ?_
        refine lv_bipush (v := 30) hx hb dX12_set_25 (by decide) ?_
        refine K_i (G_S (As := [.int n, .int 1, .int 30]) (rest := []) X hM (c_X12_in l g _ n 1 30  ) lk_X12_41 rfl hl.1 rfl (Nat.le_of_ble_eq_true rfl) (by decide) dX12_set_27 ⟨Nat.le_of_ble_eq_true rfl, Nat.le_of_ble_eq_true rfl⟩) hM (fun r M1 H locs hM hp => ?_)
        obtain ⟨rfl, rfl⟩ := hp
        refine lv_if_ne (tgt := 49) hx hb dX12_set_30 (by decide) (fun c_6 => ?_) (fun c_6 => ?_)
        · skip
          refine lv_iload_n hx hb dX12_set_49 rfl (lv_at hl 2 rfl) ?_
          refine lv_if_ne (tgt := 58) hx hb dX12_set_50 (by decide) (fun c_7 => ?_) (fun c_7 => ?_)
          · skip
            exact absurd c_3 c_7
          · skip
            refine lv_bipush (v := 28) hx hb dX12_set_53 (by decide) ?_
            refine lv_goto (tgt := 60) hx hb dX12_set_55 (by decide) ?_
            refine lv_iload_n hx hb dX12_set_60 rfl (lv_at hl 1 rfl) ?_
            refine lv_iadd hx hb dX12_set_61 ?_
            rw [show (28 : Int32) + (nI j) = nI (28 + j) from nI_add 28 j]
            refine lv_istore (lv' := [(4, .int (nI (28 + j))), (0, .ref (gA g 46)), (1, .int (nI j)), (2, .int w), (3, .int n)]) hx hb dX12_set_62 hl (by decide) rfl (fun ls hl => ?_)
            refine lv_aload_n hx hb dX12_set_64 rfl (lv_at hl 1 rfl) ?_
            refine r_get (T := TX12) (N := 20) (ci := 12) (v := .ref (gA g 47)) X hM iX12 rfl 1 (by decide) q_836 (Or.inl rfl) h46 rfl dX12_set_65 ?_
            refine lv_iload hx hb dX12_set_68 (lv_at hl 0 rfl) ?_
            refine r_iald (i := nI (28 + j)) X hM h47 (vp_in_nI (by omega) (by decide)) dX12_set_70 ?_
            rw [nI_clamp (show 28 + j < 2147483648 by omega)]
            refine lv_istore (lv' := [(5, .int (f (28 + j))), (4, .int (nI (28 + j))), (0, .ref (gA g 46)), (1, .int (nI j)), (2, .int w), (3, .int n)]) hx hb dX12_set_71 hl (by decide) rfl (fun ls hl => ?_)
            refine lv_aload_n hx hb dX12_set_73 rfl (lv_at hl 2 rfl) ?_
            refine r_get (T := TX12) (N := 20) (ci := 12) (v := .ref (gA g 47)) X hM iX12 rfl 1 (by decide) q_836 (Or.inl rfl) h46 rfl dX12_set_74 ?_
            refine lv_iload hx hb dX12_set_77 (lv_at hl 1 rfl) ?_
            refine lv_iload_n hx hb dX12_set_79 rfl (lv_at hl 5 rfl) ?_
            refine r_iast (i := nI (28 + j)) (x := n) X hM h47 (vp_in_nI (by omega) (by decide)) dX12_set_80 (fun H locs hM => ?_)
            rw [nI_clamp (show 28 + j < 2147483648 by omega)] at hM
            have hM : MW g (mup M (gA g 47) (aI g 929 (upd f (28 + j) n))) H locs := hM
            refine lv_iload hx hb dX12_set_81 (lv_at hl 0 rfl) ?_
            have e9 : mSet f L (nI j) w n = (f (28 + j), upd f (28 + j) n) := by
              unfold mSet; (try simp only [hcj]); (first | rw [if_pos c_1] | rw [if_neg c_1] | skip); (first | rw [if_pos c_2] | rw [if_neg c_2] | skip); (first | rw [if_pos c_3] | rw [if_neg c_3] | skip); (first | rw [if_pos c_6] | rw [if_neg c_6] | skip); (first | rw [if_pos c_7] | rw [if_neg c_7] | skip); all_goals first | rfl | (simp only [if_true])
            exact R_i X hr hk hM ⟨(by rw [e9]), (by rw [e9] <;> first | rfl | (dsimp only; done) | (dsimp only; simp only [mup_id h47]; done) | (simp only [mup_id h47]; done))⟩ dX12_set_83
        · skip
          refine lv_goto (tgt := 46) hx hb dX12_set_33 (by decide) ?_
          refine lv_bipush (v := -2) hx hb dX12_set_46 (by decide) ?_
          have e9 : mSet f L (nI j) w n = (-2, f) := by
            unfold mSet; (try simp only [hcj]); (first | rw [if_pos c_1] | rw [if_neg c_1] | skip); (first | rw [if_pos c_2] | rw [if_neg c_2] | skip); (first | rw [if_pos c_3] | rw [if_neg c_3] | skip); (first | rw [if_pos c_6] | rw [if_neg c_6] | skip); all_goals first | rfl | (simp only [if_true])
          exact R_i X hr hk hM ⟨(by rw [e9]), (by rw [e9] <;> first | rfl | (dsimp only; done) | (dsimp only; simp only [mup_id h47]; done) | (simp only [mup_id h47]; done) | (rw [mup_id h47]) | (dsimp only; rw [mup_id h47]))⟩ dX12_set_48
    · skip
      refine lv_iconst (v := -1) hx hb dX12_set_17 (by decide) ?_
      have e9 : mSet f L (nI j) w n = (-1, f) := by
        unfold mSet; (try simp only [hcj]); (first | rw [if_pos c_1] | rw [if_neg c_1] | skip); (first | rw [if_pos c_2] | rw [if_neg c_2] | skip); all_goals first | rfl | (simp only [if_true])
      exact R_i X hr hk hM ⟨(by rw [e9]), (by rw [e9] <;> first | rfl | (dsimp only; done) | (dsimp only; simp only [mup_id h47]; done) | (simp only [mup_id h47]; done) | (rw [mup_id h47]) | (dsimp only; rw [mup_id h47]))⟩ dX12_set_18
set_option maxHeartbeats 4000000 in
set_option maxRecDepth 100000 in
theorem c_X12_row (l : Launch) (g : Gp) (M : Mem) (m0 m1 m2 m3 m4 m5 m6 m7 m8 m9 m10 m11 : Int32) (f : Nat → Int32) (L : Nat) (x k n : Int32) (h46 : M (gA g 46) = some (mdE g m0 m1 m2 m3 m4 m5 m6 m7 m8 m9 m10 m11)) (h47 : M (gA g 47) = some (aI g 929 f)) (h9 : f 9 = nI L) (hL : L ≤ 6) : Met l yX12_row (wsM yX12_row cX12_row 5 (some .int)) (rmD 3 0 0) (Pre g M [.ref (gA g 46), .int x, .int k, .int n]) (Qi g (fun r M1 => ((mRow f L x k n).1) = r ∧ mup M (gA g 47) (aI g 929 ((mRow f L x k n).2)) = M1)) 0 0 (gF g) := M_start (by decide +kernel) (Nat.le_of_ble_eq_true rfl) fun p e s m args below meth c ls X hr hk hnm hM hl => by
  have X : Cx g p m c cX12_row 5 s args RX12 := X
  have hx := X.1.1
  have hb := X.1.2.1
  have hl : lv_has ls 5 [(0, .ref (gA g 46)), (1, .int x), (2, .int k), (3, .int n)] := hl
  refine lv_aload_n hx hb dX12_row_0 rfl (lv_at hl 0 rfl) ?_
  refine lv_iload_n hx hb dX12_row_1 rfl (lv_at hl 1 rfl) ?_
  refine K_i (G_V (As := [.int x]) (rest := []) X hM (c_X12_isLightL l g _ m0 m1 m2 m3 m4 m5 m6 m7 m8 m9 m10 m11 f L x h46 h47 h9 hL) lk_X12_148 h46 rfl rfl hl.1 rfl (Nat.le_of_ble_eq_true rfl) (by decide) dX12_row_2 ⟨Nat.le_of_ble_eq_true rfl, Nat.le_of_ble_eq_true rfl⟩) hM (fun r M1 H locs hM hp => ?_)
  obtain ⟨rfl, rfl⟩ := hp
  refine lv_if_eq (tgt := 17) hx hb dX12_row_5 (by decide) (fun c_1 => ?_) (fun c_1 => ?_)
  · skip
    refine lv_iconst (v := -1) hx hb dX12_row_17 (by decide) ?_
    have e9 : mRow f L x k n = (-1, f) := by
      unfold mRow; (try simp only [hcj]); (try simp only [hcq]); (first | rw [if_pos c_1] | rw [if_neg c_1] | skip); all_goals first | rfl | (simp only [if_true])
    exact R_i X hr hk hM ⟨(by rw [e9]), (by rw [e9] <;> first | rfl | (dsimp only; done) | (dsimp only; simp only [mup_id h47]; done) | (simp only [mup_id h47]; done) | (rw [mup_id h47]) | (dsimp only; rw [mup_id h47]))⟩ dX12_row_18
  · skip
    obtain ⟨j, hj, rfl⟩ := fIsL_k hL c_1
    have hcj : (nI j).toNatClampNeg = j := nI_clamp (by omega)
    refine lv_iload_n hx hb dX12_row_8 rfl (lv_at hl 2 rfl) ?_
    refine lv_iconst (v := 0) hx hb dX12_row_9 (by decide) ?_
    refine lv_iconst (v := 3) hx hb dX12_row_10 (by decide) ?_
    refine K_i (G_S (As := [.int k, .int 0, .int 3]) (rest := []) X hM (c_X12_in l g _ k 0 3  ) lk_X12_41 rfl hl.1 rfl (Nat.le_of_ble_eq_true rfl) (by decide) dX12_row_11 ⟨Nat.le_of_ble_eq_true rfl, Nat.le_of_ble_eq_true rfl⟩) hM (fun r M1 H locs hM hp => ?_)
    obtain ⟨rfl, rfl⟩ := hp
    refine lv_if_ne (tgt := 19) hx hb dX12_row_14 (by decide) (fun c_2 => ?_) (fun c_2 => ?_)
    · skip
      obtain ⟨q, hq, rfl⟩ := fIn_k (K := 3) (by decide) c_2
      have hcq : (nI q).toNatClampNeg = q := nI_clamp (by omega)
      refine lv_iload_n hx hb dX12_row_19 rfl (lv_at hl 3 rfl) ?_
      refine lv_iconst (v := 0) hx hb dX12_row_20 (by decide) ?_
      refine lv_bipush (v := 9) hx hb dX12_row_21 (by decide) ?_
      refine K_i (G_S (As := [.int n, .int 0, .int 9]) (rest := []) X hM (c_X12_in l g _ n 0 9  ) lk_X12_41 rfl hl.1 rfl (Nat.le_of_ble_eq_true rfl) (by decide) dX12_row_23 ⟨Nat.le_of_ble_eq_true rfl, Nat.le_of_ble_eq_true rfl⟩) hM (fun r M1 H locs hM hp => ?_)
      obtain ⟨rfl, rfl⟩ := hp
      refine lv_if_ne (tgt := 32) hx hb dX12_row_26 (by decide) (fun c_3 => ?_) (fun c_3 => ?_)
      · skip
        refine lv_aload_n hx hb dX12_row_32 rfl (lv_at hl 0 rfl) ?_
        refine r_get (T := TX12) (N := 20) (ci := 12) (v := .ref (gA g 47)) X hM iX12 rfl 1 (by decide) q_836 (Or.inl rfl) h46 rfl dX12_row_33 ?_
        refine lv_bipush (v := 16) hx hb dX12_row_36 (by decide) ?_
        refine lv_iload_n hx hb dX12_row_38 rfl (lv_at hl 1 rfl) ?_
        refine lv_iadd hx hb dX12_row_39 ?_
        rw [show (16 : Int32) + (nI j) = nI (16 + j) from nI_add 16 j]
        refine r_iald (i := nI (16 + j)) X hM h47 (vp_in_nI (by omega) (by decide)) dX12_row_40 ?_
        rw [nI_clamp (show 16 + j < 2147483648 by omega)]
        refine lv_bipush (v := 6) hx hb dX12_row_41 (by decide) ?_
        refine lv_icmp_eq (tgt := 49) hx hb dX12_row_43 (by decide) (fun c_4 => ?_) (fun c_4 => ?_)
        · skip
          refine lv_aload_n hx hb dX12_row_49 rfl (lv_at hl 0 rfl) ?_
          refine r_get (T := TX12) (N := 20) (ci := 12) (v := .ref (gA g 47)) X hM iX12 rfl 1 (by decide) q_836 (Or.inl rfl) h46 rfl dX12_row_50 ?_
          refine lv_bipush (v := 40) hx hb dX12_row_53 (by decide) ?_
          refine lv_iconst (v := 4) hx hb dX12_row_55 (by decide) ?_
          refine lv_iload_n hx hb dX12_row_56 rfl (lv_at hl 1 rfl) ?_
          refine lv_imul hx hb dX12_row_57 ?_
          rw [show (4 : Int32) * (nI j) = nI (4 * j) from nI_mul 4 j]
          refine lv_iadd hx hb dX12_row_58 ?_
          rw [show (40 : Int32) + (nI (4 * j)) = nI (40 + (4 * j)) from nI_add 40 (4 * j)]
          refine lv_iload_n hx hb dX12_row_59 rfl (lv_at hl 2 rfl) ?_
          refine lv_iadd hx hb dX12_row_60 ?_
          rw [show (nI (40 + (4 * j))) + (nI q) = nI ((40 + (4 * j)) + q) from nI_add (40 + (4 * j)) q]
          refine r_iald (i := nI ((40 + (4 * j)) + q)) X hM h47 (vp_in_nI (by omega) (by decide)) dX12_row_61 ?_
          rw [nI_clamp (show (40 + (4 * j)) + q < 2147483648 by omega)]
          refine lv_istore (lv' := [(4, .int (f ((40 + (4 * j)) + q))), (0, .ref (gA g 46)), (1, .int (nI j)), (2, .int (nI q)), (3, .int n)]) hx hb dX12_row_62 hl (by decide) rfl (fun ls hl => ?_)
          refine lv_aload_n hx hb dX12_row_64 rfl (lv_at hl 1 rfl) ?_
          refine r_get (T := TX12) (N := 20) (ci := 12) (v := .ref (gA g 47)) X hM iX12 rfl 1 (by decide) q_836 (Or.inl rfl) h46 rfl dX12_row_65 ?_
          refine lv_bipush (v := 40) hx hb dX12_row_68 (by decide) ?_
          refine lv_iconst (v := 4) hx hb dX12_row_70 (by decide) ?_
          refine lv_iload_n hx hb dX12_row_71 rfl (lv_at hl 2 rfl) ?_
          refine lv_imul hx hb dX12_row_72 ?_
          rw [show (4 : Int32) * (nI j) = nI (4 * j) from nI_mul 4 j]
          refine lv_iadd hx hb dX12_row_73 ?_
          rw [show (40 : Int32) + (nI (4 * j)) = nI (40 + (4 * j)) from nI_add 40 (4 * j)]
          refine lv_iload_n hx hb dX12_row_74 rfl (lv_at hl 3 rfl) ?_
          refine lv_iadd hx hb dX12_row_75 ?_
          rw [show (nI (40 + (4 * j))) + (nI q) = nI ((40 + (4 * j)) + q) from nI_add (40 + (4 * j)) q]
          refine lv_iload_n hx hb dX12_row_76 rfl (lv_at hl 4 rfl) ?_
          refine r_iast (i := nI ((40 + (4 * j)) + q)) (x := n) X hM h47 (vp_in_nI (by omega) (by decide)) dX12_row_77 (fun H locs hM => ?_)
          rw [nI_clamp (show (40 + (4 * j)) + q < 2147483648 by omega)] at hM
          have hM : MW g (mup M (gA g 47) (aI g 929 (upd f ((40 + (4 * j)) + q) n))) H locs := hM
          refine lv_iload hx hb dX12_row_78 (lv_at hl 0 rfl) ?_
          have e9 : mRow f L (nI j) (nI q) n = (f ((40 + (4 * j)) + q), upd f ((40 + (4 * j)) + q) n) := by
            unfold mRow; (try simp only [hcj]); (try simp only [hcq]); (first | rw [if_pos c_1] | rw [if_neg c_1] | skip); (first | rw [if_pos c_2] | rw [if_neg c_2] | skip); (first | rw [if_pos c_3] | rw [if_neg c_3] | skip); (first | rw [if_pos c_4] | rw [if_neg c_4] | skip); all_goals first | rfl | (simp only [if_true])
          exact R_i X hr hk hM ⟨(by rw [e9]), (by rw [e9] <;> first | rfl | (dsimp only; done) | (dsimp only; simp only [mup_id h47]; done) | (simp only [mup_id h47]; done))⟩ dX12_row_80
        · skip
          refine lv_bipush (v := -3) hx hb dX12_row_46 (by decide) ?_
          have e9 : mRow f L (nI j) (nI q) n = (-3, f) := by
            unfold mRow; (try simp only [hcj]); (try simp only [hcq]); (first | rw [if_pos c_1] | rw [if_neg c_1] | skip); (first | rw [if_pos c_2] | rw [if_neg c_2] | skip); (first | rw [if_pos c_3] | rw [if_neg c_3] | skip); (first | rw [if_pos c_4] | rw [if_neg c_4] | skip); all_goals first | rfl | (simp only [if_true])
          exact R_i X hr hk hM ⟨(by rw [e9]), (by rw [e9] <;> first | rfl | (dsimp only; done) | (dsimp only; simp only [mup_id h47]; done) | (simp only [mup_id h47]; done) | (rw [mup_id h47]) | (dsimp only; rw [mup_id h47]))⟩ dX12_row_48
      · skip
        refine lv_bipush (v := -2) hx hb dX12_row_29 (by decide) ?_
        have e9 : mRow f L (nI j) (nI q) n = (-2, f) := by
          unfold mRow; (try simp only [hcj]); (try simp only [hcq]); (first | rw [if_pos c_1] | rw [if_neg c_1] | skip); (first | rw [if_pos c_2] | rw [if_neg c_2] | skip); (first | rw [if_pos c_3] | rw [if_neg c_3] | skip); all_goals first | rfl | (simp only [if_true])
        exact R_i X hr hk hM ⟨(by rw [e9]), (by rw [e9] <;> first | rfl | (dsimp only; done) | (dsimp only; simp only [mup_id h47]; done) | (simp only [mup_id h47]; done) | (rw [mup_id h47]) | (dsimp only; rw [mup_id h47]))⟩ dX12_row_31
    · skip
      refine lv_iconst (v := -1) hx hb dX12_row_17 (by decide) ?_
      have e9 : mRow f L (nI j) k n = (-1, f) := by
        unfold mRow; (try simp only [hcj]); (try simp only [hcq]); (first | rw [if_pos c_1] | rw [if_neg c_1] | skip); (first | rw [if_pos c_2] | rw [if_neg c_2] | skip); all_goals first | rfl | (simp only [if_true])
      exact R_i X hr hk hM ⟨(by rw [e9]), (by rw [e9] <;> first | rfl | (dsimp only; done) | (dsimp only; simp only [mup_id h47]; done) | (simp only [mup_id h47]; done) | (rw [mup_id h47]) | (dsimp only; rw [mup_id h47]))⟩ dX12_row_18
