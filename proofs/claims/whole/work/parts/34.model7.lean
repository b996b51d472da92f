theorem gloS_c {n : Nat} {nu x : Int32} {t : Tr} (h : Cn n t.1) : Cn (n + 2) (gloS nu x t).2.1 := h.s.w (by omega)
theorem gloN_c {k n : Nat} {nu x : Int32} {t : Tr} (h : Cn n t.1) : Cn (n + 2) (gloN k nu x t).2.1 := by
  unfold gloN
  split
  · exact h.s.s
  · exact h.s.s
  · exact h.s.s
  · exact gloS_c h
theorem claS_c {k n : Nat} {nu v x : Int32} {t : Tr} (h : Cn n t.1) : Cn (n + 3) (claS k nu v x t).2.1 := (gloN_c (n := n + 1) (t := tlN t 2) h.s).w (by omega)
theorem claN_c {k n : Nat} {nu v x : Int32} {t : Tr} (h : Cn n t.1) : Cn (n + 4) (claN k nu v x t).2.1 := by
  unfold claN
  split
  · exact (claS_c (v := v) (n := n + 1) (t := tlN t 21) h.s).w (by omega)
  · exact (claS_c (v := v) (n := n + 1) (t := tlN t 21) h.s).w (by omega)
  · exact (claS_c (v := v) (n := n + 1) (t := tlN t 61) h.s).w (by omega)
  all_goals exact (claS_c (v := v) h).w (by omega)
theorem telS_c {k n : Nat} {nu v x : Int32} {t : Tr} (h : Cn n t.1) : Cn (n + 5) (telS k nu v x t).2.1 := (claN_c (n := n + 1) (t := tlN t 3) h.s).w (by omega)

theorem lk_X12_220 : LkV RX12 220 yX12_ranBody cX12_ranBody 2 none 1 := lkV_of q_1172 q_1174 qs_44 q_7 q_1175 ⟨by decide, by decide, by decide +kernel⟩ (by decide)
theorem lk_X12_232 : LkV RX12 232 yX12_plainGlows cX12_plainGlows 2 (some .int) 1 := lkV_of q_1176 q_1178 qs_45 q_7 q_1179 ⟨by decide, by decide, by decide +kernel⟩ (by decide)
theorem lk_X12_235 : LkV RX12 235 yX12_glowsActs cX12_glowsActs 2 (some .int) 1 := lkV_of q_1165 q_1167 qs_43 q_7 q_1168 ⟨by decide, by decide, by decide +kernel⟩ (by decide)
theorem lk_X12_241 : LkV RX12 241 yX12_plainClaims cX12_plainClaims 2 (some .int) 1 := lkV_of q_1184 q_1186 qs_47 q_7 q_1187 ⟨by decide, by decide, by decide +kernel⟩ (by decide)
theorem lk_X12_244 : LkV RX12 244 yX12_claimsActs cX12_claimsActs 2 (some .int) 1 := lkV_of q_1180 q_1182 qs_46 q_7 q_1183 ⟨by decide, by decide, by decide +kernel⟩ (by decide)
theorem lk_X12_247 : LkV RX12 247 yX12_plainTelling cX12_plainTelling 2 (some .int) 1 := lkV_of q_1192 q_1194 qs_49 q_7 q_1195 ⟨by decide, by decide, by decide +kernel⟩ (by decide)
set_option maxHeartbeats 4000000 in
set_option maxRecDepth 100000 in
theorem c_X12_plainGlows (l : Launch) (g : Gp) (M : Mem) (m0 m1 m2 m3 m4 m5 m6 m7 m8 m10 m11 : Int32) (kd : Nat) (bo : Nat → Int32) (n : Nat) (x : Int32) (h46 : M (gA g 46) = some (mdE g m0 m1 m2 m3 m4 m5 m6 m7 m8 (nI kd) m10 m11)) (h54 : M (gA g 54) = some (aI g 20 bo)) (hC : Cn n m8) (hn : n ≤ 900) (hkd : kd ≤ 6) : Met l yX12_plainGlows (wsM yX12_plainGlows cX12_plainGlows 2 (some .int)) (rmD 2 0 0) (Pre g M [.ref (gA g 46), .int x]) (Qi g (fun r M1 => ((gloS m10 x (m8, bo)).1) = r ∧ mup (mup M (gA g 54) (aI g 20 ((gloS m10 x (m8, bo)).2.2))) (gA g 46) (mdE g m0 m1 m2 m3 m4 m5 m6 m7 ((gloS m10 x (m8, bo)).2.1) (nI kd) m10 m11) = M1)) 0 0 (gF g) := M_start (by decide +kernel) (Nat.le_of_ble_eq_true rfl) fun p e s m args below meth c ls X hr hk hnm hM hl => by
  have X : Cx g p m c cX12_plainGlows 2 s args RX12 := X
  have hx := X.1.1
  have hb := X.1.2.1
  have hl : lv_has ls 2 [(0, .ref (gA g 46)), (1, .int x)] := hl
  refine lv_aload_n hx hb dX12_plainGlows_0 rfl (lv_at hl 0 rfl) ?_
  refine lv_iconst (v := 1) hx hb dX12_plainGlows_1 (by decide) ?_
  refine K_v (G_V (As := [.int 1]) (rest := []) X hM (c_X12_ranBody l g _ m0 m1 m2 m3 m4 m5 m6 m7 m8 (nI kd) m10 m11 bo n 1 h46 h54 hC (by omega)) lk_X12_220 h46 rfl rfl hl.1 rfl (Nat.le_of_ble_eq_true rfl) (by decide) dX12_plainGlows_2 ⟨Nat.le_of_ble_eq_true rfl, Nat.le_of_ble_eq_true rfl⟩) hM (fun M1 H locs hM hp => ?_)
  subst hp
  have hM : MW g (mup (mup M (gA g 54) (aI g 20 ((tlN (m8, bo) 1).2))) (gA g 46) (mdE g m0 m1 m2 m3 m4 m5 m6 m7 (m8 + 1) (nI kd) m10 m11)) H locs := hM
  refine lv_iload_n hx hb dX12_plainGlows_5 rfl (lv_at hl 1 rfl) ?_
  refine lv_aload_n hx hb dX12_plainGlows_6 rfl (lv_at hl 0 rfl) ?_
  refine r_get (T := TX12) (N := 20) (ci := 12) (v := .int m10) X hM iX12 rfl 18 (by decide) q_853 (Or.inl rfl) (mup_s _ _ _) rfl dX12_plainGlows_7 ?_
  refine lv_iadd hx hb dX12_plainGlows_10 ?_
  exact R_i X hr hk hM ⟨rfl, rfl⟩ dX12_plainGlows_11
set_option maxHeartbeats 4000000 in
set_option maxRecDepth 100000 in
theorem c_X12_glowsActs (l : Launch) (g : Gp) (M : Mem) (m0 m1 m2 m3 m4 m5 m6 m7 m8 m10 m11 : Int32) (kd : Nat) (bo : Nat → Int32) (n : Nat) (x : Int32) (h46 : M (gA g 46) = some (mdE g m0 m1 m2 m3 m4 m5 m6 m7 m8 (nI kd) m10 m11)) (h54 : M (gA g 54) = some (aI g 20 bo)) (hC : Cn n m8) (hn : n ≤ 890) (hkd : kd ≤ 6) : Met l yX12_glowsActs (wsM yX12_glowsActs cX12_glowsActs 2 (some .int)) (rmD 3 0 0) (Pre g M [.ref (gA g 46), .int x]) (Qi g (fun r M1 => ((gloN kd m10 x (m8, bo)).1) = r ∧ mup (mup M (gA g 54) (aI g 20 ((gloN kd m10 x (m8, bo)).2.2))) (gA g 46) (mdE g m0 m1 m2 m3 m4 m5 m6 m7 ((gloN kd m10 x (m8, bo)).2.1) (nI kd) m10 m11) = M1)) 0 0 (gF g) := M_start (by decide +kernel) (Nat.le_of_ble_eq_true rfl) fun p e s m args below meth c ls X hr hk hnm hM hl => by
  have X : Cx g p m c cX12_glowsActs 2 s args RX12 := X
  have hx := X.1.1
  have hb := X.1.2.1
  have hl : lv_has ls 2 [(0, .ref (gA g 46)), (1, .int x)] := hl
  refine lv_aload_n hx hb dX12_glowsActs_0 rfl (lv_at hl 0 rfl) ?_
  refine r_get (T := TX12) (N := 20) (ci := 12) (v := .int (nI kd)) X hM iX12 rfl 17 (by decide) q_852 (Or.inl rfl) h46 rfl dX12_glowsActs_1 ?_
  refine lv_iconst (v := 1) hx hb dX12_glowsActs_4 (by decide) ?_
  refine K_i (G_S (As := [.int (nI kd), .int 1]) (rest := []) X hM (c_X12_isUnder l g _ (nI kd) 1  ) lk_X12_229 rfl hl.1 rfl (Nat.le_of_ble_eq_true rfl) (by decide) dX12_glowsActs_5 ⟨Nat.le_of_ble_eq_true rfl, Nat.le_of_ble_eq_true rfl⟩) hM (fun r M1 H locs hM hp => ?_)
  obtain ⟨rfl, rfl⟩ := hp
  refine lv_if_eq (tgt := 25) hx hb dX12_glowsActs_8 (by decide) (fun c_1 => ?_) (fun c_1 => ?_)
  · skip
    have hk1 : ¬ (kd = 1 ∨ kd = 4) := (und_k kd hkd).1.mp c_1
    refine lv_aload_n hx hb dX12_glowsActs_25 rfl (lv_at hl 0 rfl) ?_
    refine r_get (T := TX12) (N := 20) (ci := 12) (v := .int (nI kd)) X hM iX12 rfl 17 (by decide) q_852 (Or.inl rfl) h46 rfl dX12_glowsActs_26 ?_
    refine lv_iconst (v := 5) hx hb dX12_glowsActs_29 (by decide) ?_
    refine lv_icmp_ne (tgt := 50) hx hb dX12_glowsActs_30 (by decide) (fun c_2 => ?_) (fun c_2 => ?_)
    · skip
      have hk2 : ¬ kd = 5 := fun q => c_2 (by rw [q]; decide)
      refine lv_aload_n hx hb dX12_glowsActs_50 rfl (lv_at hl 0 rfl) ?_
      refine lv_iload_n hx hb dX12_glowsActs_51 rfl (lv_at hl 1 rfl) ?_
      refine K_i (G_V (As := [.int x]) (rest := []) X hM (c_X12_plainGlows l g _ m0 m1 m2 m3 m4 m5 m6 m7 m8 m10 m11 kd bo n x h46 h54 hC (by omega) hkd) lk_X12_232 h46 rfl rfl hl.1 rfl (Nat.le_of_ble_eq_true rfl) (by decide) dX12_glowsActs_52 ⟨Nat.le_of_ble_eq_true rfl, Nat.le_of_ble_eq_true rfl⟩) hM (fun r M1 H locs hM hp => ?_)
      obtain ⟨rfl, rfl⟩ := hp
      have hM : MW g (mup (mup M (gA g 54) (aI g 20 ((gloS m10 x (m8, bo)).2.2))) (gA g 46) (mdE g m0 m1 m2 m3 m4 m5 m6 m7 ((gloS m10 x (m8, bo)).2.1) (nI kd) m10 m11)) H locs := hM
      exact R_i X hr hk hM ⟨(by rcases (show kd = 0 ∨ kd = 2 ∨ kd = 3 ∨ kd = 6 by omega) with rfl | rfl | rfl | rfl <;> rfl), (by rcases (show kd = 0 ∨ kd = 2 ∨ kd = 3 ∨ kd = 6 by omega) with rfl | rfl | rfl | rfl <;> rfl)⟩ dX12_glowsActs_55
    · skip
      have hk2 : kd = 5 := (nI_eq (b := 5) (by omega) (by omega)).mp c_2
      refine lv_aload_n hx hb dX12_glowsActs_33 rfl (lv_at hl 0 rfl) ?_
      refine lv_bipush (v := 51) hx hb dX12_glowsActs_34 (by decide) ?_
      refine K_v (G_V (As := [.int 51]) (rest := []) X hM (c_X12_ranBody l g _ m0 m1 m2 m3 m4 m5 m6 m7 m8 (nI kd) m10 m11 bo n 51 h46 h54 hC (by omega)) lk_X12_220 h46 rfl rfl hl.1 rfl (Nat.le_of_ble_eq_true rfl) (by decide) dX12_glowsActs_36 ⟨Nat.le_of_ble_eq_true rfl, Nat.le_of_ble_eq_true rfl⟩) hM (fun M1 H locs hM hp => ?_)
      subst hp
      have hM : MW g (mup (mup M (gA g 54) (aI g 20 ((tlN (m8, bo) 51).2))) (gA g 46) (mdE g m0 m1 m2 m3 m4 m5 m6 m7 (m8 + 1) (nI kd) m10 m11)) H locs := hM
      refine lv_aload_n hx hb dX12_glowsActs_39 rfl (lv_at hl 0 rfl) ?_
      refine lv_iload_n hx hb dX12_glowsActs_40 rfl (lv_at hl 1 rfl) ?_
      refine K_i (G_V (As := [.int x]) (rest := []) X hM (c_X12_plainGlows l g _ m0 m1 m2 m3 m4 m5 m6 m7 (m8 + 1) m10 m11 kd ((tlN (m8, bo) 51).2) (n + 1) x (mup_s _ _ _) (mup_r (X.2.ne (i := 54) (j := 46) (by decide) (by decide) (by decide)) (mup_s _ _ _)) hC.s (by omega) hkd) lk_X12_232 (mup_s _ _ _) rfl rfl hl.1 rfl (Nat.le_of_ble_eq_true rfl) (by decide) dX12_glowsActs_41 ⟨Nat.le_of_ble_eq_true rfl, Nat.le_of_ble_eq_true rfl⟩) hM (fun r M1 H locs hM hp => ?_)
      obtain ⟨rfl, rfl⟩ := hp
      rw [mup_w _ _ _ (X.2.ne (i := 46) (j := 54) (by decide) (by decide) (by decide)), mup_i] at hM
      rw [mup_i] at hM
      have hM : MW g (mup (mup M (gA g 54) (aI g 20 ((gloS m10 x ((m8 + 1), ((tlN (m8, bo) 51).2))).2.2))) (gA g 46) (mdE g m0 m1 m2 m3 m4 m5 m6 m7 ((gloS m10 x ((m8 + 1), ((tlN (m8, bo) 51).2))).2.1) (nI kd) m10 m11)) H locs := hM
      refine lv_aload_n hx hb dX12_glowsActs_44 rfl (lv_at hl 0 rfl) ?_
      refine r_get (T := TX12) (N := 20) (ci := 12) (v := .int m10) X hM iX12 rfl 18 (by decide) q_853 (Or.inl rfl) (mup_s _ _ _) rfl dX12_glowsActs_45 ?_
      refine lv_ixor hx hb dX12_glowsActs_48 ?_
      exact R_i X hr hk hM ⟨(by subst hk2; rfl), (by subst hk2; rfl)⟩ dX12_glowsActs_49
  · skip
    have hk1 : kd = 1 ∨ kd = 4 := Classical.not_not.mp (fun q => c_1 ((und_k kd hkd).1.mpr q))
    refine lv_aload_n hx hb dX12_glowsActs_11 rfl (lv_at hl 0 rfl) ?_
    refine lv_bipush (v := 11) hx hb dX12_glowsActs_12 (by decide) ?_
    refine K_v (G_V (As := [.int 11]) (rest := []) X hM (c_X12_ranBody l g _ m0 m1 m2 m3 m4 m5 m6 m7 m8 (nI kd) m10 m11 bo n 11 h46 h54 hC (by omega)) lk_X12_220 h46 rfl rfl hl.1 rfl (Nat.le_of_ble_eq_true rfl) (by decide) dX12_glowsActs_14 ⟨Nat.le_of_ble_eq_true rfl, Nat.le_of_ble_eq_true rfl⟩) hM (fun M1 H locs hM hp => ?_)
    subst hp
    have hM : MW g (mup (mup M (gA g 54) (aI g 20 ((tlN (m8, bo) 11).2))) (gA g 46) (mdE g m0 m1 m2 m3 m4 m5 m6 m7 (m8 + 1) (nI kd) m10 m11)) H locs := hM
    refine lv_aload_n hx hb dX12_glowsActs_17 rfl (lv_at hl 0 rfl) ?_
    refine lv_iload_n hx hb dX12_glowsActs_18 rfl (lv_at hl 1 rfl) ?_
    refine lv_iconst (v := 3) hx hb dX12_glowsActs_19 (by decide) ?_
    refine lv_imul hx hb dX12_glowsActs_20 ?_
    refine K_i (G_V (As := [.int (x * 3)]) (rest := []) X hM (c_X12_plainGlows l g _ m0 m1 m2 m3 m4 m5 m6 m7 (m8 + 1) m10 m11 kd ((tlN (m8, bo) 11).2) (n + 1) (x * 3) (mup_s _ _ _) (mup_r (X.2.ne (i := 54) (j := 46) (by decide) (by decide) (by decide)) (mup_s _ _ _)) hC.s (by omega) hkd) lk_X12_232 (mup_s _ _ _) rfl rfl hl.1 rfl (Nat.le_of_ble_eq_true rfl) (by decide) dX12_glowsActs_21 ⟨Nat.le_of_ble_eq_true rfl, Nat.le_of_ble_eq_true rfl⟩) hM (fun r M1 H locs hM hp => ?_)
    obtain ⟨rfl, rfl⟩ := hp
    rw [mup_w _ _ _ (X.2.ne (i := 46) (j := 54) (by decide) (by decide) (by decide)), mup_i] at hM
    rw [mup_i] at hM
    have hM : MW g (mup (mup M (gA g 54) (aI g 20 ((gloS m10 (x * 3) ((m8 + 1), ((tlN (m8, bo) 11).2))).2.2))) (gA g 46) (mdE g m0 m1 m2 m3 m4 m5 m6 m7 ((gloS m10 (x * 3) ((m8 + 1), ((tlN (m8, bo) 11).2))).2.1) (nI kd) m10 m11)) H locs := hM
    exact R_i X hr hk hM ⟨(by rcases hk1 with rfl | rfl <;> rfl), (by rcases hk1 with rfl | rfl <;> rfl)⟩ dX12_glowsActs_24
set_option maxHeartbeats 4000000 in
set_option maxRecDepth 100000 in
theorem c_X12_plainClaims (l : Launch) (g : Gp) (M : Mem) (m0 m1 m2 m3 m4 m5 m6 m7 m8 m10 m11 : Int32) (kd : Nat) (bo : Nat → Int32) (n : Nat) (x : Int32) (h46 : M (gA g 46) = some (mdE g m0 m1 m2 m3 m4 m5 m6 m7 m8 (nI kd) m10 m11)) (h54 : M (gA g 54) = some (aI g 20 bo)) (hC : Cn n m8) (hn : n ≤ 880) (hkd : kd ≤ 6) : Met l yX12_plainClaims (wsM yX12_plainClaims cX12_plainClaims 2 (some .int)) (rmD 4 0 0) (Pre g M [.ref (gA g 46), .int x]) (Qi g (fun r M1 => ((claS kd m10 m11 x (m8, bo)).1) = r ∧ mup (mup M (gA g 54) (aI g 20 ((claS kd m10 m11 x (m8, bo)).2.2))) (gA g 46) (mdE g m0 m1 m2 m3 m4 m5 m6 m7 ((claS kd m10 m11 x (m8, bo)).2.1) (nI kd) m10 m11) = M1)) 0 0 (gF g) := M_start (by decide +kernel) (Nat.le_of_ble_eq_true rfl) fun p e s m args below meth c ls X hr hk hnm hM hl => by
  have X : Cx g p m c cX12_plainClaims 2 s args RX12 := X
  have hx := X.1.1
  have hb := X.1.2.1
  have hl : lv_has ls 2 [(0, .ref (gA g 46)), (1, .int x)] := hl
  refine lv_aload_n hx hb dX12_plainClaims_0 rfl (lv_at hl 0 rfl) ?_
  refine lv_iconst (v := 2) hx hb dX12_plainClaims_1 (by decide) ?_
  refine K_v (G_V (As := [.int 2]) (rest := []) X hM (c_X12_ranBody l g _ m0 m1 m2 m3 m4 m5 m6 m7 m8 (nI kd) m10 m11 bo n 2 h46 h54 hC (by omega)) lk_X12_220 h46 rfl rfl hl.1 rfl (Nat.le_of_ble_eq_true rfl) (by decide) dX12_plainClaims_2 ⟨Nat.le_of_ble_eq_true rfl, Nat.le_of_ble_eq_true rfl⟩) hM (fun M1 H locs hM hp => ?_)
  subst hp
  have hM : MW g (mup (mup M (gA g 54) (aI g 20 ((tlN (m8, bo) 2).2))) (gA g 46) (mdE g m0 m1 m2 m3 m4 m5 m6 m7 (m8 + 1) (nI kd) m10 m11)) H locs := hM
  refine lv_aload_n hx hb dX12_plainClaims_5 rfl (lv_at hl 0 rfl) ?_
  refine lv_iload_n hx hb dX12_plainClaims_6 rfl (lv_at hl 1 rfl) ?_
  refine K_i (G_V (As := [.int x]) (rest := []) X hM (c_X12_glowsActs l g _ m0 m1 m2 m3 m4 m5 m6 m7 (m8 + 1) m10 m11 kd ((tlN (m8, bo) 2).2) (n + 1) x (mup_s _ _ _) (mup_r (X.2.ne (i := 54) (j := 46) (by decide) (by decide) (by decide)) (mup_s _ _ _)) hC.s (by omega) hkd) lk_X12_235 (mup_s _ _ _) rfl rfl hl.1 rfl (Nat.le_of_ble_eq_true rfl) (by decide) dX12_plainClaims_7 ⟨Nat.le_of_ble_eq_true rfl, Nat.le_of_ble_eq_true rfl⟩) hM (fun r M1 H locs hM hp => ?_)
  obtain ⟨rfl, rfl⟩ := hp
  rw [mup_w _ _ _ (X.2.ne (i := 46) (j := 54) (by decide) (by decide) (by decide)), mup_i] at hM
  rw [mup_i] at hM
  have hM : MW g (mup (mup M (gA g 54) (aI g 20 ((gloN kd m10 x ((m8 + 1), ((tlN (m8, bo) 2).2))).2.2))) (gA g 46) (mdE g m0 m1 m2 m3 m4 m5 m6 m7 ((gloN kd m10 x ((m8 + 1), ((tlN (m8, bo) 2).2))).2.1) (nI kd) m10 m11)) H locs := hM
  refine lv_aload_n hx hb dX12_plainClaims_10 rfl (lv_at hl 0 rfl) ?_
  refine r_get (T := TX12) (N := 20) (ci := 12) (v := .int m11) X hM iX12 rfl 19 (by decide) q_854 (Or.inl rfl) (mup_s _ _ _) rfl dX12_plainClaims_11 ?_
  refine lv_isub hx hb dX12_plainClaims_14 ?_
  exact R_i X hr hk hM ⟨rfl, rfl⟩ dX12_plainClaims_15
set_option maxHeartbeats 4000000 in
set_option maxRecDepth 100000 in
theorem c_X12_claimsActs (l : Launch) (g : Gp) (M : Mem) (m0 m1 m2 m3 m4 m5 m6 m7 m8 m10 m11 : Int32) (kd : Nat) (bo : Nat → Int32) (n : Nat) (x : Int32) (h46 : M (gA g 46) = some (mdE g m0 m1 m2 m3 m4 m5 m6 m7 m8 (nI kd) m10 m11)) (h54 : M (gA g 54) = some (aI g 20 bo)) (hC : Cn n m8) (hn : n ≤ 870) (hkd : kd ≤ 6) : Met l yX12_claimsActs (wsM yX12_claimsActs cX12_claimsActs 2 (some .int)) (rmD 5 0 0) (Pre g M [.ref (gA g 46), .int x]) (Qi g (fun r M1 => ((claN kd m10 m11 x (m8, bo)).1) = r ∧ mup (mup M (gA g 54) (aI g 20 ((claN kd m10 m11 x (m8, bo)).2.2))) (gA g 46) (mdE g m0 m1 m2 m3 m4 m5 m6 m7 ((claN kd m10 m11 x (m8, bo)).2.1) (nI kd) m10 m11) = M1)) 0 0 (gF g) := M_start (by decide +kernel) (Nat.le_of_ble_eq_true rfl) fun p e s m args below meth c ls X hr hk hnm hM hl => by
  have X : Cx g p m c cX12_claimsActs 2 s args RX12 := X
  have hx := X.1.1
  have hb := X.1.2.1
  have hl : lv_has ls 2 [(0, .ref (gA g 46)), (1, .int x)] := hl
  refine lv_aload_n hx hb dX12_claimsActs_0 rfl (lv_at hl 0 rfl) ?_
  refine r_get (T := TX12) (N := 20) (ci := 12) (v := .int (nI kd)) X hM iX12 rfl 17 (by decide) q_852 (Or.inl rfl) h46 rfl dX12_claimsActs_1 ?_
  refine lv_iconst (v := 2) hx hb dX12_claimsActs_4 (by decide) ?_
  refine K_i (G_S (As := [.int (nI kd), .int 2]) (rest := []) X hM (c_X12_isUnder l g _ (nI kd) 2  ) lk_X12_229 rfl hl.1 rfl (Nat.le_of_ble_eq_true rfl) (by decide) dX12_claimsActs_5 ⟨Nat.le_of_ble_eq_true rfl, Nat.le_of_ble_eq_true rfl⟩) hM (fun r M1 H locs hM hp => ?_)
  obtain ⟨rfl, rfl⟩ := hp
  refine lv_if_eq (tgt := 24) hx hb dX12_claimsActs_8 (by decide) (fun c_1 => ?_) (fun c_1 => ?_)
  · skip
    have hk1 : ¬ (kd = 2 ∨ kd = 5) := (und_k kd hkd).2.1.mp c_1
    refine lv_aload_n hx hb dX12_claimsActs_24 rfl (lv_at hl 0 rfl) ?_
    refine r_get (T := TX12) (N := 20) (ci := 12) (v := .int (nI kd)) X hM iX12 rfl 17 (by decide) q_852 (Or.inl rfl) h46 rfl dX12_claimsActs_25 ?_
    refine lv_bipush (v := 6) hx hb dX12_claimsActs_28 (by decide) ?_
    refine lv_icmp_ne (tgt := 50) hx hb dX12_claimsActs_30 (by decide) (fun c_2 => ?_) (fun c_2 => ?_)
    · skip
      have hk2 : ¬ kd = 6 := fun q => c_2 (by rw [q]; decide)
      refine lv_aload_n hx hb dX12_claimsActs_50 rfl (lv_at hl 0 rfl) ?_
      refine lv_iload_n hx hb dX12_claimsActs_51 rfl (lv_at hl 1 rfl) ?_
      refine K_i (G_V (As := [.int x]) (rest := []) X hM (c_X12_plainClaims l g _ m0 m1 m2 m3 m4 m5 m6 m7 m8 m10 m11 kd bo n x h46 h54 hC (by omega) hkd) lk_X12_241 h46 rfl rfl hl.1 rfl (Nat.le_of_ble_eq_true rfl) (by decide) dX12_claimsActs_52 ⟨Nat.le_of_ble_eq_true rfl, Nat.le_of_ble_eq_true rfl⟩) hM (fun r M1 H locs hM hp => ?_)
      obtain ⟨rfl, rfl⟩ := hp
      have hM : MW g (mup (mup M (gA g 54) (aI g 20 ((claS kd m10 m11 x (m8, bo)).2.2))) (gA g 46) (mdE g m0 m1 m2 m3 m4 m5 m6 m7 ((claS kd m10 m11 x (m8, bo)).2.1) (nI kd) m10 m11)) H locs := hM
      exact R_i X hr hk hM ⟨(by rcases (show kd = 0 ∨ kd = 1 ∨ kd = 3 ∨ kd = 4 by omega) with rfl | rfl | rfl | rfl <;> rfl), (by rcases (show kd = 0 ∨ kd = 1 ∨ kd = 3 ∨ kd = 4 by omega) with rfl | rfl | rfl | rfl <;> rfl)⟩ dX12_claimsActs_55
    · skip
      have hk2 : kd = 6 := (nI_eq (b := 6) (by omega) (by omega)).mp c_2
      refine lv_aload_n hx hb dX12_claimsActs_33 rfl (lv_at hl 0 rfl) ?_
      refine lv_bipush (v := 61) hx hb dX12_claimsActs_34 (by decide) ?_
      refine K_v (G_V (As := [.int 61]) (rest := []) X hM (c_X12_ranBody l g _ m0 m1 m2 m3 m4 m5 m6 m7 m8 (nI kd) m10 m11 bo n 61 h46 h54 hC (by omega)) lk_X12_220 h46 rfl rfl hl.1 rfl (Nat.le_of_ble_eq_true rfl) (by decide) dX12_claimsActs_36 ⟨Nat.le_of_ble_eq_true rfl, Nat.le_of_ble_eq_true rfl⟩) hM (fun M1 H locs hM hp => ?_)
      subst hp
      have hM : MW g (mup (mup M (gA g 54) (aI g 20 ((tlN (m8, bo) 61).2))) (gA g 46) (mdE g m0 m1 m2 m3 m4 m5 m6 m7 (m8 + 1) (nI kd) m10 m11)) H locs := hM
      refine lv_aload_n hx hb dX12_claimsActs_39 rfl (lv_at hl 0 rfl) ?_
      refine lv_iload_n hx hb dX12_claimsActs_40 rfl (lv_at hl 1 rfl) ?_
      refine K_i (G_V (As := [.int x]) (rest := []) X hM (c_X12_plainClaims l g _ m0 m1 m2 m3 m4 m5 m6 m7 (m8 + 1) m10 m11 kd ((tlN (m8, bo) 61).2) (n + 1) x (mup_s _ _ _) (mup_r (X.2.ne (i := 54) (j := 46) (by decide) (by decide) (by decide)) (mup_s _ _ _)) hC.s (by omega) hkd) lk_X12_241 (mup_s _ _ _) rfl rfl hl.1 rfl (Nat.le_of_ble_eq_true rfl) (by decide) dX12_claimsActs_41 ⟨Nat.le_of_ble_eq_true rfl, Nat.le_of_ble_eq_true rfl⟩) hM (fun r M1 H locs hM hp => ?_)
      obtain ⟨rfl, rfl⟩ := hp
      rw [mup_w _ _ _ (X.2.ne (i := 46) (j := 54) (by decide) (by decide) (by decide)), mup_i] at hM
      rw [mup_i] at hM
      have hM : MW g (mup (mup M (gA g 54) (aI g 20 ((claS kd m10 m11 x ((m8 + 1), ((tlN (m8, bo) 61).2))).2.2))) (gA g 46) (mdE g m0 m1 m2 m3 m4 m5 m6 m7 ((claS kd m10 m11 x ((m8 + 1), ((tlN (m8, bo) 61).2))).2.1) (nI kd) m10 m11)) H locs := hM
      refine lv_aload_n hx hb dX12_claimsActs_44 rfl (lv_at hl 0 rfl) ?_
      refine r_get (T := TX12) (N := 20) (ci := 12) (v := .int m11) X hM iX12 rfl 19 (by decide) q_854 (Or.inl rfl) (mup_s _ _ _) rfl dX12_claimsActs_45 ?_
      refine lv_iadd hx hb dX12_claimsActs_48 ?_
      exact R_i X hr hk hM ⟨(by subst hk2; rfl), (by subst hk2; rfl)⟩ dX12_claimsActs_49
  · skip
    have hk1 : kd = 2 ∨ kd = 5 := Classical.not_not.mp (fun q => c_1 ((und_k kd hkd).2.1.mpr q))
    refine lv_aload_n hx hb dX12_claimsActs_11 rfl (lv_at hl 0 rfl) ?_
    refine lv_bipush (v := 21) hx hb dX12_claimsActs_12 (by decide) ?_
    refine K_v (G_V (As := [.int 21]) (rest := []) X hM (c_X12_ranBody l g _ m0 m1 m2 m3 m4 m5 m6 m7 m8 (nI kd) m10 m11 bo n 21 h46 h54 hC (by omega)) lk_X12_220 h46 rfl rfl hl.1 rfl (Nat.le_of_ble_eq_true rfl) (by decide) dX12_claimsActs_14 ⟨Nat.le_of_ble_eq_true rfl, Nat.le_of_ble_eq_true rfl⟩) hM (fun M1 H locs hM hp => ?_)
    subst hp
    have hM : MW g (mup (mup M (gA g 54) (aI g 20 ((tlN (m8, bo) 21).2))) (gA g 46) (mdE g m0 m1 m2 m3 m4 m5 m6 m7 (m8 + 1) (nI kd) m10 m11)) H locs := hM
    refine lv_aload_n hx hb dX12_claimsActs_17 rfl (lv_at hl 0 rfl) ?_
    refine lv_iload_n hx hb dX12_claimsActs_18 rfl (lv_at hl 1 rfl) ?_
    refine K_i (G_V (As := [.int x]) (rest := []) X hM (c_X12_plainClaims l g _ m0 m1 m2 m3 m4 m5 m6 m7 (m8 + 1) m10 m11 kd ((tlN (m8, bo) 21).2) (n + 1) x (mup_s _ _ _) (mup_r (X.2.ne (i := 54) (j := 46) (by decide) (by decide) (by decide)) (mup_s _ _ _)) hC.s (by omega) hkd) lk_X12_241 (mup_s _ _ _) rfl rfl hl.1 rfl (Nat.le_of_ble_eq_true rfl) (by decide) dX12_claimsActs_19 ⟨Nat.le_of_ble_eq_true rfl, Nat.le_of_ble_eq_true rfl⟩) hM (fun r M1 H locs hM hp => ?_)
    obtain ⟨rfl, rfl⟩ := hp
    rw [mup_w _ _ _ (X.2.ne (i := 46) (j := 54) (by decide) (by decide) (by decide)), mup_i] at hM
    rw [mup_i] at hM
    have hM : MW g (mup (mup M (gA g 54) (aI g 20 ((claS kd m10 m11 x ((m8 + 1), ((tlN (m8, bo) 21).2))).2.2))) (gA g 46) (mdE g m0 m1 m2 m3 m4 m5 m6 m7 ((claS kd m10 m11 x ((m8 + 1), ((tlN (m8, bo) 21).2))).2.1) (nI kd) m10 m11)) H locs := hM
    refine lv_ineg hx hb dX12_claimsActs_22 ?_
    exact R_i X hr hk hM ⟨(by rcases hk1 with rfl | rfl <;> rfl), (by rcases hk1 with rfl | rfl <;> rfl)⟩ dX12_claimsActs_23
set_option maxHeartbeats 4000000 in
set_option maxRecDepth 100000 in
theorem c_X12_plainTelling (l : Launch) (g : Gp) (M : Mem) (m0 m1 m2 m3 m4 m5 m6 m7 m8 m10 m11 : Int32) (kd : Nat) (bo : Nat → Int32) (n : Nat) (x : Int32) (h46 : M (gA g 46) = some (mdE g m0 m1 m2 m3 m4 m5 m6 m7 m8 (nI kd) m10 m11)) (h54 : M (gA g 54) = some (aI g 20 bo)) (hC : Cn n m8) (hn : n ≤ 860) (hkd : kd ≤ 6) : Met l yX12_plainTelling (wsM yX12_plainTelling cX12_plainTelling 2 (some .int)) (rmD 6 0 0) (Pre g M [.ref (gA g 46), .int x]) (Qi g (fun r M1 => ((telS kd m10 m11 x (m8, bo)).1) = r ∧ mup (mup M (gA g 54) (aI g 20 ((telS kd m10 m11 x (m8, bo)).2.2))) (gA g 46) (mdE g m0 m1 m2 m3 m4 m5 m6 m7 ((telS kd m10 m11 x (m8, bo)).2.1) (nI kd) m10 m11) = M1)) 0 0 (gF g) := M_start (by decide +kernel) (Nat.le_of_ble_eq_true rfl) fun p e s m args below meth c ls X hr hk hnm hM hl => by
  have X : Cx g p m c cX12_plainTelling 2 s args RX12 := X
  have hx := X.1.1
  have hb := X.1.2.1
  have hl : lv_has ls 2 [(0, .ref (gA g 46)), (1, .int x)] := hl
  refine lv_aload_n hx hb dX12_plainTelling_0 rfl (lv_at hl 0 rfl) ?_
  refine lv_iconst (v := 3) hx hb dX12_plainTelling_1 (by decide) ?_
  refine K_v (G_V (As := [.int 3]) (rest := []) X hM (c_X12_ranBody l g _ m0 m1 m2 m3 m4 m5 m6 m7 m8 (nI kd) m10 m11 bo n 3 h46 h54 hC (by omega)) lk_X12_220 h46 rfl rfl hl.1 rfl (Nat.le_of_ble_eq_true rfl) (by decide) dX12_plainTelling_2 ⟨Nat.le_of_ble_eq_true rfl, Nat.le_of_ble_eq_true rfl⟩) hM (fun M1 H locs hM hp => ?_)
  subst hp
  have hM : MW g (mup (mup M (gA g 54) (aI g 20 ((tlN (m8, bo) 3).2))) (gA g 46) (mdE g m0 m1 m2 m3 m4 m5 m6 m7 (m8 + 1) (nI kd) m10 m11)) H locs := hM
  refine lv_aload_n hx hb dX12_plainTelling_5 rfl (lv_at hl 0 rfl) ?_
  refine lv_iload_n hx hb dX12_plainTelling_6 rfl (lv_at hl 1 rfl) ?_
  refine K_i (G_V (As := [.int x]) (rest := []) X hM (c_X12_claimsActs l g _ m0 m1 m2 m3 m4 m5 m6 m7 (m8 + 1) m10 m11 kd ((tlN (m8, bo) 3).2) (n + 1) x (mup_s _ _ _) (mup_r (X.2.ne (i := 54) (j := 46) (by decide) (by decide) (by decide)) (mup_s _ _ _)) hC.s (by omega) hkd) lk_X12_244 (mup_s _ _ _) rfl rfl hl.1 rfl (Nat.le_of_ble_eq_true rfl) (by decide) dX12_plainTelling_7 ⟨Nat.le_of_ble_eq_true rfl, Nat.le_of_ble_eq_true rfl⟩) hM (fun r M1 H locs hM hp => ?_)
  obtain ⟨rfl, rfl⟩ := hp
  rw [mup_w _ _ _ (X.2.ne (i := 46) (j := 54) (by decide) (by decide) (by decide)), mup_i] at hM
  rw [mup_i] at hM
  have hM : MW g (mup (mup M (gA g 54) (aI g 20 ((claN kd m10 m11 x ((m8 + 1), ((tlN (m8, bo) 3).2))).2.2))) (gA g 46) (mdE g m0 m1 m2 m3 m4 m5 m6 m7 ((claN kd m10 m11 x ((m8 + 1), ((tlN (m8, bo) 3).2))).2.1) (nI kd) m10 m11)) H locs := hM
  refine lv_iconst (v := 2) hx hb dX12_plainTelling_10 (by decide) ?_
  refine lv_imul hx hb dX12_plainTelling_11 ?_
  exact R_i X hr hk hM ⟨rfl, rfl⟩ dX12_plainTelling_12
set_option maxHeartbeats 4000000 in
set_option maxRecDepth 100000 in
theorem c_X12_tellsActs (l : Launch) (g : Gp) (M : Mem) (m0 m1 m2 m3 m4 m5 m6 m7 m8 m10 m11 : Int32) (kd : Nat) (bo : Nat → Int32) (n : Nat) (x : Int32) (h46 : M (gA g 46) = some (mdE g m0 m1 m2 m3 m4 m5 m6 m7 m8 (nI kd) m10 m11)) (h54 : M (gA g 54) = some (aI g 20 bo)) (hC : Cn n m8) (hn : n ≤ 850) (hkd : kd ≤ 6) : Met l yX12_tellsActs (wsM yX12_tellsActs cX12_tellsActs 3 (some .int)) (rmD 7 0 0) (Pre g M [.ref (gA g 46), .int x]) (Qi g (fun r M1 => ((telN kd m10 m11 x (m8, bo)).1) = r ∧ mup (mup M (gA g 54) (aI g 20 ((telN kd m10 m11 x (m8, bo)).2.2))) (gA g 46) (mdE g m0 m1 m2 m3 m4 m5 m6 m7 ((telN kd m10 m11 x (m8, bo)).2.1) (nI kd) m10 m11) = M1)) 0 0 (gF g) := M_start (by decide +kernel) (Nat.le_of_ble_eq_true rfl) fun p e s m args below meth c ls X hr hk hnm hM hl => by
  have X : Cx g p m c cX12_tellsActs 3 s args RX12 := X
  have hx := X.1.1
  have hb := X.1.2.1
  have hl : lv_has ls 3 [(0, .ref (gA g 46)), (1, .int x)] := hl
  refine lv_aload_n hx hb dX12_tellsActs_0 rfl (lv_at hl 0 rfl) ?_
  refine r_get (T := TX12) (N := 20) (ci := 12) (v := .int (nI kd)) X hM iX12 rfl 17 (by decide) q_852 (Or.inl rfl) h46 rfl dX12_tellsActs_1 ?_
  refine lv_iconst (v := 3) hx hb dX12_tellsActs_4 (by decide) ?_
  refine K_i (G_S (As := [.int (nI kd), .int 3]) (rest := []) X hM (c_X12_isUnder l g _ (nI kd) 3  ) lk_X12_229 rfl hl.1 rfl (Nat.le_of_ble_eq_true rfl) (by decide) dX12_tellsActs_5 ⟨Nat.le_of_ble_eq_true rfl, Nat.le_of_ble_eq_true rfl⟩) hM (fun r M1 H locs hM hp => ?_)
  obtain ⟨rfl, rfl⟩ := hp
  refine lv_if_eq (tgt := 26) hx hb dX12_tellsActs_8 (by decide) (fun c_1 => ?_) (fun c_1 => ?_)
  · skip
    have hk1 : ¬ (kd = 3 ∨ kd = 6) := (und_k kd hkd).2.2.mp c_1
    refine lv_aload_n hx hb dX12_tellsActs_26 rfl (lv_at hl 0 rfl) ?_
    refine r_get (T := TX12) (N := 20) (ci := 12) (v := .int (nI kd)) X hM iX12 rfl 17 (by decide) q_852 (Or.inl rfl) h46 rfl dX12_tellsActs_27 ?_
    refine lv_iconst (v := 4) hx hb dX12_tellsActs_30 (by decide) ?_
    refine lv_icmp_ne (tgt := 56) hx hb dX12_tellsActs_31 (by decide) (fun c_2 => ?_) (fun c_2 => ?_)
    · skip
      have hk2 : ¬ kd = 4 := fun q => c_2 (by rw [q]; decide)
      refine lv_aload_n hx hb dX12_tellsActs_56 rfl (lv_at hl 0 rfl) ?_
      refine lv_iload_n hx hb dX12_tellsActs_57 rfl (lv_at hl 1 rfl) ?_
      refine K_i (G_V (As := [.int x]) (rest := []) X hM (c_X12_plainTelling l g _ m0 m1 m2 m3 m4 m5 m6 m7 m8 m10 m11 kd bo n x h46 h54 hC (by omega) hkd) lk_X12_247 h46 rfl rfl hl.1 rfl (Nat.le_of_ble_eq_true rfl) (by decide) dX12_tellsActs_58 ⟨Nat.le_of_ble_eq_true rfl, Nat.le_of_ble_eq_true rfl⟩) hM (fun r M1 H locs hM hp => ?_)
      obtain ⟨rfl, rfl⟩ := hp
      have hM : MW g (mup (mup M (gA g 54) (aI g 20 ((telS kd m10 m11 x (m8, bo)).2.2))) (gA g 46) (mdE g m0 m1 m2 m3 m4 m5 m6 m7 ((telS kd m10 m11 x (m8, bo)).2.1) (nI kd) m10 m11)) H locs := hM
      exact R_i X hr hk hM ⟨(by rcases (show kd = 0 ∨ kd = 1 ∨ kd = 2 ∨ kd = 5 by omega) with rfl | rfl | rfl | rfl <;> rfl), (by rcases (show kd = 0 ∨ kd = 1 ∨ kd = 2 ∨ kd = 5 by omega) with rfl | rfl | rfl | rfl <;> rfl)⟩ dX12_tellsActs_61
    · skip
      have hk2 : kd = 4 := (nI_eq (b := 4) (by omega) (by omega)).mp c_2
      refine lv_aload_n hx hb dX12_tellsActs_34 rfl (lv_at hl 0 rfl) ?_
      refine lv_bipush (v := 41) hx hb dX12_tellsActs_35 (by decide) ?_
      refine K_v (G_V (As := [.int 41]) (rest := []) X hM (c_X12_ranBody l g _ m0 m1 m2 m3 m4 m5 m6 m7 m8 (nI kd) m10 m11 bo n 41 h46 h54 hC (by omega)) lk_X12_220 h46 rfl rfl hl.1 rfl (Nat.le_of_ble_eq_true rfl) (by decide) dX12_tellsActs_37 ⟨Nat.le_of_ble_eq_true rfl, Nat.le_of_ble_eq_true rfl⟩) hM (fun M1 H locs hM hp => ?_)
      subst hp
      have hM : MW g (mup (mup M (gA g 54) (aI g 20 ((tlN (m8, bo) 41).2))) (gA g 46) (mdE g m0 m1 m2 m3 m4 m5 m6 m7 (m8 + 1) (nI kd) m10 m11)) H locs := hM
      refine lv_aload_n hx hb dX12_tellsActs_40 rfl (lv_at hl 0 rfl) ?_
      refine lv_iload_n hx hb dX12_tellsActs_41 rfl (lv_at hl 1 rfl) ?_
      refine lv_iconst (v := 1) hx hb dX12_tellsActs_42 (by decide) ?_
      refine lv_isub hx hb dX12_tellsActs_43 ?_
      refine K_i (G_V (As := [.int (x - 1)]) (rest := []) X hM (c_X12_plainTelling l g _ m0 m1 m2 m3 m4 m5 m6 m7 (m8 + 1) m10 m11 kd ((tlN (m8, bo) 41).2) (n + 1) (x - 1) (mup_s _ _ _) (mup_r (X.2.ne (i := 54) (j := 46) (by decide) (by decide) (by decide)) (mup_s _ _ _)) hC.s (by omega) hkd) lk_X12_247 (mup_s _ _ _) rfl rfl hl.1 rfl (Nat.le_of_ble_eq_true rfl) (by decide) dX12_tellsActs_44 ⟨Nat.le_of_ble_eq_true rfl, Nat.le_of_ble_eq_true rfl⟩) hM (fun r M1 H locs hM hp => ?_)
      obtain ⟨rfl, rfl⟩ := hp
      rw [mup_w _ _ _ (X.2.ne (i := 46) (j := 54) (by decide) (by decide) (by decide)), mup_i] at hM
      rw [mup_i] at hM
      have hM : MW g (mup (mup M (gA g 54) (aI g 20 ((telS kd m10 m11 (x - 1) ((m8 + 1), ((tlN (m8, bo) 41).2))).2.2))) (gA g 46) (mdE g m0 m1 m2 m3 m4 m5 m6 m7 ((telS kd m10 m11 (x - 1) ((m8 + 1), ((tlN (m8, bo) 41).2))).2.1) (nI kd) m10 m11)) H locs := hM
      refine lv_istore_n (lv' := [(2, .int ((telS kd m10 m11 (x - 1) ((m8 + 1), ((tlN (m8, bo) 41).2))).1)), (0, .ref (gA g 46)), (1, .int x)]) hx hb dX12_tellsActs_47 rfl hl (by decide) rfl (fun ls hl => ?_)
      refine lv_iload_n hx hb dX12_tellsActs_48 rfl (lv_at hl 0 rfl) ?_
      refine lv_aload_n hx hb dX12_tellsActs_49 rfl (lv_at hl 1 rfl) ?_
      refine lv_iconst (v := 2) hx hb dX12_tellsActs_50 (by decide) ?_
      refine K_i (G_V (As := [.int 2]) (rest := [.int ((telS kd m10 m11 (x - 1) ((m8 + 1), ((tlN (m8, bo) 41).2))).1)]) X hM (c_X12_glowsActs l g _ m0 m1 m2 m3 m4 m5 m6 m7 ((telS kd m10 m11 (x - 1) ((m8 + 1), ((tlN (m8, bo) 41).2))).2.1) m10 m11 kd ((telS kd m10 m11 (x - 1) ((m8 + 1), ((tlN (m8, bo) 41).2))).2.2) (n + 6) 2 (mup_s _ _ _) (mup_r (X.2.ne (i := 54) (j := 46) (by decide) (by decide) (by decide)) (mup_s _ _ _)) ((telS_c (n := n + 1) (t := (m8 + 1, _)) hC.s).w (by omega)) (by omega) hkd) lk_X12_235 (mup_s _ _ _) rfl rfl hl.1 rfl (Nat.le_of_ble_eq_true rfl) (by decide) dX12_tellsActs_51 ⟨Nat.le_of_ble_eq_true rfl, Nat.le_of_ble_eq_true rfl⟩) hM (fun r M1 H locs hM hp => ?_)
      obtain ⟨rfl, rfl⟩ := hp
      rw [mup_w _ _ _ (X.2.ne (i := 46) (j := 54) (by decide) (by decide) (by decide)), mup_i] at hM
      rw [mup_i] at hM
      have hM : MW g (mup (mup M (gA g 54) (aI g 20 ((gloN kd m10 2 (((telS kd m10 m11 (x - 1) ((m8 + 1), ((tlN (m8, bo) 41).2))).2.1), ((telS kd m10 m11 (x - 1) ((m8 + 1), ((tlN (m8, bo) 41).2))).2.2))).2.2))) (gA g 46) (mdE g m0 m1 m2 m3 m4 m5 m6 m7 ((gloN kd m10 2 (((telS kd m10 m11 (x - 1) ((m8 + 1), ((tlN (m8, bo) 41).2))).2.1), ((telS kd m10 m11 (x - 1) ((m8 + 1), ((tlN (m8, bo) 41).2))).2.2))).2.1) (nI kd) m10 m11)) H locs := hM
      refine lv_iadd hx hb dX12_tellsActs_54 ?_
      exact R_i X hr hk hM ⟨(by subst hk2; rfl), (by subst hk2; rfl)⟩ dX12_tellsActs_55
  · skip
    have hk1 : kd = 3 ∨ kd = 6 := Classical.not_not.mp (fun q => c_1 ((und_k kd hkd).2.2.mpr q))
    refine lv_aload_n hx hb dX12_tellsActs_11 rfl (lv_at hl 0 rfl) ?_
    refine lv_bipush (v := 31) hx hb dX12_tellsActs_12 (by decide) ?_
    refine K_v (G_V (As := [.int 31]) (rest := []) X hM (c_X12_ranBody l g _ m0 m1 m2 m3 m4 m5 m6 m7 m8 (nI kd) m10 m11 bo n 31 h46 h54 hC (by omega)) lk_X12_220 h46 rfl rfl hl.1 rfl (Nat.le_of_ble_eq_true rfl) (by decide) dX12_tellsActs_14 ⟨Nat.le_of_ble_eq_true rfl, Nat.le_of_ble_eq_true rfl⟩) hM (fun M1 H locs hM hp => ?_)
    subst hp
    have hM : MW g (mup (mup M (gA g 54) (aI g 20 ((tlN (m8, bo) 31).2))) (gA g 46) (mdE g m0 m1 m2 m3 m4 m5 m6 m7 (m8 + 1) (nI kd) m10 m11)) H locs := hM
    refine lv_aload_n hx hb dX12_tellsActs_17 rfl (lv_at hl 0 rfl) ?_
    refine lv_iload_n hx hb dX12_tellsActs_18 rfl (lv_at hl 1 rfl) ?_
    refine K_i (G_V (As := [.int x]) (rest := []) X hM (c_X12_plainTelling l g _ m0 m1 m2 m3 m4 m5 m6 m7 (m8 + 1) m10 m11 kd ((tlN (m8, bo) 31).2) (n + 1) x (mup_s _ _ _) (mup_r (X.2.ne (i := 54) (j := 46) (by decide) (by decide) (by decide)) (mup_s _ _ _)) hC.s (by omega) hkd) lk_X12_247 (mup_s _ _ _) rfl rfl hl.1 rfl (Nat.le_of_ble_eq_true rfl) (by decide) dX12_tellsActs_19 ⟨Nat.le_of_ble_eq_true rfl, Nat.le_of_ble_eq_true rfl⟩) hM (fun r M1 H locs hM hp => ?_)
    obtain ⟨rfl, rfl⟩ := hp
    rw [mup_w _ _ _ (X.2.ne (i := 46) (j := 54) (by decide) (by decide) (by decide)), mup_i] at hM
    rw [mup_i] at hM
    have hM : MW g (mup (mup M (gA g 54) (aI g 20 ((telS kd m10 m11 x ((m8 + 1), ((tlN (m8, bo) 31).2))).2.2))) (gA g 46) (mdE g m0 m1 m2 m3 m4 m5 m6 m7 ((telS kd m10 m11 x ((m8 + 1), ((tlN (m8, bo) 31).2))).2.1) (nI kd) m10 m11)) H locs := hM
    refine lv_bipush (v := 7) hx hb dX12_tellsActs_22 (by decide) ?_
    refine lv_ixor hx hb dX12_tellsActs_24 ?_
    exact R_i X hr hk hM ⟨(by rcases hk1 with rfl | rfl <;> rfl), (by rcases hk1 with rfl | rfl <;> rfl)⟩ dX12_tellsActs_25
