def mAct (f : Nat → Int32) (L : Nat) (kk : Nat → Nat) (bo : Nat → Int32) (x w y : Int32) : Int32 × Tr := if fIsL L x = 0 then (0, 0, bo) else if fIn w 0 2 = 0 then (0, 0, bo) else if w = 0 then gloN (kk x.toNatClampNeg) (nI x.toNatClampNeg) y (0, bo) else if w = 1 then claN (kk x.toNatClampNeg) (nI x.toNatClampNeg) (f (22 + x.toNatClampNeg)) y (0, bo) else telN (kk x.toNatClampNeg) (nI x.toNatClampNeg) (f (22 + x.toNatClampNeg)) y (0, bo)
def mActF (f : Nat → Int32) (L : Nat) (kk : Nat → Nat) (y1 y2 y3 : Int32) (x w : Int32) : Int32 × Int32 × Int32 := if fIsL L x = 0 then (y1, y2, y3) else if fIn w 0 2 = 0 then (y1, y2, y3) else (nI (kk x.toNatClampNeg), nI x.toNatClampNeg, f (22 + x.toNatClampNeg))
def mTrace (bo : Nat → Int32) (r x : Int32) : Int32 := if fIn x 0 ((if (20 : Int32) ≤ r then 20 else r) - 1) = 0 then -1 else bo x.toNatClampNeg
theorem Cn.trace {n : Nat} {r x : Int32} (h : Cn n r) (hn : n < 1000) (hx : ¬ fIn x 0 ((if (20 : Int32) ≤ r then 20 else r) - 1) = 0) : vp_in x 20 := by
  obtain ⟨q, hq, rfl⟩ := h
  have hlt : (nI q).toInt = q := by
    show (Int32.ofNat q).toInt = q
    rw [Int32.toInt_ofNat_of_lt (by omega)]
  have key : ∃ z : Nat, z ≤ 20 ∧ ((if (20 : Int32) ≤ nI q then 20 else nI q) - 1).toInt = (z : Int) - 1 := by
    by_cases k : q < 20
    · rw [if_neg (show ¬ (20 : Int32) ≤ nI q from nI_ge (b := 20) k (by omega))]
      exact ⟨q, by omega, (show ∀ q : Nat, q < 20 → (nI q - 1).toInt = (q : Int) - 1 by decide) q k⟩
    · rw [if_pos (show (20 : Int32) ≤ nI q from nI_le (a := 20) (by omega) (by omega))]
      exact ⟨20, by omega, by decide⟩
  obtain ⟨z, hz, e⟩ := key
  unfold fIn at hx
  by_cases h0 : x < 0
  · rw [if_pos h0] at hx; exact absurd rfl hx
  · rw [if_neg h0] at hx
    by_cases h1 : ((if (20 : Int32) ≤ nI q then 20 else nI q) - 1) < x
    · rw [if_pos h1] at hx; exact absurd rfl hx
    · obtain ⟨j, hj, rfl⟩ := nI_of h0
      refine vp_in_nI ?_ (by decide)
      have h2 : ¬ ((if (20 : Int32) ≤ nI q then 20 else nI q) - 1).toInt < (nI j).toInt := fun w => h1 (Int32.lt_iff_toInt_lt.mpr w)
      have h3 : (nI j).toInt = j := by
        show (Int32.ofNat j).toInt = j
        rw [Int32.toInt_ofNat_of_lt (by omega)]
      omega

theorem lk_X12_250 : LkV RX12 250 yX12_tellsActs cX12_tellsActs 3 (some .int) 1 := lkV_of q_1188 q_1190 qs_48 q_7 q_1191 ⟨by decide, by decide, by decide +kernel⟩ (by decide)
set_option maxHeartbeats 4000000 in
set_option maxRecDepth 100000 in
theorem c_X12_act (l : Launch) (g : Gp) (M : Mem) (m0 m1 m2 m3 m4 m5 m6 m7 m8 m9 m10 m11 : Int32) (f : Nat → Int32) (L : Nat) (kk : Nat → Nat) (bo : Nat → Int32) (x w y : Int32) (h46 : M (gA g 46) = some (mdE g m0 m1 m2 m3 m4 m5 m6 m7 m8 m9 m10 m11)) (h47 : M (gA g 47) = some (aI g 929 f)) (h54 : M (gA g 54) = some (aI g 20 bo)) (h9 : f 9 = nI L) (hL : L ≤ 6) (hkd : ∀ j, j < L → f (16 + j) = nI (kk j) ∧ kk j ≤ 6) : Met l yX12_act (wsM yX12_act cX12_act 4 (some .int)) (rmD 8 0 0) (Pre g M [.ref (gA g 46), .int x, .int w, .int y]) (Qi g (fun r M1 => ((mAct f L kk bo x w y).1) = r ∧ mup (mup M (gA g 46) (mdE g m0 m1 m2 m3 m4 m5 m6 m7 ((mAct f L kk bo x w y).2.1) ((mActF f L kk m9 m10 m11 x w).1) ((mActF f L kk m9 m10 m11 x w).2.1) ((mActF f L kk m9 m10 m11 x w).2.2))) (gA g 54) (aI g 20 ((mAct f L kk bo x w y).2.2)) = M1)) 0 0 (gF g) := M_start (by decide +kernel) (Nat.le_of_ble_eq_true rfl) fun p e s m args below meth c ls X hr hk hnm hM hl => by
  have X : Cx g p m c cX12_act 4 s args RX12 := X
  have hx := X.1.1
  have hb := X.1.2.1
  have hl : lv_has ls 4 [(0, .ref (gA g 46)), (1, .int x), (2, .int w), (3, .int y)] := hl
  refine lv_aload_n hx hb dX12_act_0 rfl (lv_at hl 0 rfl) ?_
  refine lv_iconst (v := 0) hx hb dX12_act_1 (by decide) ?_
  refine r_put (T := TX12) (N := 20) (ci := 12) X hM iX12 tyX12 tyX12_ok nmX12 rfl 16 (by decide) q_851 rfl (Or.inl rfl) h46 rfl rfl (Nat.le_of_ble_eq_true rfl) dX12_act_2 (fun H locs hM => ?_)
  have hM : MW g (mup M (gA g 46) (mdE g m0 m1 m2 m3 m4 m5 m6 m7 0 m9 m10 m11)) H locs := hM
  refine lv_aload_n hx hb dX12_act_5 rfl (lv_at hl 0 rfl) ?_
  refine lv_iload_n hx hb dX12_act_6 rfl (lv_at hl 1 rfl) ?_
  refine K_i (G_V (As := [.int x]) (rest := []) X hM (c_X12_isLightL l g _ m0 m1 m2 m3 m4 m5 m6 m7 0 m9 m10 m11 f L x (mup_s _ _ _) (mup_r (X.2.ne (i := 47) (j := 46) (by decide) (by decide) (by decide)) h47) h9 hL) lk_X12_148 (mup_s _ _ _) rfl rfl hl.1 rfl (Nat.le_of_ble_eq_true rfl) (by decide) dX12_act_7 ⟨Nat.le_of_ble_eq_true rfl, Nat.le_of_ble_eq_true rfl⟩) hM (fun r M1 H locs hM hp => ?_)
  obtain ⟨rfl, rfl⟩ := hp
  refine lv_if_eq (tgt := 22) hx hb dX12_act_10 (by decide) (fun c_1 => ?_) (fun c_1 => ?_)
  · skip
    refine lv_iconst (v := 0) hx hb dX12_act_22 (by decide) ?_
    have e9 : mAct f L kk bo x w y = (0, 0, bo) := by unfold mAct; (try simp only [hcj]); (first | rw [if_pos c_1] | rw [if_neg c_1] | skip); all_goals rfl
    have e8 : mActF f L kk m9 m10 m11 x w = (m9, m10, m11) := by unfold mActF; (try simp only [hcj]); (first | rw [if_pos c_1] | rw [if_neg c_1] | skip); all_goals rfl
    exact R_i X hr hk hM ⟨(by rw [e9]), (by rw [e9, e8, mup_id (mup_r (X.2.ne (i := 54) (j := 46) (by decide) (by decide) (by decide)) h54)])⟩ dX12_act_23
  · skip
    obtain ⟨j, hj, rfl⟩ := fIsL_k hL c_1
    have hcj : (nI j).toNatClampNeg = j := nI_clamp (by omega)
    refine lv_iload_n hx hb dX12_act_13 rfl (lv_at hl 2 rfl) ?_
    refine lv_iconst (v := 0) hx hb dX12_act_14 (by decide) ?_
    refine lv_iconst (v := 2) hx hb dX12_act_15 (by decide) ?_
    refine K_i (G_S (As := [.int w, .int 0, .int 2]) (rest := []) X hM (c_X12_in l g _ w 0 2  ) lk_X12_41 rfl hl.1 rfl (Nat.le_of_ble_eq_true rfl) (by decide) dX12_act_16 ⟨Nat.le_of_ble_eq_true rfl, Nat.le_of_ble_eq_true rfl⟩) hM (fun r M1 H locs hM hp => ?_)
    obtain ⟨rfl, rfl⟩ := hp
    refine lv_if_ne (tgt := 24) hx hb dX12_act_19 (by decide) (fun c_2 => ?_) (fun c_2 => ?_)
    · skip
      refine lv_aload_n hx hb dX12_act_24 rfl (lv_at hl 0 rfl) ?_
      refine lv_aload_n hx hb dX12_act_25 rfl (lv_at hl 0 rfl) ?_
      refine r_get (T := TX12) (N := 20) (ci := 12) (v := .ref (gA g 47)) X hM iX12 rfl 1 (by decide) q_836 (Or.inl rfl) (mup_s _ _ _) rfl dX12_act_26 ?_
      refine lv_bipush (v := 16) hx hb dX12_act_29 (by decide) ?_
      refine lv_iload_n hx hb dX12_act_31 rfl (lv_at hl 1 rfl) ?_
      refine lv_iadd hx hb dX12_act_32 ?_
      rw [show (16 : Int32) + (nI j) = nI (16 + j) from nI_add 16 j]
      refine r_iald (i := nI (16 + j)) X hM (mup_r (X.2.ne (i := 47) (j := 46) (by decide) (by decide) (by decide)) h47) (vp_in_nI (by omega) (by decide)) dX12_act_33 ?_
      rw [nI_clamp (show 16 + j < 2147483648 by omega)]
      rw [(hkd j hj).1]
      refine r_put (T := TX12) (N := 20) (ci := 12) X hM iX12 tyX12 tyX12_ok nmX12 rfl 17 (by decide) q_852 rfl (Or.inl rfl) (mup_s _ _ _) rfl rfl (Nat.le_of_ble_eq_true rfl) dX12_act_34 (fun H locs hM => ?_)
      rw [mup_i] at hM
      have hM : MW g (mup M (gA g 46) (mdE g m0 m1 m2 m3 m4 m5 m6 m7 0 (nI (kk j)) m10 m11)) H locs := hM
      refine lv_aload_n hx hb dX12_act_37 rfl (lv_at hl 0 rfl) ?_
      refine lv_iload_n hx hb dX12_act_38 rfl (lv_at hl 1 rfl) ?_
      refine r_put (T := TX12) (N := 20) (ci := 12) X hM iX12 tyX12 tyX12_ok nmX12 rfl 18 (by decide) q_853 rfl (Or.inl rfl) (mup_s _ _ _) rfl rfl (Nat.le_of_ble_eq_true rfl) dX12_act_39 (fun H locs hM => ?_)
      rw [mup_i] at hM
      have hM : MW g (mup M (gA g 46) (mdE g m0 m1 m2 m3 m4 m5 m6 m7 0 (nI (kk j)) (nI j) m11)) H locs := hM
      refine lv_aload_n hx hb dX12_act_42 rfl (lv_at hl 0 rfl) ?_
      refine lv_aload_n hx hb dX12_act_43 rfl (lv_at hl 0 rfl) ?_
      refine r_get (T := TX12) (N := 20) (ci := 12) (v := .ref (gA g 47)) X hM iX12 rfl 1 (by decide) q_836 (Or.inl rfl) (mup_s _ _ _) rfl dX12_act_44 ?_
      refine lv_bipush (v := 22) hx hb dX12_act_47 (by decide) ?_
      refine lv_iload_n hx hb dX12_act_49 rfl (lv_at hl 1 rfl) ?_
      refine lv_iadd hx hb dX12_act_50 ?_
      rw [show (22 : Int32) + (nI j) = nI (22 + j) from nI_add 22 j]
      refine r_iald (i := nI (22 + j)) X hM (mup_r (X.2.ne (i := 47) (j := 46) (by decide) (by decide) (by decide)) h47) (vp_in_nI (by omega) (by decide)) dX12_act_51 ?_
      rw [nI_clamp (show 22 + j < 2147483648 by omega)]
      refine r_put (T := TX12) (N := 20) (ci := 12) X hM iX12 tyX12 tyX12_ok nmX12 rfl 19 (by decide) q_854 rfl (Or.inl rfl) (mup_s _ _ _) rfl rfl (Nat.le_of_ble_eq_true rfl) dX12_act_52 (fun H locs hM => ?_)
      rw [mup_i] at hM
      have hM : MW g (mup M (gA g 46) (mdE g m0 m1 m2 m3 m4 m5 m6 m7 0 (nI (kk j)) (nI j) (f (22 + j)))) H locs := hM
      refine lv_iload_n hx hb dX12_act_55 rfl (lv_at hl 2 rfl) ?_
      refine lv_if_ne (tgt := 67) hx hb dX12_act_56 (by decide) (fun c_3 => ?_) (fun c_3 => ?_)
      · skip
        refine lv_iload_n hx hb dX12_act_67 rfl (lv_at hl 2 rfl) ?_
        refine lv_iconst (v := 1) hx hb dX12_act_68 (by decide) ?_
        refine lv_icmp_ne (tgt := 80) hx hb dX12_act_69 (by decide) (fun c_4 => ?_) (fun c_4 => ?_)
        · skip
          refine lv_aload_n hx hb dX12_act_80 rfl (lv_at hl 0 rfl) ?_
          refine lv_iload_n hx hb dX12_act_81 rfl (lv_at hl 3 rfl) ?_
          refine K_i (G_V (As := [.int y]) (rest := []) X hM (c_X12_tellsActs l g _ m0 m1 m2 m3 m4 m5 m6 m7 0 (nI j) (f (22 + j)) (kk j) bo 0 y (mup_s _ _ _) (mup_r (X.2.ne (i := 54) (j := 46) (by decide) (by decide) (by decide)) h54) ⟨0, Nat.le_refl 0, rfl⟩ (by omega) (hkd j hj).2) lk_X12_250 (mup_s _ _ _) rfl rfl hl.1 rfl (Nat.le_of_ble_eq_true rfl) (by decide) dX12_act_82 ⟨Nat.le_of_ble_eq_true rfl, Nat.le_of_ble_eq_true rfl⟩) hM (fun r M1 H locs hM hp => ?_)
          obtain ⟨rfl, rfl⟩ := hp
          rw [mup_w _ _ _ (X.2.ne (i := 54) (j := 46) (by decide) (by decide) (by decide)), mup_i] at hM
          have hM : MW g (mup (mup M (gA g 46) (mdE g m0 m1 m2 m3 m4 m5 m6 m7 ((telN (kk j) (nI j) (f (22 + j)) y (0, bo)).2.1) (nI (kk j)) (nI j) (f (22 + j)))) (gA g 54) (aI g 20 ((telN (kk j) (nI j) (f (22 + j)) y (0, bo)).2.2))) H locs := hM
          have e9 : mAct f L kk bo (nI j) w y = ((telN (kk j) (nI j) (f (22 + j)) y (0, bo)).1, (telN (kk j) (nI j) (f (22 + j)) y (0, bo)).2.1, (telN (kk j) (nI j) (f (22 + j)) y (0, bo)).2.2) := by unfold mAct; (try simp only [hcj]); (first | rw [if_pos c_1] | rw [if_neg c_1] | skip); (first | rw [if_pos c_2] | rw [if_neg c_2] | skip); (first | rw [if_pos c_3] | rw [if_neg c_3] | skip); (first | rw [if_pos c_4] | rw [if_neg c_4] | skip); all_goals rfl
          have e8 : mActF f L kk m9 m10 m11 (nI j) w = (nI (kk j), nI j, f (22 + j)) := by unfold mActF; (try simp only [hcj]); (first | rw [if_pos c_1] | rw [if_neg c_1] | skip); (first | rw [if_pos c_2] | rw [if_neg c_2] | skip); (first | rw [if_pos c_3] | rw [if_neg c_3] | skip); (first | rw [if_pos c_4] | rw [if_neg c_4] | skip); all_goals rfl
          exact R_i X hr hk hM ⟨(by rw [e9]), (by rw [e9, e8])⟩ dX12_act_85
        · skip
          refine lv_aload_n hx hb dX12_act_72 rfl (lv_at hl 0 rfl) ?_
          refine lv_iload_n hx hb dX12_act_73 rfl (lv_at hl 3 rfl) ?_
          refine K_i (G_V (As := [.int y]) (rest := []) X hM (c_X12_claimsActs l g _ m0 m1 m2 m3 m4 m5 m6 m7 0 (nI j) (f (22 + j)) (kk j) bo 0 y (mup_s _ _ _) (mup_r (X.2.ne (i := 54) (j := 46) (by decide) (by decide) (by decide)) h54) ⟨0, Nat.le_refl 0, rfl⟩ (by omega) (hkd j hj).2) lk_X12_244 (mup_s _ _ _) rfl rfl hl.1 rfl (Nat.le_of_ble_eq_true rfl) (by decide) dX12_act_74 ⟨Nat.le_of_ble_eq_true rfl, Nat.le_of_ble_eq_true rfl⟩) hM (fun r M1 H locs hM hp => ?_)
          obtain ⟨rfl, rfl⟩ := hp
          rw [mup_w _ _ _ (X.2.ne (i := 54) (j := 46) (by decide) (by decide) (by decide)), mup_i] at hM
          have hM : MW g (mup (mup M (gA g 46) (mdE g m0 m1 m2 m3 m4 m5 m6 m7 ((claN (kk j) (nI j) (f (22 + j)) y (0, bo)).2.1) (nI (kk j)) (nI j) (f (22 + j)))) (gA g 54) (aI g 20 ((claN (kk j) (nI j) (f (22 + j)) y (0, bo)).2.2))) H locs := hM
          refine lv_goto (tgt := 85) hx hb dX12_act_77 (by decide) ?_
          have e9 : mAct f L kk bo (nI j) w y = ((claN (kk j) (nI j) (f (22 + j)) y (0, bo)).1, (claN (kk j) (nI j) (f (22 + j)) y (0, bo)).2.1, (claN (kk j) (nI j) (f (22 + j)) y (0, bo)).2.2) := by unfold mAct; (try simp only [hcj]); (first | rw [if_pos c_1] | rw [if_neg c_1] | skip); (first | rw [if_pos c_2] | rw [if_neg c_2] | skip); (first | rw [if_pos c_3] | rw [if_neg c_3] | skip); (first | rw [if_pos c_4] | rw [if_neg c_4] | skip); all_goals rfl
          have e8 : mActF f L kk m9 m10 m11 (nI j) w = (nI (kk j), nI j, f (22 + j)) := by unfold mActF; (try simp only [hcj]); (first | rw [if_pos c_1] | rw [if_neg c_1] | skip); (first | rw [if_pos c_2] | rw [if_neg c_2] | skip); (first | rw [if_pos c_3] | rw [if_neg c_3] | skip); (first | rw [if_pos c_4] | rw [if_neg c_4] | skip); all_goals rfl
          exact R_i X hr hk hM ⟨(by rw [e9]), (by rw [e9, e8])⟩ dX12_act_85
      · skip
        refine lv_aload_n hx hb dX12_act_59 rfl (lv_at hl 0 rfl) ?_
        refine lv_iload_n hx hb dX12_act_60 rfl (lv_at hl 3 rfl) ?_
        refine K_i (G_V (As := [.int y]) (rest := []) X hM (c_X12_glowsActs l g _ m0 m1 m2 m3 m4 m5 m6 m7 0 (nI j) (f (22 + j)) (kk j) bo 0 y (mup_s _ _ _) (mup_r (X.2.ne (i := 54) (j := 46) (by decide) (by decide) (by decide)) h54) ⟨0, Nat.le_refl 0, rfl⟩ (by omega) (hkd j hj).2) lk_X12_235 (mup_s _ _ _) rfl rfl hl.1 rfl (Nat.le_of_ble_eq_true rfl) (by decide) dX12_act_61 ⟨Nat.le_of_ble_eq_true rfl, Nat.le_of_ble_eq_true rfl⟩) hM (fun r M1 H locs hM hp => ?_)
        obtain ⟨rfl, rfl⟩ := hp
        rw [mup_w _ _ _ (X.2.ne (i := 54) (j := 46) (by decide) (by decide) (by decide)), mup_i] at hM
        have hM : MW g (mup (mup M (gA g 46) (mdE g m0 m1 m2 m3 m4 m5 m6 m7 ((gloN (kk j) (nI j) y (0, bo)).2.1) (nI (kk j)) (nI j) (f (22 + j)))) (gA g 54) (aI g 20 ((gloN (kk j) (nI j) y (0, bo)).2.2))) H locs := hM
        refine lv_goto (tgt := 85) hx hb dX12_act_64 (by decide) ?_
        have e9 : mAct f L kk bo (nI j) w y = ((gloN (kk j) (nI j) y (0, bo)).1, (gloN (kk j) (nI j) y (0, bo)).2.1, (gloN (kk j) (nI j) y (0, bo)).2.2) := by unfold mAct; (try simp only [hcj]); (first | rw [if_pos c_1] | rw [if_neg c_1] | skip); (first | rw [if_pos c_2] | rw [if_neg c_2] | skip); (first | rw [if_pos c_3] | rw [if_neg c_3] | skip); all_goals rfl
        have e8 : mActF f L kk m9 m10 m11 (nI j) w = (nI (kk j), nI j, f (22 + j)) := by unfold mActF; (try simp only [hcj]); (first | rw [if_pos c_1] | rw [if_neg c_1] | skip); (first | rw [if_pos c_2] | rw [if_neg c_2] | skip); (first | rw [if_pos c_3] | rw [if_neg c_3] | skip); all_goals rfl
        exact R_i X hr hk hM ⟨(by rw [e9]), (by rw [e9, e8])⟩ dX12_act_85
    · skip
      refine lv_iconst (v := 0) hx hb dX12_act_22 (by decide) ?_
      have e9 : mAct f L kk bo (nI j) w y = (0, 0, bo) := by unfold mAct; (try simp only [hcj]); (first | rw [if_pos c_1] | rw [if_neg c_1] | skip); (first | rw [if_pos c_2] | rw [if_neg c_2] | skip); all_goals rfl
      have e8 : mActF f L kk m9 m10 m11 (nI j) w = (m9, m10, m11) := by unfold mActF; (try simp only [hcj]); (first | rw [if_pos c_1] | rw [if_neg c_1] | skip); (first | rw [if_pos c_2] | rw [if_neg c_2] | skip); all_goals rfl
      exact R_i X hr hk hM ⟨(by rw [e9]), (by rw [e9, e8, mup_id (mup_r (X.2.ne (i := 54) (j := 46) (by decide) (by decide) (by decide)) h54)])⟩ dX12_act_23
set_option maxHeartbeats 4000000 in
set_option maxRecDepth 100000 in
theorem c_X12_trace (l : Launch) (g : Gp) (M : Mem) (m0 m1 m2 m3 m4 m5 m6 m7 m8 m9 m10 m11 : Int32) (bo : Nat → Int32) (n : Nat) (x : Int32) (h46 : M (gA g 46) = some (mdE g m0 m1 m2 m3 m4 m5 m6 m7 m8 m9 m10 m11)) (h54 : M (gA g 54) = some (aI g 20 bo)) (hC : Cn n m8) (hn : n ≤ 900) : Met l yX12_trace (wsM yX12_trace cX12_trace 2 (some .int)) (rmD 2 0 0) (Pre g M [.ref (gA g 46), .int x]) (Qi g (fun r M1 => (mTrace bo m8 x) = r ∧ M = M1)) 0 0 (gF g) := M_start (by decide +kernel) (Nat.le_of_ble_eq_true rfl) fun p e s m args below meth c ls X hr hk hnm hM hl => by
  have X : Cx g p m c cX12_trace 2 s args RX12 := X
  have hx := X.1.1
  have hb := X.1.2.1
  have hl : lv_has ls 2 [(0, .ref (gA g 46)), (1, .int x)] := hl
  refine lv_iload_n hx hb dX12_trace_0 rfl (lv_at hl 1 rfl) ?_
  refine lv_iconst (v := 0) hx hb dX12_trace_1 (by decide) ?_
  refine lv_aload_n hx hb dX12_trace_2 rfl (lv_at hl 0 rfl) ?_
  refine r_get (T := TX12) (N := 20) (ci := 12) (v := .int m8) X hM iX12 rfl 16 (by decide) q_851 (Or.inl rfl) h46 rfl dX12_trace_3 ?_
  refine lv_bipush (v := 20) hx hb dX12_trace_6 (by decide) ?_
  refine l_joinM (ls := ls) hM 20 (if (20 : Int32) ≤ m8 then 20 else m8) [.int 0, .int x] (fun H locs hM => ?_) (fun J8 => ?_)
  · skip
    refine lv_iconst (v := 1) hx hb dX12_trace_20 (by decide) ?_
    refine lv_isub hx hb dX12_trace_21 ?_
    refine K_i (G_S (As := [.int x, .int 0, .int ((if (20 : Int32) ≤ m8 then 20 else m8) - 1)]) (rest := []) X hM (c_X12_in l g _ x 0 ((if (20 : Int32) ≤ m8 then 20 else m8) - 1)  ) lk_X12_41 rfl hl.1 rfl (Nat.le_of_ble_eq_true rfl) (by decide) dX12_trace_22 ⟨Nat.le_of_ble_eq_true rfl, Nat.le_of_ble_eq_true rfl⟩) hM (fun r M1 H locs hM hp => ?_)
    obtain ⟨rfl, rfl⟩ := hp
    refine lv_if_eq (tgt := 37) hx hb dX12_trace_25 (by decide) (fun c_1 => ?_) (fun c_1 => ?_)
    · skip
      refine lv_iconst (v := -1) hx hb dX12_trace_37 (by decide) ?_
      exact R_i X hr hk hM ⟨(by unfold mTrace; (try simp only [hcj]); (first | rw [if_pos c_1] | rw [if_neg c_1] | skip); all_goals (first | rfl | (simp [*]))), rfl⟩ dX12_trace_38
    · skip
      have hq9 := c_1
      refine lv_aload_n hx hb dX12_trace_28 rfl (lv_at hl 0 rfl) ?_
      refine r_get (T := TX12) (N := 20) (ci := 12) (v := .ref (gA g 54)) X hM iX12 rfl 15 (by decide) q_850 (Or.inl rfl) h46 rfl dX12_trace_29 ?_
      refine lv_iload_n hx hb dX12_trace_32 rfl (lv_at hl 1 rfl) ?_
      refine r_iald (i := x) X hM h54 (hC.trace (by omega) hq9) dX12_trace_33 ?_
      refine lv_goto (tgt := 38) hx hb dX12_trace_34 (by decide) ?_
      exact R_i X hr hk hM ⟨(by unfold mTrace; (try simp only [hcj]); (first | rw [if_pos c_1] | rw [if_neg c_1] | skip); all_goals (first | rfl | (simp [*]))), rfl⟩ dX12_trace_38
  refine lv_icmp_ge (tgt := 18) hx hb dX12_trace_8 (by decide) (fun c_2 => ?_) (fun c_2 => ?_)
  · skip
    refine lv_bipush (v := 20) hx hb dX12_trace_18 (by decide) ?_
    exact J8 _ _ _ hM (by (first | rw [if_pos c_2] | rw [if_neg c_2] | skip); all_goals (first | rfl | simp [*]))
  · skip
    refine lv_aload_n hx hb dX12_trace_11 rfl (lv_at hl 0 rfl) ?_
    refine r_get (T := TX12) (N := 20) (ci := 12) (v := .int m8) X hM iX12 rfl 16 (by decide) q_851 (Or.inl rfl) h46 rfl dX12_trace_12 ?_
    refine lv_goto (tgt := 20) hx hb dX12_trace_15 (by decide) ?_
    exact J8 _ _ _ hM (by (first | rw [if_pos c_2] | rw [if_neg c_2] | skip); all_goals (first | rfl | simp [*]))
