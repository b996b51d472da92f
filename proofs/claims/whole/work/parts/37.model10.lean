theorem z01n {x : Int32} (h : x = 0 ∨ x = 1) : narrow .boolean (.int x) = .int x := by rcases h with rfl | rfl <;> rfl
theorem z01f {x : Int32} (h : x = 0 ∨ x = 1) : fits .boolean (.int x) = true := by rcases h with rfl | rfl <;> rfl
def mHe (f : Nat → Int32) (sp en : Nat) : Int32 := if sp < en then f (114 + sp) else -1
def mMuW (f : Nat → Int32) (sp en : Nat) (z x : Int32) : Int32 := if z = 0 then (if mHe f sp en = x then 0 else 1) else 1
def mMuS (f : Nat → Int32) (sp en : Nat) (z x : Int32) : Nat := if mMuW f sp en z x = 0 then sp + 1 else sp
theorem mMuW_01 (f : Nat → Int32) (sp en : Nat) (z x : Int32) : mMuW f sp en z x = 0 ∨ mMuW f sp en z x = 1 := by
  unfold mMuW
  split
  · split
    · exact Or.inl rfl
    · exact Or.inr rfl
  · exact Or.inr rfl

theorem lk_X12_62 : LkV RX12 62 yX12_here cX12_here 1 (some .int) 0 := lkV_of q_912 q_914 qs_11 q_7 q_915 ⟨by decide, by decide, by decide +kernel⟩ (by decide)
set_option maxHeartbeats 4000000 in
set_option maxRecDepth 100000 in
theorem c_X12_here (l : Launch) (g : Gp) (M : Mem) (m0 m1 m2 m3 m6 m7 m8 m9 m10 m11 : Int32) (sp en : Nat) (f : Nat → Int32) (h46 : M (gA g 46) = some (mdE g m0 m1 m2 m3 (nI sp) (nI en) m6 m7 m8 m9 m10 m11)) (h47 : M (gA g 47) = some (aI g 929 f)) (hsp : sp ≤ 200) (hen : en ≤ 100) : Met l yX12_here (wsM yX12_here cX12_here 1 (some .int)) (rmD 1 0 0) (Pre g M [.ref (gA g 46)]) (Qi g (fun r M1 => (mHe f sp en) = r ∧ M = M1)) 0 0 (gF g) := M_start (by decide +kernel) (Nat.le_of_ble_eq_true rfl) fun p e s m args below meth c ls X hr hk hnm hM hl => by
  have X : Cx g p m c cX12_here 1 s args RX12 := X
  have hx := X.1.1
  have hb := X.1.2.1
  have hl : lv_has ls 1 [(0, .ref (gA g 46))] := hl
  refine lv_aload_n hx hb dX12_here_0 rfl (lv_at hl 0 rfl) ?_
  refine r_get (T := TX12) (N := 20) (ci := 12) (v := .int (nI sp)) X hM iX12 rfl 7 (by decide) q_842 (Or.inl rfl) h46 rfl dX12_here_1 ?_
  refine lv_aload_n hx hb dX12_here_4 rfl (lv_at hl 0 rfl) ?_
  refine r_get (T := TX12) (N := 20) (ci := 12) (v := .int (nI en)) X hM iX12 rfl 8 (by decide) q_843 (Or.inl rfl) h46 rfl dX12_here_5 ?_
  refine lv_icmp_ge (tgt := 26) hx hb dX12_here_8 (by decide) (fun c_1 => ?_) (fun c_1 => ?_)
  · skip
    have hz : ¬ sp < en := fun q => absurd c_1 (nI_ge q (by omega))
    refine lv_iconst (v := -1) hx hb dX12_here_26 (by decide) ?_
    exact R_i X hr hk hM ⟨(by unfold mHe; (first | rw [if_pos hz] | rw [if_neg hz] | skip); all_goals (first | rfl | (simp [*]))), rfl⟩ dX12_here_27
  · skip
    have hz : sp < en := by
      rcases Nat.lt_or_ge sp en with q | q
      · exact q
      · exact absurd (nI_le q (by omega)) c_1
    refine lv_aload_n hx hb dX12_here_11 rfl (lv_at hl 0 rfl) ?_
    refine r_get (T := TX12) (N := 20) (ci := 12) (v := .ref (gA g 47)) X hM iX12 rfl 1 (by decide) q_836 (Or.inl rfl) h46 rfl dX12_here_12 ?_
    refine lv_bipush (v := 114) hx hb dX12_here_15 (by decide) ?_
    refine lv_aload_n hx hb dX12_here_17 rfl (lv_at hl 0 rfl) ?_
    refine r_get (T := TX12) (N := 20) (ci := 12) (v := .int (nI sp)) X hM iX12 rfl 7 (by decide) q_842 (Or.inl rfl) h46 rfl dX12_here_18 ?_
    refine lv_iadd hx hb dX12_here_21 ?_
    rw [show (114 : Int32) + (nI sp) = nI (114 + sp) from nI_add 114 sp]
    refine r_iald (i := nI (114 + sp)) X hM h47 (vp_in_nI (by omega) (by decide)) dX12_here_22 ?_
    rw [nI_clamp (show 114 + sp < 2147483648 by omega)]
    refine lv_goto (tgt := 27) hx hb dX12_here_23 (by decide) ?_
    exact R_i X hr hk hM ⟨(by unfold mHe; (first | rw [if_pos hz] | rw [if_neg hz] | skip); all_goals (first | rfl | (simp [*]))), rfl⟩ dX12_here_27
set_option maxHeartbeats 4000000 in
set_option maxRecDepth 100000 in
theorem c_X12_must (l : Launch) (g : Gp) (M : Mem) (m0 m1 m2 m3 m6 m7 m8 m9 m10 m11 : Int32) (sp en : Nat) (f : Nat → Int32) (x : Int32) (h46 : M (gA g 46) = some (mdE g m0 m1 m2 m3 (nI sp) (nI en) m6 m7 m8 m9 m10 m11)) (h47 : M (gA g 47) = some (aI g 929 f)) (hsp : sp ≤ 200) (hen : en ≤ 100) : Met l yX12_must (wsM yX12_must cX12_must 2 none) (rmD 2 0 0) (Pre g M [.ref (gA g 46), .int x]) (Qv g (fun M1 => mup M (gA g 46) (mdE g m0 m1 m2 m3 (nI (mMuS f sp en m6 x)) (nI en) (mMuW f sp en m6 x) m7 m8 m9 m10 m11) = M1)) 0 0 (gF g) := M_start (by decide +kernel) (Nat.le_of_ble_eq_true rfl) fun p e s m args below meth c ls X hr hk hnm hM hl => by
  have X : Cx g p m c cX12_must 2 s args RX12 := X
  have hx := X.1.1
  have hb := X.1.2.1
  have hl : lv_has ls 2 [(0, .ref (gA g 46)), (1, .int x)] := hl
  refine lv_aload_n hx hb dX12_must_0 rfl (lv_at hl 0 rfl) ?_
  refine lv_aload_n hx hb dX12_must_1 rfl (lv_at hl 0 rfl) ?_
  refine r_get (T := TX12) (N := 20) (ci := 12) (v := .int m6) X hM iX12 rfl 9 (by decide) q_844 (Or.inl rfl) h46 rfl dX12_must_2 ?_
  refine l_joinM (ls := ls) hM 21 (mMuW f sp en m6 x) [.ref (gA g 46)] (fun H locs hM => ?_) (fun J5 => ?_)
  · skip
    refine lv_topi (fun zw e_zw => ?_)
    have hz9 : zw = 0 ∨ zw = 1 := by rw [e_zw]; exact mMuW_01 _ _ _ _ _
    refine r_put (T := TX12) (N := 20) (ci := 12) X hM iX12 tyX12 tyX12_ok nmX12 rfl 9 (by decide) q_844 rfl (Or.inl rfl) h46 (z01n hz9) (z01f hz9) (Nat.le_of_ble_eq_true rfl) dX12_must_21 (fun H locs hM => ?_)
    have hM : MW g (mup M (gA g 46) (mdE g m0 m1 m2 m3 (nI sp) (nI en) zw m7 m8 m9 m10 m11)) H locs := hM
    refine lv_aload_n hx hb dX12_must_24 rfl (lv_at hl 0 rfl) ?_
    refine lv_dup hx hb dX12_must_25 rfl ?_
    refine r_get (T := TX12) (N := 20) (ci := 12) (v := .int (nI sp)) X hM iX12 rfl 7 (by decide) q_842 (Or.inl rfl) (mup_s _ _ _) rfl dX12_must_26 ?_
    refine lv_aload_n hx hb dX12_must_29 rfl (lv_at hl 0 rfl) ?_
    refine r_get (T := TX12) (N := 20) (ci := 12) (v := .int zw) X hM iX12 rfl 9 (by decide) q_844 (Or.inl rfl) (mup_s _ _ _) rfl dX12_must_30 ?_
    refine l_joinM (ls := ls) hM 41 (if zw = 0 then 1 else 0) [.int (nI sp), .ref (gA g 46)] (fun H locs hM => ?_) (fun J33 => ?_)
    · skip
      refine lv_iadd hx hb dX12_must_41 ?_
      refine r_put (T := TX12) (N := 20) (ci := 12) X hM iX12 tyX12 tyX12_ok nmX12 rfl 7 (by decide) q_842 rfl (Or.inl rfl) (mup_s _ _ _) rfl rfl (Nat.le_of_ble_eq_true rfl) dX12_must_42 (fun H locs hM => ?_)
      rw [mup_i] at hM
      have hM : MW g (mup M (gA g 46) (mdE g m0 m1 m2 m3 ((nI sp) + (if zw = 0 then 1 else 0)) (nI en) zw m7 m8 m9 m10 m11)) H locs := hM
      exact R_v X hr hk hM (by rw [show nI (mMuS f sp en m6 x) = nI sp + (if zw = 0 then 1 else 0) from by unfold mMuS; rw [← e_zw]; split; exact (nI_1 sp).symm; exact (Int32.add_zero _).symm, ← e_zw]) dX12_must_45
    refine lv_if_eq (tgt := 40) hx hb dX12_must_33 (by decide) (fun c_1 => ?_) (fun c_1 => ?_)
    · skip
      refine lv_iconst (v := 1) hx hb dX12_must_40 (by decide) ?_
      exact J33 _ _ _ hM (by (first | rw [if_pos c_1] | rw [if_neg c_1] | skip); all_goals (first | rfl | simp [*]))
    · skip
      refine lv_iconst (v := 0) hx hb dX12_must_36 (by decide) ?_
      refine lv_goto (tgt := 41) hx hb dX12_must_37 (by decide) ?_
      exact J33 _ _ _ hM (by (first | rw [if_pos c_1] | rw [if_neg c_1] | skip); all_goals (first | rfl | simp [*]))
  refine lv_if_ne (tgt := 16) hx hb dX12_must_5 (by decide) (fun c_2 => ?_) (fun c_2 => ?_)
  · skip
    refine lv_iconst (v := 1) hx hb dX12_must_16 (by decide) ?_
    refine lv_goto (tgt := 21) hx hb dX12_must_17 (by decide) ?_
    exact J5 _ _ _ hM (by unfold mMuW; simp [*])
  · skip
    refine lv_aload_n hx hb dX12_must_8 rfl (lv_at hl 0 rfl) ?_
    refine K_i (G_V (As := []) (rest := [.ref (gA g 46)]) X hM (c_X12_here l g _ m0 m1 m2 m3 m6 m7 m8 m9 m10 m11 sp en f h46 h47 hsp hen) lk_X12_62 h46 rfl rfl hl.1 rfl (Nat.le_of_ble_eq_true rfl) (by decide) dX12_must_9 ⟨Nat.le_of_ble_eq_true rfl, Nat.le_of_ble_eq_true rfl⟩) hM (fun r M1 H locs hM hp => ?_)
    obtain ⟨rfl, rfl⟩ := hp
    refine lv_iload_n hx hb dX12_must_12 rfl (lv_at hl 1 rfl) ?_
    refine lv_icmp_eq (tgt := 20) hx hb dX12_must_13 (by decide) (fun c_3 => ?_) (fun c_3 => ?_)
    · skip
      refine lv_iconst (v := 0) hx hb dX12_must_20 (by decide) ?_
      exact J5 _ _ _ hM (by unfold mMuW; simp [*])
    · skip
      refine lv_iconst (v := 1) hx hb dX12_must_16 (by decide) ?_
      refine lv_goto (tgt := 21) hx hb dX12_must_17 (by decide) ?_
      exact J5 _ _ _ hM (by unfold mMuW; simp [*])
