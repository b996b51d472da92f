theorem nd01 {a : Int32} (h : ¬ a = 0) (h1 : a = 0 ∨ a = 1) : a = 1 := h1.resolve_left h

theorem lk_X11_225 : LkS RX11 225 yX11_lowest cX11_lowest 5 (some .long) 3 := lkS_of q_699 q_700 q_1 q_701 ⟨rfl, by decide, by decide, by decide +kernel⟩ (by decide)
theorem lk_X11_235 : LkV RX11 235 yX5_cell cX5_cell 3 (some .int) 2 := lkV_of q_676 q_677 q_678 q_2 q_679 ⟨by decide, by decide, by decide +kernel⟩ (by decide)
theorem lk_X11_250 : LkS RX11 250 yX11_isOfKind cX11_isOfKind 2 (some .boolean) 2 := lkS_of q_804 q_805 q_1 q_806 ⟨rfl, by decide, by decide, by decide +kernel⟩ (by decide)
theorem sg_X11_282 {g : Gp} {p : Program} {l : Launch} {e : Env} {R : Room} {s : State} {m : MethodId} {args : Array Value} {below : List Frame} {meth : Method} {c : Code} {H : Heap} {locs : List Loc} {cells slots : Nat} {Q : State → Prop} {cc : ByteArray} {nL : Nat} {M : Mem} {pc : Nat} {ls : Array Slot} {rest : List Value} {a kd : Nat} {nu v : Int32} (X : Cx g p m c cc nL s args RX11) (hM : MW g M H locs) (he : M a = some (starC g kd nu v)) (hkd : kd ≤ 6) (hdg : decode cc pc = .ok (.getfield 282, 3)) (kk : W p l e R s m args below meth c H locs cells slots Q (F0 m (pc + 3) ls (.int nu :: rest))) : W p l e R s m args below meth c H locs cells slots Q (F0 m pc ls (.ref a :: rest)) := by
  rcases (show kd = 0 ∨ kd = 1 ∨ kd = 2 ∨ kd = 3 ∨ kd = 4 ∨ kd = 5 ∨ kd = 6 by omega) with rfl | rfl | rfl | rfl | rfl | rfl | rfl
  · exact r_get (T := TX8) (N := 4) (ci := 8) (v := .int nu) X hM iX8 rfl 1 (by decide) q_371 (Or.inl rfl) he rfl hdg kk
  · exact r_get (T := TX2) (N := 4) (ci := 2) (v := .int nu) X hM iX2 rfl 1 (by decide) q_371 (Or.inl rfl) he rfl hdg kk
  · exact r_get (T := TX0) (N := 4) (ci := 0) (v := .int nu) X hM iX0 rfl 1 (by decide) q_371 (Or.inl rfl) he rfl hdg kk
  · exact r_get (T := TX3) (N := 4) (ci := 3) (v := .int nu) X hM iX3 rfl 1 (by decide) q_371 (Or.inl rfl) he rfl hdg kk
  · exact r_get (T := TX10) (N := 4) (ci := 10) (v := .int nu) X hM iX10 rfl 1 (by decide) q_371 (Or.inl rfl) he rfl hdg kk
  · exact r_get (T := TX1) (N := 4) (ci := 1) (v := .int nu) X hM iX1 rfl 1 (by decide) q_371 (Or.inl rfl) he rfl hdg kk
  · exact r_get (T := TX9) (N := 4) (ci := 9) (v := .int nu) X hM iX9 rfl 1 (by decide) q_371 (Or.inl rfl) he rfl hdg kk
set_option maxHeartbeats 4000000 in
set_option maxRecDepth 100000 in
theorem c_X11_meet (l : Launch) (g : Gp) (M : Mem) (ik : Int32) (en : En) (x y : Int32) (h0 : M (gA g 0) = some (custE g ik)) (h3 : M (gA g 3) = some (roofN g (eNi en) (nI (eL en)) (eSk en) (eHi en))) (h5 : M (gA g 5) = some (aS g 6 (eS en))) (h6 : M (gA g 6) = some (aI g 6 (eRo en))) (h7 : M (gA g 7) = some (aI g 6 (ePh en))) (hE : EnOk g M en) : Met l yX11_meet (wsM yX11_meet cX11_meet 3 (some .int)) (rmD 7 0 0) (Pre g M [.ref (gA g 0), .int x, .int y]) (Qi g (fun r M1 => (opMeet en x y) = r ∧ M = M1)) 0 0 (gF g) := M_start (by decide +kernel) (Nat.le_of_ble_eq_true rfl) fun p e s m args below meth c ls X hr hk hnm hM hl => by
  have X : Cx g p m c cX11_meet 3 s args RX11 := X
  have hx := X.1.1
  have hb := X.1.2.1
  have hl : lv_has ls 3 [(0, .ref (gA g 0)), (1, .int x), (2, .int y)] := hl
  refine lv_aload_n hx hb dX11_meet_0 rfl (lv_at hl 0 rfl) ?_
  refine r_get (T := TX11) (N := 7) (ci := 11) (v := .ref (gA g 3)) X hM iX11 rfl 1 (by decide) q_177 (Or.inl rfl) h0 rfl dX11_meet_1 ?_
  refine lv_iload_n hx hb dX11_meet_4 rfl (lv_at hl 1 rfl) ?_
  refine K_q (G_V (As := [.int x]) (rest := []) X hM (c_X4_starAt l g _ en (eNi en) (eSk en) (eHi en) x h3 h5 ) lk_X11_98 h3 rfl rfl hl.1 rfl (Nat.le_of_ble_eq_true rfl) (by decide) dX11_meet_5 ⟨Nat.le_of_ble_eq_true rfl, Nat.le_of_ble_eq_true rfl⟩) hM (fun r M1 H locs hM hp => ?_)
  obtain ⟨rfl, rfl⟩ := hp
  rcases fStar_cases hE (x) with ⟨e_j_1, h_j_1⟩ | ⟨j_1, h_j_1, x_j_1, e_j_1⟩
  · rw [e_j_1]
    have il_j_1 := fIsL_0 h_j_1
    refine lv_ifnullN (tgt := 22) hx hb dX11_meet_8 (by decide) ?_
    refine lv_iconst (v := -1) hx hb dX11_meet_22 (by decide) ?_
    exact R_i X hr hk hM ⟨(by unfold opMeet; (first | rw [if_pos il_j_1] | rw [if_neg il_j_1] | skip); all_goals (first | rfl | (simp [*]))), rfl⟩ dX11_meet_23
  · rw [e_j_1]
    obtain ⟨s_j_1, m_j_1, hkd⟩ := hE.2.2 j_1 h_j_1
    have il_j_1 := fIsL_1n x_j_1 h_j_1 hE.1
    have jc_j_1 := clampj x_j_1 h_j_1 hE.1
    refine lv_ifnull hx hb dX11_meet_8 ?_
    refine lv_aload_n hx hb dX11_meet_11 rfl (lv_at hl 0 rfl) ?_
    refine r_get (T := TX11) (N := 7) (ci := 11) (v := .ref (gA g 3)) X hM iX11 rfl 1 (by decide) q_177 (Or.inl rfl) h0 rfl dX11_meet_12 ?_
    refine lv_iload_n hx hb dX11_meet_15 rfl (lv_at hl 2 rfl) ?_
    refine K_q (G_V (As := [.int y]) (rest := []) X hM (c_X4_starAt l g _ en (eNi en) (eSk en) (eHi en) y h3 h5 ) lk_X11_98 h3 rfl rfl hl.1 rfl (Nat.le_of_ble_eq_true rfl) (by decide) dX11_meet_16 ⟨Nat.le_of_ble_eq_true rfl, Nat.le_of_ble_eq_true rfl⟩) hM (fun r M1 H locs hM hp => ?_)
    obtain ⟨rfl, rfl⟩ := hp
    rcases fStar_cases hE (y) with ⟨e_j_2, h_j_2⟩ | ⟨j_2, h_j_2, x_j_2, e_j_2⟩
    · rw [e_j_2]
      have il_j_2 := fIsL_0 h_j_2
      refine lv_ifnonnullN hx hb dX11_meet_19 ?_
      refine lv_iconst (v := -1) hx hb dX11_meet_22 (by decide) ?_
      exact R_i X hr hk hM ⟨(by unfold opMeet; (try simp only [jc_j_1]); (first | rw [if_pos il_j_1] | rw [if_neg il_j_1] | skip); (first | rw [if_pos il_j_2] | rw [if_neg il_j_2] | skip); all_goals (first | rfl | (simp [*]))), rfl⟩ dX11_meet_23
    · rw [e_j_2]
      obtain ⟨s_j_2, m_j_2, hkd⟩ := hE.2.2 j_2 h_j_2
      have il_j_2 := fIsL_1n x_j_2 h_j_2 hE.1
      have jc_j_2 := clampj x_j_2 h_j_2 hE.1
      refine lv_ifnonnull (tgt := 24) hx hb dX11_meet_19 (by decide) ?_
      refine lv_iload_n hx hb dX11_meet_24 rfl (lv_at hl 1 rfl) ?_
      refine lv_iload_n hx hb dX11_meet_25 rfl (lv_at hl 2 rfl) ?_
      refine lv_icmp_ne (tgt := 34) hx hb dX11_meet_26 (by decide) (fun c_3 => ?_) (fun c_3 => ?_)
      · skip
        refine lv_aload_n hx hb dX11_meet_34 rfl (lv_at hl 0 rfl) ?_
        refine lv_iload_n hx hb dX11_meet_35 rfl (lv_at hl 1 rfl) ?_
        refine lv_iload_n hx hb dX11_meet_36 rfl (lv_at hl 2 rfl) ?_
        refine K_i (G_V (As := [.int x, .int y]) (rest := []) X hM (c_X11_nightsTill l g _ ik en x y j_1 j_2 h0 h3 h5 h6 h7 hE x_j_1 h_j_1 x_j_2 h_j_2) lk_X11_190 h0 rfl rfl hl.1 rfl (Nat.le_of_ble_eq_true rfl) (by decide) dX11_meet_37 ⟨Nat.le_of_ble_eq_true rfl, Nat.le_of_ble_eq_true rfl⟩) hM (fun r M1 H locs hM hp => ?_)
        obtain ⟨rfl, rfl⟩ := hp
        exact R_i X hr hk hM ⟨(by unfold opMeet; (try simp only [jc_j_1]); (try simp only [jc_j_2]); (first | rw [if_pos il_j_1] | rw [if_neg il_j_1] | skip); (first | rw [if_pos il_j_2] | rw [if_neg il_j_2] | skip); (first | rw [if_pos c_3] | rw [if_neg c_3] | skip); all_goals (first | rfl | (simp [*]))), rfl⟩ dX11_meet_40
      · skip
        refine lv_bipush (v := -2) hx hb dX11_meet_29 (by decide) ?_
        refine lv_goto (tgt := 40) hx hb dX11_meet_31 (by decide) ?_
        exact R_i X hr hk hM ⟨(by unfold opMeet; (try simp only [jc_j_1]); (try simp only [jc_j_2]); (first | rw [if_pos il_j_1] | rw [if_neg il_j_1] | skip); (first | rw [if_pos il_j_2] | rw [if_neg il_j_2] | skip); (first | rw [if_pos c_3] | rw [if_neg c_3] | skip); all_goals (first | rfl | (simp [*]))), rfl⟩ dX11_meet_40
set_option maxHeartbeats 4000000 in
set_option maxRecDepth 100000 in
theorem c_X11_mean (l : Launch) (g : Gp) (M : Mem) (ik : Int32) (en : En) (ho pt : Int32) (h0 : M (gA g 0) = some (custE g ik)) (h3 : M (gA g 3) = some (roofN g (eNi en) (nI (eL en)) (eSk en) (eHi en))) (h4 : M (gA g 4) = some (aI g 2 (eSe en))) (h5 : M (gA g 5) = some (aS g 6 (eS en))) (h6 : M (gA g 6) = some (aI g 6 (eRo en))) (h7 : M (gA g 7) = some (aI g 6 (ePh en))) (h8 : M (gA g 8) = some (aI g 24 (eRw en))) (h9 : M (gA g 9) = some (skyE (gA g 10) (gA g 11) (gA g 12) (nI (eZ en)) (eTu en) (eCl en))) (h10 : M (gA g 10) = some (aI g 100 (eF1 en))) (h11 : M (gA g 11) = some (aI g 100 (eF2 en))) (h12 : M (gA g 12) = some (aI g 100 (eF3 en))) (hE : EnOk g M en) : Met l yX11_mean (wsM yX11_mean cX11_mean 5 (some .long)) (rmD 7 0 0) (Pre g M [.ref (gA g 0), .int ho, .int pt]) (Ql g (fun r M1 => (opMean en ho pt) = r ∧ M = M1)) 0 0 (gF g) := M_start (by decide +kernel) (Nat.le_of_ble_eq_true rfl) fun p e s m args below meth c ls X hr hk hnm hM hl => by
  have X : Cx g p m c cX11_mean 5 s args RX11 := X
  have hx := X.1.1
  have hb := X.1.2.1
  have hl : lv_has ls 5 [(0, .ref (gA g 0)), (1, .int ho), (2, .int pt)] := hl
  refine lv_iload_n hx hb dX11_mean_0 rfl (lv_at hl 1 rfl) ?_
  refine lv_iconst (v := 0) hx hb dX11_mean_1 (by decide) ?_
  refine lv_iconst (v := 1) hx hb dX11_mean_2 (by decide) ?_
  refine K_i (G_S (As := [.int ho, .int 0, .int 1]) (rest := []) X hM (c_X11_isIn l g _ ho 0 1  ) lk_X11_53 rfl hl.1 rfl (Nat.le_of_ble_eq_true rfl) (by decide) dX11_mean_3 ⟨Nat.le_of_ble_eq_true rfl, Nat.le_of_ble_eq_true rfl⟩) hM (fun r M1 H locs hM hp => ?_)
  obtain ⟨rfl, rfl⟩ := hp
  refine lv_if_eq (tgt := 18) hx hb dX11_mean_6 (by decide) (fun c_1 => ?_) (fun c_1 => ?_)
  · skip
    refine lv_ldc2 (v := -9223372036854775808) hx hb X.1.2.2.2.1 (X.1.2.2.2.2 _ q_694) dX11_mean_18 ?_
    exact R_l X hr hk hM ⟨(by unfold opMean; (first | rw [if_pos c_1] | rw [if_neg c_1] | skip); all_goals (first | rfl | (simp [*]))), rfl⟩ dX11_mean_21
  · skip
    refine lv_iload_n hx hb dX11_mean_9 rfl (lv_at hl 2 rfl) ?_
    refine lv_iconst (v := 0) hx hb dX11_mean_10 (by decide) ?_
    refine lv_iconst (v := 1) hx hb dX11_mean_11 (by decide) ?_
    refine K_i (G_S (As := [.int pt, .int 0, .int 1]) (rest := []) X hM (c_X11_isIn l g _ pt 0 1  ) lk_X11_53 rfl hl.1 rfl (Nat.le_of_ble_eq_true rfl) (by decide) dX11_mean_12 ⟨Nat.le_of_ble_eq_true rfl, Nat.le_of_ble_eq_true rfl⟩) hM (fun r M1 H locs hM hp => ?_)
    obtain ⟨rfl, rfl⟩ := hp
    refine lv_if_ne (tgt := 22) hx hb dX11_mean_15 (by decide) (fun c_2 => ?_) (fun c_2 => ?_)
    · skip
      refine lv_iconst (v := 0) hx hb dX11_mean_22 (by decide) ?_
      refine lv_istore_n (lv' := [(3, .int 0), (0, .ref (gA g 0)), (1, .int ho), (2, .int pt)]) hx hb dX11_mean_23 rfl hl (by decide) rfl (fun ls hl => ?_)
      refine lv_iconst (v := 0) hx hb dX11_mean_24 (by decide) ?_
      refine lv_istore (lv' := [(4, .int 0), (3, .int 0), (0, .ref (gA g 0)), (1, .int ho), (2, .int pt)]) hx hb dX11_mean_25 hl (by decide) rfl (fun ls hl => ?_)
      have L27 : ∀ (fu : Nat) (i : Nat) (x3 : Int32) (hi : i ≤ 28) (k3 : x3 = meanN en ho i) (H : Heap) (locs : List Loc) (hM : MW g (M) H locs) (ls : Array Slot) (hl : lv_has ls 5 [(0, .ref (gA g 0)), (1, .int ho), (2, .int pt), (3, .int x3), (4, .int (nI i))]), 28 - i < fu → W p l e (rmD 7 0 0) s m args below meth c H locs 0 0 (MQ below (Ql g (fun r M1 => (opMean en ho pt) = r ∧ M = M1)) args s 0 0 (gF g)) (F0 m 27 ls []) := by
        intro fu
        induction fu with
        | zero => intro i x3 hi k3 H locs hM ls hl hmu; exact absurd hmu (Nat.not_lt_zero _)
        | succ fu ih =>
          intro i x3 hi k3 H locs hM ls hl hmu
          refine lv_iload hx hb dX11_mean_27 (lv_at hl 4 rfl) ?_
          refine lv_bipush (v := 28) hx hb dX11_mean_29 (by decide) ?_
          refine lv_icmp_ge (tgt := 78) hx hb dX11_mean_31 (by decide) (fun c_3 => ?_) (fun c_3 => ?_)
          · skip
            have hz1 : 28 ≤ i := (nI_leI (by omega) (by omega)).mp c_3
            have hz2 : i = 28 := by omega
            rw [hz2] at k3
            refine lv_iload_n hx hb dX11_mean_78 rfl (lv_at hl 3 rfl) ?_
            refine lv_bipush (v := 28) hx hb dX11_mean_79 (by decide) ?_
            refine lv_iload_n hx hb dX11_mean_81 rfl (lv_at hl 2 rfl) ?_
            refine K_l (G_S (As := [.int x3, .int 28, .int pt]) (rest := []) X hM (c_X11_lowest l g _ x3 28 pt  (by decide) (by decide)) lk_X11_225 rfl hl.1 rfl (Nat.le_of_ble_eq_true rfl) (by decide) dX11_mean_82 ⟨Nat.le_of_ble_eq_true rfl, Nat.le_of_ble_eq_true rfl⟩) hM (fun r M1 H locs hM hp => ?_)
            obtain ⟨rfl, rfl⟩ := hp
            exact R_l X hr hk hM ⟨(by unfold opMean; rw [if_neg c_1, if_neg c_2, k3]), rfl⟩ dX11_mean_85
          · skip
            have hz1 : i < 28 := by
              rcases Nat.lt_or_ge i (28) with q | q
              · exact q
              · exact absurd ((nI_leI (by omega) (by omega)).mpr q) c_3
            refine lv_iload_n hx hb dX11_mean_34 rfl (lv_at hl 3 rfl) ?_
            refine lv_aload_n hx hb dX11_mean_35 rfl (lv_at hl 0 rfl) ?_
            refine r_get (T := TX11) (N := 7) (ci := 11) (v := .ref (gA g 3)) X hM iX11 rfl 1 (by decide) q_177 (Or.inl rfl) h0 rfl dX11_mean_36 ?_
            refine lv_iload_n hx hb dX11_mean_39 rfl (lv_at hl 1 rfl) ?_
            refine lv_aload_n hx hb dX11_mean_40 rfl (lv_at hl 0 rfl) ?_
            refine r_get (T := TX11) (N := 7) (ci := 11) (v := .ref (gA g 3)) X hM iX11 rfl 1 (by decide) q_177 (Or.inl rfl) h0 rfl dX11_mean_41 ?_
            refine r_get (T := TX4) (N := 14) (ci := 4) (v := .int (eNi en)) X hM iX4 rfl 0 (by decide) q_96 (Or.inl rfl) h3 rfl dX11_mean_44 ?_
            refine lv_iload hx hb dX11_mean_47 (lv_at hl 4 rfl) ?_
            refine lv_iadd hx hb dX11_mean_49 ?_
            refine lv_aload_n hx hb dX11_mean_50 rfl (lv_at hl 0 rfl) ?_
            refine r_get (T := TX11) (N := 7) (ci := 11) (v := .ref (gA g 3)) X hM iX11 rfl 1 (by decide) q_177 (Or.inl rfl) h0 rfl dX11_mean_51 ?_
            refine r_get (T := TX4) (N := 14) (ci := 4) (v := .int (eHi en)) X hM iX4 rfl 3 (by decide) q_102 (Or.inl rfl) h3 rfl dX11_mean_54 ?_
            refine lv_aload_n hx hb dX11_mean_57 rfl (lv_at hl 0 rfl) ?_
            refine r_get (T := TX11) (N := 7) (ci := 11) (v := .ref (gA g 3)) X hM iX11 rfl 1 (by decide) q_177 (Or.inl rfl) h0 rfl dX11_mean_58 ?_
            refine r_get (T := TX4) (N := 14) (ci := 4) (v := .ref (gA g 9)) X hM iX4 rfl 9 (by decide) q_113 (Or.inl rfl) h3 rfl dX11_mean_61 ?_
            refine r_get (T := TX6) (N := 6) (ci := 6) (v := .int (eCl en)) X hM iX6 rfl 5 (by decide) q_79 (Or.inl rfl) h9 rfl dX11_mean_64 ?_
            refine K_i (G_V (As := [.int ho, .int ((eNi en) + (nI i)), .int (eHi en), .int (eCl en)]) (rest := [.int x3]) X hM (c_X4_hasFor l g _ en (eNi en) (eSk en) (eHi en) ho ((eNi en) + (nI i)) (eHi en) (eCl en) h3 h5 h6 h7 h8 h9 h10 h11 h12 hE) lk_X11_171 h3 rfl rfl hl.1 rfl (Nat.le_of_ble_eq_true rfl) (by decide) dX11_mean_67 ⟨Nat.le_of_ble_eq_true rfl, Nat.le_of_ble_eq_true rfl⟩) hM (fun r M1 H locs hM hp => ?_)
            obtain ⟨rfl, rfl⟩ := hp
            refine lv_iadd hx hb dX11_mean_70 ?_
            refine lv_istore_n (lv' := [(3, .int (x3 + (fHas en ho ((eNi en) + (nI i)) (eHi en) (eCl en)))), (0, .ref (gA g 0)), (1, .int ho), (2, .int pt), (4, .int (nI i))]) hx hb dX11_mean_71 rfl hl (by decide) rfl (fun ls hl => ?_)
            refine lv_iinc (v := (nI i) + 1) (lv' := [(4, .int ((nI i) + 1)), (3, .int (x3 + (fHas en ho ((eNi en) + (nI i)) (eHi en) (eCl en)))), (0, .ref (gA g 0)), (1, .int ho), (2, .int pt)]) hx hb dX11_mean_72 hl (k := 4) rfl rfl (by decide) rfl (fun ls hl => ?_)
            refine lv_goto (tgt := 27) hx hb dX11_mean_75 (by decide) ?_
            exact ih (i + 1) (x3 + (fHas en ho ((eNi en) + (nI i)) (eHi en) (eCl en))) (by omega) (by rw [k3, meanN]) _ _ hM _ ((by rw [← nI_1]; exact lv_sub hl [2, 3, 4, 1, 0] rfl)) (by omega)
      exact L27 (28 + 1) 0 0 (Nat.zero_le _) rfl _ _ hM _ (lv_sub hl [2, 3, 4, 1, 0] rfl) (by first | exact Nat.lt_succ_self _ | omega)
    · skip
      refine lv_ldc2 (v := -9223372036854775808) hx hb X.1.2.2.2.1 (X.1.2.2.2.2 _ q_694) dX11_mean_18 ?_
      exact R_l X hr hk hM ⟨(by unfold opMean; (first | rw [if_pos c_1] | rw [if_neg c_1] | skip); (first | rw [if_pos c_2] | rw [if_neg c_2] | skip); all_goals (first | rfl | (simp [*]))), rfl⟩ dX11_mean_21
set_option maxHeartbeats 4000000 in
set_option maxRecDepth 100000 in
theorem c_X11_looked (l : Launch) (g : Gp) (M : Mem) (ik : Int32) (en : En) (nb : Nat) (bf : Nat → Int32) (h0 : M (gA g 0) = some (custE g ik)) (h3 : M (gA g 3) = some (roofN g (eNi en) (nI (eL en)) (eSk en) (eHi en))) (h9 : M (gA g 9) = some (skyE (gA g 10) (gA g 11) (gA g 12) (nI (eZ en)) (eTu en) (eCl en))) (h19 : M (gA g 19) = some (rowsE (gA g 20) 8 3 (nI nb))) (h20 : M (gA g 20) = some (aI g 24 bf)) (hnb : nb ≤ 8) : Met l yX11_looked (wsM yX11_looked cX11_looked 2 (some .int)) (rmD 3 0 0) (Pre g M [.ref (gA g 0)]) (Qi g (fun r M1 => (till (fLook en bf) nb 0) = r ∧ M = M1)) 0 0 (gF g) := M_start (by decide +kernel) (Nat.le_of_ble_eq_true rfl) fun p e s m args below meth c ls X hr hk hnm hM hl => by
  have X : Cx g p m c cX11_looked 2 s args RX11 := X
  have hx := X.1.1
  have hb := X.1.2.1
  have hl : lv_has ls 2 [(0, .ref (gA g 0))] := hl
  refine lv_iconst (v := 0) hx hb dX11_looked_0 (by decide) ?_
  refine lv_istore_n (lv' := [(1, .int 0), (0, .ref (gA g 0))]) hx hb dX11_looked_1 rfl hl (by decide) rfl (fun ls hl => ?_)
  have L2 : ∀ (fu : Nat) (i : Nat) (hi : i ≤ nb) (hr2 : till (fLook en bf) nb 0 = till (fLook en bf) (nb - i) i) (H : Heap) (locs : List Loc) (hM : MW g (M) H locs) (ls : Array Slot) (hl : lv_has ls 2 [(0, .ref (gA g 0)), (1, .int (nI i))]), nb - i < fu → W p l e (rmD 3 0 0) s m args below meth c H locs 0 0 (MQ below (Qi g (fun r M1 => (till (fLook en bf) nb 0) = r ∧ M = M1)) args s 0 0 (gF g)) (F0 m 2 ls []) := by
    intro fu
    induction fu with
    | zero => intro i hi hr2 H locs hM ls hl hmu; exact absurd hmu (Nat.not_lt_zero _)
    | succ fu ih =>
      intro i hi hr2 H locs hM ls hl hmu
      refine lv_iload_n hx hb dX11_looked_2 rfl (lv_at hl 1 rfl) ?_
      refine lv_aload_n hx hb dX11_looked_3 rfl (lv_at hl 0 rfl) ?_
      refine r_get (T := TX11) (N := 7) (ci := 11) (v := .ref (gA g 3)) X hM iX11 rfl 1 (by decide) q_177 (Or.inl rfl) h0 rfl dX11_looked_4 ?_
      refine r_get (T := TX4) (N := 14) (ci := 4) (v := .ref (gA g 19)) X hM iX4 rfl 13 (by decide) q_121 (Or.inl rfl) h3 rfl dX11_looked_7 ?_
      refine r_get (T := TX5) (N := 4) (ci := 5) (v := .int (nI nb)) X hM iX5 rfl 3 (by decide) q_44 (Or.inl rfl) h19 rfl dX11_looked_10 ?_
      refine lv_icmp_ge (tgt := 66) hx hb dX11_looked_13 (by decide) (fun c_1 => ?_) (fun c_1 => ?_)
      · skip
        have hz1 : nb ≤ i := (nI_leI (by omega) (by omega)).mp c_1
        have hz2 : i = nb := by omega
        refine lv_bipush (v := -5) hx hb dX11_looked_66 (by decide) ?_
        exact R_i X hr hk hM ⟨(by rw [hr2, hz2, Nat.sub_self]; rfl), rfl⟩ dX11_looked_68
      · skip
        have hz1 : i < nb := by
          rcases Nat.lt_or_ge i (nb) with q | q
          · exact q
          · exact absurd ((nI_leI (by omega) (by omega)).mpr q) c_1
        refine lv_aload_n hx hb dX11_looked_16 rfl (lv_at hl 0 rfl) ?_
        refine r_get (T := TX11) (N := 7) (ci := 11) (v := .ref (gA g 3)) X hM iX11 rfl 1 (by decide) q_177 (Or.inl rfl) h0 rfl dX11_looked_17 ?_
        refine lv_aload_n hx hb dX11_looked_20 rfl (lv_at hl 0 rfl) ?_
        refine r_get (T := TX11) (N := 7) (ci := 11) (v := .ref (gA g 3)) X hM iX11 rfl 1 (by decide) q_177 (Or.inl rfl) h0 rfl dX11_looked_21 ?_
        refine r_get (T := TX4) (N := 14) (ci := 4) (v := .int (eNi en)) X hM iX4 rfl 0 (by decide) q_96 (Or.inl rfl) h3 rfl dX11_looked_24 ?_
        refine lv_aload_n hx hb dX11_looked_27 rfl (lv_at hl 0 rfl) ?_
        refine r_get (T := TX11) (N := 7) (ci := 11) (v := .ref (gA g 3)) X hM iX11 rfl 1 (by decide) q_177 (Or.inl rfl) h0 rfl dX11_looked_28 ?_
        refine r_get (T := TX4) (N := 14) (ci := 4) (v := .ref (gA g 19)) X hM iX4 rfl 13 (by decide) q_121 (Or.inl rfl) h3 rfl dX11_looked_31 ?_
        refine lv_iload_n hx hb dX11_looked_34 rfl (lv_at hl 1 rfl) ?_
        refine lv_iconst (v := 0) hx hb dX11_looked_35 (by decide) ?_
        refine K_i (G_V (As := [.int (nI i), .int 0]) (rest := [.int (eNi en), .ref (gA g 3)]) X hM (c_X5_cell l g _ (gA g 19) (gA g 20) 24 bf 8 3 (nI nb) (nI i) 0 h19 h20 (by decide)) lk_X11_235 h19 rfl rfl hl.1 rfl (Nat.le_of_ble_eq_true rfl) (by decide) dX11_looked_36 ⟨Nat.le_of_ble_eq_true rfl, Nat.le_of_ble_eq_true rfl⟩) hM (fun r M1 H locs hM hp => ?_)
        obtain ⟨rfl, rfl⟩ := hp
        refine lv_iadd hx hb dX11_looked_39 ?_
        refine K_i (G_V (As := [.int ((eNi en) + (fAt 24 bf ((nI i) * 3 + 0)))]) (rest := []) X hM (c_X4_turnOf l g _ en (eNi en) (nI (eL en)) (eSk en) (eHi en) ((eNi en) + (fAt 24 bf ((nI i) * 3 + 0))) h3 h9 ) lk_X11_158 h3 rfl rfl hl.1 rfl (Nat.le_of_ble_eq_true rfl) (by decide) dX11_looked_40 ⟨Nat.le_of_ble_eq_true rfl, Nat.le_of_ble_eq_true rfl⟩) hM (fun r M1 H locs hM hp => ?_)
        obtain ⟨rfl, rfl⟩ := hp
        refine lv_aload_n hx hb dX11_looked_43 rfl (lv_at hl 0 rfl) ?_
        refine r_get (T := TX11) (N := 7) (ci := 11) (v := .ref (gA g 3)) X hM iX11 rfl 1 (by decide) q_177 (Or.inl rfl) h0 rfl dX11_looked_44 ?_
        refine r_get (T := TX4) (N := 14) (ci := 4) (v := .ref (gA g 19)) X hM iX4 rfl 13 (by decide) q_121 (Or.inl rfl) h3 rfl dX11_looked_47 ?_
        refine lv_iload_n hx hb dX11_looked_50 rfl (lv_at hl 1 rfl) ?_
        refine lv_iconst (v := 1) hx hb dX11_looked_51 (by decide) ?_
        refine K_i (G_V (As := [.int (nI i), .int 1]) (rest := [.int (fTurn (eTu en) ((eNi en) + (fAt 24 bf ((nI i) * 3 + 0))))]) X hM (c_X5_cell l g _ (gA g 19) (gA g 20) 24 bf 8 3 (nI nb) (nI i) 1 h19 h20 (by decide)) lk_X11_235 h19 rfl rfl hl.1 rfl (Nat.le_of_ble_eq_true rfl) (by decide) dX11_looked_52 ⟨Nat.le_of_ble_eq_true rfl, Nat.le_of_ble_eq_true rfl⟩) hM (fun r M1 H locs hM hp => ?_)
        obtain ⟨rfl, rfl⟩ := hp
        refine lv_icmp_eq (tgt := 60) hx hb dX11_looked_55 (by decide) (fun c_2 => ?_) (fun c_2 => ?_)
        · skip
          refine lv_iinc (v := (nI i) + 1) (lv' := [(1, .int ((nI i) + 1)), (0, .ref (gA g 0))]) hx hb dX11_looked_60 hl (k := 1) rfl rfl (by decide) rfl (fun ls hl => ?_)
          refine lv_goto (tgt := 2) hx hb dX11_looked_63 (by decide) ?_
          exact ih (i + 1) (by omega) (by rw [hr2, show nb - i = (nb - (i + 1)) + 1 by omega, till]; unfold fLook; rw [if_pos c_2, if_pos rfl]) _ _ hM _ ((by rw [← nI_1]; exact lv_sub hl [1, 0] rfl)) (by omega)
        · skip
          refine lv_iload_n hx hb dX11_looked_58 rfl (lv_at hl 1 rfl) ?_
          exact R_i X hr hk hM ⟨(by rw [hr2, show nb - i = (nb - (i + 1)) + 1 by omega, till]; unfold fLook; rw [if_neg c_2, if_neg (by decide)]), rfl⟩ dX11_looked_59
  exact L2 (nb + 1) 0 (Nat.zero_le _) rfl _ _ hM _ (lv_sub hl [1, 0] rfl) (by first | exact Nat.lt_succ_self _ | omega)
set_option maxHeartbeats 4000000 in
set_option maxRecDepth 100000 in
theorem c_X11_trace (l : Launch) (g : Gp) (M : Mem) (ik tc : Int32) (tf : Nat → Int32) (x : Int32) (h0 : M (gA g 0) = some (custE g ik)) (h1 : M (gA g 1) = some (rowsE (gA g 2) 20 1 tc)) (h2 : M (gA g 2) = some (aI g 20 tf)) : Met l yX11_trace (wsM yX11_trace cX11_trace 2 (some .int)) (rmD 4 0 0) (Pre g M [.ref (gA g 0), .int x]) (Qi g (fun r M1 => (opTrace tc tf x) = r ∧ M = M1)) 0 0 (gF g) := M_start (by decide +kernel) (Nat.le_of_ble_eq_true rfl) fun p e s m args below meth c ls X hr hk hnm hM hl => by
  have X : Cx g p m c cX11_trace 2 s args RX11 := X
  have hx := X.1.1
  have hb := X.1.2.1
  have hl : lv_has ls 2 [(0, .ref (gA g 0)), (1, .int x)] := hl
  refine lv_iload_n hx hb dX11_trace_0 rfl (lv_at hl 1 rfl) ?_
  refine lv_if_lt (tgt := 33) hx hb dX11_trace_1 (by decide) (fun c_1 => ?_) (fun c_1 => ?_)
  · skip
    refine lv_iconst (v := -1) hx hb dX11_trace_33 (by decide) ?_
    exact R_i X hr hk hM ⟨(by unfold opTrace; (first | rw [if_pos c_1] | rw [if_neg c_1] | skip); all_goals (first | rfl | (simp [*]))), rfl⟩ dX11_trace_34
  · skip
    refine lv_iload_n hx hb dX11_trace_4 rfl (lv_at hl 1 rfl) ?_
    refine lv_aload_n hx hb dX11_trace_5 rfl (lv_at hl 0 rfl) ?_
    refine r_get (T := TX11) (N := 7) (ci := 11) (v := .ref (gA g 1)) X hM iX11 rfl 0 (by decide) q_176 (Or.inl rfl) h0 rfl dX11_trace_6 ?_
    refine r_get (T := TX5) (N := 4) (ci := 5) (v := .int tc) X hM iX5 rfl 3 (by decide) q_44 (Or.inl rfl) h1 rfl dX11_trace_9 ?_
    refine lv_icmp_ge (tgt := 33) hx hb dX11_trace_12 (by decide) (fun c_2 => ?_) (fun c_2 => ?_)
    · skip
      refine lv_iconst (v := -1) hx hb dX11_trace_33 (by decide) ?_
      exact R_i X hr hk hM ⟨(by unfold opTrace; (first | rw [if_pos c_1] | rw [if_neg c_1] | skip); (first | rw [if_pos c_2] | rw [if_neg c_2] | skip); all_goals (first | rfl | (simp [*]))), rfl⟩ dX11_trace_34
    · skip
      refine lv_iload_n hx hb dX11_trace_15 rfl (lv_at hl 1 rfl) ?_
      refine lv_bipush (v := 20) hx hb dX11_trace_16 (by decide) ?_
      refine lv_icmp_ge (tgt := 33) hx hb dX11_trace_18 (by decide) (fun c_3 => ?_) (fun c_3 => ?_)
      · skip
        refine lv_iconst (v := -1) hx hb dX11_trace_33 (by decide) ?_
        exact R_i X hr hk hM ⟨(by unfold opTrace; (first | rw [if_pos c_1] | rw [if_neg c_1] | skip); (first | rw [if_pos c_2] | rw [if_neg c_2] | skip); (first | rw [if_pos c_3] | rw [if_neg c_3] | skip); all_goals (first | rfl | (simp [*]))), rfl⟩ dX11_trace_34
      · skip
        refine lv_aload_n hx hb dX11_trace_21 rfl (lv_at hl 0 rfl) ?_
        refine r_get (T := TX11) (N := 7) (ci := 11) (v := .ref (gA g 1)) X hM iX11 rfl 0 (by decide) q_176 (Or.inl rfl) h0 rfl dX11_trace_22 ?_
        refine lv_iload_n hx hb dX11_trace_25 rfl (lv_at hl 1 rfl) ?_
        refine lv_iconst (v := 0) hx hb dX11_trace_26 (by decide) ?_
        refine K_i (G_V (As := [.int x, .int 0]) (rest := []) X hM (c_X5_cell l g _ (gA g 1) (gA g 2) 20 tf 20 1 tc x 0 h1 h2 (by decide)) lk_X11_235 h1 rfl rfl hl.1 rfl (Nat.le_of_ble_eq_true rfl) (by decide) dX11_trace_27 ⟨Nat.le_of_ble_eq_true rfl, Nat.le_of_ble_eq_true rfl⟩) hM (fun r M1 H locs hM hp => ?_)
        obtain ⟨rfl, rfl⟩ := hp
        refine lv_goto (tgt := 34) hx hb dX11_trace_30 (by decide) ?_
        exact R_i X hr hk hM ⟨(by unfold opTrace; (first | rw [if_pos c_1] | rw [if_neg c_1] | skip); (first | rw [if_pos c_2] | rw [if_neg c_2] | skip); (first | rw [if_pos c_3] | rw [if_neg c_3] | skip); all_goals (first | rfl | (simp [*]))), rfl⟩ dX11_trace_34
set_option maxHeartbeats 4000000 in
set_option maxRecDepth 100000 in
theorem c_X11_as (l : Launch) (g : Gp) (M : Mem) (ik : Int32) (en : En) (x k : Int32) (h0 : M (gA g 0) = some (custE g ik)) (h3 : M (gA g 3) = some (roofN g (eNi en) (nI (eL en)) (eSk en) (eHi en))) (h5 : M (gA g 5) = some (aS g 6 (eS en))) (hE : EnOk g M en) : Met l yX11_as (wsM yX11_as cX11_as 4 (some .int)) (rmD 3 0 0) (Pre g M [.ref (gA g 0), .int x, .int k]) (Qi g (fun r M1 => (opAs en x k) = r ∧ M = M1)) 0 0 (gF g) := M_start (by decide +kernel) (Nat.le_of_ble_eq_true rfl) fun p e s m args below meth c ls X hr hk hnm hM hl => by
  have X : Cx g p m c cX11_as 4 s args RX11 := X
  have hx := X.1.1
  have hb := X.1.2.1
  have hl : lv_has ls 4 [(0, .ref (gA g 0)), (1, .int x), (2, .int k)] := hl
  refine lv_aload_n hx hb dX11_as_0 rfl (lv_at hl 0 rfl) ?_
  refine r_get (T := TX11) (N := 7) (ci := 11) (v := .ref (gA g 3)) X hM iX11 rfl 1 (by decide) q_177 (Or.inl rfl) h0 rfl dX11_as_1 ?_
  refine lv_iload_n hx hb dX11_as_4 rfl (lv_at hl 1 rfl) ?_
  refine K_q (G_V (As := [.int x]) (rest := []) X hM (c_X4_starAt l g _ en (eNi en) (eSk en) (eHi en) x h3 h5 ) lk_X11_98 h3 rfl rfl hl.1 rfl (Nat.le_of_ble_eq_true rfl) (by decide) dX11_as_5 ⟨Nat.le_of_ble_eq_true rfl, Nat.le_of_ble_eq_true rfl⟩) hM (fun r M1 H locs hM hp => ?_)
  obtain ⟨rfl, rfl⟩ := hp
  rcases fStar_cases hE (x) with ⟨e_j_1, h_j_1⟩ | ⟨j_1, h_j_1, x_j_1, e_j_1⟩
  · rw [e_j_1]
    have il_j_1 := fIsL_0 h_j_1
    refine l_nstore_n (lv' := [(3, .null), (0, .ref (gA g 0)), (1, .int x), (2, .int k)]) hx hb dX11_as_8 rfl hl (by decide) rfl (fun ls hl => ?_)
    refine l_nload_n hx hb dX11_as_9 rfl (lv_at hl 0 rfl) ?_
    refine lv_ifnullN (tgt := 23) hx hb dX11_as_10 (by decide) ?_
    refine lv_iconst (v := -1) hx hb dX11_as_23 (by decide) ?_
    exact R_i X hr hk hM ⟨(by unfold opAs; (first | rw [if_pos il_j_1] | rw [if_neg il_j_1] | skip); all_goals (first | rfl | (simp [*]))), rfl⟩ dX11_as_24
  · rw [e_j_1]
    obtain ⟨s_j_1, m_j_1, hkd⟩ := hE.2.2 j_1 h_j_1
    have il_j_1 := fIsL_1n x_j_1 h_j_1 hE.1
    have jc_j_1 := clampj x_j_1 h_j_1 hE.1
    refine lv_astore_n (lv' := [(3, .ref (eSt en j_1)), (0, .ref (gA g 0)), (1, .int x), (2, .int k)]) hx hb dX11_as_8 rfl hl (by decide) rfl (fun ls hl => ?_)
    refine lv_aload_n hx hb dX11_as_9 rfl (lv_at hl 0 rfl) ?_
    refine lv_ifnull hx hb dX11_as_10 ?_
    refine lv_iload_n hx hb dX11_as_13 rfl (lv_at hl 3 rfl) ?_
    refine lv_iconst (v := 0) hx hb dX11_as_14 (by decide) ?_
    refine lv_bipush (v := 6) hx hb dX11_as_15 (by decide) ?_
    refine K_i (G_S (As := [.int k, .int 0, .int 6]) (rest := []) X hM (c_X11_isIn l g _ k 0 6  ) lk_X11_53 rfl hl.1 rfl (Nat.le_of_ble_eq_true rfl) (by decide) dX11_as_17 ⟨Nat.le_of_ble_eq_true rfl, Nat.le_of_ble_eq_true rfl⟩) hM (fun r M1 H locs hM hp => ?_)
    obtain ⟨rfl, rfl⟩ := hp
    refine lv_if_ne (tgt := 25) hx hb dX11_as_20 (by decide) (fun c_2 => ?_) (fun c_2 => ?_)
    · skip
      refine lv_aload_n hx hb dX11_as_25 rfl (lv_at hl 0 rfl) ?_
      refine lv_iload_n hx hb dX11_as_26 rfl (lv_at hl 3 rfl) ?_
      refine K_i (G_S (As := [.ref (eSt en j_1), .int k]) (rest := []) X hM (c_X11_isOfKind l g _ (eSt en j_1) (eKd en j_1) (nI j_1) (eVv en j_1) k m_j_1 hkd) lk_X11_250 rfl hl.1 rfl (Nat.le_of_ble_eq_true rfl) (by decide) dX11_as_27 ⟨Nat.le_of_ble_eq_true rfl, Nat.le_of_ble_eq_true rfl⟩) hM (fun r M1 H locs hM hp => ?_)
      obtain ⟨rfl, rfl⟩ := hp
      refine lv_if_eq (tgt := 40) hx hb dX11_as_30 (by decide) (fun c_3 => ?_) (fun c_3 => ?_)
      · skip
        refine lv_bipush (v := -6) hx hb dX11_as_40 (by decide) ?_
        exact R_i X hr hk hM ⟨(by unfold opAs; (try simp only [jc_j_1]); (first | rw [if_pos il_j_1] | rw [if_neg il_j_1] | skip); (first | rw [if_pos c_2] | rw [if_neg c_2] | skip); (first | rw [if_pos c_3] | rw [if_neg c_3] | skip); all_goals (first | rfl | (simp [*]))), rfl⟩ dX11_as_42
      · skip
        refine lv_aload_n hx hb dX11_as_33 rfl (lv_at hl 0 rfl) ?_
        refine sg_X11_107 X hM m_j_1 (kd := eKd en j_1) hkd dX11_as_34 ?_
        refine lv_goto (tgt := 42) hx hb dX11_as_37 (by decide) ?_
        exact R_i X hr hk hM ⟨(by unfold opAs; (try simp only [jc_j_1]); (first | rw [if_pos il_j_1] | rw [if_neg il_j_1] | skip); (first | rw [if_pos c_2] | rw [if_neg c_2] | skip); (first | rw [if_pos c_3] | rw [if_neg c_3] | skip); all_goals (first | rfl | (simp [*]))), rfl⟩ dX11_as_42
    · skip
      refine lv_iconst (v := -1) hx hb dX11_as_23 (by decide) ?_
      exact R_i X hr hk hM ⟨(by unfold opAs; (try simp only [jc_j_1]); (first | rw [if_pos il_j_1] | rw [if_neg il_j_1] | skip); (first | rw [if_pos c_2] | rw [if_neg c_2] | skip); all_goals (first | rfl | (simp [*]))), rfl⟩ dX11_as_24
set_option maxHeartbeats 4000000 in
set_option maxRecDepth 100000 in
theorem c_X11_count (l : Launch) (g : Gp) (M : Mem) (ik : Int32) (en : En) (nc np nb : Nat) (ac tc w : Int32) (h0 : M (gA g 0) = some (custE g ik)) (h1 : M (gA g 1) = some (rowsE (gA g 2) 20 1 tc)) (h3 : M (gA g 3) = some (roofN g (eNi en) (nI (eL en)) (eSk en) (eHi en))) (h13 : M (gA g 13) = some (rowsE (gA g 14) 100 1 ac)) (h15 : M (gA g 15) = some (rowsE (gA g 16) 6 3 (nI nc))) (h17 : M (gA g 17) = some (rowsE (gA g 18) 8 3 (nI np))) (h19 : M (gA g 19) = some (rowsE (gA g 20) 8 3 (nI nb))) : Met l yX11_count (wsM yX11_count cX11_count 2 (some .int)) (rmD 1 0 0) (Pre g M [.ref (gA g 0), .int w]) (Qi g (fun r M1 => (opCount en (nI nc) (nI np) (nI nb) ac tc w) = r ∧ M = M1)) 0 0 (gF g) := M_start (by decide +kernel) (Nat.le_of_ble_eq_true rfl) fun p e s m args below meth c ls X hr hk hnm hM hl => by
  have X : Cx g p m c cX11_count 2 s args RX11 := X
  have hx := X.1.1
  have hb := X.1.2.1
  have hl : lv_has ls 2 [(0, .ref (gA g 0)), (1, .int w)] := hl
  refine lv_iload_n hx hb dX11_count_0 rfl (lv_at hl 1 rfl) ?_
  by_cases w_1 : w = 0
  · skip
    refine lv_tableIn (off := 43) (tgt := 44) hx hb dX11_count_1 (by rw [w_1]; decide) (by rw [w_1]; decide) (by rw [w_1]; rfl) (by decide) ?_
    refine lv_aload_n hx hb dX11_count_44 rfl (lv_at hl 0 rfl) ?_
    refine r_get (T := TX11) (N := 7) (ci := 11) (v := .ref (gA g 3)) X hM iX11 rfl 1 (by decide) q_177 (Or.inl rfl) h0 rfl dX11_count_45 ?_
    refine r_get (T := TX4) (N := 14) (ci := 4) (v := .int (nI (eL en))) X hM iX4 rfl 1 (by decide) q_98 (Or.inl rfl) h3 rfl dX11_count_48 ?_
    exact R_i X hr hk hM ⟨(by unfold opCount; (first | rw [if_pos w_1] | rw [if_neg w_1] | skip); all_goals (first | rfl | (simp [*]))), rfl⟩ dX11_count_51
  by_cases w_2 : w = 1
  · skip
    refine lv_tableIn (off := 51) (tgt := 52) hx hb dX11_count_1 (by rw [w_2]; decide) (by rw [w_2]; decide) (by rw [w_2]; rfl) (by decide) ?_
    refine lv_aload_n hx hb dX11_count_52 rfl (lv_at hl 0 rfl) ?_
    refine r_get (T := TX11) (N := 7) (ci := 11) (v := .ref (gA g 3)) X hM iX11 rfl 1 (by decide) q_177 (Or.inl rfl) h0 rfl dX11_count_53 ?_
    refine r_get (T := TX4) (N := 14) (ci := 4) (v := .int (eSk en)) X hM iX4 rfl 2 (by decide) q_100 (Or.inl rfl) h3 rfl dX11_count_56 ?_
    exact R_i X hr hk hM ⟨(by unfold opCount; (first | rw [if_pos w_1] | rw [if_neg w_1] | skip); (first | rw [if_pos w_2] | rw [if_neg w_2] | skip); all_goals (first | rfl | (simp [*]))), rfl⟩ dX11_count_59
  by_cases w_3 : w = 2
  · skip
    refine lv_tableIn (off := 59) (tgt := 60) hx hb dX11_count_1 (by rw [w_3]; decide) (by rw [w_3]; decide) (by rw [w_3]; rfl) (by decide) ?_
    refine lv_aload_n hx hb dX11_count_60 rfl (lv_at hl 0 rfl) ?_
    refine r_get (T := TX11) (N := 7) (ci := 11) (v := .ref (gA g 3)) X hM iX11 rfl 1 (by decide) q_177 (Or.inl rfl) h0 rfl dX11_count_61 ?_
    refine r_get (T := TX4) (N := 14) (ci := 4) (v := .ref (gA g 15)) X hM iX4 rfl 11 (by decide) q_117 (Or.inl rfl) h3 rfl dX11_count_64 ?_
    refine r_get (T := TX5) (N := 4) (ci := 5) (v := .int (nI nc)) X hM iX5 rfl 3 (by decide) q_44 (Or.inl rfl) h15 rfl dX11_count_67 ?_
    exact R_i X hr hk hM ⟨(by unfold opCount; (first | rw [if_pos w_1] | rw [if_neg w_1] | skip); (first | rw [if_pos w_2] | rw [if_neg w_2] | skip); (first | rw [if_pos w_3] | rw [if_neg w_3] | skip); all_goals (first | rfl | (simp [*]))), rfl⟩ dX11_count_70
  by_cases w_4 : w = 3
  · skip
    refine lv_tableIn (off := 70) (tgt := 71) hx hb dX11_count_1 (by rw [w_4]; decide) (by rw [w_4]; decide) (by rw [w_4]; rfl) (by decide) ?_
    refine lv_aload_n hx hb dX11_count_71 rfl (lv_at hl 0 rfl) ?_
    refine r_get (T := TX11) (N := 7) (ci := 11) (v := .ref (gA g 3)) X hM iX11 rfl 1 (by decide) q_177 (Or.inl rfl) h0 rfl dX11_count_72 ?_
    refine r_get (T := TX4) (N := 14) (ci := 4) (v := .ref (gA g 17)) X hM iX4 rfl 12 (by decide) q_119 (Or.inl rfl) h3 rfl dX11_count_75 ?_
    refine r_get (T := TX5) (N := 4) (ci := 5) (v := .int (nI np)) X hM iX5 rfl 3 (by decide) q_44 (Or.inl rfl) h17 rfl dX11_count_78 ?_
    exact R_i X hr hk hM ⟨(by unfold opCount; (first | rw [if_pos w_1] | rw [if_neg w_1] | skip); (first | rw [if_pos w_2] | rw [if_neg w_2] | skip); (first | rw [if_pos w_3] | rw [if_neg w_3] | skip); (first | rw [if_pos w_4] | rw [if_neg w_4] | skip); all_goals (first | rfl | (simp [*]))), rfl⟩ dX11_count_81
  by_cases w_5 : w = 4
  · skip
    refine lv_tableIn (off := 81) (tgt := 82) hx hb dX11_count_1 (by rw [w_5]; decide) (by rw [w_5]; decide) (by rw [w_5]; rfl) (by decide) ?_
    refine lv_aload_n hx hb dX11_count_82 rfl (lv_at hl 0 rfl) ?_
    refine r_get (T := TX11) (N := 7) (ci := 11) (v := .ref (gA g 3)) X hM iX11 rfl 1 (by decide) q_177 (Or.inl rfl) h0 rfl dX11_count_83 ?_
    refine r_get (T := TX4) (N := 14) (ci := 4) (v := .ref (gA g 19)) X hM iX4 rfl 13 (by decide) q_121 (Or.inl rfl) h3 rfl dX11_count_86 ?_
    refine r_get (T := TX5) (N := 4) (ci := 5) (v := .int (nI nb)) X hM iX5 rfl 3 (by decide) q_44 (Or.inl rfl) h19 rfl dX11_count_89 ?_
    exact R_i X hr hk hM ⟨(by unfold opCount; (first | rw [if_pos w_1] | rw [if_neg w_1] | skip); (first | rw [if_pos w_2] | rw [if_neg w_2] | skip); (first | rw [if_pos w_3] | rw [if_neg w_3] | skip); (first | rw [if_pos w_4] | rw [if_neg w_4] | skip); (first | rw [if_pos w_5] | rw [if_neg w_5] | skip); all_goals (first | rfl | (simp [*]))), rfl⟩ dX11_count_92
  by_cases w_6 : w = 5
  · skip
    refine lv_tableIn (off := 92) (tgt := 93) hx hb dX11_count_1 (by rw [w_6]; decide) (by rw [w_6]; decide) (by rw [w_6]; rfl) (by decide) ?_
    refine lv_aload_n hx hb dX11_count_93 rfl (lv_at hl 0 rfl) ?_
    refine r_get (T := TX11) (N := 7) (ci := 11) (v := .ref (gA g 3)) X hM iX11 rfl 1 (by decide) q_177 (Or.inl rfl) h0 rfl dX11_count_94 ?_
    refine r_get (T := TX4) (N := 14) (ci := 4) (v := .ref (gA g 13)) X hM iX4 rfl 10 (by decide) q_114 (Or.inl rfl) h3 rfl dX11_count_97 ?_
    refine r_get (T := TX5) (N := 4) (ci := 5) (v := .int ac) X hM iX5 rfl 3 (by decide) q_44 (Or.inl rfl) h13 rfl dX11_count_100 ?_
    exact R_i X hr hk hM ⟨(by unfold opCount; (first | rw [if_pos w_1] | rw [if_neg w_1] | skip); (first | rw [if_pos w_2] | rw [if_neg w_2] | skip); (first | rw [if_pos w_3] | rw [if_neg w_3] | skip); (first | rw [if_pos w_4] | rw [if_neg w_4] | skip); (first | rw [if_pos w_5] | rw [if_neg w_5] | skip); (first | rw [if_pos w_6] | rw [if_neg w_6] | skip); all_goals (first | rfl | (simp [*]))), rfl⟩ dX11_count_103
  by_cases w_7 : w = 6
  · skip
    refine lv_tableIn (off := 103) (tgt := 104) hx hb dX11_count_1 (by rw [w_7]; decide) (by rw [w_7]; decide) (by rw [w_7]; rfl) (by decide) ?_
    refine lv_aload_n hx hb dX11_count_104 rfl (lv_at hl 0 rfl) ?_
    refine r_get (T := TX11) (N := 7) (ci := 11) (v := .ref (gA g 1)) X hM iX11 rfl 0 (by decide) q_176 (Or.inl rfl) h0 rfl dX11_count_105 ?_
    refine r_get (T := TX5) (N := 4) (ci := 5) (v := .int tc) X hM iX5 rfl 3 (by decide) q_44 (Or.inl rfl) h1 rfl dX11_count_108 ?_
    exact R_i X hr hk hM ⟨(by unfold opCount; (first | rw [if_pos w_1] | rw [if_neg w_1] | skip); (first | rw [if_pos w_2] | rw [if_neg w_2] | skip); (first | rw [if_pos w_3] | rw [if_neg w_3] | skip); (first | rw [if_pos w_4] | rw [if_neg w_4] | skip); (first | rw [if_pos w_5] | rw [if_neg w_5] | skip); (first | rw [if_pos w_6] | rw [if_neg w_6] | skip); (first | rw [if_pos w_7] | rw [if_neg w_7] | skip); all_goals (first | rfl | (simp [*]))), rfl⟩ dX11_count_111
  refine lv_tableOut (tgt := 112) hx hb dX11_count_1 (by have z0 := i32ne w_1 (by decide : ((0 : Int32)).toInt = 0); have z1 := i32ne w_2 (by decide : ((1 : Int32)).toInt = 1); have z2 := i32ne w_3 (by decide : ((2 : Int32)).toInt = 2); have z3 := i32ne w_4 (by decide : ((3 : Int32)).toInt = 3); have z4 := i32ne w_5 (by decide : ((4 : Int32)).toInt = 4); have z5 := i32ne w_6 (by decide : ((5 : Int32)).toInt = 5); have z6 := i32ne w_7 (by decide : ((6 : Int32)).toInt = 6); omega) (by decide) ?_
  refine lv_iconst (v := -1) hx hb dX11_count_112 (by decide) ?_
  exact R_i X hr hk hM ⟨(by unfold opCount; (first | rw [if_pos w_1] | rw [if_neg w_1] | skip); (first | rw [if_pos w_2] | rw [if_neg w_2] | skip); (first | rw [if_pos w_3] | rw [if_neg w_3] | skip); (first | rw [if_pos w_4] | rw [if_neg w_4] | skip); (first | rw [if_pos w_5] | rw [if_neg w_5] | skip); (first | rw [if_pos w_6] | rw [if_neg w_6] | skip); (first | rw [if_pos w_7] | rw [if_neg w_7] | skip); all_goals (first | rfl | (simp [*]))), rfl⟩ dX11_count_113
set_option maxHeartbeats 4000000 in
set_option maxRecDepth 100000 in
theorem c_X11_isAsNoted (l : Launch) (g : Gp) (M : Mem) (ik : Int32) (en : En) (nc : Nat) (nf : Nat → Int32) (j : Nat) (fi x : Int32) (h0 : M (gA g 0) = some (custE g ik)) (h3 : M (gA g 3) = some (roofN g (eNi en) (nI (eL en)) (eSk en) (eHi en))) (h5 : M (gA g 5) = some (aS g 6 (eS en))) (h6 : M (gA g 6) = some (aI g 6 (eRo en))) (h7 : M (gA g 7) = some (aI g 6 (ePh en))) (h15 : M (gA g 15) = some (rowsE (gA g 16) 6 3 (nI nc))) (h16 : M (gA g 16) = some (aI g 18 nf)) (hE : EnOk g M en) (hj : j < eL en) (hnc : nc ≤ 6) : Met l yX11_isAsNoted (wsM yX11_isAsNoted cX11_isAsNoted 10 (some .boolean)) (rmD 5 0 0) (Pre g M [.ref (gA g 0), .ref (eSt en j), .int fi, .int x]) (Qi g (fun r M1 => (fAsN en j nf nc fi x) = r ∧ M = M1)) 0 0 (gF g) := M_start (by decide +kernel) (Nat.le_of_ble_eq_true rfl) fun p e s m args below meth c ls X hr hk hnm hM hl => by
  have X : Cx g p m c cX11_isAsNoted 10 s args RX11 := X
  have hx := X.1.1
  have hb := X.1.2.1
  have hl : lv_has ls 10 [(0, .ref (gA g 0)), (1, .ref (eSt en j)), (2, .int fi), (3, .int x)] := hl
  obtain ⟨s_j, m_j, hkd⟩ := hE.2.2 j hj
  have h6j : j < 6 := by have := hE.1; omega
  refine lv_iload_n hx hb dX11_isAsNoted_0 rfl (lv_at hl 2 rfl) ?_
  refine lv_iconst (v := 1) hx hb dX11_isAsNoted_1 (by decide) ?_
  refine l_joinM (ls := ls) hM 13 (if fi = 1 then x else eVv en j) [] (fun H locs hM => ?_) (fun J2 => ?_)
  · skip
    refine lv_topi (fun v4 e_v4 => ?_)
    refine lv_istore (lv' := [(4, .int v4), (0, .ref (gA g 0)), (1, .ref (eSt en j)), (2, .int fi), (3, .int x)]) hx hb dX11_isAsNoted_13 hl (by decide) rfl (fun ls hl => ?_)
    refine lv_iload_n hx hb dX11_isAsNoted_15 rfl (lv_at hl 3 rfl) ?_
    refine lv_iconst (v := 2) hx hb dX11_isAsNoted_16 (by decide) ?_
    refine l_joinM (ls := ls) hM 38 (if fi = 2 then x else fAt 6 (eRo en) (nI j)) [] (fun H locs hM => ?_) (fun J17 => ?_)
    · skip
      refine lv_topi (fun v5 e_v5 => ?_)
      refine lv_istore (lv' := [(5, .int v5), (4, .int v4), (0, .ref (gA g 0)), (1, .ref (eSt en j)), (2, .int fi), (3, .int x)]) hx hb dX11_isAsNoted_38 hl (by decide) rfl (fun ls hl => ?_)
      refine lv_iload_n hx hb dX11_isAsNoted_40 rfl (lv_at hl 4 rfl) ?_
      refine lv_iconst (v := 3) hx hb dX11_isAsNoted_41 (by decide) ?_
      refine l_joinM (ls := ls) hM 63 (if fi = 3 then x else fAt 6 (ePh en) (nI j)) [] (fun H locs hM => ?_) (fun J42 => ?_)
      · skip
        refine lv_topi (fun v6 e_v6 => ?_)
        refine lv_istore (lv' := [(6, .int v6), (5, .int v5), (4, .int v4), (0, .ref (gA g 0)), (1, .ref (eSt en j)), (2, .int fi), (3, .int x)]) hx hb dX11_isAsNoted_63 hl (by decide) rfl (fun ls hl => ?_)
        refine lv_aload_n hx hb dX11_isAsNoted_65 rfl (lv_at hl 3 rfl) ?_
        refine r_get (T := TX11) (N := 7) (ci := 11) (v := .ref (gA g 3)) X hM iX11 rfl 1 (by decide) q_177 (Or.inl rfl) h0 rfl dX11_isAsNoted_66 ?_
        refine r_get (T := TX4) (N := 14) (ci := 4) (v := .int (eHi en)) X hM iX4 rfl 3 (by decide) q_102 (Or.inl rfl) h3 rfl dX11_isAsNoted_69 ?_
        refine lv_aload_n hx hb dX11_isAsNoted_72 rfl (lv_at hl 4 rfl) ?_
        refine sg_X11_282 X hM m_j (kd := eKd en j) hkd dX11_isAsNoted_73 ?_
        refine K_i (G_S (As := [.int (eHi en), .int (nI j)]) (rest := []) X hM (c_X11_bitOf l g _ (eHi en) (nI j)  ) lk_X11_123 rfl hl.1 rfl (Nat.le_of_ble_eq_true rfl) (by decide) dX11_isAsNoted_76 ⟨Nat.le_of_ble_eq_true rfl, Nat.le_of_ble_eq_true rfl⟩) hM (fun r M1 H locs hM hp => ?_)
        obtain ⟨rfl, rfl⟩ := hp
        refine lv_iconst (v := 1) hx hb dX11_isAsNoted_79 (by decide) ?_
        refine l_joinM (ls := ls) hM 88 (if fBit (eHi en) (nI j) = 1 then 1 else 0) [] (fun H locs hM => ?_) (fun J80 => ?_)
        · skip
          refine lv_topi (fun v7 e_v7 => ?_)
          refine lv_istore (lv' := [(7, .int v7), (6, .int v6), (5, .int v5), (4, .int v4), (0, .ref (gA g 0)), (1, .ref (eSt en j)), (2, .int fi), (3, .int x)]) hx hb dX11_isAsNoted_88 hl (by decide) rfl (fun ls hl => ?_)
          refine lv_iconst (v := 0) hx hb dX11_isAsNoted_90 (by decide) ?_
          refine lv_istore (lv' := [(8, .int 0), (7, .int v7), (6, .int v6), (5, .int v5), (4, .int v4), (0, .ref (gA g 0)), (1, .ref (eSt en j)), (2, .int fi), (3, .int x)]) hx hb dX11_isAsNoted_91 hl (by decide) rfl (fun ls hl => ?_)
          have L93 : ∀ (fu : Nat) (i : Nat) (hi : i ≤ nc) (hr2 : fAsN en j nf nc fi x = noN en j nf v4 v5 v6 (nc - i) i) (H : Heap) (locs : List Loc) (hM : MW g (M) H locs) (ls : Array Slot) (hl : lv_has ls 10 [(0, .ref (gA g 0)), (1, .ref (eSt en j)), (2, .int fi), (3, .int x), (4, .int v4), (5, .int v5), (6, .int v6), (7, .int v7), (8, .int (nI i))]), nc - i < fu → W p l e (rmD 5 0 0) s m args below meth c H locs 0 0 (MQ below (Qi g (fun r M1 => (fAsN en j nf nc fi x) = r ∧ M = M1)) args s 0 0 (gF g)) (F0 m 93 ls []) := by
            intro fu
            induction fu with
            | zero => intro i hi hr2 H locs hM ls hl hmu; exact absurd hmu (Nat.not_lt_zero _)
            | succ fu ih =>
              intro i hi hr2 H locs hM ls hl hmu
              refine lv_iload hx hb dX11_isAsNoted_93 (lv_at hl 8 rfl) ?_
              refine lv_aload_n hx hb dX11_isAsNoted_95 rfl (lv_at hl 0 rfl) ?_
              refine r_get (T := TX11) (N := 7) (ci := 11) (v := .ref (gA g 3)) X hM iX11 rfl 1 (by decide) q_177 (Or.inl rfl) h0 rfl dX11_isAsNoted_96 ?_
              refine r_get (T := TX4) (N := 14) (ci := 4) (v := .ref (gA g 15)) X hM iX4 rfl 11 (by decide) q_117 (Or.inl rfl) h3 rfl dX11_isAsNoted_99 ?_
              refine r_get (T := TX5) (N := 4) (ci := 5) (v := .int (nI nc)) X hM iX5 rfl 3 (by decide) q_44 (Or.inl rfl) h15 rfl dX11_isAsNoted_102 ?_
              refine lv_icmp_ge (tgt := 209) hx hb dX11_isAsNoted_105 (by decide) (fun c_1 => ?_) (fun c_1 => ?_)
              · skip
                have hz1 : nc ≤ i := (nI_leI (by omega) (by omega)).mp c_1
                have hz2 : i = nc := by omega
                refine lv_iconst (v := 1) hx hb dX11_isAsNoted_209 (by decide) ?_
                exact R_z X hr hk (Or.inr rfl) hM ⟨(by rw [hr2, hz2, Nat.sub_self]; rfl), rfl⟩ dX11_isAsNoted_210
              · skip
                have hz1 : i < nc := by
                  rcases Nat.lt_or_ge i (nc) with q | q
                  · exact q
                  · exact absurd ((nI_leI (by omega) (by omega)).mpr q) c_1
                refine lv_iload hx hb dX11_isAsNoted_108 (lv_at hl 7 rfl) ?_
                refine l_joinM (ls := ls) hM 152 (if v7 = 0 then (if fOver (eKd en j) (eNi en + fAt 18 nf (nI i * 3 + 1)) v4 v5 v6 = 0 then 0 else 1) else 0) [] (fun H locs hM => ?_) (fun J110 => ?_)
                · skip
                  refine lv_topi (fun v9 e_v9 => ?_)
                  have k9 : fNoU en j nf v4 v5 v6 i = v9 := by
                    rw [e_v9, e_v7]
                    unfold fNoU
                    by_cases hq : fBit (eHi en) (nI j) = 1 <;> simp [hq]
                  refine lv_istore (lv' := [(9, .int v9), (0, .ref (gA g 0)), (1, .ref (eSt en j)), (2, .int fi), (3, .int x), (4, .int v4), (5, .int v5), (6, .int v6), (7, .int v7), (8, .int (nI i))]) hx hb dX11_isAsNoted_152 hl (by decide) rfl (fun ls hl => ?_)
                  refine lv_aload_n hx hb dX11_isAsNoted_154 rfl (lv_at hl 1 rfl) ?_
                  refine r_get (T := TX11) (N := 7) (ci := 11) (v := .ref (gA g 3)) X hM iX11 rfl 1 (by decide) q_177 (Or.inl rfl) h0 rfl dX11_isAsNoted_155 ?_
                  refine r_get (T := TX4) (N := 14) (ci := 4) (v := .ref (gA g 15)) X hM iX4 rfl 11 (by decide) q_117 (Or.inl rfl) h3 rfl dX11_isAsNoted_158 ?_
                  refine lv_iload hx hb dX11_isAsNoted_161 (lv_at hl 9 rfl) ?_
                  refine lv_iconst (v := 0) hx hb dX11_isAsNoted_163 (by decide) ?_
                  refine K_i (G_V (As := [.int (nI i), .int 0]) (rest := []) X hM (c_X5_cell l g _ (gA g 15) (gA g 16) 18 nf 6 3 (nI nc) (nI i) 0 h15 h16 (by decide)) lk_X11_235 h15 rfl rfl hl.1 rfl (Nat.le_of_ble_eq_true rfl) (by decide) dX11_isAsNoted_164 ⟨Nat.le_of_ble_eq_true rfl, Nat.le_of_ble_eq_true rfl⟩) hM (fun r M1 H locs hM hp => ?_)
                  obtain ⟨rfl, rfl⟩ := hp
                  refine lv_aload_n hx hb dX11_isAsNoted_167 rfl (lv_at hl 2 rfl) ?_
                  refine sg_X11_282 X hM m_j (kd := eKd en j) hkd dX11_isAsNoted_168 ?_
                  refine lv_icmp_ne (tgt := 203) hx hb dX11_isAsNoted_171 (by decide) (fun c_2 => ?_) (fun c_2 => ?_)
                  · skip
                    refine lv_iinc (v := (nI i) + 1) (lv' := [(8, .int ((nI i) + 1)), (9, .int v9), (0, .ref (gA g 0)), (1, .ref (eSt en j)), (2, .int fi), (3, .int x), (4, .int v4), (5, .int v5), (6, .int v6), (7, .int v7)]) hx hb dX11_isAsNoted_203 hl (k := 9) rfl rfl (by decide) rfl (fun ls hl => ?_)
                    refine lv_goto (tgt := 93) hx hb dX11_isAsNoted_206 (by decide) ?_
                    exact ih (i + 1) (by omega) (by rw [hr2, show nc - i = (nc - (i + 1)) + 1 by omega, noN]; first | (rw [if_neg c_2]) | (rw [if_pos c_2, k9, ← e_v10]; skip)) _ _ hM _ ((by rw [← nI_1]; exact lv_sub hl [2, 3, 4, 5, 6, 7, 8, 9, 0] rfl)) (by omega)
                  · skip
                    refine lv_iload hx hb dX11_isAsNoted_174 (lv_at hl 0 rfl) ?_
                    refine lv_aload_n hx hb dX11_isAsNoted_176 rfl (lv_at hl 1 rfl) ?_
                    refine r_get (T := TX11) (N := 7) (ci := 11) (v := .ref (gA g 3)) X hM iX11 rfl 1 (by decide) q_177 (Or.inl rfl) h0 rfl dX11_isAsNoted_177 ?_
                    refine r_get (T := TX4) (N := 14) (ci := 4) (v := .ref (gA g 15)) X hM iX4 rfl 11 (by decide) q_117 (Or.inl rfl) h3 rfl dX11_isAsNoted_180 ?_
                    refine lv_iload hx hb dX11_isAsNoted_183 (lv_at hl 9 rfl) ?_
                    refine lv_iconst (v := 2) hx hb dX11_isAsNoted_185 (by decide) ?_
                    refine K_i (G_V (As := [.int (nI i), .int 2]) (rest := [.int v9]) X hM (c_X5_cell l g _ (gA g 15) (gA g 16) 18 nf 6 3 (nI nc) (nI i) 2 h15 h16 (by decide)) lk_X11_235 h15 rfl rfl hl.1 rfl (Nat.le_of_ble_eq_true rfl) (by decide) dX11_isAsNoted_186 ⟨Nat.le_of_ble_eq_true rfl, Nat.le_of_ble_eq_true rfl⟩) hM (fun r M1 H locs hM hp => ?_)
                    obtain ⟨rfl, rfl⟩ := hp
                    refine lv_iconst (v := 1) hx hb dX11_isAsNoted_189 (by decide) ?_
                    refine l_joinM (ls := ls) hM 198 (if fAt 18 nf (nI i * 3 + 2) = 1 then 1 else 0) [.int v9] (fun H locs hM => ?_) (fun J190 => ?_)
                    · skip
                      refine lv_topi (fun v10 e_v10 => ?_)
                      refine lv_icmp_eq (tgt := 203) hx hb dX11_isAsNoted_198 (by decide) (fun c_3 => ?_) (fun c_3 => ?_)
                      · skip
                        refine lv_iinc (v := (nI i) + 1) (lv' := [(8, .int ((nI i) + 1)), (9, .int v9), (0, .ref (gA g 0)), (1, .ref (eSt en j)), (2, .int fi), (3, .int x), (4, .int v4), (5, .int v5), (6, .int v6), (7, .int v7)]) hx hb dX11_isAsNoted_203 hl (k := 9) rfl rfl (by decide) rfl (fun ls hl => ?_)
                        refine lv_goto (tgt := 93) hx hb dX11_isAsNoted_206 (by decide) ?_
                        exact ih (i + 1) (by omega) (by rw [hr2, show nc - i = (nc - (i + 1)) + 1 by omega, noN]; first | (rw [if_neg c_2]) | (rw [if_pos c_2, k9, ← e_v10]; first | rw [if_pos c_3] | rw [if_neg c_3])) _ _ hM _ ((by rw [← nI_1]; exact lv_sub hl [2, 3, 4, 5, 6, 7, 8, 9, 0] rfl)) (by omega)
                      · skip
                        refine lv_iconst (v := 0) hx hb dX11_isAsNoted_201 (by decide) ?_
                        exact R_z X hr hk (Or.inl rfl) hM ⟨(by rw [hr2, show nc - i = (nc - (i + 1)) + 1 by omega, noN]; first | (rw [if_neg c_2]) | (rw [if_pos c_2, k9, ← e_v10]; first | rw [if_pos c_3] | rw [if_neg c_3])), rfl⟩ dX11_isAsNoted_202
                    refine lv_icmp_ne (tgt := 197) hx hb dX11_isAsNoted_190 (by decide) (fun c_4 => ?_) (fun c_4 => ?_)
                    · skip
                      refine lv_iconst (v := 0) hx hb dX11_isAsNoted_197 (by decide) ?_
                      exact J190 _ _ _ hM (by (first | rw [if_pos c_4] | rw [if_neg c_4] | skip); all_goals (first | rfl | simp [*]))
                    · skip
                      refine lv_iconst (v := 1) hx hb dX11_isAsNoted_193 (by decide) ?_
                      refine lv_goto (tgt := 198) hx hb dX11_isAsNoted_194 (by decide) ?_
                      exact J190 _ _ _ hM (by (first | rw [if_pos c_4] | rw [if_neg c_4] | skip); all_goals (first | rfl | simp [*]))
                refine lv_if_ne (tgt := 151) hx hb dX11_isAsNoted_110 (by decide) (fun c_5 => ?_) (fun c_5 => ?_)
                · skip
                  refine lv_iconst (v := 0) hx hb dX11_isAsNoted_151 (by decide) ?_
                  exact J110 _ _ _ hM (by (first | rw [if_pos c_5] | rw [if_neg c_5] | skip); all_goals (first | rfl | simp [*]))
                · skip
                  refine lv_aload_n hx hb dX11_isAsNoted_113 rfl (lv_at hl 1 rfl) ?_
                  refine lv_aload_n hx hb dX11_isAsNoted_114 rfl (lv_at hl 0 rfl) ?_
                  refine r_get (T := TX11) (N := 7) (ci := 11) (v := .ref (gA g 3)) X hM iX11 rfl 1 (by decide) q_177 (Or.inl rfl) h0 rfl dX11_isAsNoted_115 ?_
                  refine r_get (T := TX4) (N := 14) (ci := 4) (v := .int (eNi en)) X hM iX4 rfl 0 (by decide) q_96 (Or.inl rfl) h3 rfl dX11_isAsNoted_118 ?_
                  refine lv_aload_n hx hb dX11_isAsNoted_121 rfl (lv_at hl 0 rfl) ?_
                  refine r_get (T := TX11) (N := 7) (ci := 11) (v := .ref (gA g 3)) X hM iX11 rfl 1 (by decide) q_177 (Or.inl rfl) h0 rfl dX11_isAsNoted_122 ?_
                  refine r_get (T := TX4) (N := 14) (ci := 4) (v := .ref (gA g 15)) X hM iX4 rfl 11 (by decide) q_117 (Or.inl rfl) h3 rfl dX11_isAsNoted_125 ?_
                  refine lv_iload hx hb dX11_isAsNoted_128 (lv_at hl 8 rfl) ?_
                  refine lv_iconst (v := 1) hx hb dX11_isAsNoted_130 (by decide) ?_
                  refine K_i (G_V (As := [.int (nI i), .int 1]) (rest := [.int (eNi en), .ref (eSt en j)]) X hM (c_X5_cell l g _ (gA g 15) (gA g 16) 18 nf 6 3 (nI nc) (nI i) 1 h15 h16 (by decide)) lk_X11_235 h15 rfl rfl hl.1 rfl (Nat.le_of_ble_eq_true rfl) (by decide) dX11_isAsNoted_131 ⟨Nat.le_of_ble_eq_true rfl, Nat.le_of_ble_eq_true rfl⟩) hM (fun r M1 H locs hM hp => ?_)
                  obtain ⟨rfl, rfl⟩ := hp
                  refine lv_iadd hx hb dX11_isAsNoted_134 ?_
                  refine lv_iload hx hb dX11_isAsNoted_135 (lv_at hl 4 rfl) ?_
                  refine lv_iload hx hb dX11_isAsNoted_137 (lv_at hl 5 rfl) ?_
                  refine lv_iload hx hb dX11_isAsNoted_139 (lv_at hl 6 rfl) ?_
                  refine K_i (vr_isOver_X11 (rest := []) X hM m_j hkd hl.1 (Nat.le_of_ble_eq_true rfl) (by decide) dX11_isAsNoted_141 ⟨Nat.le_of_ble_eq_true rfl, Nat.le_of_ble_eq_true rfl⟩) hM (fun r M1 H locs hM hp => ?_)
                  obtain ⟨rfl, rfl⟩ := hp
                  refine lv_if_eq (tgt := 151) hx hb dX11_isAsNoted_144 (by decide) (fun c_6 => ?_) (fun c_6 => ?_)
                  · skip
                    refine lv_iconst (v := 0) hx hb dX11_isAsNoted_151 (by decide) ?_
                    exact J110 _ _ _ hM (by (first | rw [if_pos c_5] | rw [if_neg c_5] | skip); (first | rw [if_pos c_6] | rw [if_neg c_6] | skip); all_goals (first | rfl | simp [*]))
                  · skip
                    refine lv_iconst (v := 1) hx hb dX11_isAsNoted_147 (by decide) ?_
                    refine lv_goto (tgt := 152) hx hb dX11_isAsNoted_148 (by decide) ?_
                    exact J110 _ _ _ hM (by (first | rw [if_pos c_5] | rw [if_neg c_5] | skip); (first | rw [if_pos c_6] | rw [if_neg c_6] | skip); all_goals (first | rfl | simp [*]))
          exact L93 (nc + 1) 0 (Nat.zero_le _) (by unfold fAsN; rw [e_v4, e_v5, e_v6, fAt_nI h6j (by decide), fAt_nI h6j (by decide)]; rfl) _ _ hM _ (lv_sub hl [5, 6, 7, 8, 4, 3, 2, 1, 0] rfl) (by first | exact Nat.lt_succ_self _ | omega)
        refine lv_icmp_ne (tgt := 87) hx hb dX11_isAsNoted_80 (by decide) (fun c_7 => ?_) (fun c_7 => ?_)
        · skip
          refine lv_iconst (v := 0) hx hb dX11_isAsNoted_87 (by decide) ?_
          exact J80 _ _ _ hM (by (first | rw [if_pos c_7] | rw [if_neg c_7] | skip); all_goals (first | rfl | simp [*]))
        · skip
          refine lv_iconst (v := 1) hx hb dX11_isAsNoted_83 (by decide) ?_
          refine lv_goto (tgt := 88) hx hb dX11_isAsNoted_84 (by decide) ?_
          exact J80 _ _ _ hM (by (first | rw [if_pos c_7] | rw [if_neg c_7] | skip); all_goals (first | rfl | simp [*]))
      refine lv_icmp_ne (tgt := 49) hx hb dX11_isAsNoted_42 (by decide) (fun c_8 => ?_) (fun c_8 => ?_)
      · skip
        refine lv_aload_n hx hb dX11_isAsNoted_49 rfl (lv_at hl 2 rfl) ?_
        refine r_get (T := TX11) (N := 7) (ci := 11) (v := .ref (gA g 3)) X hM iX11 rfl 1 (by decide) q_177 (Or.inl rfl) h0 rfl dX11_isAsNoted_50 ?_
        refine r_get (T := TX4) (N := 14) (ci := 4) (v := .ref (gA g 7)) X hM iX4 rfl 7 (by decide) q_109 (Or.inl rfl) h3 rfl dX11_isAsNoted_53 ?_
        refine lv_aload_n hx hb dX11_isAsNoted_56 rfl (lv_at hl 3 rfl) ?_
        refine sg_X11_282 X hM m_j (kd := eKd en j) hkd dX11_isAsNoted_57 ?_
        refine K_i (G_S (As := [.ref (gA g 7), .int (nI j)]) (rest := []) X hM (c_X11_at l g _ (gA g 7) 6 (ePh en) (nI j) h7 (by decide)) lk_X11_113 rfl hl.1 rfl (Nat.le_of_ble_eq_true rfl) (by decide) dX11_isAsNoted_60 ⟨Nat.le_of_ble_eq_true rfl, Nat.le_of_ble_eq_true rfl⟩) hM (fun r M1 H locs hM hp => ?_)
        obtain ⟨rfl, rfl⟩ := hp
        exact J42 _ _ _ hM (by (first | rw [if_pos c_8] | rw [if_neg c_8] | skip); all_goals (first | rfl | simp [*]))
      · skip
        refine lv_iload_n hx hb dX11_isAsNoted_45 rfl (lv_at hl 5 rfl) ?_
        refine lv_goto (tgt := 63) hx hb dX11_isAsNoted_46 (by decide) ?_
        exact J42 _ _ _ hM (by (first | rw [if_pos c_8] | rw [if_neg c_8] | skip); all_goals (first | rfl | simp [*]))
    refine lv_icmp_ne (tgt := 24) hx hb dX11_isAsNoted_17 (by decide) (fun c_9 => ?_) (fun c_9 => ?_)
    · skip
      refine lv_aload_n hx hb dX11_isAsNoted_24 rfl (lv_at hl 1 rfl) ?_
      refine r_get (T := TX11) (N := 7) (ci := 11) (v := .ref (gA g 3)) X hM iX11 rfl 1 (by decide) q_177 (Or.inl rfl) h0 rfl dX11_isAsNoted_25 ?_
      refine r_get (T := TX4) (N := 14) (ci := 4) (v := .ref (gA g 6)) X hM iX4 rfl 6 (by decide) q_107 (Or.inl rfl) h3 rfl dX11_isAsNoted_28 ?_
      refine lv_aload_n hx hb dX11_isAsNoted_31 rfl (lv_at hl 2 rfl) ?_
      refine sg_X11_282 X hM m_j (kd := eKd en j) hkd dX11_isAsNoted_32 ?_
      refine K_i (G_S (As := [.ref (gA g 6), .int (nI j)]) (rest := []) X hM (c_X11_at l g _ (gA g 6) 6 (eRo en) (nI j) h6 (by decide)) lk_X11_113 rfl hl.1 rfl (Nat.le_of_ble_eq_true rfl) (by decide) dX11_isAsNoted_35 ⟨Nat.le_of_ble_eq_true rfl, Nat.le_of_ble_eq_true rfl⟩) hM (fun r M1 H locs hM hp => ?_)
      obtain ⟨rfl, rfl⟩ := hp
      exact J17 _ _ _ hM (by (first | rw [if_pos c_9] | rw [if_neg c_9] | skip); all_goals (first | rfl | simp [*]))
    · skip
      refine lv_iload_n hx hb dX11_isAsNoted_20 rfl (lv_at hl 4 rfl) ?_
      refine lv_goto (tgt := 38) hx hb dX11_isAsNoted_21 (by decide) ?_
      exact J17 _ _ _ hM (by (first | rw [if_pos c_9] | rw [if_neg c_9] | skip); all_goals (first | rfl | simp [*]))
  refine lv_icmp_ne (tgt := 9) hx hb dX11_isAsNoted_2 (by decide) (fun c_10 => ?_) (fun c_10 => ?_)
  · skip
    refine lv_aload_n hx hb dX11_isAsNoted_9 rfl (lv_at hl 1 rfl) ?_
    refine sg_X11_107 X hM m_j (kd := eKd en j) hkd dX11_isAsNoted_10 ?_
    exact J2 _ _ _ hM (by (first | rw [if_pos c_10] | rw [if_neg c_10] | skip); all_goals (first | rfl | simp [*]))
  · skip
    refine lv_iload_n hx hb dX11_isAsNoted_5 rfl (lv_at hl 3 rfl) ?_
    refine lv_goto (tgt := 13) hx hb dX11_isAsNoted_6 (by decide) ?_
    exact J2 _ _ _ hM (by (first | rw [if_pos c_10] | rw [if_neg c_10] | skip); all_goals (first | rfl | simp [*]))
