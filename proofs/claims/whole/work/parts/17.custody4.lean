theorem fIn_k1 {x M : Int32} {K : Nat} (hK : M.toInt = K) (h : ¬ fIn x 1 M = 0) : ∃ k, 1 ≤ k ∧ k ≤ K ∧ x = nI k := by
  unfold fIn at h
  by_cases h1 : x < 1
  · rw [if_pos h1] at h; exact absurd rfl h
  · rw [if_neg h1] at h
    by_cases h2 : M < x
    · rw [if_pos h2] at h; exact absurd rfl h
    · obtain ⟨j, hj, e⟩ := nI_of2 hK (fun q => h1 (Int32.lt_trans q (by decide))) (Int32.not_lt.mp h2)
      refine ⟨j, ?_, hj, e⟩
      rcases Nat.eq_zero_or_pos j with q | q
      · subst q
        rw [e] at h1
        exact absurd (by decide) h1
      · exact q
/-- what a row holds when the first i places have been filled -/
def fillN (P : Nat → Int32) (f : Nat → Int32) : Nat → (Nat → Int32)
  | 0 => f
  | i + 1 => fPut 60 (fillN P f i) (nI i) (P i)
def dHas (en : En) (ho : Int32) (i : Nat) : Int32 := fHas en ho (eNi en + nI i) (eHi en) (eCl en)
def fWay (how : Int32) (z : Nat) (f0 f1 : Nat → Int32) : Int32 := if how = 0 then fulN 60 f0 f1 z else (evN 60 z f0 f1 (2 ^ z)).1
def dealR (how w : Int32) (z : Nat) (f0 f1 : Nat → Int32) : Int32 := if w = 0 then fWay how z f0 f1 else if w = 1 then givN 60 f0 (fWay how z f0 f1) (w - 1) z else givN 60 f1 (fWay how z f0 f1) (w - 1) z
def opDeal (en : En) (tz tn : Nat → Int32) (n how w : Int32) : Int32 := if fIn how 0 1 = 0 then -1 else if fIn w 0 2 = 0 then -1 else if fIn n 1 9 = 0 then -2 else dealR how w n.toNatClampNeg (fillN (dHas en 0) tz n.toNatClampNeg) (fillN (dHas en 1) tn n.toNatClampNeg)
def dMon (en : En) (ho : Int32) (i : Nat) : Int32 := monN en i ho 28
def opShares (en : En) (tz tn : Nat → Int32) (w : Int32) : Int32 := if fIn w 0 1 = 0 then -1 else if w = 0 then till (fEnvy 60 (eL en) (fillN (dMon en 0) tz (eL en)) (fillN (dMon en 1) tn (eL en))) (2 ^ eL en) 0 else fulN 60 (fillN (dMon en 0) tz (eL en)) (fillN (dMon en 1) tn (eL en)) (eL en)
def dOdd (en : En) (ho : Int32) (i : Nat) : Int32 := if fTurn (eTu en) (eNi en + nI i) = ho then fHas en ho (eNi en + nI i) (eHi en) 0 else 0
def gooN (en : En) (f : Nat → Int32) (k : Nat) (q : Int32) : Nat → Int32
  | 0 => 0
  | i + 1 => if sunN 60 f (eNi en) (nI i) k < q then gooN en f k q i else gooN en f k q i + 1
def oddR (en : En) (f : Nat → Int32) (k : Nat) (q pt : Int32) : Int64 := ((if pt = 0 then gooN en f k q 13 else nI 13) / lowD (gooN en f k q 13) 13 14).toInt64
def opOdds (en : En) (tz : Nat → Int32) (ho n q pt : Int32) : Int64 := if fIn ho 0 1 = 0 then -9223372036854775808 else if fIn n 0 60 = 0 then -9223372036854775808 else if fIn q 0 9999 = 0 then -9223372036854775808 else if fIn pt 0 1 = 0 then -9223372036854775808 else oddR en (fillN (dOdd en ho) tz n.toNatClampNeg) n.toNatClampNeg q pt
def doneN (en : En) (f : Nat → Int32) (w : Int32) : Nat → Int32 × Int32 × Int32
  | 0 => (eNi en, eHi en, fAt 2 (eSe en) w)
  | i + 1 => if fAt 24 f (nI i * 3 + 0) = 0 then ((doneN en f w i).1 + 1, (doneN en f w i).2.1, if fTurn (eTu en) (doneN en f w i).1 = w then (doneN en f w i).2.2 + fHas en w (doneN en f w i).1 (doneN en f w i).2.1 (eCl en) else (doneN en f w i).2.2) else ((doneN en f w i).1, fWith (doneN en f w i).2.1 (fAt 24 f (nI i * 3 + 1)) (if fAt 24 f (nI i * 3 + 0) = 1 then 1 else 0), (doneN en f w i).2.2)
def opDone (en : En) (np : Nat) (f : Nat → Int32) (w : Int32) : Int32 := if fIn w 0 1 = 0 then -1 else (doneN en f w np).2.2

theorem lk_X11_278 : LkV RX11 278 yX11_isAsNoted cX11_isAsNoted 10 (some .boolean) 3 := lkV_of q_672 q_674 qs_8 q_1 q_675 ⟨by decide, by decide, by decide +kernel⟩ (by decide)
theorem lk_X11_217 : LkV RX11 217 yX11_fitting cX11_fitting 10 (some .int) 3 := lkV_of q_668 q_670 qs_7 q_1 q_671 ⟨by decide, by decide, by decide +kernel⟩ (by decide)
theorem lk_X11_197 : LkS RX11 197 yX11_evenestWay cX11_evenestWay 10 (some .int) 3 := lkS_of q_638 q_639 q_1 q_640 ⟨rfl, by decide, by decide, by decide +kernel⟩ (by decide)
theorem lk_X11_193 : LkS RX11 193 yX11_fullestWay cX11_fullestWay 5 (some .int) 3 := lkS_of q_635 q_636 q_1 q_637 ⟨rfl, by decide, by decide, by decide +kernel⟩ (by decide)
theorem lk_X11_207 : LkS RX11 207 yX11_noEnvyWay cX11_noEnvyWay 4 (some .int) 3 := lkS_of q_652 q_653 q_1 q_654 ⟨rfl, by decide, by decide, by decide +kernel⟩ (by decide)
theorem lk_X11_204 : LkV RX11 204 yX11_monthOf cX11_monthOf 7 (some .int) 2 := lkV_of q_648 q_650 qs_6 q_1 q_651 ⟨by decide, by decide, by decide +kernel⟩ (by decide)
theorem lk_X11_222 : LkV RX11 222 yX11_seenUnder cX11_seenUnder 5 (some .int) 2 := lkV_of q_695 q_697 qs_9 q_1 q_698 ⟨by decide, by decide, by decide +kernel⟩ (by decide)
set_option maxHeartbeats 4000000 in
set_option maxRecDepth 100000 in
theorem c_X11_fitting_1 (l : Launch) (g : Gp) (M : Mem) (ik : Int32) (en : En) (nc : Nat) (nf : Nat → Int32) (x w : Int32) (h0 : M (gA g 0) = some (custE g ik)) (h3 : M (gA g 3) = some (roofN g (eNi en) (nI (eL en)) (eSk en) (eHi en))) (h5 : M (gA g 5) = some (aS g 6 (eS en))) (h6 : M (gA g 6) = some (aI g 6 (eRo en))) (h7 : M (gA g 7) = some (aI g 6 (ePh en))) (h15 : M (gA g 15) = some (rowsE (gA g 16) 6 3 (nI nc))) (h16 : M (gA g 16) = some (aI g 18 nf)) (hE : EnOk g M en) (hnc : nc ≤ 6) : Met l yX11_fitting (wsM yX11_fitting cX11_fitting 10 (some .int)) (rmD 6 0 0) (Pre g M [.ref (gA g 0), .int x, .int w, .int 1]) (Qi g (fun r M1 => (opFit en nf nc x w 1) = r ∧ M = M1)) 0 0 (gF g) := M_start (by decide +kernel) (Nat.le_of_ble_eq_true rfl) fun p e s m args below meth c ls X hr hk hnm hM hl => by
  have X : Cx g p m c cX11_fitting 10 s args RX11 := X
  have hx := X.1.1
  have hb := X.1.2.1
  have hl : lv_has ls 10 [(0, .ref (gA g 0)), (1, .int x), (2, .int w), (3, .int 1)] := hl
  refine lv_aload_n hx hb dX11_fitting_0 rfl (lv_at hl 0 rfl) ?_
  refine r_get (T := TX11) (N := 7) (ci := 11) (v := .ref (gA g 3)) X hM iX11 rfl 1 (by decide) q_177 (Or.inl rfl) h0 rfl dX11_fitting_1 ?_
  refine lv_iload_n hx hb dX11_fitting_4 rfl (lv_at hl 1 rfl) ?_
  refine K_q (G_V (As := [.int x]) (rest := []) X hM (c_X4_starAt l g _ en (eNi en) (eSk en) (eHi en) x h3 h5 ) lk_X11_98 h3 rfl rfl hl.1 rfl (Nat.le_of_ble_eq_true rfl) (by decide) dX11_fitting_5 ⟨Nat.le_of_ble_eq_true rfl, Nat.le_of_ble_eq_true rfl⟩) hM (fun r M1 H locs hM hp => ?_)
  obtain ⟨rfl, rfl⟩ := hp
  rcases fStar_cases hE (x) with ⟨e_j_1, h_j_1⟩ | ⟨j_1, h_j_1, x_j_1, e_j_1⟩
  · rw [e_j_1]
    have il_j_1 := fIsL_0 h_j_1
    refine l_nstore (lv' := [(4, .null), (0, .ref (gA g 0)), (1, .int x), (2, .int w), (3, .int 1)]) hx hb dX11_fitting_8 hl (by decide) rfl (fun ls hl => ?_)
    refine l_nload hx hb dX11_fitting_10 (lv_at hl 0 rfl) ?_
    refine lv_ifnullN (tgt := 24) hx hb dX11_fitting_12 (by decide) ?_
    refine lv_iconst (v := -1) hx hb dX11_fitting_24 (by decide) ?_
    exact R_i X hr hk hM ⟨(by unfold opFit; (first | rw [if_pos il_j_1] | rw [if_neg il_j_1] | skip); all_goals (first | rfl | (simp [*]))), rfl⟩ dX11_fitting_25
  · rw [e_j_1]
    obtain ⟨s_j_1, m_j_1, hkd⟩ := hE.2.2 j_1 h_j_1
    have il_j_1 := fIsL_1n x_j_1 h_j_1 hE.1
    have jc_j_1 := clampj x_j_1 h_j_1 hE.1
    refine lv_astore (lv' := [(4, .ref (eSt en j_1)), (0, .ref (gA g 0)), (1, .int x), (2, .int w), (3, .int 1)]) hx hb dX11_fitting_8 hl (by decide) rfl (fun ls hl => ?_)
    refine lv_aload hx hb dX11_fitting_10 (lv_at hl 0 rfl) ?_
    refine lv_ifnull hx hb dX11_fitting_12 ?_
    refine lv_iload_n hx hb dX11_fitting_15 rfl (lv_at hl 3 rfl) ?_
    refine lv_iconst (v := 0) hx hb dX11_fitting_16 (by decide) ?_
    refine lv_iconst (v := 1) hx hb dX11_fitting_17 (by decide) ?_
    refine K_i (G_S (As := [.int w, .int 0, .int 1]) (rest := []) X hM (c_X11_isIn l g _ w 0 1  ) lk_X11_53 rfl hl.1 rfl (Nat.le_of_ble_eq_true rfl) (by decide) dX11_fitting_18 ⟨Nat.le_of_ble_eq_true rfl, Nat.le_of_ble_eq_true rfl⟩) hM (fun r M1 H locs hM hp => ?_)
    obtain ⟨rfl, rfl⟩ := hp
    refine lv_if_ne (tgt := 26) hx hb dX11_fitting_21 (by decide) (fun c_2 => ?_) (fun c_2 => ?_)
    · skip
      refine lv_iload_n hx hb dX11_fitting_26 rfl (lv_at hl 4 rfl) ?_
      refine lv_iconst (v := 2) hx hb dX11_fitting_27 (by decide) ?_
      refine lv_icmp_ne (tgt := 35) hx hb dX11_fitting_28 (by decide) (fun c_3 => ?_) (fun c_3 => ?_)
      · skip
        refine lv_iconst (v := 0) hx hb dX11_fitting_35 (by decide) ?_
        refine lv_istore (lv' := [(5, .int 0), (4, .ref (eSt en j_1)), (0, .ref (gA g 0)), (1, .int x), (2, .int w), (3, .int 1)]) hx hb dX11_fitting_36 hl (by decide) rfl (fun ls hl => ?_)
        refine lv_iload_n hx hb dX11_fitting_38 rfl (lv_at hl 5 rfl) ?_
        refine lv_iconst (v := 2) hx hb dX11_fitting_39 (by decide) ?_
        refine lv_icmp_ne (tgt := 48) hx hb dX11_fitting_40 (by decide) (fun c_4 => ?_) (fun c_4 => ?_)
        · skip
          refine lv_iload_n hx hb dX11_fitting_48 rfl (lv_at hl 5 rfl) ?_
          refine lv_iconst (v := 3) hx hb dX11_fitting_49 (by decide) ?_
          refine lv_icmp_ne (tgt := 58) hx hb dX11_fitting_50 (by decide) (fun c_5 => ?_) (fun c_5 => ?_)
          · skip
            refine lv_bipush (v := 9) hx hb dX11_fitting_58 (by decide) ?_
            refine lv_istore (lv' := [(6, .int 9), (5, .int 0), (4, .ref (eSt en j_1)), (0, .ref (gA g 0)), (1, .int x), (2, .int w), (3, .int 1)]) hx hb dX11_fitting_60 hl (by decide) rfl (fun ls hl => ?_)
            refine lv_iconst (v := 0) hx hb dX11_fitting_62 (by decide) ?_
            refine lv_istore (lv' := [(7, .int 0), (6, .int 9), (5, .int 0), (4, .ref (eSt en j_1)), (0, .ref (gA g 0)), (1, .int x), (2, .int w), (3, .int 1)]) hx hb dX11_fitting_63 hl (by decide) rfl (fun ls hl => ?_)
            refine lv_bipush (v := -5) hx hb dX11_fitting_65 (by decide) ?_
            refine lv_istore (lv' := [(8, .int (-5)), (7, .int 0), (6, .int 9), (5, .int 0), (4, .ref (eSt en j_1)), (0, .ref (gA g 0)), (1, .int x), (2, .int w), (3, .int 1)]) hx hb dX11_fitting_67 hl (by decide) rfl (fun ls hl => ?_)
            refine lv_iload hx hb dX11_fitting_69 (lv_at hl 3 rfl) ?_
            refine lv_istore (lv' := [(9, .int 0), (8, .int (-5)), (7, .int 0), (6, .int 9), (5, .int 0), (4, .ref (eSt en j_1)), (0, .ref (gA g 0)), (1, .int x), (2, .int w), (3, .int 1)]) hx hb dX11_fitting_71 hl (by decide) rfl (fun ls hl => ?_)
            have L73 : ∀ (fu : Nat) (i : Nat) (x7 x8 : Int32) (hi : i ≤ 10) (k : (x7, x8) = fitN (fAsN en j_1 nf nc 1) 0 i) (H : Heap) (locs : List Loc) (hM : MW g (M) H locs) (ls : Array Slot) (hl : lv_has ls 10 [(0, .ref (gA g 0)), (1, .int x), (2, .int w), (3, .int 1), (4, .ref (eSt en j_1)), (5, .int 0), (6, .int 9), (7, .int x7), (8, .int x8), (9, .int (nI i))]), 10 - i < fu → W p l e (rmD 6 0 0) s m args below meth c H locs 0 0 (MQ below (Qi g (fun r M1 => (opFit en nf nc x w 1) = r ∧ M = M1)) args s 0 0 (gF g)) (F0 m 73 ls []) := by
              intro fu
              induction fu with
              | zero => intro i x7 x8 hi k H locs hM ls hl hmu; exact absurd hmu (Nat.not_lt_zero _)
              | succ fu ih =>
                intro i x7 x8 hi k H locs hM ls hl hmu
                refine lv_iload hx hb dX11_fitting_73 (lv_at hl 9 rfl) ?_
                refine lv_iload hx hb dX11_fitting_75 (lv_at hl 6 rfl) ?_
                refine lv_icmp_gt (tgt := 115) hx hb dX11_fitting_77 (by decide) (fun c_6 => ?_) (fun c_6 => ?_)
                · skip
                  have hz1 : i = 10 := by
                    rcases Nat.lt_or_ge 9 (i) with q | q
                    · omega
                    · exact absurd ((nI_leI (by omega) (by omega)).mpr q) (Int32.not_le.mpr c_6)
                  refine lv_iload_n hx hb dX11_fitting_115 rfl (lv_at hl 2 rfl) ?_
                  refine lv_if_ne (tgt := 124) hx hb dX11_fitting_116 (by decide) (fun c_7 => ?_) (fun c_7 => ?_)
                  · skip
                    refine lv_iload hx hb dX11_fitting_124 (lv_at hl 8 rfl) ?_
                    exact R_i X hr hk hM ⟨(by have hf : fFit en j_1 nf nc 1 = (x7, x8) := (by rw [k, hz1]; rfl); unfold opFit; simp only [jc_j_1]; rw [if_neg il_j_1, if_neg c_2, hf]; first | rw [if_pos c_7] | rw [if_neg c_7]), rfl⟩ dX11_fitting_126
                  · skip
                    refine lv_iload hx hb dX11_fitting_119 (lv_at hl 7 rfl) ?_
                    refine lv_goto (tgt := 126) hx hb dX11_fitting_121 (by decide) ?_
                    exact R_i X hr hk hM ⟨(by have hf : fFit en j_1 nf nc 1 = (x7, x8) := (by rw [k, hz1]; rfl); unfold opFit; simp only [jc_j_1]; rw [if_neg il_j_1, if_neg c_2, hf]; first | rw [if_pos c_7] | rw [if_neg c_7]), rfl⟩ dX11_fitting_126
                · skip
                  have hz1 : i < 10 := by
                    rcases Nat.lt_or_ge 9 (i) with q | q
                    · exact absurd ((nI_ltI (by omega) (by omega)).mpr q) c_6
                    · omega
                  refine lv_aload_n hx hb dX11_fitting_80 rfl (lv_at hl 0 rfl) ?_
                  refine lv_aload hx hb dX11_fitting_81 (lv_at hl 4 rfl) ?_
                  refine lv_iload_n hx hb dX11_fitting_83 rfl (lv_at hl 3 rfl) ?_
                  refine lv_iload hx hb dX11_fitting_84 (lv_at hl 9 rfl) ?_
                  refine K_i (G_V (As := [.ref (eSt en j_1), .int 1, .int (nI i)]) (rest := []) X hM (c_X11_isAsNoted l g _ ik en nc nf j_1 1 (nI i) h0 h3 h5 h6 h7 h15 h16 hE h_j_1 hnc) lk_X11_278 h0 rfl rfl hl.1 rfl (Nat.le_of_ble_eq_true rfl) (by decide) dX11_fitting_86 ⟨Nat.le_of_ble_eq_true rfl, Nat.le_of_ble_eq_true rfl⟩) hM (fun r M1 H locs hM hp => ?_)
                  obtain ⟨rfl, rfl⟩ := hp
                  refine lv_if_eq (tgt := 109) hx hb dX11_fitting_89 (by decide) (fun c_8 => ?_) (fun c_8 => ?_)
                  · skip
                    refine lv_iinc (v := (nI i) + 1) (lv' := [(9, .int ((nI i) + 1)), (0, .ref (gA g 0)), (1, .int x), (2, .int w), (3, .int 1), (4, .ref (eSt en j_1)), (5, .int 0), (6, .int 9), (7, .int x7), (8, .int x8)]) hx hb dX11_fitting_109 hl (k := 9) rfl rfl (by decide) rfl (fun ls hl => ?_)
                    refine lv_goto (tgt := 73) hx hb dX11_fitting_112 (by decide) ?_
                    exact ih (i + 1) x7 x8 (by omega) (by rw [fitN, ← k, Nat.add_zero]; (first | rw [if_pos c_8] | rw [if_neg c_8] | skip)) _ _ hM _ ((by rw [← nI_1]; exact lv_sub hl [1, 2, 3, 4, 5, 6, 7, 8, 9, 0] rfl)) (by omega)
                  · skip
                    refine lv_iload hx hb dX11_fitting_92 (lv_at hl 7 rfl) ?_
                    refine l_joinM (ls := ls) hM 104 (if x7 = 0 then nI i else x8) [] (fun H locs hM => ?_) (fun J94 => ?_)
                    · skip
                      refine lv_topi (fun y8 e_y8 => ?_)
                      refine lv_istore (lv' := [(8, .int y8), (0, .ref (gA g 0)), (1, .int x), (2, .int w), (3, .int 1), (4, .ref (eSt en j_1)), (5, .int 0), (6, .int 9), (7, .int x7), (9, .int (nI i))]) hx hb dX11_fitting_104 hl (by decide) rfl (fun ls hl => ?_)
                      refine lv_iinc (v := x7 + 1) (lv' := [(7, .int (x7 + 1)), (8, .int y8), (0, .ref (gA g 0)), (1, .int x), (2, .int w), (3, .int 1), (4, .ref (eSt en j_1)), (5, .int 0), (6, .int 9), (9, .int (nI i))]) hx hb dX11_fitting_106 hl (k := 8) rfl rfl (by decide) rfl (fun ls hl => ?_)
                      refine lv_iinc (v := (nI i) + 1) (lv' := [(9, .int ((nI i) + 1)), (7, .int (x7 + 1)), (8, .int y8), (0, .ref (gA g 0)), (1, .int x), (2, .int w), (3, .int 1), (4, .ref (eSt en j_1)), (5, .int 0), (6, .int 9)]) hx hb dX11_fitting_109 hl (k := 9) rfl rfl (by decide) rfl (fun ls hl => ?_)
                      refine lv_goto (tgt := 73) hx hb dX11_fitting_112 (by decide) ?_
                      exact ih (i + 1) (x7 + 1) y8 (by omega) (by rw [fitN, ← k, Nat.add_zero]; (first | rw [if_pos c_8] | rw [if_neg c_8] | skip); rw [← e_y8]) _ _ hM _ ((by rw [← nI_1]; exact lv_sub hl [3, 4, 5, 6, 7, 8, 9, 1, 2, 0] rfl)) (by omega)
                    refine lv_if_ne (tgt := 102) hx hb dX11_fitting_94 (by decide) (fun c_9 => ?_) (fun c_9 => ?_)
                    · skip
                      refine lv_iload hx hb dX11_fitting_102 (lv_at hl 8 rfl) ?_
                      exact J94 _ _ _ hM (by (first | rw [if_pos c_9] | rw [if_neg c_9] | skip); all_goals (first | rfl | simp [*]))
                    · skip
                      refine lv_iload hx hb dX11_fitting_97 (lv_at hl 9 rfl) ?_
                      refine lv_goto (tgt := 104) hx hb dX11_fitting_99 (by decide) ?_
                      exact J94 _ _ _ hM (by (first | rw [if_pos c_9] | rw [if_neg c_9] | skip); all_goals (first | rfl | simp [*]))
            exact L73 (10 + 1) 0 0 (-5) (Nat.zero_le _) rfl _ _ hM _ (lv_sub hl [6, 7, 8, 9, 5, 4, 3, 2, 1, 0] rfl) (by first | exact Nat.lt_succ_self _ | omega)
          · exact absurd c_5 (by decide)
        · exact absurd c_4 (by decide)
      · exact absurd c_3 (by decide)
    · skip
      refine lv_iconst (v := -1) hx hb dX11_fitting_24 (by decide) ?_
      exact R_i X hr hk hM ⟨(by unfold opFit; (try simp only [jc_j_1]); (first | rw [if_pos il_j_1] | rw [if_neg il_j_1] | skip); (first | rw [if_pos c_2] | rw [if_neg c_2] | skip); all_goals (first | rfl | (simp [*]))), rfl⟩ dX11_fitting_25
set_option maxHeartbeats 4000000 in
set_option maxRecDepth 100000 in
theorem c_X11_fitting_2 (l : Launch) (g : Gp) (M : Mem) (ik : Int32) (en : En) (nc : Nat) (nf : Nat → Int32) (x w : Int32) (h0 : M (gA g 0) = some (custE g ik)) (h3 : M (gA g 3) = some (roofN g (eNi en) (nI (eL en)) (eSk en) (eHi en))) (h5 : M (gA g 5) = some (aS g 6 (eS en))) (h6 : M (gA g 6) = some (aI g 6 (eRo en))) (h7 : M (gA g 7) = some (aI g 6 (ePh en))) (h15 : M (gA g 15) = some (rowsE (gA g 16) 6 3 (nI nc))) (h16 : M (gA g 16) = some (aI g 18 nf)) (hE : EnOk g M en) (hnc : nc ≤ 6) : Met l yX11_fitting (wsM yX11_fitting cX11_fitting 10 (some .int)) (rmD 6 0 0) (Pre g M [.ref (gA g 0), .int x, .int w, .int 2]) (Qi g (fun r M1 => (opFit en nf nc x w 2) = r ∧ M = M1)) 0 0 (gF g) := M_start (by decide +kernel) (Nat.le_of_ble_eq_true rfl) fun p e s m args below meth c ls X hr hk hnm hM hl => by
  have X : Cx g p m c cX11_fitting 10 s args RX11 := X
  have hx := X.1.1
  have hb := X.1.2.1
  have hl : lv_has ls 10 [(0, .ref (gA g 0)), (1, .int x), (2, .int w), (3, .int 2)] := hl
  refine lv_aload_n hx hb dX11_fitting_0 rfl (lv_at hl 0 rfl) ?_
  refine r_get (T := TX11) (N := 7) (ci := 11) (v := .ref (gA g 3)) X hM iX11 rfl 1 (by decide) q_177 (Or.inl rfl) h0 rfl dX11_fitting_1 ?_
  refine lv_iload_n hx hb dX11_fitting_4 rfl (lv_at hl 1 rfl) ?_
  refine K_q (G_V (As := [.int x]) (rest := []) X hM (c_X4_starAt l g _ en (eNi en) (eSk en) (eHi en) x h3 h5 ) lk_X11_98 h3 rfl rfl hl.1 rfl (Nat.le_of_ble_eq_true rfl) (by decide) dX11_fitting_5 ⟨Nat.le_of_ble_eq_true rfl, Nat.le_of_ble_eq_true rfl⟩) hM (fun r M1 H locs hM hp => ?_)
  obtain ⟨rfl, rfl⟩ := hp
  rcases fStar_cases hE (x) with ⟨e_j_1, h_j_1⟩ | ⟨j_1, h_j_1, x_j_1, e_j_1⟩
  · rw [e_j_1]
    have il_j_1 := fIsL_0 h_j_1
    refine l_nstore (lv' := [(4, .null), (0, .ref (gA g 0)), (1, .int x), (2, .int w), (3, .int 2)]) hx hb dX11_fitting_8 hl (by decide) rfl (fun ls hl => ?_)
    refine l_nload hx hb dX11_fitting_10 (lv_at hl 0 rfl) ?_
    refine lv_ifnullN (tgt := 24) hx hb dX11_fitting_12 (by decide) ?_
    refine lv_iconst (v := -1) hx hb dX11_fitting_24 (by decide) ?_
    exact R_i X hr hk hM ⟨(by unfold opFit; (first | rw [if_pos il_j_1] | rw [if_neg il_j_1] | skip); all_goals (first | rfl | (simp [*]))), rfl⟩ dX11_fitting_25
  · rw [e_j_1]
    obtain ⟨s_j_1, m_j_1, hkd⟩ := hE.2.2 j_1 h_j_1
    have il_j_1 := fIsL_1n x_j_1 h_j_1 hE.1
    have jc_j_1 := clampj x_j_1 h_j_1 hE.1
    refine lv_astore (lv' := [(4, .ref (eSt en j_1)), (0, .ref (gA g 0)), (1, .int x), (2, .int w), (3, .int 2)]) hx hb dX11_fitting_8 hl (by decide) rfl (fun ls hl => ?_)
    refine lv_aload hx hb dX11_fitting_10 (lv_at hl 0 rfl) ?_
    refine lv_ifnull hx hb dX11_fitting_12 ?_
    refine lv_iload_n hx hb dX11_fitting_15 rfl (lv_at hl 3 rfl) ?_
    refine lv_iconst (v := 0) hx hb dX11_fitting_16 (by decide) ?_
    refine lv_iconst (v := 1) hx hb dX11_fitting_17 (by decide) ?_
    refine K_i (G_S (As := [.int w, .int 0, .int 1]) (rest := []) X hM (c_X11_isIn l g _ w 0 1  ) lk_X11_53 rfl hl.1 rfl (Nat.le_of_ble_eq_true rfl) (by decide) dX11_fitting_18 ⟨Nat.le_of_ble_eq_true rfl, Nat.le_of_ble_eq_true rfl⟩) hM (fun r M1 H locs hM hp => ?_)
    obtain ⟨rfl, rfl⟩ := hp
    refine lv_if_ne (tgt := 26) hx hb dX11_fitting_21 (by decide) (fun c_2 => ?_) (fun c_2 => ?_)
    · skip
      refine lv_iload_n hx hb dX11_fitting_26 rfl (lv_at hl 4 rfl) ?_
      refine lv_iconst (v := 2) hx hb dX11_fitting_27 (by decide) ?_
      refine lv_icmp_ne (tgt := 35) hx hb dX11_fitting_28 (by decide) (fun c_3 => ?_) (fun c_3 => ?_)
      · exact absurd c_3 (by decide)
      · skip
        refine lv_iconst (v := 1) hx hb dX11_fitting_31 (by decide) ?_
        refine lv_goto (tgt := 36) hx hb dX11_fitting_32 (by decide) ?_
        refine lv_istore (lv' := [(5, .int 1), (4, .ref (eSt en j_1)), (0, .ref (gA g 0)), (1, .int x), (2, .int w), (3, .int 2)]) hx hb dX11_fitting_36 hl (by decide) rfl (fun ls hl => ?_)
        refine lv_iload_n hx hb dX11_fitting_38 rfl (lv_at hl 5 rfl) ?_
        refine lv_iconst (v := 2) hx hb dX11_fitting_39 (by decide) ?_
        refine lv_icmp_ne (tgt := 48) hx hb dX11_fitting_40 (by decide) (fun c_4 => ?_) (fun c_4 => ?_)
        · exact absurd c_4 (by decide)
        · skip
          refine lv_bipush (v := 30) hx hb dX11_fitting_43 (by decide) ?_
          refine lv_goto (tgt := 60) hx hb dX11_fitting_45 (by decide) ?_
          refine lv_istore (lv' := [(6, .int 30), (5, .int 1), (4, .ref (eSt en j_1)), (0, .ref (gA g 0)), (1, .int x), (2, .int w), (3, .int 2)]) hx hb dX11_fitting_60 hl (by decide) rfl (fun ls hl => ?_)
          refine lv_iconst (v := 0) hx hb dX11_fitting_62 (by decide) ?_
          refine lv_istore (lv' := [(7, .int 0), (6, .int 30), (5, .int 1), (4, .ref (eSt en j_1)), (0, .ref (gA g 0)), (1, .int x), (2, .int w), (3, .int 2)]) hx hb dX11_fitting_63 hl (by decide) rfl (fun ls hl => ?_)
          refine lv_bipush (v := -5) hx hb dX11_fitting_65 (by decide) ?_
          refine lv_istore (lv' := [(8, .int (-5)), (7, .int 0), (6, .int 30), (5, .int 1), (4, .ref (eSt en j_1)), (0, .ref (gA g 0)), (1, .int x), (2, .int w), (3, .int 2)]) hx hb dX11_fitting_67 hl (by decide) rfl (fun ls hl => ?_)
          refine lv_iload hx hb dX11_fitting_69 (lv_at hl 3 rfl) ?_
          refine lv_istore (lv' := [(9, .int 1), (8, .int (-5)), (7, .int 0), (6, .int 30), (5, .int 1), (4, .ref (eSt en j_1)), (0, .ref (gA g 0)), (1, .int x), (2, .int w), (3, .int 2)]) hx hb dX11_fitting_71 hl (by decide) rfl (fun ls hl => ?_)
          have L73 : ∀ (fu : Nat) (i : Nat) (x7 x8 : Int32) (hi : i ≤ 30) (k : (x7, x8) = fitN (fAsN en j_1 nf nc 2) 1 i) (H : Heap) (locs : List Loc) (hM : MW g (M) H locs) (ls : Array Slot) (hl : lv_has ls 10 [(0, .ref (gA g 0)), (1, .int x), (2, .int w), (3, .int 2), (4, .ref (eSt en j_1)), (5, .int 1), (6, .int 30), (7, .int x7), (8, .int x8), (9, .int (nI (i + 1)))]), 30 - i < fu → W p l e (rmD 6 0 0) s m args below meth c H locs 0 0 (MQ below (Qi g (fun r M1 => (opFit en nf nc x w 2) = r ∧ M = M1)) args s 0 0 (gF g)) (F0 m 73 ls []) := by
            intro fu
            induction fu with
            | zero => intro i x7 x8 hi k H locs hM ls hl hmu; exact absurd hmu (Nat.not_lt_zero _)
            | succ fu ih =>
              intro i x7 x8 hi k H locs hM ls hl hmu
              refine lv_iload hx hb dX11_fitting_73 (lv_at hl 9 rfl) ?_
              refine lv_iload hx hb dX11_fitting_75 (lv_at hl 6 rfl) ?_
              refine lv_icmp_gt (tgt := 115) hx hb dX11_fitting_77 (by decide) (fun c_5 => ?_) (fun c_5 => ?_)
              · skip
                have hz1 : i = 30 := by
                  rcases Nat.lt_or_ge 30 (i + 1) with q | q
                  · omega
                  · exact absurd ((nI_leI (by omega) (by omega)).mpr q) (Int32.not_le.mpr c_5)
                refine lv_iload_n hx hb dX11_fitting_115 rfl (lv_at hl 2 rfl) ?_
                refine lv_if_ne (tgt := 124) hx hb dX11_fitting_116 (by decide) (fun c_6 => ?_) (fun c_6 => ?_)
                · skip
                  refine lv_iload hx hb dX11_fitting_124 (lv_at hl 8 rfl) ?_
                  exact R_i X hr hk hM ⟨(by have hf : fFit en j_1 nf nc 2 = (x7, x8) := (by rw [k, hz1]; rfl); unfold opFit; simp only [jc_j_1]; rw [if_neg il_j_1, if_neg c_2, hf]; first | rw [if_pos c_6] | rw [if_neg c_6]), rfl⟩ dX11_fitting_126
                · skip
                  refine lv_iload hx hb dX11_fitting_119 (lv_at hl 7 rfl) ?_
                  refine lv_goto (tgt := 126) hx hb dX11_fitting_121 (by decide) ?_
                  exact R_i X hr hk hM ⟨(by have hf : fFit en j_1 nf nc 2 = (x7, x8) := (by rw [k, hz1]; rfl); unfold opFit; simp only [jc_j_1]; rw [if_neg il_j_1, if_neg c_2, hf]; first | rw [if_pos c_6] | rw [if_neg c_6]), rfl⟩ dX11_fitting_126
              · skip
                have hz1 : i < 30 := by
                  rcases Nat.lt_or_ge 30 (i + 1) with q | q
                  · exact absurd ((nI_ltI (by omega) (by omega)).mpr q) c_5
                  · omega
                refine lv_aload_n hx hb dX11_fitting_80 rfl (lv_at hl 0 rfl) ?_
                refine lv_aload hx hb dX11_fitting_81 (lv_at hl 4 rfl) ?_
                refine lv_iload_n hx hb dX11_fitting_83 rfl (lv_at hl 3 rfl) ?_
                refine lv_iload hx hb dX11_fitting_84 (lv_at hl 9 rfl) ?_
                refine K_i (G_V (As := [.ref (eSt en j_1), .int 2, .int (nI (i + 1))]) (rest := []) X hM (c_X11_isAsNoted l g _ ik en nc nf j_1 2 (nI (i + 1)) h0 h3 h5 h6 h7 h15 h16 hE h_j_1 hnc) lk_X11_278 h0 rfl rfl hl.1 rfl (Nat.le_of_ble_eq_true rfl) (by decide) dX11_fitting_86 ⟨Nat.le_of_ble_eq_true rfl, Nat.le_of_ble_eq_true rfl⟩) hM (fun r M1 H locs hM hp => ?_)
                obtain ⟨rfl, rfl⟩ := hp
                refine lv_if_eq (tgt := 109) hx hb dX11_fitting_89 (by decide) (fun c_7 => ?_) (fun c_7 => ?_)
                · skip
                  refine lv_iinc (v := (nI (i + 1)) + 1) (lv' := [(9, .int ((nI (i + 1)) + 1)), (0, .ref (gA g 0)), (1, .int x), (2, .int w), (3, .int 2), (4, .ref (eSt en j_1)), (5, .int 1), (6, .int 30), (7, .int x7), (8, .int x8)]) hx hb dX11_fitting_109 hl (k := 9) rfl rfl (by decide) rfl (fun ls hl => ?_)
                  refine lv_goto (tgt := 73) hx hb dX11_fitting_112 (by decide) ?_
                  exact ih (i + 1) x7 x8 (by omega) (by rw [fitN, ← k]; (first | rw [if_pos c_7] | rw [if_neg c_7] | skip)) _ _ hM _ ((by rw [← nI_1]; exact lv_sub hl [1, 2, 3, 4, 5, 6, 7, 8, 9, 0] rfl)) (by omega)
                · skip
                  refine lv_iload hx hb dX11_fitting_92 (lv_at hl 7 rfl) ?_
                  refine l_joinM (ls := ls) hM 104 (if x7 = 0 then nI (i + 1) else x8) [] (fun H locs hM => ?_) (fun J94 => ?_)
                  · skip
                    refine lv_topi (fun y8 e_y8 => ?_)
                    refine lv_istore (lv' := [(8, .int y8), (0, .ref (gA g 0)), (1, .int x), (2, .int w), (3, .int 2), (4, .ref (eSt en j_1)), (5, .int 1), (6, .int 30), (7, .int x7), (9, .int (nI (i + 1)))]) hx hb dX11_fitting_104 hl (by decide) rfl (fun ls hl => ?_)
                    refine lv_iinc (v := x7 + 1) (lv' := [(7, .int (x7 + 1)), (8, .int y8), (0, .ref (gA g 0)), (1, .int x), (2, .int w), (3, .int 2), (4, .ref (eSt en j_1)), (5, .int 1), (6, .int 30), (9, .int (nI (i + 1)))]) hx hb dX11_fitting_106 hl (k := 8) rfl rfl (by decide) rfl (fun ls hl => ?_)
                    refine lv_iinc (v := (nI (i + 1)) + 1) (lv' := [(9, .int ((nI (i + 1)) + 1)), (7, .int (x7 + 1)), (8, .int y8), (0, .ref (gA g 0)), (1, .int x), (2, .int w), (3, .int 2), (4, .ref (eSt en j_1)), (5, .int 1), (6, .int 30)]) hx hb dX11_fitting_109 hl (k := 9) rfl rfl (by decide) rfl (fun ls hl => ?_)
                    refine lv_goto (tgt := 73) hx hb dX11_fitting_112 (by decide) ?_
                    exact ih (i + 1) (x7 + 1) y8 (by omega) (by rw [fitN, ← k]; (first | rw [if_pos c_7] | rw [if_neg c_7] | skip); rw [← e_y8]) _ _ hM _ ((by rw [← nI_1]; exact lv_sub hl [3, 4, 5, 6, 7, 8, 9, 1, 2, 0] rfl)) (by omega)
                  refine lv_if_ne (tgt := 102) hx hb dX11_fitting_94 (by decide) (fun c_8 => ?_) (fun c_8 => ?_)
                  · skip
                    refine lv_iload hx hb dX11_fitting_102 (lv_at hl 8 rfl) ?_
                    exact J94 _ _ _ hM (by (first | rw [if_pos c_8] | rw [if_neg c_8] | skip); all_goals (first | rfl | simp [*]))
                  · skip
                    refine lv_iload hx hb dX11_fitting_97 (lv_at hl 9 rfl) ?_
                    refine lv_goto (tgt := 104) hx hb dX11_fitting_99 (by decide) ?_
                    exact J94 _ _ _ hM (by (first | rw [if_pos c_8] | rw [if_neg c_8] | skip); all_goals (first | rfl | simp [*]))
          exact L73 (30 + 1) 0 0 (-5) (Nat.zero_le _) rfl _ _ hM _ (lv_sub hl [6, 7, 8, 9, 5, 4, 3, 2, 1, 0] rfl) (by first | exact Nat.lt_succ_self _ | omega)
    · skip
      refine lv_iconst (v := -1) hx hb dX11_fitting_24 (by decide) ?_
      exact R_i X hr hk hM ⟨(by unfold opFit; (try simp only [jc_j_1]); (first | rw [if_pos il_j_1] | rw [if_neg il_j_1] | skip); (first | rw [if_pos c_2] | rw [if_neg c_2] | skip); all_goals (first | rfl | (simp [*]))), rfl⟩ dX11_fitting_25
set_option maxHeartbeats 4000000 in
set_option maxRecDepth 100000 in
theorem c_X11_fitting_3 (l : Launch) (g : Gp) (M : Mem) (ik : Int32) (en : En) (nc : Nat) (nf : Nat → Int32) (x w : Int32) (h0 : M (gA g 0) = some (custE g ik)) (h3 : M (gA g 3) = some (roofN g (eNi en) (nI (eL en)) (eSk en) (eHi en))) (h5 : M (gA g 5) = some (aS g 6 (eS en))) (h6 : M (gA g 6) = some (aI g 6 (eRo en))) (h7 : M (gA g 7) = some (aI g 6 (ePh en))) (h15 : M (gA g 15) = some (rowsE (gA g 16) 6 3 (nI nc))) (h16 : M (gA g 16) = some (aI g 18 nf)) (hE : EnOk g M en) (hnc : nc ≤ 6) : Met l yX11_fitting (wsM yX11_fitting cX11_fitting 10 (some .int)) (rmD 6 0 0) (Pre g M [.ref (gA g 0), .int x, .int w, .int 3]) (Qi g (fun r M1 => (opFit en nf nc x w 3) = r ∧ M = M1)) 0 0 (gF g) := M_start (by decide +kernel) (Nat.le_of_ble_eq_true rfl) fun p e s m args below meth c ls X hr hk hnm hM hl => by
  have X : Cx g p m c cX11_fitting 10 s args RX11 := X
  have hx := X.1.1
  have hb := X.1.2.1
  have hl : lv_has ls 10 [(0, .ref (gA g 0)), (1, .int x), (2, .int w), (3, .int 3)] := hl
  refine lv_aload_n hx hb dX11_fitting_0 rfl (lv_at hl 0 rfl) ?_
  refine r_get (T := TX11) (N := 7) (ci := 11) (v := .ref (gA g 3)) X hM iX11 rfl 1 (by decide) q_177 (Or.inl rfl) h0 rfl dX11_fitting_1 ?_
  refine lv_iload_n hx hb dX11_fitting_4 rfl (lv_at hl 1 rfl) ?_
  refine K_q (G_V (As := [.int x]) (rest := []) X hM (c_X4_starAt l g _ en (eNi en) (eSk en) (eHi en) x h3 h5 ) lk_X11_98 h3 rfl rfl hl.1 rfl (Nat.le_of_ble_eq_true rfl) (by decide) dX11_fitting_5 ⟨Nat.le_of_ble_eq_true rfl, Nat.le_of_ble_eq_true rfl⟩) hM (fun r M1 H locs hM hp => ?_)
  obtain ⟨rfl, rfl⟩ := hp
  rcases fStar_cases hE (x) with ⟨e_j_1, h_j_1⟩ | ⟨j_1, h_j_1, x_j_1, e_j_1⟩
  · rw [e_j_1]
    have il_j_1 := fIsL_0 h_j_1
    refine l_nstore (lv' := [(4, .null), (0, .ref (gA g 0)), (1, .int x), (2, .int w), (3, .int 3)]) hx hb dX11_fitting_8 hl (by decide) rfl (fun ls hl => ?_)
    refine l_nload hx hb dX11_fitting_10 (lv_at hl 0 rfl) ?_
    refine lv_ifnullN (tgt := 24) hx hb dX11_fitting_12 (by decide) ?_
    refine lv_iconst (v := -1) hx hb dX11_fitting_24 (by decide) ?_
    exact R_i X hr hk hM ⟨(by unfold opFit; (first | rw [if_pos il_j_1] | rw [if_neg il_j_1] | skip); all_goals (first | rfl | (simp [*]))), rfl⟩ dX11_fitting_25
  · rw [e_j_1]
    obtain ⟨s_j_1, m_j_1, hkd⟩ := hE.2.2 j_1 h_j_1
    have il_j_1 := fIsL_1n x_j_1 h_j_1 hE.1
    have jc_j_1 := clampj x_j_1 h_j_1 hE.1
    refine lv_astore (lv' := [(4, .ref (eSt en j_1)), (0, .ref (gA g 0)), (1, .int x), (2, .int w), (3, .int 3)]) hx hb dX11_fitting_8 hl (by decide) rfl (fun ls hl => ?_)
    refine lv_aload hx hb dX11_fitting_10 (lv_at hl 0 rfl) ?_
    refine lv_ifnull hx hb dX11_fitting_12 ?_
    refine lv_iload_n hx hb dX11_fitting_15 rfl (lv_at hl 3 rfl) ?_
    refine lv_iconst (v := 0) hx hb dX11_fitting_16 (by decide) ?_
    refine lv_iconst (v := 1) hx hb dX11_fitting_17 (by decide) ?_
    refine K_i (G_S (As := [.int w, .int 0, .int 1]) (rest := []) X hM (c_X11_isIn l g _ w 0 1  ) lk_X11_53 rfl hl.1 rfl (Nat.le_of_ble_eq_true rfl) (by decide) dX11_fitting_18 ⟨Nat.le_of_ble_eq_true rfl, Nat.le_of_ble_eq_true rfl⟩) hM (fun r M1 H locs hM hp => ?_)
    obtain ⟨rfl, rfl⟩ := hp
    refine lv_if_ne (tgt := 26) hx hb dX11_fitting_21 (by decide) (fun c_2 => ?_) (fun c_2 => ?_)
    · skip
      refine lv_iload_n hx hb dX11_fitting_26 rfl (lv_at hl 4 rfl) ?_
      refine lv_iconst (v := 2) hx hb dX11_fitting_27 (by decide) ?_
      refine lv_icmp_ne (tgt := 35) hx hb dX11_fitting_28 (by decide) (fun c_3 => ?_) (fun c_3 => ?_)
      · skip
        refine lv_iconst (v := 0) hx hb dX11_fitting_35 (by decide) ?_
        refine lv_istore (lv' := [(5, .int 0), (4, .ref (eSt en j_1)), (0, .ref (gA g 0)), (1, .int x), (2, .int w), (3, .int 3)]) hx hb dX11_fitting_36 hl (by decide) rfl (fun ls hl => ?_)
        refine lv_iload_n hx hb dX11_fitting_38 rfl (lv_at hl 5 rfl) ?_
        refine lv_iconst (v := 2) hx hb dX11_fitting_39 (by decide) ?_
        refine lv_icmp_ne (tgt := 48) hx hb dX11_fitting_40 (by decide) (fun c_4 => ?_) (fun c_4 => ?_)
        · skip
          refine lv_iload_n hx hb dX11_fitting_48 rfl (lv_at hl 5 rfl) ?_
          refine lv_iconst (v := 3) hx hb dX11_fitting_49 (by decide) ?_
          refine lv_icmp_ne (tgt := 58) hx hb dX11_fitting_50 (by decide) (fun c_5 => ?_) (fun c_5 => ?_)
          · exact absurd c_5 (by decide)
          · skip
            refine lv_bipush (v := 29) hx hb dX11_fitting_53 (by decide) ?_
            refine lv_goto (tgt := 60) hx hb dX11_fitting_55 (by decide) ?_
            refine lv_istore (lv' := [(6, .int 29), (5, .int 0), (4, .ref (eSt en j_1)), (0, .ref (gA g 0)), (1, .int x), (2, .int w), (3, .int 3)]) hx hb dX11_fitting_60 hl (by decide) rfl (fun ls hl => ?_)
            refine lv_iconst (v := 0) hx hb dX11_fitting_62 (by decide) ?_
            refine lv_istore (lv' := [(7, .int 0), (6, .int 29), (5, .int 0), (4, .ref (eSt en j_1)), (0, .ref (gA g 0)), (1, .int x), (2, .int w), (3, .int 3)]) hx hb dX11_fitting_63 hl (by decide) rfl (fun ls hl => ?_)
            refine lv_bipush (v := -5) hx hb dX11_fitting_65 (by decide) ?_
            refine lv_istore (lv' := [(8, .int (-5)), (7, .int 0), (6, .int 29), (5, .int 0), (4, .ref (eSt en j_1)), (0, .ref (gA g 0)), (1, .int x), (2, .int w), (3, .int 3)]) hx hb dX11_fitting_67 hl (by decide) rfl (fun ls hl => ?_)
            refine lv_iload hx hb dX11_fitting_69 (lv_at hl 3 rfl) ?_
            refine lv_istore (lv' := [(9, .int 0), (8, .int (-5)), (7, .int 0), (6, .int 29), (5, .int 0), (4, .ref (eSt en j_1)), (0, .ref (gA g 0)), (1, .int x), (2, .int w), (3, .int 3)]) hx hb dX11_fitting_71 hl (by decide) rfl (fun ls hl => ?_)
            have L73 : ∀ (fu : Nat) (i : Nat) (x7 x8 : Int32) (hi : i ≤ 30) (k : (x7, x8) = fitN (fAsN en j_1 nf nc 3) 0 i) (H : Heap) (locs : List Loc) (hM : MW g (M) H locs) (ls : Array Slot) (hl : lv_has ls 10 [(0, .ref (gA g 0)), (1, .int x), (2, .int w), (3, .int 3), (4, .ref (eSt en j_1)), (5, .int 0), (6, .int 29), (7, .int x7), (8, .int x8), (9, .int (nI i))]), 30 - i < fu → W p l e (rmD 6 0 0) s m args below meth c H locs 0 0 (MQ below (Qi g (fun r M1 => (opFit en nf nc x w 3) = r ∧ M = M1)) args s 0 0 (gF g)) (F0 m 73 ls []) := by
              intro fu
              induction fu with
              | zero => intro i x7 x8 hi k H locs hM ls hl hmu; exact absurd hmu (Nat.not_lt_zero _)
              | succ fu ih =>
                intro i x7 x8 hi k H locs hM ls hl hmu
                refine lv_iload hx hb dX11_fitting_73 (lv_at hl 9 rfl) ?_
                refine lv_iload hx hb dX11_fitting_75 (lv_at hl 6 rfl) ?_
                refine lv_icmp_gt (tgt := 115) hx hb dX11_fitting_77 (by decide) (fun c_6 => ?_) (fun c_6 => ?_)
                · skip
                  have hz1 : i = 30 := by
                    rcases Nat.lt_or_ge 29 (i) with q | q
                    · omega
                    · exact absurd ((nI_leI (by omega) (by omega)).mpr q) (Int32.not_le.mpr c_6)
                  refine lv_iload_n hx hb dX11_fitting_115 rfl (lv_at hl 2 rfl) ?_
                  refine lv_if_ne (tgt := 124) hx hb dX11_fitting_116 (by decide) (fun c_7 => ?_) (fun c_7 => ?_)
                  · skip
                    refine lv_iload hx hb dX11_fitting_124 (lv_at hl 8 rfl) ?_
                    exact R_i X hr hk hM ⟨(by have hf : fFit en j_1 nf nc 3 = (x7, x8) := (by rw [k, hz1]; rfl); unfold opFit; simp only [jc_j_1]; rw [if_neg il_j_1, if_neg c_2, hf]; first | rw [if_pos c_7] | rw [if_neg c_7]), rfl⟩ dX11_fitting_126
                  · skip
                    refine lv_iload hx hb dX11_fitting_119 (lv_at hl 7 rfl) ?_
                    refine lv_goto (tgt := 126) hx hb dX11_fitting_121 (by decide) ?_
                    exact R_i X hr hk hM ⟨(by have hf : fFit en j_1 nf nc 3 = (x7, x8) := (by rw [k, hz1]; rfl); unfold opFit; simp only [jc_j_1]; rw [if_neg il_j_1, if_neg c_2, hf]; first | rw [if_pos c_7] | rw [if_neg c_7]), rfl⟩ dX11_fitting_126
                · skip
                  have hz1 : i < 30 := by
                    rcases Nat.lt_or_ge 29 (i) with q | q
                    · exact absurd ((nI_ltI (by omega) (by omega)).mpr q) c_6
                    · omega
                  refine lv_aload_n hx hb dX11_fitting_80 rfl (lv_at hl 0 rfl) ?_
                  refine lv_aload hx hb dX11_fitting_81 (lv_at hl 4 rfl) ?_
                  refine lv_iload_n hx hb dX11_fitting_83 rfl (lv_at hl 3 rfl) ?_
                  refine lv_iload hx hb dX11_fitting_84 (lv_at hl 9 rfl) ?_
                  refine K_i (G_V (As := [.ref (eSt en j_1), .int 3, .int (nI i)]) (rest := []) X hM (c_X11_isAsNoted l g _ ik en nc nf j_1 3 (nI i) h0 h3 h5 h6 h7 h15 h16 hE h_j_1 hnc) lk_X11_278 h0 rfl rfl hl.1 rfl (Nat.le_of_ble_eq_true rfl) (by decide) dX11_fitting_86 ⟨Nat.le_of_ble_eq_true rfl, Nat.le_of_ble_eq_true rfl⟩) hM (fun r M1 H locs hM hp => ?_)
                  obtain ⟨rfl, rfl⟩ := hp
                  refine lv_if_eq (tgt := 109) hx hb dX11_fitting_89 (by decide) (fun c_8 => ?_) (fun c_8 => ?_)
                  · skip
                    refine lv_iinc (v := (nI i) + 1) (lv' := [(9, .int ((nI i) + 1)), (0, .ref (gA g 0)), (1, .int x), (2, .int w), (3, .int 3), (4, .ref (eSt en j_1)), (5, .int 0), (6, .int 29), (7, .int x7), (8, .int x8)]) hx hb dX11_fitting_109 hl (k := 9) rfl rfl (by decide) rfl (fun ls hl => ?_)
                    refine lv_goto (tgt := 73) hx hb dX11_fitting_112 (by decide) ?_
                    exact ih (i + 1) x7 x8 (by omega) (by rw [fitN, ← k, Nat.add_zero]; (first | rw [if_pos c_8] | rw [if_neg c_8] | skip)) _ _ hM _ ((by rw [← nI_1]; exact lv_sub hl [1, 2, 3, 4, 5, 6, 7, 8, 9, 0] rfl)) (by omega)
                  · skip
                    refine lv_iload hx hb dX11_fitting_92 (lv_at hl 7 rfl) ?_
                    refine l_joinM (ls := ls) hM 104 (if x7 = 0 then nI i else x8) [] (fun H locs hM => ?_) (fun J94 => ?_)
                    · skip
                      refine lv_topi (fun y8 e_y8 => ?_)
                      refine lv_istore (lv' := [(8, .int y8), (0, .ref (gA g 0)), (1, .int x), (2, .int w), (3, .int 3), (4, .ref (eSt en j_1)), (5, .int 0), (6, .int 29), (7, .int x7), (9, .int (nI i))]) hx hb dX11_fitting_104 hl (by decide) rfl (fun ls hl => ?_)
                      refine lv_iinc (v := x7 + 1) (lv' := [(7, .int (x7 + 1)), (8, .int y8), (0, .ref (gA g 0)), (1, .int x), (2, .int w), (3, .int 3), (4, .ref (eSt en j_1)), (5, .int 0), (6, .int 29), (9, .int (nI i))]) hx hb dX11_fitting_106 hl (k := 8) rfl rfl (by decide) rfl (fun ls hl => ?_)
                      refine lv_iinc (v := (nI i) + 1) (lv' := [(9, .int ((nI i) + 1)), (7, .int (x7 + 1)), (8, .int y8), (0, .ref (gA g 0)), (1, .int x), (2, .int w), (3, .int 3), (4, .ref (eSt en j_1)), (5, .int 0), (6, .int 29)]) hx hb dX11_fitting_109 hl (k := 9) rfl rfl (by decide) rfl (fun ls hl => ?_)
                      refine lv_goto (tgt := 73) hx hb dX11_fitting_112 (by decide) ?_
                      exact ih (i + 1) (x7 + 1) y8 (by omega) (by rw [fitN, ← k, Nat.add_zero]; (first | rw [if_pos c_8] | rw [if_neg c_8] | skip); rw [← e_y8]) _ _ hM _ ((by rw [← nI_1]; exact lv_sub hl [3, 4, 5, 6, 7, 8, 9, 1, 2, 0] rfl)) (by omega)
                    refine lv_if_ne (tgt := 102) hx hb dX11_fitting_94 (by decide) (fun c_9 => ?_) (fun c_9 => ?_)
                    · skip
                      refine lv_iload hx hb dX11_fitting_102 (lv_at hl 8 rfl) ?_
                      exact J94 _ _ _ hM (by (first | rw [if_pos c_9] | rw [if_neg c_9] | skip); all_goals (first | rfl | simp [*]))
                    · skip
                      refine lv_iload hx hb dX11_fitting_97 (lv_at hl 9 rfl) ?_
                      refine lv_goto (tgt := 104) hx hb dX11_fitting_99 (by decide) ?_
                      exact J94 _ _ _ hM (by (first | rw [if_pos c_9] | rw [if_neg c_9] | skip); all_goals (first | rfl | simp [*]))
            exact L73 (30 + 1) 0 0 (-5) (Nat.zero_le _) rfl _ _ hM _ (lv_sub hl [6, 7, 8, 9, 5, 4, 3, 2, 1, 0] rfl) (by first | exact Nat.lt_succ_self _ | omega)
        · exact absurd c_4 (by decide)
      · exact absurd c_3 (by decide)
    · skip
      refine lv_iconst (v := -1) hx hb dX11_fitting_24 (by decide) ?_
      exact R_i X hr hk hM ⟨(by unfold opFit; (try simp only [jc_j_1]); (first | rw [if_pos il_j_1] | rw [if_neg il_j_1] | skip); (first | rw [if_pos c_2] | rw [if_neg c_2] | skip); all_goals (first | rfl | (simp [*]))), rfl⟩ dX11_fitting_25
set_option maxHeartbeats 4000000 in
set_option maxRecDepth 100000 in
theorem c_X11_rounds (l : Launch) (g : Gp) (M : Mem) (ik : Int32) (en : En) (nc : Nat) (nf : Nat → Int32) (x w : Int32) (h0 : M (gA g 0) = some (custE g ik)) (h3 : M (gA g 3) = some (roofN g (eNi en) (nI (eL en)) (eSk en) (eHi en))) (h5 : M (gA g 5) = some (aS g 6 (eS en))) (h6 : M (gA g 6) = some (aI g 6 (eRo en))) (h7 : M (gA g 7) = some (aI g 6 (ePh en))) (h15 : M (gA g 15) = some (rowsE (gA g 16) 6 3 (nI nc))) (h16 : M (gA g 16) = some (aI g 18 nf)) (hE : EnOk g M en) (hnc : nc ≤ 6) : Met l yX11_rounds (wsM yX11_rounds cX11_rounds 3 (some .int)) (rmD 7 0 0) (Pre g M [.ref (gA g 0), .int x, .int w]) (Qi g (fun r M1 => (opFit en nf nc x w 2) = r ∧ M = M1)) 0 0 (gF g) := M_start (by decide +kernel) (Nat.le_of_ble_eq_true rfl) fun p e s m args below meth c ls X hr hk hnm hM hl => by
  have X : Cx g p m c cX11_rounds 3 s args RX11 := X
  have hx := X.1.1
  have hb := X.1.2.1
  have hl : lv_has ls 3 [(0, .ref (gA g 0)), (1, .int x), (2, .int w)] := hl
  refine lv_aload_n hx hb dX11_rounds_0 rfl (lv_at hl 0 rfl) ?_
  refine lv_iload_n hx hb dX11_rounds_1 rfl (lv_at hl 1 rfl) ?_
  refine lv_iload_n hx hb dX11_rounds_2 rfl (lv_at hl 2 rfl) ?_
  refine lv_iconst (v := 2) hx hb dX11_rounds_3 (by decide) ?_
  refine K_i (G_V (As := [.int x, .int w, .int 2]) (rest := []) X hM (c_X11_fitting_2 l g _ ik en nc nf x w h0 h3 h5 h6 h7 h15 h16 hE hnc) lk_X11_217 h0 rfl rfl hl.1 rfl (Nat.le_of_ble_eq_true rfl) (by decide) dX11_rounds_4 ⟨Nat.le_of_ble_eq_true rfl, Nat.le_of_ble_eq_true rfl⟩) hM (fun r M1 H locs hM hp => ?_)
  obtain ⟨rfl, rfl⟩ := hp
  exact R_i X hr hk hM ⟨rfl, rfl⟩ dX11_rounds_7
set_option maxHeartbeats 4000000 in
set_option maxRecDepth 100000 in
theorem c_X11_phases (l : Launch) (g : Gp) (M : Mem) (ik : Int32) (en : En) (nc : Nat) (nf : Nat → Int32) (x w : Int32) (h0 : M (gA g 0) = some (custE g ik)) (h3 : M (gA g 3) = some (roofN g (eNi en) (nI (eL en)) (eSk en) (eHi en))) (h5 : M (gA g 5) = some (aS g 6 (eS en))) (h6 : M (gA g 6) = some (aI g 6 (eRo en))) (h7 : M (gA g 7) = some (aI g 6 (ePh en))) (h15 : M (gA g 15) = some (rowsE (gA g 16) 6 3 (nI nc))) (h16 : M (gA g 16) = some (aI g 18 nf)) (hE : EnOk g M en) (hnc : nc ≤ 6) : Met l yX11_phases (wsM yX11_phases cX11_phases 3 (some .int)) (rmD 7 0 0) (Pre g M [.ref (gA g 0), .int x, .int w]) (Qi g (fun r M1 => (opFit en nf nc x w 3) = r ∧ M = M1)) 0 0 (gF g) := M_start (by decide +kernel) (Nat.le_of_ble_eq_true rfl) fun p e s m args below meth c ls X hr hk hnm hM hl => by
  have X : Cx g p m c cX11_phases 3 s args RX11 := X
  have hx := X.1.1
  have hb := X.1.2.1
  have hl : lv_has ls 3 [(0, .ref (gA g 0)), (1, .int x), (2, .int w)] := hl
  refine lv_aload_n hx hb dX11_phases_0 rfl (lv_at hl 0 rfl) ?_
  refine lv_iload_n hx hb dX11_phases_1 rfl (lv_at hl 1 rfl) ?_
  refine lv_iload_n hx hb dX11_phases_2 rfl (lv_at hl 2 rfl) ?_
  refine lv_iconst (v := 3) hx hb dX11_phases_3 (by decide) ?_
  refine K_i (G_V (As := [.int x, .int w, .int 3]) (rest := []) X hM (c_X11_fitting_3 l g _ ik en nc nf x w h0 h3 h5 h6 h7 h15 h16 hE hnc) lk_X11_217 h0 rfl rfl hl.1 rfl (Nat.le_of_ble_eq_true rfl) (by decide) dX11_phases_4 ⟨Nat.le_of_ble_eq_true rfl, Nat.le_of_ble_eq_true rfl⟩) hM (fun r M1 H locs hM hp => ?_)
  obtain ⟨rfl, rfl⟩ := hp
  exact R_i X hr hk hM ⟨rfl, rfl⟩ dX11_phases_7
set_option maxHeartbeats 4000000 in
set_option maxRecDepth 100000 in
theorem c_X11_firm (l : Launch) (g : Gp) (M : Mem) (ik : Int32) (en : En) (nc : Nat) (nf : Nat → Int32) (x w : Int32) (h0 : M (gA g 0) = some (custE g ik)) (h3 : M (gA g 3) = some (roofN g (eNi en) (nI (eL en)) (eSk en) (eHi en))) (h5 : M (gA g 5) = some (aS g 6 (eS en))) (h6 : M (gA g 6) = some (aI g 6 (eRo en))) (h7 : M (gA g 7) = some (aI g 6 (ePh en))) (h15 : M (gA g 15) = some (rowsE (gA g 16) 6 3 (nI nc))) (h16 : M (gA g 16) = some (aI g 18 nf)) (hE : EnOk g M en) (hnc : nc ≤ 6) : Met l yX11_firm (wsM yX11_firm cX11_firm 3 (some .int)) (rmD 7 0 0) (Pre g M [.ref (gA g 0), .int x, .int w]) (Qi g (fun r M1 => (opFit en nf nc x w 1) = r ∧ M = M1)) 0 0 (gF g) := M_start (by decide +kernel) (Nat.le_of_ble_eq_true rfl) fun p e s m args below meth c ls X hr hk hnm hM hl => by
  have X : Cx g p m c cX11_firm 3 s args RX11 := X
  have hx := X.1.1
  have hb := X.1.2.1
  have hl : lv_has ls 3 [(0, .ref (gA g 0)), (1, .int x), (2, .int w)] := hl
  refine lv_aload_n hx hb dX11_firm_0 rfl (lv_at hl 0 rfl) ?_
  refine lv_iload_n hx hb dX11_firm_1 rfl (lv_at hl 1 rfl) ?_
  refine lv_iload_n hx hb dX11_firm_2 rfl (lv_at hl 2 rfl) ?_
  refine lv_iconst (v := 1) hx hb dX11_firm_3 (by decide) ?_
  refine K_i (G_V (As := [.int x, .int w, .int 1]) (rest := []) X hM (c_X11_fitting_1 l g _ ik en nc nf x w h0 h3 h5 h6 h7 h15 h16 hE hnc) lk_X11_217 h0 rfl rfl hl.1 rfl (Nat.le_of_ble_eq_true rfl) (by decide) dX11_firm_4 ⟨Nat.le_of_ble_eq_true rfl, Nat.le_of_ble_eq_true rfl⟩) hM (fun r M1 H locs hM hp => ?_)
  obtain ⟨rfl, rfl⟩ := hp
  exact R_i X hr hk hM ⟨rfl, rfl⟩ dX11_firm_7
set_option maxHeartbeats 4000000 in
set_option maxRecDepth 100000 in
theorem c_X11_deal (l : Launch) (g : Gp) (M : Mem) (ik : Int32) (en : En) (tz tn : Nat → Int32) (n how w : Int32) (h0 : M (gA g 0) = some (custE g ik)) (h3 : M (gA g 3) = some (roofN g (eNi en) (nI (eL en)) (eSk en) (eHi en))) (h4 : M (gA g 4) = some (aI g 2 (eSe en))) (h5 : M (gA g 5) = some (aS g 6 (eS en))) (h6 : M (gA g 6) = some (aI g 6 (eRo en))) (h7 : M (gA g 7) = some (aI g 6 (ePh en))) (h8 : M (gA g 8) = some (aI g 24 (eRw en))) (h9 : M (gA g 9) = some (skyE (gA g 10) (gA g 11) (gA g 12) (nI (eZ en)) (eTu en) (eCl en))) (h10 : M (gA g 10) = some (aI g 100 (eF1 en))) (h11 : M (gA g 11) = some (aI g 100 (eF2 en))) (h12 : M (gA g 12) = some (aI g 100 (eF3 en))) (h44 : M (gA g 44) = some (aI g 60 tz)) (h45 : M (gA g 45) = some (aI g 60 tn)) (hE : EnOk g M en) : Met l yX11_deal (wsM yX11_deal cX11_deal 5 (some .int)) (rmD 8 0 0) (Pre g M [.ref (gA g 0), .int n, .int how, .int w]) (Qi g (fun r M1 => ∃ (y0 : Nat → Int32) (y1 : Nat → Int32), (opDeal en tz tn n how w) = r ∧ mup (mup M (gA g 44) (aI g 60 y0)) (gA g 45) (aI g 60 y1) = M1)) 0 0 (gF g) := M_start (by decide +kernel) (Nat.le_of_ble_eq_true rfl) fun p e s m args below meth c ls X hr hk hnm hM hl => by
  have X : Cx g p m c cX11_deal 5 s args RX11 := X
  have hx := X.1.1
  have hb := X.1.2.1
  have hl : lv_has ls 5 [(0, .ref (gA g 0)), (1, .int n), (2, .int how), (3, .int w)] := hl
  refine lv_iload_n hx hb dX11_deal_0 rfl (lv_at hl 2 rfl) ?_
  refine lv_iconst (v := 0) hx hb dX11_deal_1 (by decide) ?_
  refine lv_iconst (v := 1) hx hb dX11_deal_2 (by decide) ?_
  refine K_i (G_S (As := [.int how, .int 0, .int 1]) (rest := []) X hM (c_X11_isIn l g _ how 0 1  ) lk_X11_53 rfl hl.1 rfl (Nat.le_of_ble_eq_true rfl) (by decide) dX11_deal_3 ⟨Nat.le_of_ble_eq_true rfl, Nat.le_of_ble_eq_true rfl⟩) hM (fun r M1 H locs hM hp => ?_)
  obtain ⟨rfl, rfl⟩ := hp
  refine lv_if_eq (tgt := 18) hx hb dX11_deal_6 (by decide) (fun c_1 => ?_) (fun c_1 => ?_)
  · skip
    refine lv_iconst (v := -1) hx hb dX11_deal_18 (by decide) ?_
    exact R_i X hr hk hM ⟨tz, tn, (by unfold opDeal; (first | rw [if_pos c_1] | rw [if_neg c_1] | skip); all_goals (first | rfl | (simp [*]))), (by rw [mup_id h44, mup_id h45])⟩ dX11_deal_19
  · skip
    refine lv_iload_n hx hb dX11_deal_9 rfl (lv_at hl 3 rfl) ?_
    refine lv_iconst (v := 0) hx hb dX11_deal_10 (by decide) ?_
    refine lv_iconst (v := 2) hx hb dX11_deal_11 (by decide) ?_
    refine K_i (G_S (As := [.int w, .int 0, .int 2]) (rest := []) X hM (c_X11_isIn l g _ w 0 2  ) lk_X11_53 rfl hl.1 rfl (Nat.le_of_ble_eq_true rfl) (by decide) dX11_deal_12 ⟨Nat.le_of_ble_eq_true rfl, Nat.le_of_ble_eq_true rfl⟩) hM (fun r M1 H locs hM hp => ?_)
    obtain ⟨rfl, rfl⟩ := hp
    refine lv_if_ne (tgt := 20) hx hb dX11_deal_15 (by decide) (fun c_2 => ?_) (fun c_2 => ?_)
    · skip
      refine lv_iload_n hx hb dX11_deal_20 rfl (lv_at hl 1 rfl) ?_
      refine lv_iconst (v := 1) hx hb dX11_deal_21 (by decide) ?_
      refine lv_bipush (v := 9) hx hb dX11_deal_22 (by decide) ?_
      refine K_i (G_S (As := [.int n, .int 1, .int 9]) (rest := []) X hM (c_X11_isIn l g _ n 1 9  ) lk_X11_53 rfl hl.1 rfl (Nat.le_of_ble_eq_true rfl) (by decide) dX11_deal_24 ⟨Nat.le_of_ble_eq_true rfl, Nat.le_of_ble_eq_true rfl⟩) hM (fun r M1 H locs hM hp => ?_)
      obtain ⟨rfl, rfl⟩ := hp
      refine lv_if_ne (tgt := 33) hx hb dX11_deal_27 (by decide) (fun c_3 => ?_) (fun c_3 => ?_)
      · skip
        obtain ⟨k, bk1, bk, rfl⟩ := fIn_k1 (K := 9) (by decide) c_3
        have ckk : (nI k).toNatClampNeg = k := nI_clamp (by omega)
        refine lv_iconst (v := 0) hx hb dX11_deal_33 (by decide) ?_
        refine lv_istore (lv' := [(4, .int 0), (0, .ref (gA g 0)), (1, .int (nI k)), (2, .int how), (3, .int w)]) hx hb dX11_deal_34 hl (by decide) rfl (fun ls hl => ?_)
        have L36 : ∀ (fu : Nat) (i : Nat) (hi : i ≤ k) (H : Heap) (locs : List Loc) (hM : MW g (mup (mup M (gA g 44) (aI g 60 (fillN (dHas en 0) tz i))) (gA g 45) (aI g 60 (fillN (dHas en 1) tn i))) H locs) (ls : Array Slot) (hl : lv_has ls 5 [(0, .ref (gA g 0)), (1, .int (nI k)), (2, .int how), (3, .int w), (4, .int (nI i))]), k - i < fu → W p l e (rmD 8 0 0) s m args below meth c H locs 0 0 (MQ below (Qi g (fun r M1 => ∃ (y0 : Nat → Int32) (y1 : Nat → Int32), (opDeal en tz tn (nI k) how w) = r ∧ mup (mup M (gA g 44) (aI g 60 y0)) (gA g 45) (aI g 60 y1) = M1)) args s 0 0 (gF g)) (F0 m 36 ls []) := by
          intro fu
          induction fu with
          | zero => intro i hi H locs hM ls hl hmu; exact absurd hmu (Nat.not_lt_zero _)
          | succ fu ih =>
            intro i hi H locs hM ls hl hmu
            refine lv_iload hx hb dX11_deal_36 (lv_at hl 4 rfl) ?_
            refine lv_iload_n hx hb dX11_deal_38 rfl (lv_at hl 1 rfl) ?_
            refine lv_icmp_ge (tgt := 136) hx hb dX11_deal_39 (by decide) (fun c_4 => ?_) (fun c_4 => ?_)
            · skip
              have hz1 : k ≤ i := (nI_leI (by omega) (by omega)).mp c_4
              have hz2 : i = k := by omega
              have hz3 := hz2.symm
              subst hz3
              refine lv_iload_n hx hb dX11_deal_136 rfl (lv_at hl 2 rfl) ?_
              refine l_joinM (ls := ls) hM 167 (fWay how k (fillN (dHas en 0) tz k) (fillN (dHas en 1) tn k)) [] (fun H locs hM => ?_) (fun J137 => ?_)
              · skip
                refine lv_topi (fun way e_way => ?_)
                refine lv_istore (lv' := [(4, .int way), (0, .ref (gA g 0)), (1, .int (nI k)), (2, .int how), (3, .int w)]) hx hb dX11_deal_167 hl (by decide) rfl (fun ls hl => ?_)
                refine lv_iload_n hx hb dX11_deal_169 rfl (lv_at hl 4 rfl) ?_
                refine lv_if_ne (tgt := 178) hx hb dX11_deal_170 (by decide) (fun c_5 => ?_) (fun c_5 => ?_)
                · skip
                  refine lv_iload_n hx hb dX11_deal_178 rfl (lv_at hl 4 rfl) ?_
                  refine lv_iconst (v := 1) hx hb dX11_deal_179 (by decide) ?_
                  refine lv_icmp_ne (tgt := 190) hx hb dX11_deal_180 (by decide) (fun c_6 => ?_) (fun c_6 => ?_)
                  · skip
                    refine lv_aload_n hx hb dX11_deal_190 rfl (lv_at hl 1 rfl) ?_
                    refine r_get (T := TX11) (N := 7) (ci := 11) (v := .ref (gA g 45)) X hM iX11 rfl 5 (by decide) q_181 (Or.inl rfl) (mup_r (X.2.ne (i := 0) (j := 45) (by decide) (by decide) (by decide)) (mup_r (X.2.ne (i := 0) (j := 44) (by decide) (by decide) (by decide)) h0)) rfl dX11_deal_191 ?_
                    refine lv_iload_n hx hb dX11_deal_194 rfl (lv_at hl 2 rfl) ?_
                    refine lv_iload hx hb dX11_deal_195 (lv_at hl 0 rfl) ?_
                    refine lv_iload_n hx hb dX11_deal_197 rfl (lv_at hl 4 rfl) ?_
                    refine lv_iconst (v := 1) hx hb dX11_deal_198 (by decide) ?_
                    refine lv_isub hx hb dX11_deal_199 ?_
                    refine K_i (G_S (As := [.ref (gA g 45), .int (nI k), .int way, .int (w - 1)]) (rest := []) X hM (c_X11_given l g _ (gA g 45) 60 k (fillN (dHas en 1) tn k) way (w - 1) (mup_s _ _ _) (by decide) (by omega)) lk_X11_200 rfl hl.1 rfl (Nat.le_of_ble_eq_true rfl) (by decide) dX11_deal_200 ⟨Nat.le_of_ble_eq_true rfl, Nat.le_of_ble_eq_true rfl⟩) hM (fun r M1 H locs hM hp => ?_)
                    obtain ⟨rfl, rfl⟩ := hp
                    exact R_i X hr hk hM ⟨_, _, (by unfold opDeal; rw [if_neg c_1, if_neg c_2, if_neg c_3]; simp only [ckk]; unfold dealR; (first | rw [if_pos c_5] | rw [if_neg c_5] | skip); (first | rw [if_pos c_6] | rw [if_neg c_6] | skip); all_goals first | rfl | (simp only [← e_way]; done) | (rw [e_way]; done) | (rw [e_way]; rfl)), rfl⟩ dX11_deal_203
                  · skip
                    refine lv_aload_n hx hb dX11_deal_183 rfl (lv_at hl 1 rfl) ?_
                    refine r_get (T := TX11) (N := 7) (ci := 11) (v := .ref (gA g 44)) X hM iX11 rfl 4 (by decide) q_180 (Or.inl rfl) (mup_r (X.2.ne (i := 0) (j := 45) (by decide) (by decide) (by decide)) (mup_r (X.2.ne (i := 0) (j := 44) (by decide) (by decide) (by decide)) h0)) rfl dX11_deal_184 ?_
                    refine lv_goto (tgt := 194) hx hb dX11_deal_187 (by decide) ?_
                    refine lv_iload_n hx hb dX11_deal_194 rfl (lv_at hl 2 rfl) ?_
                    refine lv_iload hx hb dX11_deal_195 (lv_at hl 0 rfl) ?_
                    refine lv_iload_n hx hb dX11_deal_197 rfl (lv_at hl 4 rfl) ?_
                    refine lv_iconst (v := 1) hx hb dX11_deal_198 (by decide) ?_
                    refine lv_isub hx hb dX11_deal_199 ?_
                    refine K_i (G_S (As := [.ref (gA g 44), .int (nI k), .int way, .int (w - 1)]) (rest := []) X hM (c_X11_given l g _ (gA g 44) 60 k (fillN (dHas en 0) tz k) way (w - 1) (mup_r (X.2.ne (i := 44) (j := 45) (by decide) (by decide) (by decide)) (mup_s _ _ _)) (by decide) (by omega)) lk_X11_200 rfl hl.1 rfl (Nat.le_of_ble_eq_true rfl) (by decide) dX11_deal_200 ⟨Nat.le_of_ble_eq_true rfl, Nat.le_of_ble_eq_true rfl⟩) hM (fun r M1 H locs hM hp => ?_)
                    obtain ⟨rfl, rfl⟩ := hp
                    exact R_i X hr hk hM ⟨_, _, (by unfold opDeal; rw [if_neg c_1, if_neg c_2, if_neg c_3]; simp only [ckk]; unfold dealR; (first | rw [if_pos c_5] | rw [if_neg c_5] | skip); (first | rw [if_pos c_6] | rw [if_neg c_6] | skip); all_goals first | rfl | (simp only [← e_way]; done) | (rw [e_way]; done) | (rw [e_way]; rfl)), rfl⟩ dX11_deal_203
                · skip
                  refine lv_iload hx hb dX11_deal_173 (lv_at hl 0 rfl) ?_
                  refine lv_goto (tgt := 203) hx hb dX11_deal_175 (by decide) ?_
                  exact R_i X hr hk hM ⟨_, _, (by unfold opDeal; rw [if_neg c_1, if_neg c_2, if_neg c_3]; simp only [ckk]; unfold dealR; (first | rw [if_pos c_5] | rw [if_neg c_5] | skip); all_goals first | rfl | (simp only [← e_way]; done) | (rw [e_way]; done) | (rw [e_way]; rfl)), rfl⟩ dX11_deal_203
              refine lv_if_ne (tgt := 155) hx hb dX11_deal_137 (by decide) (fun c_7 => ?_) (fun c_7 => ?_)
              · skip
                refine lv_aload_n hx hb dX11_deal_155 rfl (lv_at hl 0 rfl) ?_
                refine r_get (T := TX11) (N := 7) (ci := 11) (v := .ref (gA g 44)) X hM iX11 rfl 4 (by decide) q_180 (Or.inl rfl) (mup_r (X.2.ne (i := 0) (j := 45) (by decide) (by decide) (by decide)) (mup_r (X.2.ne (i := 0) (j := 44) (by decide) (by decide) (by decide)) h0)) rfl dX11_deal_156 ?_
                refine lv_aload_n hx hb dX11_deal_159 rfl (lv_at hl 0 rfl) ?_
                refine r_get (T := TX11) (N := 7) (ci := 11) (v := .ref (gA g 45)) X hM iX11 rfl 5 (by decide) q_181 (Or.inl rfl) (mup_r (X.2.ne (i := 0) (j := 45) (by decide) (by decide) (by decide)) (mup_r (X.2.ne (i := 0) (j := 44) (by decide) (by decide) (by decide)) h0)) rfl dX11_deal_160 ?_
                refine lv_iload_n hx hb dX11_deal_163 rfl (lv_at hl 1 rfl) ?_
                refine K_i (G_S (As := [.ref (gA g 44), .ref (gA g 45), .int (nI k)]) (rest := []) X hM (c_X11_evenestWay l g _ (gA g 44) (gA g 45) 60 k (fillN (dHas en 0) tz k) (fillN (dHas en 1) tn k) (mup_r (X.2.ne (i := 44) (j := 45) (by decide) (by decide) (by decide)) (mup_s _ _ _)) (mup_s _ _ _) (by decide) (by omega)) lk_X11_197 rfl hl.1 rfl (Nat.le_of_ble_eq_true rfl) (by decide) dX11_deal_164 ⟨Nat.le_of_ble_eq_true rfl, Nat.le_of_ble_eq_true rfl⟩) hM (fun r M1 H locs hM hp => ?_)
                obtain ⟨rfl, rfl⟩ := hp
                exact J137 _ _ _ hM (by unfold fWay; first | rw [if_pos c_7] | rw [if_neg c_7])
              · skip
                refine lv_aload_n hx hb dX11_deal_140 rfl (lv_at hl 0 rfl) ?_
                refine r_get (T := TX11) (N := 7) (ci := 11) (v := .ref (gA g 44)) X hM iX11 rfl 4 (by decide) q_180 (Or.inl rfl) (mup_r (X.2.ne (i := 0) (j := 45) (by decide) (by decide) (by decide)) (mup_r (X.2.ne (i := 0) (j := 44) (by decide) (by decide) (by decide)) h0)) rfl dX11_deal_141 ?_
                refine lv_aload_n hx hb dX11_deal_144 rfl (lv_at hl 0 rfl) ?_
                refine r_get (T := TX11) (N := 7) (ci := 11) (v := .ref (gA g 45)) X hM iX11 rfl 5 (by decide) q_181 (Or.inl rfl) (mup_r (X.2.ne (i := 0) (j := 45) (by decide) (by decide) (by decide)) (mup_r (X.2.ne (i := 0) (j := 44) (by decide) (by decide) (by decide)) h0)) rfl dX11_deal_145 ?_
                refine lv_iload_n hx hb dX11_deal_148 rfl (lv_at hl 1 rfl) ?_
                refine K_i (G_S (As := [.ref (gA g 44), .ref (gA g 45), .int (nI k)]) (rest := []) X hM (c_X11_fullestWay l g _ (gA g 44) (gA g 45) 60 k (fillN (dHas en 0) tz k) (fillN (dHas en 1) tn k) (mup_r (X.2.ne (i := 44) (j := 45) (by decide) (by decide) (by decide)) (mup_s _ _ _)) (mup_s _ _ _) (by decide) (by omega)) lk_X11_193 rfl hl.1 rfl (Nat.le_of_ble_eq_true rfl) (by decide) dX11_deal_149 ⟨Nat.le_of_ble_eq_true rfl, Nat.le_of_ble_eq_true rfl⟩) hM (fun r M1 H locs hM hp => ?_)
                obtain ⟨rfl, rfl⟩ := hp
                refine lv_goto (tgt := 167) hx hb dX11_deal_152 (by decide) ?_
                exact J137 _ _ _ hM (by unfold fWay; first | rw [if_pos c_7] | rw [if_neg c_7])
            · skip
              have hz1 : i < k := by
                rcases Nat.lt_or_ge i (k) with q | q
                · exact q
                · exact absurd ((nI_leI (by omega) (by omega)).mpr q) c_4
              refine lv_aload_n hx hb dX11_deal_42 rfl (lv_at hl 0 rfl) ?_
              refine r_get (T := TX11) (N := 7) (ci := 11) (v := .ref (gA g 44)) X hM iX11 rfl 4 (by decide) q_180 (Or.inl rfl) (mup_r (X.2.ne (i := 0) (j := 45) (by decide) (by decide) (by decide)) (mup_r (X.2.ne (i := 0) (j := 44) (by decide) (by decide) (by decide)) h0)) rfl dX11_deal_43 ?_
              refine lv_iload hx hb dX11_deal_46 (lv_at hl 4 rfl) ?_
              refine lv_aload_n hx hb dX11_deal_48 rfl (lv_at hl 0 rfl) ?_
              refine r_get (T := TX11) (N := 7) (ci := 11) (v := .ref (gA g 3)) X hM iX11 rfl 1 (by decide) q_177 (Or.inl rfl) (mup_r (X.2.ne (i := 0) (j := 45) (by decide) (by decide) (by decide)) (mup_r (X.2.ne (i := 0) (j := 44) (by decide) (by decide) (by decide)) h0)) rfl dX11_deal_49 ?_
              refine lv_iconst (v := 0) hx hb dX11_deal_52 (by decide) ?_
              refine lv_aload_n hx hb dX11_deal_53 rfl (lv_at hl 0 rfl) ?_
              refine r_get (T := TX11) (N := 7) (ci := 11) (v := .ref (gA g 3)) X hM iX11 rfl 1 (by decide) q_177 (Or.inl rfl) (mup_r (X.2.ne (i := 0) (j := 45) (by decide) (by decide) (by decide)) (mup_r (X.2.ne (i := 0) (j := 44) (by decide) (by decide) (by decide)) h0)) rfl dX11_deal_54 ?_
              refine r_get (T := TX4) (N := 14) (ci := 4) (v := .int (eNi en)) X hM iX4 rfl 0 (by decide) q_96 (Or.inl rfl) (mup_r (X.2.ne (i := 3) (j := 45) (by decide) (by decide) (by decide)) (mup_r (X.2.ne (i := 3) (j := 44) (by decide) (by decide) (by decide)) h3)) rfl dX11_deal_57 ?_
              refine lv_iload hx hb dX11_deal_60 (lv_at hl 4 rfl) ?_
              refine lv_iadd hx hb dX11_deal_62 ?_
              refine lv_aload_n hx hb dX11_deal_63 rfl (lv_at hl 0 rfl) ?_
              refine r_get (T := TX11) (N := 7) (ci := 11) (v := .ref (gA g 3)) X hM iX11 rfl 1 (by decide) q_177 (Or.inl rfl) (mup_r (X.2.ne (i := 0) (j := 45) (by decide) (by decide) (by decide)) (mup_r (X.2.ne (i := 0) (j := 44) (by decide) (by decide) (by decide)) h0)) rfl dX11_deal_64 ?_
              refine r_get (T := TX4) (N := 14) (ci := 4) (v := .int (eHi en)) X hM iX4 rfl 3 (by decide) q_102 (Or.inl rfl) (mup_r (X.2.ne (i := 3) (j := 45) (by decide) (by decide) (by decide)) (mup_r (X.2.ne (i := 3) (j := 44) (by decide) (by decide) (by decide)) h3)) rfl dX11_deal_67 ?_
              refine lv_aload_n hx hb dX11_deal_70 rfl (lv_at hl 0 rfl) ?_
              refine r_get (T := TX11) (N := 7) (ci := 11) (v := .ref (gA g 3)) X hM iX11 rfl 1 (by decide) q_177 (Or.inl rfl) (mup_r (X.2.ne (i := 0) (j := 45) (by decide) (by decide) (by decide)) (mup_r (X.2.ne (i := 0) (j := 44) (by decide) (by decide) (by decide)) h0)) rfl dX11_deal_71 ?_
              refine r_get (T := TX4) (N := 14) (ci := 4) (v := .ref (gA g 9)) X hM iX4 rfl 9 (by decide) q_113 (Or.inl rfl) (mup_r (X.2.ne (i := 3) (j := 45) (by decide) (by decide) (by decide)) (mup_r (X.2.ne (i := 3) (j := 44) (by decide) (by decide) (by decide)) h3)) rfl dX11_deal_74 ?_
              refine r_get (T := TX6) (N := 6) (ci := 6) (v := .int (eCl en)) X hM iX6 rfl 5 (by decide) q_79 (Or.inl rfl) (mup_r (X.2.ne (i := 9) (j := 45) (by decide) (by decide) (by decide)) (mup_r (X.2.ne (i := 9) (j := 44) (by decide) (by decide) (by decide)) h9)) rfl dX11_deal_77 ?_
              refine K_i (G_V (As := [.int 0, .int ((eNi en) + (nI i)), .int (eHi en), .int (eCl en)]) (rest := [.int (nI i), .ref (gA g 44)]) X hM (c_X4_hasFor l g _ en (eNi en) (eSk en) (eHi en) 0 ((eNi en) + (nI i)) (eHi en) (eCl en) (mup_r (X.2.ne (i := 3) (j := 45) (by decide) (by decide) (by decide)) (mup_r (X.2.ne (i := 3) (j := 44) (by decide) (by decide) (by decide)) h3)) (mup_r (X.2.ne (i := 5) (j := 45) (by decide) (by decide) (by decide)) (mup_r (X.2.ne (i := 5) (j := 44) (by decide) (by decide) (by decide)) h5)) (mup_r (X.2.ne (i := 6) (j := 45) (by decide) (by decide) (by decide)) (mup_r (X.2.ne (i := 6) (j := 44) (by decide) (by decide) (by decide)) h6)) (mup_r (X.2.ne (i := 7) (j := 45) (by decide) (by decide) (by decide)) (mup_r (X.2.ne (i := 7) (j := 44) (by decide) (by decide) (by decide)) h7)) (mup_r (X.2.ne (i := 8) (j := 45) (by decide) (by decide) (by decide)) (mup_r (X.2.ne (i := 8) (j := 44) (by decide) (by decide) (by decide)) h8)) (mup_r (X.2.ne (i := 9) (j := 45) (by decide) (by decide) (by decide)) (mup_r (X.2.ne (i := 9) (j := 44) (by decide) (by decide) (by decide)) h9)) (mup_r (X.2.ne (i := 10) (j := 45) (by decide) (by decide) (by decide)) (mup_r (X.2.ne (i := 10) (j := 44) (by decide) (by decide) (by decide)) h10)) (mup_r (X.2.ne (i := 11) (j := 45) (by decide) (by decide) (by decide)) (mup_r (X.2.ne (i := 11) (j := 44) (by decide) (by decide) (by decide)) h11)) (mup_r (X.2.ne (i := 12) (j := 45) (by decide) (by decide) (by decide)) (mup_r (X.2.ne (i := 12) (j := 44) (by decide) (by decide) (by decide)) h12)) (EnOk.up (EnOk.up hE h44 nostA) (mup_r (X.2.ne (i := 45) (j := 44) (by decide) (by decide) (by decide)) h45) nostA)) lk_X11_171 (mup_r (X.2.ne (i := 3) (j := 45) (by decide) (by decide) (by decide)) (mup_r (X.2.ne (i := 3) (j := 44) (by decide) (by decide) (by decide)) h3)) rfl rfl hl.1 rfl (Nat.le_of_ble_eq_true rfl) (by decide) dX11_deal_80 ⟨Nat.le_of_ble_eq_true rfl, Nat.le_of_ble_eq_true rfl⟩) hM (fun r M1 H locs hM hp => ?_)
              obtain ⟨rfl, rfl⟩ := hp
              refine K_v (G_S (As := [.ref (gA g 44), .int (nI i), .int (fHas en 0 ((eNi en) + (nI i)) (eHi en) (eCl en))]) (rest := []) X hM (c_X11_put l g _ (gA g 44) 60 (fillN (dHas en 0) tz i) (nI i) (fHas en 0 ((eNi en) + (nI i)) (eHi en) (eCl en)) (mup_r (X.2.ne (i := 44) (j := 45) (by decide) (by decide) (by decide)) (mup_s _ _ _)) (by decide)) lk_X11_181 rfl hl.1 rfl (Nat.le_of_ble_eq_true rfl) (by decide) dX11_deal_83 ⟨Nat.le_of_ble_eq_true rfl, Nat.le_of_ble_eq_true rfl⟩) hM (fun M1 H locs hM hp => ?_)
              subst hp
              rw [mup_w _ _ _ (X.2.ne (i := 45) (j := 44) (by decide) (by decide) (by decide)), mup_i] at hM
              have hM : MW g (mup (mup M (gA g 44) (aI g 60 (fPut 60 (fillN (dHas en 0) tz i) (nI i) (fHas en 0 ((eNi en) + (nI i)) (eHi en) (eCl en))))) (gA g 45) (aI g 60 (fillN (dHas en 1) tn i))) H locs := hM
              refine lv_aload_n hx hb dX11_deal_86 rfl (lv_at hl 0 rfl) ?_
              refine r_get (T := TX11) (N := 7) (ci := 11) (v := .ref (gA g 45)) X hM iX11 rfl 5 (by decide) q_181 (Or.inl rfl) (mup_r (X.2.ne (i := 0) (j := 45) (by decide) (by decide) (by decide)) (mup_r (X.2.ne (i := 0) (j := 44) (by decide) (by decide) (by decide)) h0)) rfl dX11_deal_87 ?_
              refine lv_iload hx hb dX11_deal_90 (lv_at hl 4 rfl) ?_
              refine lv_aload_n hx hb dX11_deal_92 rfl (lv_at hl 0 rfl) ?_
              refine r_get (T := TX11) (N := 7) (ci := 11) (v := .ref (gA g 3)) X hM iX11 rfl 1 (by decide) q_177 (Or.inl rfl) (mup_r (X.2.ne (i := 0) (j := 45) (by decide) (by decide) (by decide)) (mup_r (X.2.ne (i := 0) (j := 44) (by decide) (by decide) (by decide)) h0)) rfl dX11_deal_93 ?_
              refine lv_iconst (v := 1) hx hb dX11_deal_96 (by decide) ?_
              refine lv_aload_n hx hb dX11_deal_97 rfl (lv_at hl 0 rfl) ?_
              refine r_get (T := TX11) (N := 7) (ci := 11) (v := .ref (gA g 3)) X hM iX11 rfl 1 (by decide) q_177 (Or.inl rfl) (mup_r (X.2.ne (i := 0) (j := 45) (by decide) (by decide) (by decide)) (mup_r (X.2.ne (i := 0) (j := 44) (by decide) (by decide) (by decide)) h0)) rfl dX11_deal_98 ?_
              refine r_get (T := TX4) (N := 14) (ci := 4) (v := .int (eNi en)) X hM iX4 rfl 0 (by decide) q_96 (Or.inl rfl) (mup_r (X.2.ne (i := 3) (j := 45) (by decide) (by decide) (by decide)) (mup_r (X.2.ne (i := 3) (j := 44) (by decide) (by decide) (by decide)) h3)) rfl dX11_deal_101 ?_
              refine lv_iload hx hb dX11_deal_104 (lv_at hl 4 rfl) ?_
              refine lv_iadd hx hb dX11_deal_106 ?_
              refine lv_aload_n hx hb dX11_deal_107 rfl (lv_at hl 0 rfl) ?_
              refine r_get (T := TX11) (N := 7) (ci := 11) (v := .ref (gA g 3)) X hM iX11 rfl 1 (by decide) q_177 (Or.inl rfl) (mup_r (X.2.ne (i := 0) (j := 45) (by decide) (by decide) (by decide)) (mup_r (X.2.ne (i := 0) (j := 44) (by decide) (by decide) (by decide)) h0)) rfl dX11_deal_108 ?_
              refine r_get (T := TX4) (N := 14) (ci := 4) (v := .int (eHi en)) X hM iX4 rfl 3 (by decide) q_102 (Or.inl rfl) (mup_r (X.2.ne (i := 3) (j := 45) (by decide) (by decide) (by decide)) (mup_r (X.2.ne (i := 3) (j := 44) (by decide) (by decide) (by decide)) h3)) rfl dX11_deal_111 ?_
              refine lv_aload_n hx hb dX11_deal_114 rfl (lv_at hl 0 rfl) ?_
              refine r_get (T := TX11) (N := 7) (ci := 11) (v := .ref (gA g 3)) X hM iX11 rfl 1 (by decide) q_177 (Or.inl rfl) (mup_r (X.2.ne (i := 0) (j := 45) (by decide) (by decide) (by decide)) (mup_r (X.2.ne (i := 0) (j := 44) (by decide) (by decide) (by decide)) h0)) rfl dX11_deal_115 ?_
              refine r_get (T := TX4) (N := 14) (ci := 4) (v := .ref (gA g 9)) X hM iX4 rfl 9 (by decide) q_113 (Or.inl rfl) (mup_r (X.2.ne (i := 3) (j := 45) (by decide) (by decide) (by decide)) (mup_r (X.2.ne (i := 3) (j := 44) (by decide) (by decide) (by decide)) h3)) rfl dX11_deal_118 ?_
              refine r_get (T := TX6) (N := 6) (ci := 6) (v := .int (eCl en)) X hM iX6 rfl 5 (by decide) q_79 (Or.inl rfl) (mup_r (X.2.ne (i := 9) (j := 45) (by decide) (by decide) (by decide)) (mup_r (X.2.ne (i := 9) (j := 44) (by decide) (by decide) (by decide)) h9)) rfl dX11_deal_121 ?_
              refine K_i (G_V (As := [.int 1, .int ((eNi en) + (nI i)), .int (eHi en), .int (eCl en)]) (rest := [.int (nI i), .ref (gA g 45)]) X hM (c_X4_hasFor l g _ en (eNi en) (eSk en) (eHi en) 1 ((eNi en) + (nI i)) (eHi en) (eCl en) (mup_r (X.2.ne (i := 3) (j := 45) (by decide) (by decide) (by decide)) (mup_r (X.2.ne (i := 3) (j := 44) (by decide) (by decide) (by decide)) h3)) (mup_r (X.2.ne (i := 5) (j := 45) (by decide) (by decide) (by decide)) (mup_r (X.2.ne (i := 5) (j := 44) (by decide) (by decide) (by decide)) h5)) (mup_r (X.2.ne (i := 6) (j := 45) (by decide) (by decide) (by decide)) (mup_r (X.2.ne (i := 6) (j := 44) (by decide) (by decide) (by decide)) h6)) (mup_r (X.2.ne (i := 7) (j := 45) (by decide) (by decide) (by decide)) (mup_r (X.2.ne (i := 7) (j := 44) (by decide) (by decide) (by decide)) h7)) (mup_r (X.2.ne (i := 8) (j := 45) (by decide) (by decide) (by decide)) (mup_r (X.2.ne (i := 8) (j := 44) (by decide) (by decide) (by decide)) h8)) (mup_r (X.2.ne (i := 9) (j := 45) (by decide) (by decide) (by decide)) (mup_r (X.2.ne (i := 9) (j := 44) (by decide) (by decide) (by decide)) h9)) (mup_r (X.2.ne (i := 10) (j := 45) (by decide) (by decide) (by decide)) (mup_r (X.2.ne (i := 10) (j := 44) (by decide) (by decide) (by decide)) h10)) (mup_r (X.2.ne (i := 11) (j := 45) (by decide) (by decide) (by decide)) (mup_r (X.2.ne (i := 11) (j := 44) (by decide) (by decide) (by decide)) h11)) (mup_r (X.2.ne (i := 12) (j := 45) (by decide) (by decide) (by decide)) (mup_r (X.2.ne (i := 12) (j := 44) (by decide) (by decide) (by decide)) h12)) (EnOk.up (EnOk.up hE h44 nostA) (mup_r (X.2.ne (i := 45) (j := 44) (by decide) (by decide) (by decide)) h45) nostA)) lk_X11_171 (mup_r (X.2.ne (i := 3) (j := 45) (by decide) (by decide) (by decide)) (mup_r (X.2.ne (i := 3) (j := 44) (by decide) (by decide) (by decide)) h3)) rfl rfl hl.1 rfl (Nat.le_of_ble_eq_true rfl) (by decide) dX11_deal_124 ⟨Nat.le_of_ble_eq_true rfl, Nat.le_of_ble_eq_true rfl⟩) hM (fun r M1 H locs hM hp => ?_)
              obtain ⟨rfl, rfl⟩ := hp
              refine K_v (G_S (As := [.ref (gA g 45), .int (nI i), .int (fHas en 1 ((eNi en) + (nI i)) (eHi en) (eCl en))]) (rest := []) X hM (c_X11_put l g _ (gA g 45) 60 (fillN (dHas en 1) tn i) (nI i) (fHas en 1 ((eNi en) + (nI i)) (eHi en) (eCl en)) (mup_s _ _ _) (by decide)) lk_X11_181 rfl hl.1 rfl (Nat.le_of_ble_eq_true rfl) (by decide) dX11_deal_127 ⟨Nat.le_of_ble_eq_true rfl, Nat.le_of_ble_eq_true rfl⟩) hM (fun M1 H locs hM hp => ?_)
              subst hp
              rw [mup_i] at hM
              have hM : MW g (mup (mup M (gA g 44) (aI g 60 (fPut 60 (fillN (dHas en 0) tz i) (nI i) (fHas en 0 ((eNi en) + (nI i)) (eHi en) (eCl en))))) (gA g 45) (aI g 60 (fPut 60 (fillN (dHas en 1) tn i) (nI i) (fHas en 1 ((eNi en) + (nI i)) (eHi en) (eCl en))))) H locs := hM
              refine lv_iinc (v := (nI i) + 1) (lv' := [(4, .int ((nI i) + 1)), (0, .ref (gA g 0)), (1, .int (nI k)), (2, .int how), (3, .int w)]) hx hb dX11_deal_130 hl (k := 4) rfl rfl (by decide) rfl (fun ls hl => ?_)
              refine lv_goto (tgt := 36) hx hb dX11_deal_133 (by decide) ?_
              exact ih (i + 1) (by omega) _ _ hM _ ((by rw [← nI_1]; exact lv_sub hl [1, 2, 3, 4, 0] rfl)) (by omega)
        exact L36 (k + 1) 0 (Nat.zero_le _) _ _ (by show MW g (mup (mup M (gA g 44) (aI g 60 tz)) (gA g 45) (aI g 60 tn)) _ _; rw [mup_id h44, mup_id h45]; exact hM) _ (lv_sub hl [1, 2, 3, 4, 0] rfl) (by first | exact Nat.lt_succ_self _ | omega)
      · skip
        refine lv_bipush (v := -2) hx hb dX11_deal_30 (by decide) ?_
        exact R_i X hr hk hM ⟨tz, tn, (by unfold opDeal; (first | rw [if_pos c_1] | rw [if_neg c_1] | skip); (first | rw [if_pos c_2] | rw [if_neg c_2] | skip); (first | rw [if_pos c_3] | rw [if_neg c_3] | skip); all_goals (first | rfl | (simp [*]))), (by rw [mup_id h44, mup_id h45])⟩ dX11_deal_32
    · skip
      refine lv_iconst (v := -1) hx hb dX11_deal_18 (by decide) ?_
      exact R_i X hr hk hM ⟨tz, tn, (by unfold opDeal; (first | rw [if_pos c_1] | rw [if_neg c_1] | skip); (first | rw [if_pos c_2] | rw [if_neg c_2] | skip); all_goals (first | rfl | (simp [*]))), (by rw [mup_id h44, mup_id h45])⟩ dX11_deal_19
set_option maxHeartbeats 4000000 in
set_option maxRecDepth 100000 in
theorem c_X11_shares (l : Launch) (g : Gp) (M : Mem) (ik : Int32) (en : En) (tz tn : Nat → Int32) (w : Int32) (h0 : M (gA g 0) = some (custE g ik)) (h3 : M (gA g 3) = some (roofN g (eNi en) (nI (eL en)) (eSk en) (eHi en))) (h4 : M (gA g 4) = some (aI g 2 (eSe en))) (h5 : M (gA g 5) = some (aS g 6 (eS en))) (h6 : M (gA g 6) = some (aI g 6 (eRo en))) (h7 : M (gA g 7) = some (aI g 6 (ePh en))) (h8 : M (gA g 8) = some (aI g 24 (eRw en))) (h9 : M (gA g 9) = some (skyE (gA g 10) (gA g 11) (gA g 12) (nI (eZ en)) (eTu en) (eCl en))) (h10 : M (gA g 10) = some (aI g 100 (eF1 en))) (h11 : M (gA g 11) = some (aI g 100 (eF2 en))) (h12 : M (gA g 12) = some (aI g 100 (eF3 en))) (h44 : M (gA g 44) = some (aI g 60 tz)) (h45 : M (gA g 45) = some (aI g 60 tn)) (hE : EnOk g M en) : Met l yX11_shares (wsM yX11_shares cX11_shares 3 (some .int)) (rmD 8 0 0) (Pre g M [.ref (gA g 0), .int w]) (Qi g (fun r M1 => ∃ (y0 : Nat → Int32) (y1 : Nat → Int32), (opShares en tz tn w) = r ∧ mup (mup M (gA g 44) (aI g 60 y0)) (gA g 45) (aI g 60 y1) = M1)) 0 0 (gF g) := M_start (by decide +kernel) (Nat.le_of_ble_eq_true rfl) fun p e s m args below meth c ls X hr hk hnm hM hl => by
  have X : Cx g p m c cX11_shares 3 s args RX11 := X
  have hx := X.1.1
  have hb := X.1.2.1
  have hl : lv_has ls 3 [(0, .ref (gA g 0)), (1, .int w)] := hl
  refine lv_iload_n hx hb dX11_shares_0 rfl (lv_at hl 1 rfl) ?_
  refine lv_iconst (v := 0) hx hb dX11_shares_1 (by decide) ?_
  refine lv_iconst (v := 1) hx hb dX11_shares_2 (by decide) ?_
  refine K_i (G_S (As := [.int w, .int 0, .int 1]) (rest := []) X hM (c_X11_isIn l g _ w 0 1  ) lk_X11_53 rfl hl.1 rfl (Nat.le_of_ble_eq_true rfl) (by decide) dX11_shares_3 ⟨Nat.le_of_ble_eq_true rfl, Nat.le_of_ble_eq_true rfl⟩) hM (fun r M1 H locs hM hp => ?_)
  obtain ⟨rfl, rfl⟩ := hp
  refine lv_if_ne (tgt := 11) hx hb dX11_shares_6 (by decide) (fun c_1 => ?_) (fun c_1 => ?_)
  · skip
    refine lv_iconst (v := 0) hx hb dX11_shares_11 (by decide) ?_
    refine lv_istore_n (lv' := [(2, .int 0), (0, .ref (gA g 0)), (1, .int w)]) hx hb dX11_shares_12 rfl hl (by decide) rfl (fun ls hl => ?_)
    have L13 : ∀ (fu : Nat) (i : Nat) (hi : i ≤ eL en) (H : Heap) (locs : List Loc) (hM : MW g (mup (mup M (gA g 44) (aI g 60 (fillN (dMon en 0) tz (i)))) (gA g 45) (aI g 60 (fillN (dMon en 1) tn (i)))) H locs) (ls : Array Slot) (hl : lv_has ls 3 [(0, .ref (gA g 0)), (1, .int w), (2, .int (nI i))]), eL en - i < fu → W p l e (rmD 8 0 0) s m args below meth c H locs 0 0 (MQ below (Qi g (fun r M1 => ∃ (y0 : Nat → Int32) (y1 : Nat → Int32), (opShares en tz tn w) = r ∧ mup (mup M (gA g 44) (aI g 60 y0)) (gA g 45) (aI g 60 y1) = M1)) args s 0 0 (gF g)) (F0 m 13 ls []) := by
      intro fu
      induction fu with
      | zero => intro i hi H locs hM ls hl hmu; exact absurd hmu (Nat.not_lt_zero _)
      | succ fu ih =>
        intro i hi H locs hM ls hl hmu
        refine lv_iload_n hx hb dX11_shares_13 rfl (lv_at hl 2 rfl) ?_
        refine lv_aload_n hx hb dX11_shares_14 rfl (lv_at hl 0 rfl) ?_
        refine r_get (T := TX11) (N := 7) (ci := 11) (v := .ref (gA g 3)) X hM iX11 rfl 1 (by decide) q_177 (Or.inl rfl) (mup_r (X.2.ne (i := 0) (j := 45) (by decide) (by decide) (by decide)) (mup_r (X.2.ne (i := 0) (j := 44) (by decide) (by decide) (by decide)) h0)) rfl dX11_shares_15 ?_
        refine r_get (T := TX4) (N := 14) (ci := 4) (v := .int (nI (eL en))) X hM iX4 rfl 1 (by decide) q_98 (Or.inl rfl) (mup_r (X.2.ne (i := 3) (j := 45) (by decide) (by decide) (by decide)) (mup_r (X.2.ne (i := 3) (j := 44) (by decide) (by decide) (by decide)) h3)) rfl dX11_shares_18 ?_
        refine lv_icmp_ge (tgt := 58) hx hb dX11_shares_21 (by decide) (fun c_2 => ?_) (fun c_2 => ?_)
        · skip
          have hz1 : eL en ≤ i := (nI_leI (by have := hE.1; omega) (by have := hE.1; omega)).mp c_2
          have hz2 : i = eL en := by omega
          rw [hz2] at hM
          refine lv_iload_n hx hb dX11_shares_58 rfl (lv_at hl 1 rfl) ?_
          refine lv_if_ne (tgt := 83) hx hb dX11_shares_59 (by decide) (fun c_3 => ?_) (fun c_3 => ?_)
          · skip
            refine lv_aload_n hx hb dX11_shares_83 rfl (lv_at hl 0 rfl) ?_
            refine r_get (T := TX11) (N := 7) (ci := 11) (v := .ref (gA g 44)) X hM iX11 rfl 4 (by decide) q_180 (Or.inl rfl) (mup_r (X.2.ne (i := 0) (j := 45) (by decide) (by decide) (by decide)) (mup_r (X.2.ne (i := 0) (j := 44) (by decide) (by decide) (by decide)) h0)) rfl dX11_shares_84 ?_
            refine lv_aload_n hx hb dX11_shares_87 rfl (lv_at hl 0 rfl) ?_
            refine r_get (T := TX11) (N := 7) (ci := 11) (v := .ref (gA g 45)) X hM iX11 rfl 5 (by decide) q_181 (Or.inl rfl) (mup_r (X.2.ne (i := 0) (j := 45) (by decide) (by decide) (by decide)) (mup_r (X.2.ne (i := 0) (j := 44) (by decide) (by decide) (by decide)) h0)) rfl dX11_shares_88 ?_
            refine lv_aload_n hx hb dX11_shares_91 rfl (lv_at hl 0 rfl) ?_
            refine r_get (T := TX11) (N := 7) (ci := 11) (v := .ref (gA g 3)) X hM iX11 rfl 1 (by decide) q_177 (Or.inl rfl) (mup_r (X.2.ne (i := 0) (j := 45) (by decide) (by decide) (by decide)) (mup_r (X.2.ne (i := 0) (j := 44) (by decide) (by decide) (by decide)) h0)) rfl dX11_shares_92 ?_
            refine r_get (T := TX4) (N := 14) (ci := 4) (v := .int (nI (eL en))) X hM iX4 rfl 1 (by decide) q_98 (Or.inl rfl) (mup_r (X.2.ne (i := 3) (j := 45) (by decide) (by decide) (by decide)) (mup_r (X.2.ne (i := 3) (j := 44) (by decide) (by decide) (by decide)) h3)) rfl dX11_shares_95 ?_
            refine K_i (G_S (As := [.ref (gA g 44), .ref (gA g 45), .int (nI (eL en))]) (rest := []) X hM (c_X11_fullestWay l g _ (gA g 44) (gA g 45) 60 (eL en) (fillN (dMon en 0) tz ((eL en))) (fillN (dMon en 1) tn ((eL en))) (mup_r (X.2.ne (i := 44) (j := 45) (by decide) (by decide) (by decide)) (mup_s _ _ _)) (mup_s _ _ _) (by decide) (by have := hE.1; omega)) lk_X11_193 rfl hl.1 rfl (Nat.le_of_ble_eq_true rfl) (by decide) dX11_shares_98 ⟨Nat.le_of_ble_eq_true rfl, Nat.le_of_ble_eq_true rfl⟩) hM (fun r M1 H locs hM hp => ?_)
            obtain ⟨rfl, rfl⟩ := hp
            exact R_i X hr hk hM ⟨_, _, (by unfold opShares; rw [if_neg c_1]; first | rw [if_pos c_3] | rw [if_neg c_3]), rfl⟩ dX11_shares_101
          · skip
            refine lv_aload_n hx hb dX11_shares_62 rfl (lv_at hl 0 rfl) ?_
            refine r_get (T := TX11) (N := 7) (ci := 11) (v := .ref (gA g 44)) X hM iX11 rfl 4 (by decide) q_180 (Or.inl rfl) (mup_r (X.2.ne (i := 0) (j := 45) (by decide) (by decide) (by decide)) (mup_r (X.2.ne (i := 0) (j := 44) (by decide) (by decide) (by decide)) h0)) rfl dX11_shares_63 ?_
            refine lv_aload_n hx hb dX11_shares_66 rfl (lv_at hl 0 rfl) ?_
            refine r_get (T := TX11) (N := 7) (ci := 11) (v := .ref (gA g 45)) X hM iX11 rfl 5 (by decide) q_181 (Or.inl rfl) (mup_r (X.2.ne (i := 0) (j := 45) (by decide) (by decide) (by decide)) (mup_r (X.2.ne (i := 0) (j := 44) (by decide) (by decide) (by decide)) h0)) rfl dX11_shares_67 ?_
            refine lv_aload_n hx hb dX11_shares_70 rfl (lv_at hl 0 rfl) ?_
            refine r_get (T := TX11) (N := 7) (ci := 11) (v := .ref (gA g 3)) X hM iX11 rfl 1 (by decide) q_177 (Or.inl rfl) (mup_r (X.2.ne (i := 0) (j := 45) (by decide) (by decide) (by decide)) (mup_r (X.2.ne (i := 0) (j := 44) (by decide) (by decide) (by decide)) h0)) rfl dX11_shares_71 ?_
            refine r_get (T := TX4) (N := 14) (ci := 4) (v := .int (nI (eL en))) X hM iX4 rfl 1 (by decide) q_98 (Or.inl rfl) (mup_r (X.2.ne (i := 3) (j := 45) (by decide) (by decide) (by decide)) (mup_r (X.2.ne (i := 3) (j := 44) (by decide) (by decide) (by decide)) h3)) rfl dX11_shares_74 ?_
            refine K_i (G_S (As := [.ref (gA g 44), .ref (gA g 45), .int (nI (eL en))]) (rest := []) X hM (c_X11_noEnvyWay l g _ (gA g 44) (gA g 45) 60 (eL en) (fillN (dMon en 0) tz ((eL en))) (fillN (dMon en 1) tn ((eL en))) (mup_r (X.2.ne (i := 44) (j := 45) (by decide) (by decide) (by decide)) (mup_s _ _ _)) (mup_s _ _ _) (by decide) (by have := hE.1; omega)) lk_X11_207 rfl hl.1 rfl (Nat.le_of_ble_eq_true rfl) (by decide) dX11_shares_77 ⟨Nat.le_of_ble_eq_true rfl, Nat.le_of_ble_eq_true rfl⟩) hM (fun r M1 H locs hM hp => ?_)
            obtain ⟨rfl, rfl⟩ := hp
            refine lv_goto (tgt := 101) hx hb dX11_shares_80 (by decide) ?_
            exact R_i X hr hk hM ⟨_, _, (by unfold opShares; rw [if_neg c_1]; first | rw [if_pos c_3] | rw [if_neg c_3]), rfl⟩ dX11_shares_101
        · skip
          have hz1 : i < eL en := by
            rcases Nat.lt_or_ge i (eL en) with q | q
            · exact q
            · exact absurd ((nI_leI (by have := hE.1; omega) (by have := hE.1; omega)).mpr q) c_2
          refine lv_aload_n hx hb dX11_shares_24 rfl (lv_at hl 0 rfl) ?_
          refine r_get (T := TX11) (N := 7) (ci := 11) (v := .ref (gA g 44)) X hM iX11 rfl 4 (by decide) q_180 (Or.inl rfl) (mup_r (X.2.ne (i := 0) (j := 45) (by decide) (by decide) (by decide)) (mup_r (X.2.ne (i := 0) (j := 44) (by decide) (by decide) (by decide)) h0)) rfl dX11_shares_25 ?_
          refine lv_iload_n hx hb dX11_shares_28 rfl (lv_at hl 2 rfl) ?_
          refine lv_aload_n hx hb dX11_shares_29 rfl (lv_at hl 0 rfl) ?_
          refine lv_iload_n hx hb dX11_shares_30 rfl (lv_at hl 2 rfl) ?_
          refine lv_iconst (v := 0) hx hb dX11_shares_31 (by decide) ?_
          refine K_i (G_V (As := [.int (nI i), .int 0]) (rest := [.int (nI i), .ref (gA g 44)]) X hM (c_X11_monthOf l g _ ik en (nI i) 0 i (mup_r (X.2.ne (i := 0) (j := 45) (by decide) (by decide) (by decide)) (mup_r (X.2.ne (i := 0) (j := 44) (by decide) (by decide) (by decide)) h0)) (mup_r (X.2.ne (i := 3) (j := 45) (by decide) (by decide) (by decide)) (mup_r (X.2.ne (i := 3) (j := 44) (by decide) (by decide) (by decide)) h3)) (mup_r (X.2.ne (i := 5) (j := 45) (by decide) (by decide) (by decide)) (mup_r (X.2.ne (i := 5) (j := 44) (by decide) (by decide) (by decide)) h5)) (mup_r (X.2.ne (i := 6) (j := 45) (by decide) (by decide) (by decide)) (mup_r (X.2.ne (i := 6) (j := 44) (by decide) (by decide) (by decide)) h6)) (mup_r (X.2.ne (i := 7) (j := 45) (by decide) (by decide) (by decide)) (mup_r (X.2.ne (i := 7) (j := 44) (by decide) (by decide) (by decide)) h7)) (mup_r (X.2.ne (i := 8) (j := 45) (by decide) (by decide) (by decide)) (mup_r (X.2.ne (i := 8) (j := 44) (by decide) (by decide) (by decide)) h8)) (mup_r (X.2.ne (i := 9) (j := 45) (by decide) (by decide) (by decide)) (mup_r (X.2.ne (i := 9) (j := 44) (by decide) (by decide) (by decide)) h9)) (mup_r (X.2.ne (i := 10) (j := 45) (by decide) (by decide) (by decide)) (mup_r (X.2.ne (i := 10) (j := 44) (by decide) (by decide) (by decide)) h10)) (mup_r (X.2.ne (i := 11) (j := 45) (by decide) (by decide) (by decide)) (mup_r (X.2.ne (i := 11) (j := 44) (by decide) (by decide) (by decide)) h11)) (mup_r (X.2.ne (i := 12) (j := 45) (by decide) (by decide) (by decide)) (mup_r (X.2.ne (i := 12) (j := 44) (by decide) (by decide) (by decide)) h12)) (EnOk.up (EnOk.up hE h44 nostA) (mup_r (X.2.ne (i := 45) (j := 44) (by decide) (by decide) (by decide)) h45) nostA) rfl hz1) lk_X11_204 (mup_r (X.2.ne (i := 0) (j := 45) (by decide) (by decide) (by decide)) (mup_r (X.2.ne (i := 0) (j := 44) (by decide) (by decide) (by decide)) h0)) rfl rfl hl.1 rfl (Nat.le_of_ble_eq_true rfl) (by decide) dX11_shares_32 ⟨Nat.le_of_ble_eq_true rfl, Nat.le_of_ble_eq_true rfl⟩) hM (fun r M1 H locs hM hp => ?_)
          obtain ⟨rfl, rfl⟩ := hp
          refine K_v (G_S (As := [.ref (gA g 44), .int (nI i), .int (monN en i 0 28)]) (rest := []) X hM (c_X11_put l g _ (gA g 44) 60 (fillN (dMon en 0) tz (i)) (nI i) (monN en i 0 28) (mup_r (X.2.ne (i := 44) (j := 45) (by decide) (by decide) (by decide)) (mup_s _ _ _)) (by decide)) lk_X11_181 rfl hl.1 rfl (Nat.le_of_ble_eq_true rfl) (by decide) dX11_shares_35 ⟨Nat.le_of_ble_eq_true rfl, Nat.le_of_ble_eq_true rfl⟩) hM (fun M1 H locs hM hp => ?_)
          subst hp
          rw [mup_w _ _ _ (X.2.ne (i := 45) (j := 44) (by decide) (by decide) (by decide)), mup_i] at hM
          have hM : MW g (mup (mup M (gA g 44) (aI g 60 (fPut 60 (fillN (dMon en 0) tz (i)) (nI i) (monN en i 0 28)))) (gA g 45) (aI g 60 (fillN (dMon en 1) tn (i)))) H locs := hM
          refine lv_aload_n hx hb dX11_shares_38 rfl (lv_at hl 0 rfl) ?_
          refine r_get (T := TX11) (N := 7) (ci := 11) (v := .ref (gA g 45)) X hM iX11 rfl 5 (by decide) q_181 (Or.inl rfl) (mup_r (X.2.ne (i := 0) (j := 45) (by decide) (by decide) (by decide)) (mup_r (X.2.ne (i := 0) (j := 44) (by decide) (by decide) (by decide)) h0)) rfl dX11_shares_39 ?_
          refine lv_iload_n hx hb dX11_shares_42 rfl (lv_at hl 2 rfl) ?_
          refine lv_aload_n hx hb dX11_shares_43 rfl (lv_at hl 0 rfl) ?_
          refine lv_iload_n hx hb dX11_shares_44 rfl (lv_at hl 2 rfl) ?_
          refine lv_iconst (v := 1) hx hb dX11_shares_45 (by decide) ?_
          refine K_i (G_V (As := [.int (nI i), .int 1]) (rest := [.int (nI i), .ref (gA g 45)]) X hM (c_X11_monthOf l g _ ik en (nI i) 1 i (mup_r (X.2.ne (i := 0) (j := 45) (by decide) (by decide) (by decide)) (mup_r (X.2.ne (i := 0) (j := 44) (by decide) (by decide) (by decide)) h0)) (mup_r (X.2.ne (i := 3) (j := 45) (by decide) (by decide) (by decide)) (mup_r (X.2.ne (i := 3) (j := 44) (by decide) (by decide) (by decide)) h3)) (mup_r (X.2.ne (i := 5) (j := 45) (by decide) (by decide) (by decide)) (mup_r (X.2.ne (i := 5) (j := 44) (by decide) (by decide) (by decide)) h5)) (mup_r (X.2.ne (i := 6) (j := 45) (by decide) (by decide) (by decide)) (mup_r (X.2.ne (i := 6) (j := 44) (by decide) (by decide) (by decide)) h6)) (mup_r (X.2.ne (i := 7) (j := 45) (by decide) (by decide) (by decide)) (mup_r (X.2.ne (i := 7) (j := 44) (by decide) (by decide) (by decide)) h7)) (mup_r (X.2.ne (i := 8) (j := 45) (by decide) (by decide) (by decide)) (mup_r (X.2.ne (i := 8) (j := 44) (by decide) (by decide) (by decide)) h8)) (mup_r (X.2.ne (i := 9) (j := 45) (by decide) (by decide) (by decide)) (mup_r (X.2.ne (i := 9) (j := 44) (by decide) (by decide) (by decide)) h9)) (mup_r (X.2.ne (i := 10) (j := 45) (by decide) (by decide) (by decide)) (mup_r (X.2.ne (i := 10) (j := 44) (by decide) (by decide) (by decide)) h10)) (mup_r (X.2.ne (i := 11) (j := 45) (by decide) (by decide) (by decide)) (mup_r (X.2.ne (i := 11) (j := 44) (by decide) (by decide) (by decide)) h11)) (mup_r (X.2.ne (i := 12) (j := 45) (by decide) (by decide) (by decide)) (mup_r (X.2.ne (i := 12) (j := 44) (by decide) (by decide) (by decide)) h12)) (EnOk.up (EnOk.up hE h44 nostA) (mup_r (X.2.ne (i := 45) (j := 44) (by decide) (by decide) (by decide)) h45) nostA) rfl hz1) lk_X11_204 (mup_r (X.2.ne (i := 0) (j := 45) (by decide) (by decide) (by decide)) (mup_r (X.2.ne (i := 0) (j := 44) (by decide) (by decide) (by decide)) h0)) rfl rfl hl.1 rfl (Nat.le_of_ble_eq_true rfl) (by decide) dX11_shares_46 ⟨Nat.le_of_ble_eq_true rfl, Nat.le_of_ble_eq_true rfl⟩) hM (fun r M1 H locs hM hp => ?_)
          obtain ⟨rfl, rfl⟩ := hp
          refine K_v (G_S (As := [.ref (gA g 45), .int (nI i), .int (monN en i 1 28)]) (rest := []) X hM (c_X11_put l g _ (gA g 45) 60 (fillN (dMon en 1) tn (i)) (nI i) (monN en i 1 28) (mup_s _ _ _) (by decide)) lk_X11_181 rfl hl.1 rfl (Nat.le_of_ble_eq_true rfl) (by decide) dX11_shares_49 ⟨Nat.le_of_ble_eq_true rfl, Nat.le_of_ble_eq_true rfl⟩) hM (fun M1 H locs hM hp => ?_)
          subst hp
          rw [mup_i] at hM
          have hM : MW g (mup (mup M (gA g 44) (aI g 60 (fPut 60 (fillN (dMon en 0) tz (i)) (nI i) (monN en i 0 28)))) (gA g 45) (aI g 60 (fPut 60 (fillN (dMon en 1) tn (i)) (nI i) (monN en i 1 28)))) H locs := hM
          refine lv_iinc (v := (nI i) + 1) (lv' := [(2, .int ((nI i) + 1)), (0, .ref (gA g 0)), (1, .int w)]) hx hb dX11_shares_52 hl (k := 2) rfl rfl (by decide) rfl (fun ls hl => ?_)
          refine lv_goto (tgt := 13) hx hb dX11_shares_55 (by decide) ?_
          exact ih (i + 1) (by omega) _ _ hM _ ((by rw [← nI_1]; exact lv_sub hl [1, 2, 0] rfl)) (by omega)
    exact L13 (eL en + 1) 0 (Nat.zero_le _) _ _ (by show MW g (mup (mup M (gA g 44) (aI g 60 tz)) (gA g 45) (aI g 60 tn)) _ _; rw [mup_id h44, mup_id h45]; exact hM) _ (lv_sub hl [1, 2, 0] rfl) (by first | exact Nat.lt_succ_self _ | omega)
  · skip
    refine lv_iconst (v := -1) hx hb dX11_shares_9 (by decide) ?_
    exact R_i X hr hk hM ⟨tz, tn, (by unfold opShares; (first | rw [if_pos c_1] | rw [if_neg c_1] | skip); all_goals (first | rfl | (simp [*]))), (by rw [mup_id h44, mup_id h45])⟩ dX11_shares_10
set_option maxHeartbeats 4000000 in
set_option maxRecDepth 100000 in
theorem c_X11_odds (l : Launch) (g : Gp) (M : Mem) (ik : Int32) (en : En) (tz : Nat → Int32) (ho n q pt : Int32) (h0 : M (gA g 0) = some (custE g ik)) (h3 : M (gA g 3) = some (roofN g (eNi en) (nI (eL en)) (eSk en) (eHi en))) (h4 : M (gA g 4) = some (aI g 2 (eSe en))) (h5 : M (gA g 5) = some (aS g 6 (eS en))) (h6 : M (gA g 6) = some (aI g 6 (eRo en))) (h7 : M (gA g 7) = some (aI g 6 (ePh en))) (h8 : M (gA g 8) = some (aI g 24 (eRw en))) (h9 : M (gA g 9) = some (skyE (gA g 10) (gA g 11) (gA g 12) (nI (eZ en)) (eTu en) (eCl en))) (h10 : M (gA g 10) = some (aI g 100 (eF1 en))) (h11 : M (gA g 11) = some (aI g 100 (eF2 en))) (h12 : M (gA g 12) = some (aI g 100 (eF3 en))) (h44 : M (gA g 44) = some (aI g 60 tz)) (hE : EnOk g M en) : Met l yX11_odds (wsM yX11_odds cX11_odds 7 (some .long)) (rmD 7 0 0) (Pre g M [.ref (gA g 0), .int ho, .int n, .int q, .int pt]) (Ql g (fun r M1 => ∃ (y0 : Nat → Int32), (opOdds en tz ho n q pt) = r ∧ mup M (gA g 44) (aI g 60 y0) = M1)) 0 0 (gF g) := M_start (by decide +kernel) (Nat.le_of_ble_eq_true rfl) fun p e s m args below meth c ls X hr hk hnm hM hl => by
  have X : Cx g p m c cX11_odds 7 s args RX11 := X
  have hx := X.1.1
  have hb := X.1.2.1
  have hl : lv_has ls 7 [(0, .ref (gA g 0)), (1, .int ho), (2, .int n), (3, .int q), (4, .int pt)] := hl
  refine lv_iload_n hx hb dX11_odds_0 rfl (lv_at hl 1 rfl) ?_
  refine lv_iconst (v := 0) hx hb dX11_odds_1 (by decide) ?_
  refine lv_iconst (v := 1) hx hb dX11_odds_2 (by decide) ?_
  refine K_i (G_S (As := [.int ho, .int 0, .int 1]) (rest := []) X hM (c_X11_isIn l g _ ho 0 1  ) lk_X11_53 rfl hl.1 rfl (Nat.le_of_ble_eq_true rfl) (by decide) dX11_odds_3 ⟨Nat.le_of_ble_eq_true rfl, Nat.le_of_ble_eq_true rfl⟩) hM (fun r M1 H locs hM hp => ?_)
  obtain ⟨rfl, rfl⟩ := hp
  refine lv_if_eq (tgt := 40) hx hb dX11_odds_6 (by decide) (fun c_1 => ?_) (fun c_1 => ?_)
  · skip
    refine lv_ldc2 (v := -9223372036854775808) hx hb X.1.2.2.2.1 (X.1.2.2.2.2 _ q_694) dX11_odds_40 ?_
    exact R_l X hr hk hM ⟨tz, (by unfold opOdds; (first | rw [if_pos c_1] | rw [if_neg c_1] | skip); all_goals (first | rfl | (simp [*]))), (by rw [mup_id h44])⟩ dX11_odds_43
  · skip
    refine lv_iload_n hx hb dX11_odds_9 rfl (lv_at hl 2 rfl) ?_
    refine lv_iconst (v := 0) hx hb dX11_odds_10 (by decide) ?_
    refine lv_bipush (v := 60) hx hb dX11_odds_11 (by decide) ?_
    refine K_i (G_S (As := [.int n, .int 0, .int 60]) (rest := []) X hM (c_X11_isIn l g _ n 0 60  ) lk_X11_53 rfl hl.1 rfl (Nat.le_of_ble_eq_true rfl) (by decide) dX11_odds_13 ⟨Nat.le_of_ble_eq_true rfl, Nat.le_of_ble_eq_true rfl⟩) hM (fun r M1 H locs hM hp => ?_)
    obtain ⟨rfl, rfl⟩ := hp
    refine lv_if_eq (tgt := 40) hx hb dX11_odds_16 (by decide) (fun c_2 => ?_) (fun c_2 => ?_)
    · skip
      refine lv_ldc2 (v := -9223372036854775808) hx hb X.1.2.2.2.1 (X.1.2.2.2.2 _ q_694) dX11_odds_40 ?_
      exact R_l X hr hk hM ⟨tz, (by unfold opOdds; (first | rw [if_pos c_1] | rw [if_neg c_1] | skip); (first | rw [if_pos c_2] | rw [if_neg c_2] | skip); all_goals (first | rfl | (simp [*]))), (by rw [mup_id h44])⟩ dX11_odds_43
    · skip
      obtain ⟨k, bk, rfl⟩ := fIn_k (K := 60) (by decide) c_2
      have ckk : (nI k).toNatClampNeg = k := nI_clamp (by omega)
      refine lv_iload_n hx hb dX11_odds_19 rfl (lv_at hl 3 rfl) ?_
      refine lv_iconst (v := 0) hx hb dX11_odds_20 (by decide) ?_
      refine lv_sipush (v := 9999) hx hb dX11_odds_21 (by decide) ?_
      refine K_i (G_S (As := [.int q, .int 0, .int 9999]) (rest := []) X hM (c_X11_isIn l g _ q 0 9999  ) lk_X11_53 rfl hl.1 rfl (Nat.le_of_ble_eq_true rfl) (by decide) dX11_odds_24 ⟨Nat.le_of_ble_eq_true rfl, Nat.le_of_ble_eq_true rfl⟩) hM (fun r M1 H locs hM hp => ?_)
      obtain ⟨rfl, rfl⟩ := hp
      refine lv_if_eq (tgt := 40) hx hb dX11_odds_27 (by decide) (fun c_3 => ?_) (fun c_3 => ?_)
      · skip
        refine lv_ldc2 (v := -9223372036854775808) hx hb X.1.2.2.2.1 (X.1.2.2.2.2 _ q_694) dX11_odds_40 ?_
        exact R_l X hr hk hM ⟨tz, (by unfold opOdds; (first | rw [if_pos c_1] | rw [if_neg c_1] | skip); (first | rw [if_pos c_2] | rw [if_neg c_2] | skip); (first | rw [if_pos c_3] | rw [if_neg c_3] | skip); all_goals (first | rfl | (simp [*]))), (by rw [mup_id h44])⟩ dX11_odds_43
      · skip
        refine lv_iload hx hb dX11_odds_30 (lv_at hl 4 rfl) ?_
        refine lv_iconst (v := 0) hx hb dX11_odds_32 (by decide) ?_
        refine lv_iconst (v := 1) hx hb dX11_odds_33 (by decide) ?_
        refine K_i (G_S (As := [.int pt, .int 0, .int 1]) (rest := []) X hM (c_X11_isIn l g _ pt 0 1  ) lk_X11_53 rfl hl.1 rfl (Nat.le_of_ble_eq_true rfl) (by decide) dX11_odds_34 ⟨Nat.le_of_ble_eq_true rfl, Nat.le_of_ble_eq_true rfl⟩) hM (fun r M1 H locs hM hp => ?_)
        obtain ⟨rfl, rfl⟩ := hp
        refine lv_if_ne (tgt := 44) hx hb dX11_odds_37 (by decide) (fun c_4 => ?_) (fun c_4 => ?_)
        · skip
          refine lv_iconst (v := 0) hx hb dX11_odds_44 (by decide) ?_
          refine lv_istore (lv' := [(5, .int 0), (0, .ref (gA g 0)), (1, .int ho), (2, .int (nI k)), (3, .int q), (4, .int pt)]) hx hb dX11_odds_45 hl (by decide) rfl (fun ls hl => ?_)
          have L47 : ∀ (fu : Nat) (i : Nat) (hi : i ≤ k) (H : Heap) (locs : List Loc) (hM : MW g (mup M (gA g 44) (aI g 60 (fillN (dOdd en ho) tz i))) H locs) (ls : Array Slot) (hl : lv_has ls 7 [(0, .ref (gA g 0)), (1, .int ho), (2, .int (nI k)), (3, .int q), (4, .int pt), (5, .int (nI i))]), k - i < fu → W p l e (rmD 7 0 0) s m args below meth c H locs 0 0 (MQ below (Ql g (fun r M1 => ∃ (y0 : Nat → Int32), (opOdds en tz ho (nI k) q pt) = r ∧ mup M (gA g 44) (aI g 60 y0) = M1)) args s 0 0 (gF g)) (F0 m 47 ls []) := by
            intro fu
            induction fu with
            | zero => intro i hi H locs hM ls hl hmu; exact absurd hmu (Nat.not_lt_zero _)
            | succ fu ih =>
              intro i hi H locs hM ls hl hmu
              refine lv_iload hx hb dX11_odds_47 (lv_at hl 5 rfl) ?_
              refine lv_iload_n hx hb dX11_odds_49 rfl (lv_at hl 2 rfl) ?_
              refine lv_icmp_ge (tgt := 115) hx hb dX11_odds_50 (by decide) (fun c_5 => ?_) (fun c_5 => ?_)
              · skip
                have hz1 : k ≤ i := (nI_leI (by omega) (by omega)).mp c_5
                have hz2 : i = k := by omega
                have hz3 := hz2.symm
                subst hz3
                refine lv_iconst (v := 0) hx hb dX11_odds_115 (by decide) ?_
                refine lv_istore (lv' := [(5, .int 0), (0, .ref (gA g 0)), (1, .int ho), (2, .int (nI k)), (3, .int q), (4, .int pt)]) hx hb dX11_odds_116 hl (by decide) rfl (fun ls hl => ?_)
                refine lv_iconst (v := 0) hx hb dX11_odds_118 (by decide) ?_
                refine lv_istore (lv' := [(6, .int 0), (5, .int 0), (0, .ref (gA g 0)), (1, .int ho), (2, .int (nI k)), (3, .int q), (4, .int pt)]) hx hb dX11_odds_119 hl (by decide) rfl (fun ls hl => ?_)
                have L121 : ∀ (fu : Nat) (i : Nat) (x5 : Int32) (hi : i ≤ 13) (k5 : x5 = gooN en (fillN (dOdd en ho) tz k) k q i) (H : Heap) (locs : List Loc) (hM : MW g (mup M (gA g 44) (aI g 60 (fillN (dOdd en ho) tz k))) H locs) (ls : Array Slot) (hl : lv_has ls 7 [(0, .ref (gA g 0)), (1, .int ho), (2, .int (nI k)), (3, .int q), (4, .int pt), (5, .int x5), (6, .int (nI i))]), 13 - i < fu → W p l e (rmD 7 0 0) s m args below meth c H locs 0 0 (MQ below (Ql g (fun r M1 => ∃ (y0 : Nat → Int32), (opOdds en tz ho (nI k) q pt) = r ∧ mup M (gA g 44) (aI g 60 y0) = M1)) args s 0 0 (gF g)) (F0 m 121 ls []) := by
                  intro fu121
                  induction fu121 with
                  | zero => intro i x5 hi k5 H locs hM ls hl hmu; exact absurd hmu (Nat.not_lt_zero _)
                  | succ fu121 ih121 =>
                    intro i x5 hi k5 H locs hM ls hl hmu
                    refine lv_iload hx hb dX11_odds_121 (lv_at hl 6 rfl) ?_
                    refine lv_bipush (v := 12) hx hb dX11_odds_123 (by decide) ?_
                    refine lv_icmp_gt (tgt := 148) hx hb dX11_odds_125 (by decide) (fun c_6 => ?_) (fun c_6 => ?_)
                    · skip
                      have hz1 : i = 13 := by
                        rcases Nat.lt_or_ge 12 i with q_ | q_
                        · omega
                        · exact absurd ((nI_leI (by omega) (by omega)).mpr q_) (Int32.not_le.mpr c_6)
                      rw [hz1] at k5
                      refine lv_iload hx hb dX11_odds_148 (lv_at hl 5 rfl) ?_
                      refine lv_bipush (v := 13) hx hb dX11_odds_150 (by decide) ?_
                      refine lv_iload hx hb dX11_odds_152 (lv_at hl 4 rfl) ?_
                      refine K_l (G_S (As := [.int x5, .int 13, .int pt]) (rest := []) X hM (c_X11_lowest l g _ x5 13 pt  (by decide) (by decide)) lk_X11_225 rfl hl.1 rfl (Nat.le_of_ble_eq_true rfl) (by decide) dX11_odds_154 ⟨Nat.le_of_ble_eq_true rfl, Nat.le_of_ble_eq_true rfl⟩) hM (fun r M1 H locs hM hp => ?_)
                      obtain ⟨rfl, rfl⟩ := hp
                      exact R_l X hr hk hM ⟨_, (by unfold opOdds; rw [if_neg c_1, if_neg c_2, if_neg c_3, if_neg c_4, ckk]; unfold oddR; rw [k5]), rfl⟩ dX11_odds_157
                    · skip
                      have hz1 : i < 13 := by
                        rcases Nat.lt_or_ge 12 i with q_ | q_
                        · exact absurd ((nI_ltI (by omega) (by omega)).mpr q_) c_6
                        · omega
                      refine lv_aload_n hx hb dX11_odds_128 rfl (lv_at hl 0 rfl) ?_
                      refine lv_iload hx hb dX11_odds_129 (lv_at hl 6 rfl) ?_
                      refine lv_iload_n hx hb dX11_odds_131 rfl (lv_at hl 2 rfl) ?_
                      refine K_i (G_V (As := [.int (nI i), .int (nI k)]) (rest := []) X hM (c_X11_seenUnder l g _ ik en (fillN (dOdd en ho) tz k) k (nI i) (mup_r (X.2.ne (i := 0) (j := 44) (by decide) (by decide) (by decide)) h0) (mup_r (X.2.ne (i := 3) (j := 44) (by decide) (by decide) (by decide)) h3) (mup_s _ _ _) (by omega)) lk_X11_222 (mup_r (X.2.ne (i := 0) (j := 44) (by decide) (by decide) (by decide)) h0) rfl rfl hl.1 rfl (Nat.le_of_ble_eq_true rfl) (by decide) dX11_odds_132 ⟨Nat.le_of_ble_eq_true rfl, Nat.le_of_ble_eq_true rfl⟩) hM (fun r M1 H locs hM hp => ?_)
                      obtain ⟨rfl, rfl⟩ := hp
                      refine lv_iload_n hx hb dX11_odds_135 rfl (lv_at hl 3 rfl) ?_
                      refine lv_icmp_lt (tgt := 142) hx hb dX11_odds_136 (by decide) (fun c_7 => ?_) (fun c_7 => ?_)
                      · skip
                        refine lv_iinc (v := (nI i) + 1) (lv' := [(6, .int ((nI i) + 1)), (0, .ref (gA g 0)), (1, .int ho), (2, .int (nI k)), (3, .int q), (4, .int pt), (5, .int x5)]) hx hb dX11_odds_142 hl (k := 6) rfl rfl (by decide) rfl (fun ls hl => ?_)
                        refine lv_goto (tgt := 121) hx hb dX11_odds_145 (by decide) ?_
                        exact ih121 (i + 1) x5 (by omega) (by rw [k5, gooN]; first | rw [if_pos c_7] | rw [if_neg c_7]) _ _ hM _ ((by rw [← nI_1]; exact lv_sub hl [1, 2, 3, 4, 5, 6, 0] rfl)) (by omega)
                      · skip
                        refine lv_iinc (v := x5 + 1) (lv' := [(5, .int (x5 + 1)), (0, .ref (gA g 0)), (1, .int ho), (2, .int (nI k)), (3, .int q), (4, .int pt), (6, .int (nI i))]) hx hb dX11_odds_139 hl (k := 5) rfl rfl (by decide) rfl (fun ls hl => ?_)
                        refine lv_iinc (v := (nI i) + 1) (lv' := [(6, .int ((nI i) + 1)), (5, .int (x5 + 1)), (0, .ref (gA g 0)), (1, .int ho), (2, .int (nI k)), (3, .int q), (4, .int pt)]) hx hb dX11_odds_142 hl (k := 6) rfl rfl (by decide) rfl (fun ls hl => ?_)
                        refine lv_goto (tgt := 121) hx hb dX11_odds_145 (by decide) ?_
                        exact ih121 (i + 1) (x5 + 1) (by omega) (by rw [k5, gooN]; first | rw [if_pos c_7] | rw [if_neg c_7]) _ _ hM _ ((by rw [← nI_1]; exact lv_sub hl [2, 3, 4, 5, 6, 1, 0] rfl)) (by omega)
                exact L121 (13 + 1) 0 0 (by decide) rfl _ _ hM _ (lv_sub hl [2, 3, 4, 5, 6, 1, 0] rfl) (by first | exact Nat.lt_succ_self _ | omega)
              · skip
                have hz1 : i < k := by
                  rcases Nat.lt_or_ge i (k) with q | q
                  · exact q
                  · exact absurd ((nI_leI (by omega) (by omega)).mpr q) c_5
                refine lv_aload_n hx hb dX11_odds_53 rfl (lv_at hl 0 rfl) ?_
                refine r_get (T := TX11) (N := 7) (ci := 11) (v := .ref (gA g 3)) X hM iX11 rfl 1 (by decide) q_177 (Or.inl rfl) (mup_r (X.2.ne (i := 0) (j := 44) (by decide) (by decide) (by decide)) h0) rfl dX11_odds_54 ?_
                refine r_get (T := TX4) (N := 14) (ci := 4) (v := .int (eNi en)) X hM iX4 rfl 0 (by decide) q_96 (Or.inl rfl) (mup_r (X.2.ne (i := 3) (j := 44) (by decide) (by decide) (by decide)) h3) rfl dX11_odds_57 ?_
                refine lv_iload hx hb dX11_odds_60 (lv_at hl 5 rfl) ?_
                refine lv_iadd hx hb dX11_odds_62 ?_
                refine lv_istore (lv' := [(6, .int ((eNi en) + (nI i))), (0, .ref (gA g 0)), (1, .int ho), (2, .int (nI k)), (3, .int q), (4, .int pt), (5, .int (nI i))]) hx hb dX11_odds_63 hl (by decide) rfl (fun ls hl => ?_)
                refine lv_aload_n hx hb dX11_odds_65 rfl (lv_at hl 1 rfl) ?_
                refine r_get (T := TX11) (N := 7) (ci := 11) (v := .ref (gA g 44)) X hM iX11 rfl 4 (by decide) q_180 (Or.inl rfl) (mup_r (X.2.ne (i := 0) (j := 44) (by decide) (by decide) (by decide)) h0) rfl dX11_odds_66 ?_
                refine lv_iload hx hb dX11_odds_69 (lv_at hl 6 rfl) ?_
                refine lv_aload_n hx hb dX11_odds_71 rfl (lv_at hl 1 rfl) ?_
                refine r_get (T := TX11) (N := 7) (ci := 11) (v := .ref (gA g 3)) X hM iX11 rfl 1 (by decide) q_177 (Or.inl rfl) (mup_r (X.2.ne (i := 0) (j := 44) (by decide) (by decide) (by decide)) h0) rfl dX11_odds_72 ?_
                refine lv_iload hx hb dX11_odds_75 (lv_at hl 0 rfl) ?_
                refine K_i (G_V (As := [.int ((eNi en) + (nI i))]) (rest := [.int (nI i), .ref (gA g 44)]) X hM (c_X4_turnOf l g _ en (eNi en) (nI (eL en)) (eSk en) (eHi en) ((eNi en) + (nI i)) (mup_r (X.2.ne (i := 3) (j := 44) (by decide) (by decide) (by decide)) h3) (mup_r (X.2.ne (i := 9) (j := 44) (by decide) (by decide) (by decide)) h9) ) lk_X11_158 (mup_r (X.2.ne (i := 3) (j := 44) (by decide) (by decide) (by decide)) h3) rfl rfl hl.1 rfl (Nat.le_of_ble_eq_true rfl) (by decide) dX11_odds_77 ⟨Nat.le_of_ble_eq_true rfl, Nat.le_of_ble_eq_true rfl⟩) hM (fun r M1 H locs hM hp => ?_)
                obtain ⟨rfl, rfl⟩ := hp
                refine lv_iload_n hx hb dX11_odds_80 rfl (lv_at hl 2 rfl) ?_
                refine l_joinM (ls := ls) hM 106 (dOdd en ho i) [.int (nI i), .ref (gA g 44)] (fun H locs hM => ?_) (fun J81 => ?_)
                · skip
                  refine K_v (G_S (As := [.ref (gA g 44), .int (nI i), .int (dOdd en ho i)]) (rest := []) X hM (c_X11_put l g _ (gA g 44) 60 (fillN (dOdd en ho) tz i) (nI i) (dOdd en ho i) (mup_s _ _ _) (by decide)) lk_X11_181 rfl hl.1 rfl (Nat.le_of_ble_eq_true rfl) (by decide) dX11_odds_106 ⟨Nat.le_of_ble_eq_true rfl, Nat.le_of_ble_eq_true rfl⟩) hM (fun M1 H locs hM hp => ?_)
                  subst hp
                  rw [mup_i] at hM
                  have hM : MW g (mup M (gA g 44) (aI g 60 (fPut 60 (fillN (dOdd en ho) tz i) (nI i) (dOdd en ho i)))) H locs := hM
                  refine lv_iinc (v := (nI i) + 1) (lv' := [(5, .int ((nI i) + 1)), (6, .int ((eNi en) + (nI i))), (0, .ref (gA g 0)), (1, .int ho), (2, .int (nI k)), (3, .int q), (4, .int pt)]) hx hb dX11_odds_109 hl (k := 6) rfl rfl (by decide) rfl (fun ls hl => ?_)
                  refine lv_goto (tgt := 47) hx hb dX11_odds_112 (by decide) ?_
                  exact ih (i + 1) (by omega) _ _ hM _ ((by rw [← nI_1]; exact lv_sub hl [2, 3, 4, 5, 6, 0] rfl)) (by omega)
                refine lv_icmp_ne (tgt := 105) hx hb dX11_odds_81 (by decide) (fun c_8 => ?_) (fun c_8 => ?_)
                · skip
                  refine lv_iconst (v := 0) hx hb dX11_odds_105 (by decide) ?_
                  exact J81 _ _ _ hM (by unfold dOdd; first | rw [if_pos c_8] | rw [if_neg c_8])
                · skip
                  refine lv_aload_n hx hb dX11_odds_84 rfl (lv_at hl 1 rfl) ?_
                  refine r_get (T := TX11) (N := 7) (ci := 11) (v := .ref (gA g 3)) X hM iX11 rfl 1 (by decide) q_177 (Or.inl rfl) (mup_r (X.2.ne (i := 0) (j := 44) (by decide) (by decide) (by decide)) h0) rfl dX11_odds_85 ?_
                  refine lv_iload_n hx hb dX11_odds_88 rfl (lv_at hl 2 rfl) ?_
                  refine lv_iload hx hb dX11_odds_89 (lv_at hl 0 rfl) ?_
                  refine lv_aload_n hx hb dX11_odds_91 rfl (lv_at hl 1 rfl) ?_
                  refine r_get (T := TX11) (N := 7) (ci := 11) (v := .ref (gA g 3)) X hM iX11 rfl 1 (by decide) q_177 (Or.inl rfl) (mup_r (X.2.ne (i := 0) (j := 44) (by decide) (by decide) (by decide)) h0) rfl dX11_odds_92 ?_
                  refine r_get (T := TX4) (N := 14) (ci := 4) (v := .int (eHi en)) X hM iX4 rfl 3 (by decide) q_102 (Or.inl rfl) (mup_r (X.2.ne (i := 3) (j := 44) (by decide) (by decide) (by decide)) h3) rfl dX11_odds_95 ?_
                  refine lv_iconst (v := 0) hx hb dX11_odds_98 (by decide) ?_
                  refine K_i (G_V (As := [.int ho, .int ((eNi en) + (nI i)), .int (eHi en), .int 0]) (rest := [.int (nI i), .ref (gA g 44)]) X hM (c_X4_hasFor l g _ en (eNi en) (eSk en) (eHi en) ho ((eNi en) + (nI i)) (eHi en) 0 (mup_r (X.2.ne (i := 3) (j := 44) (by decide) (by decide) (by decide)) h3) (mup_r (X.2.ne (i := 5) (j := 44) (by decide) (by decide) (by decide)) h5) (mup_r (X.2.ne (i := 6) (j := 44) (by decide) (by decide) (by decide)) h6) (mup_r (X.2.ne (i := 7) (j := 44) (by decide) (by decide) (by decide)) h7) (mup_r (X.2.ne (i := 8) (j := 44) (by decide) (by decide) (by decide)) h8) (mup_r (X.2.ne (i := 9) (j := 44) (by decide) (by decide) (by decide)) h9) (mup_r (X.2.ne (i := 10) (j := 44) (by decide) (by decide) (by decide)) h10) (mup_r (X.2.ne (i := 11) (j := 44) (by decide) (by decide) (by decide)) h11) (mup_r (X.2.ne (i := 12) (j := 44) (by decide) (by decide) (by decide)) h12) (EnOk.up hE h44 nostA)) lk_X11_171 (mup_r (X.2.ne (i := 3) (j := 44) (by decide) (by decide) (by decide)) h3) rfl rfl hl.1 rfl (Nat.le_of_ble_eq_true rfl) (by decide) dX11_odds_99 ⟨Nat.le_of_ble_eq_true rfl, Nat.le_of_ble_eq_true rfl⟩) hM (fun r M1 H locs hM hp => ?_)
                  obtain ⟨rfl, rfl⟩ := hp
                  refine lv_goto (tgt := 106) hx hb dX11_odds_102 (by decide) ?_
                  exact J81 _ _ _ hM (by unfold dOdd; first | rw [if_pos c_8] | rw [if_neg c_8])
          exact L47 (k + 1) 0 (Nat.zero_le _) _ _ (by show MW g (mup M (gA g 44) (aI g 60 tz)) _ _; rw [mup_id h44]; exact hM) _ (lv_sub hl [1, 2, 3, 4, 5, 0] rfl) (by first | exact Nat.lt_succ_self _ | omega)
        · skip
          refine lv_ldc2 (v := -9223372036854775808) hx hb X.1.2.2.2.1 (X.1.2.2.2.2 _ q_694) dX11_odds_40 ?_
          exact R_l X hr hk hM ⟨tz, (by unfold opOdds; (first | rw [if_pos c_1] | rw [if_neg c_1] | skip); (first | rw [if_pos c_2] | rw [if_neg c_2] | skip); (first | rw [if_pos c_3] | rw [if_neg c_3] | skip); (first | rw [if_pos c_4] | rw [if_neg c_4] | skip); all_goals (first | rfl | (simp [*]))), (by rw [mup_id h44])⟩ dX11_odds_43
set_option maxHeartbeats 4000000 in
set_option maxRecDepth 100000 in
theorem c_X11_done (l : Launch) (g : Gp) (M : Mem) (ik : Int32) (en : En) (np : Nat) (pf : Nat → Int32) (w : Int32) (h0 : M (gA g 0) = some (custE g ik)) (h3 : M (gA g 3) = some (roofN g (eNi en) (nI (eL en)) (eSk en) (eHi en))) (h4 : M (gA g 4) = some (aI g 2 (eSe en))) (h5 : M (gA g 5) = some (aS g 6 (eS en))) (h6 : M (gA g 6) = some (aI g 6 (eRo en))) (h7 : M (gA g 7) = some (aI g 6 (ePh en))) (h8 : M (gA g 8) = some (aI g 24 (eRw en))) (h9 : M (gA g 9) = some (skyE (gA g 10) (gA g 11) (gA g 12) (nI (eZ en)) (eTu en) (eCl en))) (h10 : M (gA g 10) = some (aI g 100 (eF1 en))) (h11 : M (gA g 11) = some (aI g 100 (eF2 en))) (h12 : M (gA g 12) = some (aI g 100 (eF3 en))) (h17 : M (gA g 17) = some (rowsE (gA g 18) 8 3 (nI np))) (h18 : M (gA g 18) = some (aI g 24 pf)) (hE : EnOk g M en) (hnp : np ≤ 8) : Met l yX11_done (wsM yX11_done cX11_done 7 (some .int)) (rmD 7 0 0) (Pre g M [.ref (gA g 0), .int w]) (Qi g (fun r M1 => (opDone en np pf w) = r ∧ M = M1)) 0 0 (gF g) := M_start (by decide +kernel) (Nat.le_of_ble_eq_true rfl) fun p e s m args below meth c ls X hr hk hnm hM hl => by
  have X : Cx g p m c cX11_done 7 s args RX11 := X
  have hx := X.1.1
  have hb := X.1.2.1
  have hl : lv_has ls 7 [(0, .ref (gA g 0)), (1, .int w)] := hl
  refine lv_iload_n hx hb dX11_done_0 rfl (lv_at hl 1 rfl) ?_
  refine lv_iconst (v := 0) hx hb dX11_done_1 (by decide) ?_
  refine lv_iconst (v := 1) hx hb dX11_done_2 (by decide) ?_
  refine K_i (G_S (As := [.int w, .int 0, .int 1]) (rest := []) X hM (c_X11_isIn l g _ w 0 1  ) lk_X11_53 rfl hl.1 rfl (Nat.le_of_ble_eq_true rfl) (by decide) dX11_done_3 ⟨Nat.le_of_ble_eq_true rfl, Nat.le_of_ble_eq_true rfl⟩) hM (fun r M1 H locs hM hp => ?_)
  obtain ⟨rfl, rfl⟩ := hp
  refine lv_if_ne (tgt := 11) hx hb dX11_done_6 (by decide) (fun c_1 => ?_) (fun c_1 => ?_)
  · skip
    refine lv_aload_n hx hb dX11_done_11 rfl (lv_at hl 0 rfl) ?_
    refine r_get (T := TX11) (N := 7) (ci := 11) (v := .ref (gA g 3)) X hM iX11 rfl 1 (by decide) q_177 (Or.inl rfl) h0 rfl dX11_done_12 ?_
    refine r_get (T := TX4) (N := 14) (ci := 4) (v := .int (eNi en)) X hM iX4 rfl 0 (by decide) q_96 (Or.inl rfl) h3 rfl dX11_done_15 ?_
    refine lv_istore_n (lv' := [(2, .int (eNi en)), (0, .ref (gA g 0)), (1, .int w)]) hx hb dX11_done_18 rfl hl (by decide) rfl (fun ls hl => ?_)
    refine lv_aload_n hx hb dX11_done_19 rfl (lv_at hl 1 rfl) ?_
    refine r_get (T := TX11) (N := 7) (ci := 11) (v := .ref (gA g 3)) X hM iX11 rfl 1 (by decide) q_177 (Or.inl rfl) h0 rfl dX11_done_20 ?_
    refine r_get (T := TX4) (N := 14) (ci := 4) (v := .int (eHi en)) X hM iX4 rfl 3 (by decide) q_102 (Or.inl rfl) h3 rfl dX11_done_23 ?_
    refine lv_istore_n (lv' := [(3, .int (eHi en)), (2, .int (eNi en)), (0, .ref (gA g 0)), (1, .int w)]) hx hb dX11_done_26 rfl hl (by decide) rfl (fun ls hl => ?_)
    refine lv_aload_n hx hb dX11_done_27 rfl (lv_at hl 2 rfl) ?_
    refine r_get (T := TX11) (N := 7) (ci := 11) (v := .ref (gA g 3)) X hM iX11 rfl 1 (by decide) q_177 (Or.inl rfl) h0 rfl dX11_done_28 ?_
    refine r_get (T := TX4) (N := 14) (ci := 4) (v := .ref (gA g 4)) X hM iX4 rfl 4 (by decide) q_104 (Or.inl rfl) h3 rfl dX11_done_31 ?_
    refine lv_iload_n hx hb dX11_done_34 rfl (lv_at hl 3 rfl) ?_
    refine K_i (G_S (As := [.ref (gA g 4), .int w]) (rest := []) X hM (c_X11_at l g _ (gA g 4) 2 (eSe en) w h4 (by decide)) lk_X11_113 rfl hl.1 rfl (Nat.le_of_ble_eq_true rfl) (by decide) dX11_done_35 ⟨Nat.le_of_ble_eq_true rfl, Nat.le_of_ble_eq_true rfl⟩) hM (fun r M1 H locs hM hp => ?_)
    obtain ⟨rfl, rfl⟩ := hp
    refine lv_istore (lv' := [(4, .int (fAt 2 (eSe en) w)), (3, .int (eHi en)), (2, .int (eNi en)), (0, .ref (gA g 0)), (1, .int w)]) hx hb dX11_done_38 hl (by decide) rfl (fun ls hl => ?_)
    refine lv_iconst (v := 0) hx hb dX11_done_40 (by decide) ?_
    refine lv_istore (lv' := [(5, .int 0), (4, .int (fAt 2 (eSe en) w)), (3, .int (eHi en)), (2, .int (eNi en)), (0, .ref (gA g 0)), (1, .int w)]) hx hb dX11_done_41 hl (by decide) rfl (fun ls hl => ?_)
    have L43 : ∀ (fu : Nat) (i : Nat) (x2 x3 x4 : Int32) (hi : i ≤ np) (k : (x2, x3, x4) = doneN en pf w i) (H : Heap) (locs : List Loc) (hM : MW g (M) H locs) (ls : Array Slot) (hl : lv_has ls 7 [(0, .ref (gA g 0)), (1, .int w), (2, .int x2), (3, .int x3), (4, .int x4), (5, .int (nI i))]), np - i < fu → W p l e (rmD 7 0 0) s m args below meth c H locs 0 0 (MQ below (Qi g (fun r M1 => (opDone en np pf w) = r ∧ M = M1)) args s 0 0 (gF g)) (F0 m 43 ls []) := by
      intro fu
      induction fu with
      | zero => intro i x2 x3 x4 hi k H locs hM ls hl hmu; exact absurd hmu (Nat.not_lt_zero _)
      | succ fu ih =>
        intro i x2 x3 x4 hi k H locs hM ls hl hmu
        refine lv_iload hx hb dX11_done_43 (lv_at hl 5 rfl) ?_
        refine lv_aload_n hx hb dX11_done_45 rfl (lv_at hl 0 rfl) ?_
        refine r_get (T := TX11) (N := 7) (ci := 11) (v := .ref (gA g 3)) X hM iX11 rfl 1 (by decide) q_177 (Or.inl rfl) h0 rfl dX11_done_46 ?_
        refine r_get (T := TX4) (N := 14) (ci := 4) (v := .ref (gA g 17)) X hM iX4 rfl 12 (by decide) q_119 (Or.inl rfl) h3 rfl dX11_done_49 ?_
        refine r_get (T := TX5) (N := 4) (ci := 5) (v := .int (nI np)) X hM iX5 rfl 3 (by decide) q_44 (Or.inl rfl) h17 rfl dX11_done_52 ?_
        refine lv_icmp_ge (tgt := 156) hx hb dX11_done_55 (by decide) (fun c_2 => ?_) (fun c_2 => ?_)
        · skip
          have hz1 : np ≤ i := (nI_leI (by omega) (by omega)).mp c_2
          have hz2 : i = np := by omega
          rw [hz2] at k
          refine lv_iload hx hb dX11_done_156 (lv_at hl 4 rfl) ?_
          exact R_i X hr hk hM ⟨(by unfold opDone; rw [if_neg c_1, ← k]), rfl⟩ dX11_done_158
        · skip
          have hz1 : i < np := by
            rcases Nat.lt_or_ge i (np) with q | q
            · exact q
            · exact absurd ((nI_leI (by omega) (by omega)).mpr q) c_2
          refine lv_aload_n hx hb dX11_done_58 rfl (lv_at hl 0 rfl) ?_
          refine r_get (T := TX11) (N := 7) (ci := 11) (v := .ref (gA g 3)) X hM iX11 rfl 1 (by decide) q_177 (Or.inl rfl) h0 rfl dX11_done_59 ?_
          refine r_get (T := TX4) (N := 14) (ci := 4) (v := .ref (gA g 17)) X hM iX4 rfl 12 (by decide) q_119 (Or.inl rfl) h3 rfl dX11_done_62 ?_
          refine lv_iload hx hb dX11_done_65 (lv_at hl 5 rfl) ?_
          refine lv_iconst (v := 0) hx hb dX11_done_67 (by decide) ?_
          refine K_i (G_V (As := [.int (nI i), .int 0]) (rest := []) X hM (c_X5_cell l g _ (gA g 17) (gA g 18) 24 pf 8 3 (nI np) (nI i) 0 h17 h18 (by decide)) lk_X11_235 h17 rfl rfl hl.1 rfl (Nat.le_of_ble_eq_true rfl) (by decide) dX11_done_68 ⟨Nat.le_of_ble_eq_true rfl, Nat.le_of_ble_eq_true rfl⟩) hM (fun r M1 H locs hM hp => ?_)
          obtain ⟨rfl, rfl⟩ := hp
          refine lv_istore (lv' := [(6, .int (fAt 24 pf ((nI i) * 3 + 0))), (0, .ref (gA g 0)), (1, .int w), (2, .int x2), (3, .int x3), (4, .int x4), (5, .int (nI i))]) hx hb dX11_done_71 hl (by decide) rfl (fun ls hl => ?_)
          refine lv_iload hx hb dX11_done_73 (lv_at hl 0 rfl) ?_
          refine lv_if_eq (tgt := 110) hx hb dX11_done_75 (by decide) (fun c_3 => ?_) (fun c_3 => ?_)
          · skip
            refine lv_aload_n hx hb dX11_done_110 rfl (lv_at hl 1 rfl) ?_
            refine r_get (T := TX11) (N := 7) (ci := 11) (v := .ref (gA g 3)) X hM iX11 rfl 1 (by decide) q_177 (Or.inl rfl) h0 rfl dX11_done_111 ?_
            refine lv_iload_n hx hb dX11_done_114 rfl (lv_at hl 3 rfl) ?_
            refine K_i (G_V (As := [.int x2]) (rest := []) X hM (c_X4_turnOf l g _ en (eNi en) (nI (eL en)) (eSk en) (eHi en) x2 h3 h9 ) lk_X11_158 h3 rfl rfl hl.1 rfl (Nat.le_of_ble_eq_true rfl) (by decide) dX11_done_115 ⟨Nat.le_of_ble_eq_true rfl, Nat.le_of_ble_eq_true rfl⟩) hM (fun r M1 H locs hM hp => ?_)
            obtain ⟨rfl, rfl⟩ := hp
            refine lv_iload_n hx hb dX11_done_118 rfl (lv_at hl 2 rfl) ?_
            refine lv_icmp_ne (tgt := 147) hx hb dX11_done_119 (by decide) (fun c_4 => ?_) (fun c_4 => ?_)
            · skip
              refine lv_iinc (v := x2 + 1) (lv' := [(2, .int (x2 + 1)), (6, .int (fAt 24 pf ((nI i) * 3 + 0))), (0, .ref (gA g 0)), (1, .int w), (3, .int x3), (4, .int x4), (5, .int (nI i))]) hx hb dX11_done_147 hl (k := 3) rfl rfl (by decide) rfl (fun ls hl => ?_)
              refine lv_iinc (v := (nI i) + 1) (lv' := [(5, .int ((nI i) + 1)), (2, .int (x2 + 1)), (6, .int (fAt 24 pf ((nI i) * 3 + 0))), (0, .ref (gA g 0)), (1, .int w), (3, .int x3), (4, .int x4)]) hx hb dX11_done_150 hl (k := 6) rfl rfl (by decide) rfl (fun ls hl => ?_)
              refine lv_goto (tgt := 43) hx hb dX11_done_153 (by decide) ?_
              exact ih (i + 1) (x2 + 1) x3 x4 (by omega) (by rw [doneN, ← k]; (first | rw [if_pos c_3] | rw [if_neg c_3] | skip); (first | rw [if_pos c_4] | rw [if_neg c_4] | skip)) _ _ hM _ ((by rw [← nI_1]; exact lv_sub hl [3, 4, 1, 5, 6, 0] rfl)) (by omega)
            · skip
              refine lv_iload hx hb dX11_done_122 (lv_at hl 5 rfl) ?_
              refine lv_aload_n hx hb dX11_done_124 rfl (lv_at hl 1 rfl) ?_
              refine r_get (T := TX11) (N := 7) (ci := 11) (v := .ref (gA g 3)) X hM iX11 rfl 1 (by decide) q_177 (Or.inl rfl) h0 rfl dX11_done_125 ?_
              refine lv_iload_n hx hb dX11_done_128 rfl (lv_at hl 2 rfl) ?_
              refine lv_iload_n hx hb dX11_done_129 rfl (lv_at hl 3 rfl) ?_
              refine lv_iload_n hx hb dX11_done_130 rfl (lv_at hl 4 rfl) ?_
              refine lv_aload_n hx hb dX11_done_131 rfl (lv_at hl 1 rfl) ?_
              refine r_get (T := TX11) (N := 7) (ci := 11) (v := .ref (gA g 3)) X hM iX11 rfl 1 (by decide) q_177 (Or.inl rfl) h0 rfl dX11_done_132 ?_
              refine r_get (T := TX4) (N := 14) (ci := 4) (v := .ref (gA g 9)) X hM iX4 rfl 9 (by decide) q_113 (Or.inl rfl) h3 rfl dX11_done_135 ?_
              refine r_get (T := TX6) (N := 6) (ci := 6) (v := .int (eCl en)) X hM iX6 rfl 5 (by decide) q_79 (Or.inl rfl) h9 rfl dX11_done_138 ?_
              refine K_i (G_V (As := [.int w, .int x2, .int x3, .int (eCl en)]) (rest := [.int x4]) X hM (c_X4_hasFor l g _ en (eNi en) (eSk en) (eHi en) w x2 x3 (eCl en) h3 h5 h6 h7 h8 h9 h10 h11 h12 hE) lk_X11_171 h3 rfl rfl hl.1 rfl (Nat.le_of_ble_eq_true rfl) (by decide) dX11_done_141 ⟨Nat.le_of_ble_eq_true rfl, Nat.le_of_ble_eq_true rfl⟩) hM (fun r M1 H locs hM hp => ?_)
              obtain ⟨rfl, rfl⟩ := hp
              refine lv_iadd hx hb dX11_done_144 ?_
              refine lv_istore (lv' := [(4, .int (x4 + (fHas en w x2 x3 (eCl en)))), (6, .int (fAt 24 pf ((nI i) * 3 + 0))), (0, .ref (gA g 0)), (1, .int w), (2, .int x2), (3, .int x3), (5, .int (nI i))]) hx hb dX11_done_145 hl (by decide) rfl (fun ls hl => ?_)
              refine lv_iinc (v := x2 + 1) (lv' := [(2, .int (x2 + 1)), (4, .int (x4 + (fHas en w x2 x3 (eCl en)))), (6, .int (fAt 24 pf ((nI i) * 3 + 0))), (0, .ref (gA g 0)), (1, .int w), (3, .int x3), (5, .int (nI i))]) hx hb dX11_done_147 hl (k := 4) rfl rfl (by decide) rfl (fun ls hl => ?_)
              refine lv_iinc (v := (nI i) + 1) (lv' := [(5, .int ((nI i) + 1)), (2, .int (x2 + 1)), (4, .int (x4 + (fHas en w x2 x3 (eCl en)))), (6, .int (fAt 24 pf ((nI i) * 3 + 0))), (0, .ref (gA g 0)), (1, .int w), (3, .int x3)]) hx hb dX11_done_150 hl (k := 6) rfl rfl (by decide) rfl (fun ls hl => ?_)
              refine lv_goto (tgt := 43) hx hb dX11_done_153 (by decide) ?_
              exact ih (i + 1) (x2 + 1) x3 (x4 + (fHas en w x2 x3 (eCl en))) (by omega) (by rw [doneN, ← k]; (first | rw [if_pos c_3] | rw [if_neg c_3] | skip); (first | rw [if_pos c_4] | rw [if_neg c_4] | skip)) _ _ hM _ ((by rw [← nI_1]; exact lv_sub hl [4, 5, 1, 6, 2, 0] rfl)) (by omega)
          · skip
            refine lv_iload_n hx hb dX11_done_78 rfl (lv_at hl 4 rfl) ?_
            refine lv_aload_n hx hb dX11_done_79 rfl (lv_at hl 1 rfl) ?_
            refine r_get (T := TX11) (N := 7) (ci := 11) (v := .ref (gA g 3)) X hM iX11 rfl 1 (by decide) q_177 (Or.inl rfl) h0 rfl dX11_done_80 ?_
            refine r_get (T := TX4) (N := 14) (ci := 4) (v := .ref (gA g 17)) X hM iX4 rfl 12 (by decide) q_119 (Or.inl rfl) h3 rfl dX11_done_83 ?_
            refine lv_iload hx hb dX11_done_86 (lv_at hl 6 rfl) ?_
            refine lv_iconst (v := 1) hx hb dX11_done_88 (by decide) ?_
            refine K_i (G_V (As := [.int (nI i), .int 1]) (rest := [.int x3]) X hM (c_X5_cell l g _ (gA g 17) (gA g 18) 24 pf 8 3 (nI np) (nI i) 1 h17 h18 (by decide)) lk_X11_235 h17 rfl rfl hl.1 rfl (Nat.le_of_ble_eq_true rfl) (by decide) dX11_done_89 ⟨Nat.le_of_ble_eq_true rfl, Nat.le_of_ble_eq_true rfl⟩) hM (fun r M1 H locs hM hp => ?_)
            obtain ⟨rfl, rfl⟩ := hp
            refine lv_iload hx hb dX11_done_92 (lv_at hl 0 rfl) ?_
            refine lv_iconst (v := 1) hx hb dX11_done_94 (by decide) ?_
            refine l_joinM (ls := ls) hM 103 (if fAt 24 pf (nI i * 3 + 0) = 1 then 1 else 0) [.int (fAt 24 pf ((nI i) * 3 + 1)), .int x3] (fun H locs hM => ?_) (fun J95 => ?_)
            · skip
              refine K_i (G_S (As := [.int x3, .int (fAt 24 pf ((nI i) * 3 + 1)), .int (if fAt 24 pf (nI i * 3 + 0) = 1 then 1 else 0)]) (rest := []) X hM (c_X11_withBit l g _ x3 (fAt 24 pf ((nI i) * 3 + 1)) (if fAt 24 pf (nI i * 3 + 0) = 1 then 1 else 0)  ) lk_X11_148 rfl hl.1 rfl (Nat.le_of_ble_eq_true rfl) (by decide) dX11_done_103 ⟨Nat.le_of_ble_eq_true rfl, Nat.le_of_ble_eq_true rfl⟩) hM (fun r M1 H locs hM hp => ?_)
              obtain ⟨rfl, rfl⟩ := hp
              refine lv_istore_n (lv' := [(3, .int (fWith x3 (fAt 24 pf ((nI i) * 3 + 1)) (if fAt 24 pf (nI i * 3 + 0) = 1 then 1 else 0))), (6, .int (fAt 24 pf ((nI i) * 3 + 0))), (0, .ref (gA g 0)), (1, .int w), (2, .int x2), (4, .int x4), (5, .int (nI i))]) hx hb dX11_done_106 rfl hl (by decide) rfl (fun ls hl => ?_)
              refine lv_goto (tgt := 150) hx hb dX11_done_107 (by decide) ?_
              refine lv_iinc (v := (nI i) + 1) (lv' := [(5, .int ((nI i) + 1)), (3, .int (fWith x3 (fAt 24 pf ((nI i) * 3 + 1)) (if fAt 24 pf (nI i * 3 + 0) = 1 then 1 else 0))), (6, .int (fAt 24 pf ((nI i) * 3 + 0))), (0, .ref (gA g 0)), (1, .int w), (2, .int x2), (4, .int x4)]) hx hb dX11_done_150 hl (k := 6) rfl rfl (by decide) rfl (fun ls hl => ?_)
              refine lv_goto (tgt := 43) hx hb dX11_done_153 (by decide) ?_
              exact ih (i + 1) x2 (fWith x3 (fAt 24 pf ((nI i) * 3 + 1)) (if fAt 24 pf (nI i * 3 + 0) = 1 then 1 else 0)) x4 (by omega) (by rw [doneN, ← k]; (first | rw [if_pos c_3] | rw [if_neg c_3] | skip)) _ _ hM _ ((by rw [← nI_1]; exact lv_sub hl [3, 4, 5, 1, 6, 0] rfl)) (by omega)
            refine lv_icmp_ne (tgt := 102) hx hb dX11_done_95 (by decide) (fun c_5 => ?_) (fun c_5 => ?_)
            · skip
              refine lv_iconst (v := 0) hx hb dX11_done_102 (by decide) ?_
              exact J95 _ _ _ hM (by (first | rw [if_pos c_5] | rw [if_neg c_5] | skip); all_goals (first | rfl | simp [*]))
            · skip
              refine lv_iconst (v := 1) hx hb dX11_done_98 (by decide) ?_
              refine lv_goto (tgt := 103) hx hb dX11_done_99 (by decide) ?_
              exact J95 _ _ _ hM (by (first | rw [if_pos c_5] | rw [if_neg c_5] | skip); all_goals (first | rfl | simp [*]))
    exact L43 (np + 1) 0 (eNi en) (eHi en) (fAt 2 (eSe en) w) (Nat.zero_le _) rfl _ _ hM _ (lv_sub hl [4, 5, 3, 2, 1, 0] rfl) (by first | exact Nat.lt_succ_self _ | omega)
  · skip
    refine lv_iconst (v := -1) hx hb dX11_done_9 (by decide) ?_
    exact R_i X hr hk hM ⟨(by unfold opDone; (first | rw [if_pos c_1] | rw [if_neg c_1] | skip); all_goals (first | rfl | (simp [*]))), rfl⟩ dX11_done_10
