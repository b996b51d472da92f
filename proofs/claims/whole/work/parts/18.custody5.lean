theorem full_0 {a b : Int32} (h : (if a < b then (0 : Int32) else 1) = 0) : a < b := by
  by_cases q : a < b
  · exact q
  · rw [if_neg q] at h; exact absurd h (by decide)
theorem full_1 {a b : Int32} (h : ¬ (if a < b then (0 : Int32) else 1) = 0) : ¬ a < b := fun q => h (if_pos q)
def opFeed (c : Int32) (f : Nat → Int32) (x : Int32) : Int32 × Int32 × (Nat → Int32) := if fIn x 0 127 = 0 then (-2, c, f) else if c < 100 then (c + 1, c + 1, fPut 100 f c x) else (-4, c, f)
def opRow (en : En) (x k n : Int32) : Int32 × (Nat → Int32) := if fIsL (eL en) x = 0 then (-1, eRw en) else if fIn k 0 3 = 0 then (-1, eRw en) else if fIn n 0 9 = 0 then (-2, eRw en) else if nI (eKd en x.toNatClampNeg) = 6 then (fAt 24 (eRw en) (x * 4 + k), fPut 24 (eRw en) (x * 4 + k) n) else (-3, eRw en)
def opSet (en : En) (x w n : Int32) : Int32 × (Nat → Int32) × (Nat → Int32) := if fIsL (eL en) x = 0 then (-1, eRo en, ePh en) else if fIn w 0 1 = 0 then (-1, eRo en, ePh en) else if w = 0 then (if fIn n 1 30 = 0 then (-2, eRo en, ePh en) else (fAt 6 (eRo en) x, fPut 6 (eRo en) x n, ePh en)) else (if fIn n 0 29 = 0 then (-2, eRo en, ePh en) else (fAt 6 (ePh en) x, eRo en, fPut 6 (ePh en) x n))
def opHide (en : En) (x z : Int32) : Int32 × Int32 := if fIsL (eL en) x = 0 then (-1, eHi en) else (fBit (eHi en) x, fWith (eHi en) x z)
def fMin (x : Int32) : Int32 := if 9999999 < x then 9999999 else x
def pasN (en : En) : Nat → Int32 × (Nat → Int32)
  | 0 => (eNi en, eSe en)
  | i + 1 => ((pasN en i).1 + 1, fPut 2 (pasN en i).2 (fTurn (eTu en) (pasN en i).1) (fMin (fAt 2 (pasN en i).2 (fTurn (eTu en) (pasN en i).1) + fHas en (fTurn (eTu en) (pasN en i).1) (pasN en i).1 (eHi en) (eCl en))))
def opPass (en : En) (n : Int32) : Int32 × Int32 × (Nat → Int32) := if fIn n 0 60 = 0 then (-2, eNi en, eSe en) else if eNi en + n ≤ 9999 then ((pasN en n.toNatClampNeg).1, (pasN en n.toNatClampNeg).1, (pasN en n.toNatClampNeg).2) else (-3, eNi en, eSe en)
def fAdd3 (n : Nat) (f : Nat → Int32) (c x y z : Int32) : Nat → Int32 := fPut n (fPut n (fPut n f (c * 3) x) (c * 3 + 1) y) (c * 3 + 2) z
def opNote (en : En) (c : Int32) (f : Nat → Int32) (x n u : Int32) : Int32 × Int32 × (Nat → Int32) := if x = -1 then (0, 0, f) else if fIsL (eL en) x = 0 then (-1, c, f) else if fIn n 0 60 = 0 then (-2, c, f) else if c < 6 then (c + 1, c + 1, fAdd3 18 f c x n (if u = 0 then 0 else 1)) else (-4, c, f)
def opPlan (en : En) (c : Int32) (f : Nat → Int32) (w x : Int32) : Int32 × Int32 × (Nat → Int32) := if w = -1 then (0, 0, f) else if fIn w 0 2 = 0 then (-1, c, f) else if w = 0 then (if c < 8 then (c + 1, c + 1, fAdd3 24 f c w 0 0) else (-4, c, f)) else if fIsL (eL en) x = 0 then (-1, c, f) else if c < 8 then (c + 1, c + 1, fAdd3 24 f c w x 0) else (-4, c, f)
def opBook (c : Int32) (f : Nat → Int32) (n ho : Int32) : Int32 × Int32 × (Nat → Int32) := if n = -1 then (0, 0, f) else if fIn ho 0 1 = 0 then (-1, c, f) else if fIn n 0 60 = 0 then (-2, c, f) else if c < 8 then (c + 1, c + 1, fAdd3 24 f c n ho 0) else (-4, c, f)

theorem lk_X11_57 : LkV RX11 57 yX5_isFull cX5_isFull 1 (some .boolean) 0 := lkV_of q_205 q_206 q_207 q_2 q_208 ⟨by decide, by decide, by decide +kernel⟩ (by decide)
theorem lk_X11_61 : LkV RX11 61 yX5_tell cX5_tell 2 (some .int) 1 := lkV_of q_209 q_210 q_211 q_2 q_212 ⟨by decide, by decide, by decide +kernel⟩ (by decide)
theorem lk_X11_144 : LkS RX11 144 yX11_swap cX11_swap 4 (some .int) 3 := lkS_of q_566 q_567 q_1 q_568 ⟨rfl, by decide, by decide, by decide +kernel⟩ (by decide)
theorem lk_X11_213 : LkV RX11 213 yX5_add cX5_add 4 (some .int) 3 := lkV_of q_659 q_660 q_661 q_2 q_662 ⟨by decide, by decide, by decide +kernel⟩ (by decide)
theorem lk_X11_73 : LkV RX11 73 yX5_clear cX5_clear 1 (some .int) 0 := lkV_of q_328 q_329 q_330 q_2 q_331 ⟨by decide, by decide, by decide +kernel⟩ (by decide)
set_option maxHeartbeats 4000000 in
set_option maxRecDepth 100000 in
theorem c_X11_feed (l : Launch) (g : Gp) (M : Mem) (ik : Int32) (yn yl yk yh ac : Int32) (af : Nat → Int32) (x : Int32) (h0 : M (gA g 0) = some (custE g ik)) (h3 : M (gA g 3) = some (roofN g yn yl yk yh)) (h13 : M (gA g 13) = some (rowsE (gA g 14) 100 1 ac)) (h14 : M (gA g 14) = some (aI g 100 af)) : Met l yX11_feed (wsM yX11_feed cX11_feed 2 (some .int)) (rmD 3 0 0) (Pre g M [.ref (gA g 0), .int x]) (Qi g (fun r M1 => ((opFeed ac af x).1) = r ∧ mup (mup M (gA g 14) (aI g 100 ((opFeed ac af x).2.2))) (gA g 13) (rowsE (gA g 14) 100 1 ((opFeed ac af x).2.1)) = M1)) 0 0 (gF g) := M_start (by decide +kernel) (Nat.le_of_ble_eq_true rfl) fun p e s m args below meth c ls X hr hk hnm hM hl => by
  have X : Cx g p m c cX11_feed 2 s args RX11 := X
  have hx := X.1.1
  have hb := X.1.2.1
  have hl : lv_has ls 2 [(0, .ref (gA g 0)), (1, .int x)] := hl
  refine lv_iload_n hx hb dX11_feed_0 rfl (lv_at hl 1 rfl) ?_
  refine lv_iconst (v := 0) hx hb dX11_feed_1 (by decide) ?_
  refine lv_bipush (v := 127) hx hb dX11_feed_2 (by decide) ?_
  refine K_i (G_S (As := [.int x, .int 0, .int 127]) (rest := []) X hM (c_X11_isIn l g _ x 0 127  ) lk_X11_53 rfl hl.1 rfl (Nat.le_of_ble_eq_true rfl) (by decide) dX11_feed_4 ⟨Nat.le_of_ble_eq_true rfl, Nat.le_of_ble_eq_true rfl⟩) hM (fun r M1 H locs hM hp => ?_)
  obtain ⟨rfl, rfl⟩ := hp
  refine lv_if_ne (tgt := 13) hx hb dX11_feed_7 (by decide) (fun c_1 => ?_) (fun c_1 => ?_)
  · skip
    refine lv_aload_n hx hb dX11_feed_13 rfl (lv_at hl 0 rfl) ?_
    refine r_get (T := TX11) (N := 7) (ci := 11) (v := .ref (gA g 3)) X hM iX11 rfl 1 (by decide) q_177 (Or.inl rfl) h0 rfl dX11_feed_14 ?_
    refine r_get (T := TX4) (N := 14) (ci := 4) (v := .ref (gA g 13)) X hM iX4 rfl 10 (by decide) q_114 (Or.inl rfl) h3 rfl dX11_feed_17 ?_
    refine K_i (G_V (As := []) (rest := []) X hM (c_X5_isFull l g _ (gA g 13) (gA g 14) 100 1 ac h13 ) lk_X11_57 h13 rfl rfl hl.1 rfl (Nat.le_of_ble_eq_true rfl) (by decide) dX11_feed_20 ⟨Nat.le_of_ble_eq_true rfl, Nat.le_of_ble_eq_true rfl⟩) hM (fun r M1 H locs hM hp => ?_)
    obtain ⟨rfl, rfl⟩ := hp
    refine lv_if_eq (tgt := 31) hx hb dX11_feed_23 (by decide) (fun c_2 => ?_) (fun c_2 => ?_)
    · skip
      have hq := full_0 c_2
      refine lv_aload_n hx hb dX11_feed_31 rfl (lv_at hl 0 rfl) ?_
      refine r_get (T := TX11) (N := 7) (ci := 11) (v := .ref (gA g 3)) X hM iX11 rfl 1 (by decide) q_177 (Or.inl rfl) h0 rfl dX11_feed_32 ?_
      refine r_get (T := TX4) (N := 14) (ci := 4) (v := .ref (gA g 13)) X hM iX4 rfl 10 (by decide) q_114 (Or.inl rfl) h3 rfl dX11_feed_35 ?_
      refine lv_iload_n hx hb dX11_feed_38 rfl (lv_at hl 1 rfl) ?_
      refine K_i (G_V (As := [.int x]) (rest := []) X hM (c_X5_tell l g _ (gA g 13) (gA g 14) 100 af 100 1 ac x h13 h14 (by decide) (X.2.ne (i := 13) (j := 14) (by decide) (by decide) (by decide))) lk_X11_61 h13 rfl rfl hl.1 rfl (Nat.le_of_ble_eq_true rfl) (by decide) dX11_feed_39 ⟨Nat.le_of_ble_eq_true rfl, Nat.le_of_ble_eq_true rfl⟩) hM (fun r M1 H locs hM hp => ?_)
      obtain ⟨rfl, rfl⟩ := hp
      have hM : MW g (mup (mup M (gA g 14) (aI g 100 (fPut 100 af ac x))) (gA g 13) (rowsE (gA g 14) 100 1 (ac + 1))) H locs := hM
      have e9 : opFeed ac af x = (ac + 1, ac + 1, fPut 100 af ac x) := by
        unfold opFeed; (first | rw [if_pos c_1] | rw [if_neg c_1] | skip); (first | rw [if_pos hq] | rw [if_neg hq] | skip); all_goals first | rfl | (simp only [if_true])
      exact R_i X hr hk hM ⟨(by rw [e9]), (by rw [e9] <;> first | rfl | (dsimp only; done) | (dsimp only; simp only [mup_id h14, mup_id h13]; done) | (simp only [mup_id h14, mup_id h13]; done))⟩ dX11_feed_42
    · skip
      have hq := full_1 c_2
      refine lv_bipush (v := -4) hx hb dX11_feed_26 (by decide) ?_
      refine lv_goto (tgt := 42) hx hb dX11_feed_28 (by decide) ?_
      have e9 : opFeed ac af x = (-4, ac, af) := by
        unfold opFeed; (first | rw [if_pos c_1] | rw [if_neg c_1] | skip); (first | rw [if_pos hq] | rw [if_neg hq] | skip); all_goals first | rfl | (simp only [if_true])
      exact R_i X hr hk hM ⟨(by rw [e9]), (by rw [e9] <;> first | rfl | (dsimp only; done) | (dsimp only; simp only [mup_id h14, mup_id h13]; done) | (simp only [mup_id h14, mup_id h13]; done) | (rw [mup_id h14, mup_id h13]) | (dsimp only; rw [mup_id h14, mup_id h13]))⟩ dX11_feed_42
  · skip
    refine lv_bipush (v := -2) hx hb dX11_feed_10 (by decide) ?_
    have e9 : opFeed ac af x = (-2, ac, af) := by
      unfold opFeed; (first | rw [if_pos c_1] | rw [if_neg c_1] | skip); all_goals first | rfl | (simp only [if_true])
    exact R_i X hr hk hM ⟨(by rw [e9]), (by rw [e9] <;> first | rfl | (dsimp only; done) | (dsimp only; simp only [mup_id h14, mup_id h13]; done) | (simp only [mup_id h14, mup_id h13]; done) | (rw [mup_id h14, mup_id h13]) | (dsimp only; rw [mup_id h14, mup_id h13]))⟩ dX11_feed_12
set_option maxHeartbeats 4000000 in
set_option maxRecDepth 100000 in
theorem c_X11_row (l : Launch) (g : Gp) (M : Mem) (ik : Int32) (en : En) (x k n : Int32) (h0 : M (gA g 0) = some (custE g ik)) (h3 : M (gA g 3) = some (roofN g (eNi en) (nI (eL en)) (eSk en) (eHi en))) (h5 : M (gA g 5) = some (aS g 6 (eS en))) (h8 : M (gA g 8) = some (aI g 24 (eRw en))) (hE : EnOk g M en) : Met l yX11_row (wsM yX11_row cX11_row 5 (some .int)) (rmD 3 0 0) (Pre g M [.ref (gA g 0), .int x, .int k, .int n]) (Qi g (fun r M1 => ((opRow en x k n).1) = r ∧ mup M (gA g 8) (aI g 24 ((opRow en x k n).2)) = M1)) 0 0 (gF g) := M_start (by decide +kernel) (Nat.le_of_ble_eq_true rfl) fun p e s m args below meth c ls X hr hk hnm hM hl => by
  have X : Cx g p m c cX11_row 5 s args RX11 := X
  have hx := X.1.1
  have hb := X.1.2.1
  have hl : lv_has ls 5 [(0, .ref (gA g 0)), (1, .int x), (2, .int k), (3, .int n)] := hl
  refine lv_aload_n hx hb dX11_row_0 rfl (lv_at hl 0 rfl) ?_
  refine r_get (T := TX11) (N := 7) (ci := 11) (v := .ref (gA g 3)) X hM iX11 rfl 1 (by decide) q_177 (Or.inl rfl) h0 rfl dX11_row_1 ?_
  refine lv_iload_n hx hb dX11_row_4 rfl (lv_at hl 1 rfl) ?_
  refine K_q (G_V (As := [.int x]) (rest := []) X hM (c_X4_starAt l g _ en (eNi en) (eSk en) (eHi en) x h3 h5 ) lk_X11_98 h3 rfl rfl hl.1 rfl (Nat.le_of_ble_eq_true rfl) (by decide) dX11_row_5 ⟨Nat.le_of_ble_eq_true rfl, Nat.le_of_ble_eq_true rfl⟩) hM (fun r M1 H locs hM hp => ?_)
  obtain ⟨rfl, rfl⟩ := hp
  rcases fStar_cases hE (x) with ⟨e_j_1, h_j_1⟩ | ⟨j_1, h_j_1, x_j_1, e_j_1⟩
  · rw [e_j_1]
    have il_j_1 := fIsL_0 h_j_1
    refine l_nstore (lv' := [(4, .null), (0, .ref (gA g 0)), (1, .int x), (2, .int k), (3, .int n)]) hx hb dX11_row_8 hl (by decide) rfl (fun ls hl => ?_)
    refine l_nload hx hb dX11_row_10 (lv_at hl 0 rfl) ?_
    refine lv_ifnullN (tgt := 24) hx hb dX11_row_12 (by decide) ?_
    refine lv_iconst (v := -1) hx hb dX11_row_24 (by decide) ?_
    have e9 : opRow en x k n = (-1, eRw en) := by
      unfold opRow; (first | rw [if_pos il_j_1] | rw [if_neg il_j_1] | skip); all_goals first | rfl | (simp only [if_true])
    exact R_i X hr hk hM ⟨(by rw [e9]), (by rw [e9] <;> first | rfl | (dsimp only; done) | (dsimp only; simp only [mup_id h8]; done) | (simp only [mup_id h8]; done) | (rw [mup_id h8]) | (dsimp only; rw [mup_id h8]))⟩ dX11_row_25
  · rw [e_j_1]
    obtain ⟨s_j_1, m_j_1, hkd⟩ := hE.2.2 j_1 h_j_1
    have il_j_1 := fIsL_1n x_j_1 h_j_1 hE.1
    have jc_j_1 := clampj x_j_1 h_j_1 hE.1
    refine lv_astore (lv' := [(4, .ref (eSt en j_1)), (0, .ref (gA g 0)), (1, .int x), (2, .int k), (3, .int n)]) hx hb dX11_row_8 hl (by decide) rfl (fun ls hl => ?_)
    refine lv_aload hx hb dX11_row_10 (lv_at hl 0 rfl) ?_
    refine lv_ifnull hx hb dX11_row_12 ?_
    refine lv_iload_n hx hb dX11_row_15 rfl (lv_at hl 3 rfl) ?_
    refine lv_iconst (v := 0) hx hb dX11_row_16 (by decide) ?_
    refine lv_iconst (v := 3) hx hb dX11_row_17 (by decide) ?_
    refine K_i (G_S (As := [.int k, .int 0, .int 3]) (rest := []) X hM (c_X11_isIn l g _ k 0 3  ) lk_X11_53 rfl hl.1 rfl (Nat.le_of_ble_eq_true rfl) (by decide) dX11_row_18 ⟨Nat.le_of_ble_eq_true rfl, Nat.le_of_ble_eq_true rfl⟩) hM (fun r M1 H locs hM hp => ?_)
    obtain ⟨rfl, rfl⟩ := hp
    refine lv_if_ne (tgt := 26) hx hb dX11_row_21 (by decide) (fun c_2 => ?_) (fun c_2 => ?_)
    · skip
      refine lv_iload_n hx hb dX11_row_26 rfl (lv_at hl 4 rfl) ?_
      refine lv_iconst (v := 0) hx hb dX11_row_27 (by decide) ?_
      refine lv_bipush (v := 9) hx hb dX11_row_28 (by decide) ?_
      refine K_i (G_S (As := [.int n, .int 0, .int 9]) (rest := []) X hM (c_X11_isIn l g _ n 0 9  ) lk_X11_53 rfl hl.1 rfl (Nat.le_of_ble_eq_true rfl) (by decide) dX11_row_30 ⟨Nat.le_of_ble_eq_true rfl, Nat.le_of_ble_eq_true rfl⟩) hM (fun r M1 H locs hM hp => ?_)
      obtain ⟨rfl, rfl⟩ := hp
      refine lv_if_ne (tgt := 39) hx hb dX11_row_33 (by decide) (fun c_3 => ?_) (fun c_3 => ?_)
      · skip
        refine lv_aload hx hb dX11_row_39 (lv_at hl 0 rfl) ?_
        refine sg_X11_102 X hM m_j_1 (kd := eKd en j_1) hkd dX11_row_41 ?_
        refine lv_bipush (v := 6) hx hb dX11_row_44 (by decide) ?_
        refine lv_icmp_ne (tgt := 68) hx hb dX11_row_46 (by decide) (fun c_4 => ?_) (fun c_4 => ?_)
        · skip
          refine lv_bipush (v := -3) hx hb dX11_row_68 (by decide) ?_
          have e9 : opRow en x k n = (-3, eRw en) := by
            unfold opRow; (try simp only [jc_j_1]); (first | rw [if_pos il_j_1] | rw [if_neg il_j_1] | skip); (first | rw [if_pos c_2] | rw [if_neg c_2] | skip); (first | rw [if_pos c_3] | rw [if_neg c_3] | skip); (first | rw [if_pos c_4] | rw [if_neg c_4] | skip); all_goals first | rfl | (simp only [if_true])
          exact R_i X hr hk hM ⟨(by rw [e9]), (by rw [e9] <;> first | rfl | (dsimp only; done) | (dsimp only; simp only [mup_id h8]; done) | (simp only [mup_id h8]; done) | (rw [mup_id h8]) | (dsimp only; rw [mup_id h8]))⟩ dX11_row_70
        · skip
          refine lv_aload_n hx hb dX11_row_49 rfl (lv_at hl 1 rfl) ?_
          refine r_get (T := TX11) (N := 7) (ci := 11) (v := .ref (gA g 3)) X hM iX11 rfl 1 (by decide) q_177 (Or.inl rfl) h0 rfl dX11_row_50 ?_
          refine r_get (T := TX4) (N := 14) (ci := 4) (v := .ref (gA g 8)) X hM iX4 rfl 8 (by decide) q_111 (Or.inl rfl) h3 rfl dX11_row_53 ?_
          refine lv_iload_n hx hb dX11_row_56 rfl (lv_at hl 2 rfl) ?_
          refine lv_iconst (v := 4) hx hb dX11_row_57 (by decide) ?_
          refine lv_imul hx hb dX11_row_58 ?_
          refine lv_iload_n hx hb dX11_row_59 rfl (lv_at hl 3 rfl) ?_
          refine lv_iadd hx hb dX11_row_60 ?_
          refine lv_iload_n hx hb dX11_row_61 rfl (lv_at hl 4 rfl) ?_
          refine K_i (G_S (As := [.ref (gA g 8), .int ((x * 4) + k), .int n]) (rest := []) X hM (c_X11_swap l g _ (gA g 8) 24 (eRw en) ((x * 4) + k) n h8 (by decide)) lk_X11_144 rfl hl.1 rfl (Nat.le_of_ble_eq_true rfl) (by decide) dX11_row_62 ⟨Nat.le_of_ble_eq_true rfl, Nat.le_of_ble_eq_true rfl⟩) hM (fun r M1 H locs hM hp => ?_)
          obtain ⟨rfl, rfl⟩ := hp
          have hM : MW g (mup M (gA g 8) (aI g 24 (fPut 24 (eRw en) ((x * 4) + k) n))) H locs := hM
          refine lv_goto (tgt := 70) hx hb dX11_row_65 (by decide) ?_
          have e9 : opRow en x k n = (fAt 24 (eRw en) ((x * 4) + k), fPut 24 (eRw en) ((x * 4) + k) n) := by
            unfold opRow; (try simp only [jc_j_1]); (first | rw [if_pos il_j_1] | rw [if_neg il_j_1] | skip); (first | rw [if_pos c_2] | rw [if_neg c_2] | skip); (first | rw [if_pos c_3] | rw [if_neg c_3] | skip); (first | rw [if_pos c_4] | rw [if_neg c_4] | skip); all_goals first | rfl | (simp only [if_true])
          exact R_i X hr hk hM ⟨(by rw [e9]), (by rw [e9] <;> first | rfl | (dsimp only; done) | (dsimp only; simp only [mup_id h8]; done) | (simp only [mup_id h8]; done))⟩ dX11_row_70
      · skip
        refine lv_bipush (v := -2) hx hb dX11_row_36 (by decide) ?_
        have e9 : opRow en x k n = (-2, eRw en) := by
          unfold opRow; (try simp only [jc_j_1]); (first | rw [if_pos il_j_1] | rw [if_neg il_j_1] | skip); (first | rw [if_pos c_2] | rw [if_neg c_2] | skip); (first | rw [if_pos c_3] | rw [if_neg c_3] | skip); all_goals first | rfl | (simp only [if_true])
        exact R_i X hr hk hM ⟨(by rw [e9]), (by rw [e9] <;> first | rfl | (dsimp only; done) | (dsimp only; simp only [mup_id h8]; done) | (simp only [mup_id h8]; done) | (rw [mup_id h8]) | (dsimp only; rw [mup_id h8]))⟩ dX11_row_38
    · skip
      refine lv_iconst (v := -1) hx hb dX11_row_24 (by decide) ?_
      have e9 : opRow en x k n = (-1, eRw en) := by
        unfold opRow; (try simp only [jc_j_1]); (first | rw [if_pos il_j_1] | rw [if_neg il_j_1] | skip); (first | rw [if_pos c_2] | rw [if_neg c_2] | skip); all_goals first | rfl | (simp only [if_true])
      exact R_i X hr hk hM ⟨(by rw [e9]), (by rw [e9] <;> first | rfl | (dsimp only; done) | (dsimp only; simp only [mup_id h8]; done) | (simp only [mup_id h8]; done) | (rw [mup_id h8]) | (dsimp only; rw [mup_id h8]))⟩ dX11_row_25
set_option maxHeartbeats 4000000 in
set_option maxRecDepth 100000 in
theorem c_X11_set (l : Launch) (g : Gp) (M : Mem) (ik : Int32) (en : En) (x w n : Int32) (h0 : M (gA g 0) = some (custE g ik)) (h3 : M (gA g 3) = some (roofN g (eNi en) (nI (eL en)) (eSk en) (eHi en))) (h5 : M (gA g 5) = some (aS g 6 (eS en))) (h6 : M (gA g 6) = some (aI g 6 (eRo en))) (h7 : M (gA g 7) = some (aI g 6 (ePh en))) (hE : EnOk g M en) : Met l yX11_set (wsM yX11_set cX11_set 4 (some .int)) (rmD 3 0 0) (Pre g M [.ref (gA g 0), .int x, .int w, .int n]) (Qi g (fun r M1 => ((opSet en x w n).1) = r ∧ mup (mup M (gA g 6) (aI g 6 ((opSet en x w n).2.1))) (gA g 7) (aI g 6 ((opSet en x w n).2.2)) = M1)) 0 0 (gF g) := M_start (by decide +kernel) (Nat.le_of_ble_eq_true rfl) fun p e s m args below meth c ls X hr hk hnm hM hl => by
  have X : Cx g p m c cX11_set 4 s args RX11 := X
  have hx := X.1.1
  have hb := X.1.2.1
  have hl : lv_has ls 4 [(0, .ref (gA g 0)), (1, .int x), (2, .int w), (3, .int n)] := hl
  refine lv_aload_n hx hb dX11_set_0 rfl (lv_at hl 0 rfl) ?_
  refine r_get (T := TX11) (N := 7) (ci := 11) (v := .ref (gA g 3)) X hM iX11 rfl 1 (by decide) q_177 (Or.inl rfl) h0 rfl dX11_set_1 ?_
  refine lv_iload_n hx hb dX11_set_4 rfl (lv_at hl 1 rfl) ?_
  refine K_q (G_V (As := [.int x]) (rest := []) X hM (c_X4_starAt l g _ en (eNi en) (eSk en) (eHi en) x h3 h5 ) lk_X11_98 h3 rfl rfl hl.1 rfl (Nat.le_of_ble_eq_true rfl) (by decide) dX11_set_5 ⟨Nat.le_of_ble_eq_true rfl, Nat.le_of_ble_eq_true rfl⟩) hM (fun r M1 H locs hM hp => ?_)
  obtain ⟨rfl, rfl⟩ := hp
  rcases fStar_cases hE (x) with ⟨e_j_1, h_j_1⟩ | ⟨j_1, h_j_1, x_j_1, e_j_1⟩
  · rw [e_j_1]
    have il_j_1 := fIsL_0 h_j_1
    refine lv_ifnullN (tgt := 20) hx hb dX11_set_8 (by decide) ?_
    refine lv_iconst (v := -1) hx hb dX11_set_20 (by decide) ?_
    have e9 : opSet en x w n = (-1, eRo en, ePh en) := by
      unfold opSet; (first | rw [if_pos il_j_1] | rw [if_neg il_j_1] | skip); all_goals first | rfl | (simp only [if_true])
    exact R_i X hr hk hM ⟨(by rw [e9]), (by rw [e9] <;> first | rfl | (dsimp only; done) | (dsimp only; simp only [mup_id h6, mup_id h7]; done) | (simp only [mup_id h6, mup_id h7]; done) | (rw [mup_id h6, mup_id h7]) | (dsimp only; rw [mup_id h6, mup_id h7]))⟩ dX11_set_21
  · rw [e_j_1]
    obtain ⟨s_j_1, m_j_1, hkd⟩ := hE.2.2 j_1 h_j_1
    have il_j_1 := fIsL_1n x_j_1 h_j_1 hE.1
    have jc_j_1 := clampj x_j_1 h_j_1 hE.1
    refine lv_ifnull hx hb dX11_set_8 ?_
    refine lv_iload_n hx hb dX11_set_11 rfl (lv_at hl 2 rfl) ?_
    refine lv_iconst (v := 0) hx hb dX11_set_12 (by decide) ?_
    refine lv_iconst (v := 1) hx hb dX11_set_13 (by decide) ?_
    refine K_i (G_S (As := [.int w, .int 0, .int 1]) (rest := []) X hM (c_X11_isIn l g _ w 0 1  ) lk_X11_53 rfl hl.1 rfl (Nat.le_of_ble_eq_true rfl) (by decide) dX11_set_14 ⟨Nat.le_of_ble_eq_true rfl, Nat.le_of_ble_eq_true rfl⟩) hM (fun r M1 H locs hM hp => ?_)
    obtain ⟨rfl, rfl⟩ := hp
    refine lv_if_ne (tgt := 22) hx hb dX11_set_17 (by decide) (fun c_2 => ?_) (fun c_2 => ?_)
    · skip
      refine lv_iload_n hx hb dX11_set_22 rfl (lv_at hl 2 rfl) ?_
      refine lv_if_ne (tgt := 54) hx hb dX11_set_23 (by decide) (fun c_3 => ?_) (fun c_3 => ?_)
      · skip
        refine lv_iload_n hx hb dX11_set_54 rfl (lv_at hl 3 rfl) ?_
        refine lv_iconst (v := 0) hx hb dX11_set_55 (by decide) ?_
        refine lv_bipush (v := 29) hx hb dX11_set_56 (by decide) ?_
        refine K_i (G_S (As := [.int n, .int 0, .int 29]) (rest := []) X hM (c_X11_isIn l g _ n 0 29  ) lk_X11_53 rfl hl.1 rfl (Nat.le_of_ble_eq_true rfl) (by decide) dX11_set_58 ⟨Nat.le_of_ble_eq_true rfl, Nat.le_of_ble_eq_true rfl⟩) hM (fun r M1 H locs hM hp => ?_)
        obtain ⟨rfl, rfl⟩ := hp
        refine lv_if_eq (tgt := 79) hx hb dX11_set_61 (by decide) (fun c_4 => ?_) (fun c_4 => ?_)
        · skip
          refine lv_bipush (v := -2) hx hb dX11_set_79 (by decide) ?_
          have e9 : opSet en x w n = (-2, eRo en, ePh en) := by
            unfold opSet; (try simp only [jc_j_1]); (first | rw [if_pos il_j_1] | rw [if_neg il_j_1] | skip); (first | rw [if_pos c_2] | rw [if_neg c_2] | skip); (first | rw [if_pos c_3] | rw [if_neg c_3] | skip); (first | rw [if_pos c_4] | rw [if_neg c_4] | skip); all_goals first | rfl | (simp only [if_true])
          exact R_i X hr hk hM ⟨(by rw [e9]), (by rw [e9] <;> first | rfl | (dsimp only; done) | (dsimp only; simp only [mup_id h6, mup_id h7]; done) | (simp only [mup_id h6, mup_id h7]; done) | (rw [mup_id h6, mup_id h7]) | (dsimp only; rw [mup_id h6, mup_id h7]))⟩ dX11_set_81
        · skip
          refine lv_aload_n hx hb dX11_set_64 rfl (lv_at hl 0 rfl) ?_
          refine r_get (T := TX11) (N := 7) (ci := 11) (v := .ref (gA g 3)) X hM iX11 rfl 1 (by decide) q_177 (Or.inl rfl) h0 rfl dX11_set_65 ?_
          refine r_get (T := TX4) (N := 14) (ci := 4) (v := .ref (gA g 7)) X hM iX4 rfl 7 (by decide) q_109 (Or.inl rfl) h3 rfl dX11_set_68 ?_
          refine lv_iload_n hx hb dX11_set_71 rfl (lv_at hl 1 rfl) ?_
          refine lv_iload_n hx hb dX11_set_72 rfl (lv_at hl 3 rfl) ?_
          refine K_i (G_S (As := [.ref (gA g 7), .int x, .int n]) (rest := []) X hM (c_X11_swap l g _ (gA g 7) 6 (ePh en) x n h7 (by decide)) lk_X11_144 rfl hl.1 rfl (Nat.le_of_ble_eq_true rfl) (by decide) dX11_set_73 ⟨Nat.le_of_ble_eq_true rfl, Nat.le_of_ble_eq_true rfl⟩) hM (fun r M1 H locs hM hp => ?_)
          obtain ⟨rfl, rfl⟩ := hp
          have hM : MW g (mup M (gA g 7) (aI g 6 (fPut 6 (ePh en) x n))) H locs := hM
          refine lv_goto (tgt := 81) hx hb dX11_set_76 (by decide) ?_
          have e9 : opSet en x w n = (fAt 6 (ePh en) x, eRo en, fPut 6 (ePh en) x n) := by
            unfold opSet; (try simp only [jc_j_1]); (first | rw [if_pos il_j_1] | rw [if_neg il_j_1] | skip); (first | rw [if_pos c_2] | rw [if_neg c_2] | skip); (first | rw [if_pos c_3] | rw [if_neg c_3] | skip); (first | rw [if_pos c_4] | rw [if_neg c_4] | skip); all_goals first | rfl | (simp only [if_true])
          exact R_i X hr hk hM ⟨(by rw [e9]), (by rw [e9] <;> first | rfl | (dsimp only; done) | (dsimp only; simp only [mup_id h6, mup_id h7]; done) | (simp only [mup_id h6, mup_id h7]; done) | (rw [mup_id (mup_r (X.2.ne (i := 6) (j := 7) (by decide) (by decide) (by decide)) h6)]) | (dsimp only; rw [mup_id (mup_r (X.2.ne (i := 6) (j := 7) (by decide) (by decide) (by decide)) h6)]))⟩ dX11_set_81
      · skip
        refine lv_iload_n hx hb dX11_set_26 rfl (lv_at hl 3 rfl) ?_
        refine lv_iconst (v := 1) hx hb dX11_set_27 (by decide) ?_
        refine lv_bipush (v := 30) hx hb dX11_set_28 (by decide) ?_
        refine K_i (G_S (As := [.int n, .int 1, .int 30]) (rest := []) X hM (c_X11_isIn l g _ n 1 30  ) lk_X11_53 rfl hl.1 rfl (Nat.le_of_ble_eq_true rfl) (by decide) dX11_set_30 ⟨Nat.le_of_ble_eq_true rfl, Nat.le_of_ble_eq_true rfl⟩) hM (fun r M1 H locs hM hp => ?_)
        obtain ⟨rfl, rfl⟩ := hp
        refine lv_if_eq (tgt := 51) hx hb dX11_set_33 (by decide) (fun c_5 => ?_) (fun c_5 => ?_)
        · skip
          refine lv_bipush (v := -2) hx hb dX11_set_51 (by decide) ?_
          have e9 : opSet en x w n = (-2, eRo en, ePh en) := by
            unfold opSet; (try simp only [jc_j_1]); (first | rw [if_pos il_j_1] | rw [if_neg il_j_1] | skip); (first | rw [if_pos c_2] | rw [if_neg c_2] | skip); (first | rw [if_pos c_3] | rw [if_neg c_3] | skip); (first | rw [if_pos c_5] | rw [if_neg c_5] | skip); all_goals first | rfl | (simp only [if_true])
          exact R_i X hr hk hM ⟨(by rw [e9]), (by rw [e9] <;> first | rfl | (dsimp only; done) | (dsimp only; simp only [mup_id h6, mup_id h7]; done) | (simp only [mup_id h6, mup_id h7]; done) | (rw [mup_id h6, mup_id h7]) | (dsimp only; rw [mup_id h6, mup_id h7]))⟩ dX11_set_53
        · skip
          refine lv_aload_n hx hb dX11_set_36 rfl (lv_at hl 0 rfl) ?_
          refine r_get (T := TX11) (N := 7) (ci := 11) (v := .ref (gA g 3)) X hM iX11 rfl 1 (by decide) q_177 (Or.inl rfl) h0 rfl dX11_set_37 ?_
          refine r_get (T := TX4) (N := 14) (ci := 4) (v := .ref (gA g 6)) X hM iX4 rfl 6 (by decide) q_107 (Or.inl rfl) h3 rfl dX11_set_40 ?_
          refine lv_iload_n hx hb dX11_set_43 rfl (lv_at hl 1 rfl) ?_
          refine lv_iload_n hx hb dX11_set_44 rfl (lv_at hl 3 rfl) ?_
          refine K_i (G_S (As := [.ref (gA g 6), .int x, .int n]) (rest := []) X hM (c_X11_swap l g _ (gA g 6) 6 (eRo en) x n h6 (by decide)) lk_X11_144 rfl hl.1 rfl (Nat.le_of_ble_eq_true rfl) (by decide) dX11_set_45 ⟨Nat.le_of_ble_eq_true rfl, Nat.le_of_ble_eq_true rfl⟩) hM (fun r M1 H locs hM hp => ?_)
          obtain ⟨rfl, rfl⟩ := hp
          have hM : MW g (mup M (gA g 6) (aI g 6 (fPut 6 (eRo en) x n))) H locs := hM
          refine lv_goto (tgt := 53) hx hb dX11_set_48 (by decide) ?_
          have e9 : opSet en x w n = (fAt 6 (eRo en) x, fPut 6 (eRo en) x n, ePh en) := by
            unfold opSet; (try simp only [jc_j_1]); (first | rw [if_pos il_j_1] | rw [if_neg il_j_1] | skip); (first | rw [if_pos c_2] | rw [if_neg c_2] | skip); (first | rw [if_pos c_3] | rw [if_neg c_3] | skip); (first | rw [if_pos c_5] | rw [if_neg c_5] | skip); all_goals first | rfl | (simp only [if_true])
          exact R_i X hr hk hM ⟨(by rw [e9]), (by rw [e9] <;> first | rfl | (dsimp only; done) | (dsimp only; simp only [mup_id h6, mup_id h7]; done) | (simp only [mup_id h6, mup_id h7]; done) | (rw [mup_id (mup_r (X.2.ne (i := 7) (j := 6) (by decide) (by decide) (by decide)) h7)]) | (dsimp only; rw [mup_id (mup_r (X.2.ne (i := 7) (j := 6) (by decide) (by decide) (by decide)) h7)]))⟩ dX11_set_53
    · skip
      refine lv_iconst (v := -1) hx hb dX11_set_20 (by decide) ?_
      have e9 : opSet en x w n = (-1, eRo en, ePh en) := by
        unfold opSet; (try simp only [jc_j_1]); (first | rw [if_pos il_j_1] | rw [if_neg il_j_1] | skip); (first | rw [if_pos c_2] | rw [if_neg c_2] | skip); all_goals first | rfl | (simp only [if_true])
      exact R_i X hr hk hM ⟨(by rw [e9]), (by rw [e9] <;> first | rfl | (dsimp only; done) | (dsimp only; simp only [mup_id h6, mup_id h7]; done) | (simp only [mup_id h6, mup_id h7]; done) | (rw [mup_id h6, mup_id h7]) | (dsimp only; rw [mup_id h6, mup_id h7]))⟩ dX11_set_21
set_option maxHeartbeats 4000000 in
set_option maxRecDepth 100000 in
theorem c_X11_hide (l : Launch) (g : Gp) (M : Mem) (ik : Int32) (en : En) (x z : Int32) (h0 : M (gA g 0) = some (custE g ik)) (h3 : M (gA g 3) = some (roofN g (eNi en) (nI (eL en)) (eSk en) (eHi en))) (h5 : M (gA g 5) = some (aS g 6 (eS en))) (hE : EnOk g M en) : Met l yX11_hide (wsM yX11_hide cX11_hide 4 (some .int)) (rmD 2 0 0) (Pre g M [.ref (gA g 0), .int x, .int z]) (Qi g (fun r M1 => ((opHide en x z).1) = r ∧ mup M (gA g 3) (roofN g (eNi en) (nI (eL en)) (eSk en) ((opHide en x z).2)) = M1)) 0 0 (gF g) := M_start (by decide +kernel) (Nat.le_of_ble_eq_true rfl) fun p e s m args below meth c ls X hr hk hnm hM hl => by
  have X : Cx g p m c cX11_hide 4 s args RX11 := X
  have hx := X.1.1
  have hb := X.1.2.1
  have hl : lv_has ls 4 [(0, .ref (gA g 0)), (1, .int x), (2, .int z)] := hl
  refine lv_aload_n hx hb dX11_hide_0 rfl (lv_at hl 0 rfl) ?_
  refine r_get (T := TX11) (N := 7) (ci := 11) (v := .ref (gA g 3)) X hM iX11 rfl 1 (by decide) q_177 (Or.inl rfl) h0 rfl dX11_hide_1 ?_
  refine lv_iload_n hx hb dX11_hide_4 rfl (lv_at hl 1 rfl) ?_
  refine K_q (G_V (As := [.int x]) (rest := []) X hM (c_X4_starAt l g _ en (eNi en) (eSk en) (eHi en) x h3 h5 ) lk_X11_98 h3 rfl rfl hl.1 rfl (Nat.le_of_ble_eq_true rfl) (by decide) dX11_hide_5 ⟨Nat.le_of_ble_eq_true rfl, Nat.le_of_ble_eq_true rfl⟩) hM (fun r M1 H locs hM hp => ?_)
  obtain ⟨rfl, rfl⟩ := hp
  rcases fStar_cases hE (x) with ⟨e_j_1, h_j_1⟩ | ⟨j_1, h_j_1, x_j_1, e_j_1⟩
  · rw [e_j_1]
    have il_j_1 := fIsL_0 h_j_1
    refine lv_ifnonnullN hx hb dX11_hide_8 ?_
    refine lv_iconst (v := -1) hx hb dX11_hide_11 (by decide) ?_
    have e9 : opHide en x z = (-1, eHi en) := by
      unfold opHide; (first | rw [if_pos il_j_1] | rw [if_neg il_j_1] | skip); all_goals first | rfl | (simp only [if_true])
    exact R_i X hr hk hM ⟨(by rw [e9]), (by rw [e9] <;> first | rfl | (dsimp only; done) | (dsimp only; simp only [mup_id h3]; done) | (simp only [mup_id h3]; done) | (rw [mup_id h3]) | (dsimp only; rw [mup_id h3]))⟩ dX11_hide_12
  · rw [e_j_1]
    obtain ⟨s_j_1, m_j_1, hkd⟩ := hE.2.2 j_1 h_j_1
    have il_j_1 := fIsL_1n x_j_1 h_j_1 hE.1
    have jc_j_1 := clampj x_j_1 h_j_1 hE.1
    refine lv_ifnonnull (tgt := 13) hx hb dX11_hide_8 (by decide) ?_
    refine lv_aload_n hx hb dX11_hide_13 rfl (lv_at hl 0 rfl) ?_
    refine r_get (T := TX11) (N := 7) (ci := 11) (v := .ref (gA g 3)) X hM iX11 rfl 1 (by decide) q_177 (Or.inl rfl) h0 rfl dX11_hide_14 ?_
    refine r_get (T := TX4) (N := 14) (ci := 4) (v := .int (eHi en)) X hM iX4 rfl 3 (by decide) q_102 (Or.inl rfl) h3 rfl dX11_hide_17 ?_
    refine lv_iload_n hx hb dX11_hide_20 rfl (lv_at hl 1 rfl) ?_
    refine K_i (G_S (As := [.int (eHi en), .int x]) (rest := []) X hM (c_X11_bitOf l g _ (eHi en) x  ) lk_X11_123 rfl hl.1 rfl (Nat.le_of_ble_eq_true rfl) (by decide) dX11_hide_21 ⟨Nat.le_of_ble_eq_true rfl, Nat.le_of_ble_eq_true rfl⟩) hM (fun r M1 H locs hM hp => ?_)
    obtain ⟨rfl, rfl⟩ := hp
    refine lv_istore_n (lv' := [(3, .int (fBit (eHi en) x)), (0, .ref (gA g 0)), (1, .int x), (2, .int z)]) hx hb dX11_hide_24 rfl hl (by decide) rfl (fun ls hl => ?_)
    refine lv_aload_n hx hb dX11_hide_25 rfl (lv_at hl 1 rfl) ?_
    refine r_get (T := TX11) (N := 7) (ci := 11) (v := .ref (gA g 3)) X hM iX11 rfl 1 (by decide) q_177 (Or.inl rfl) h0 rfl dX11_hide_26 ?_
    refine lv_aload_n hx hb dX11_hide_29 rfl (lv_at hl 1 rfl) ?_
    refine r_get (T := TX11) (N := 7) (ci := 11) (v := .ref (gA g 3)) X hM iX11 rfl 1 (by decide) q_177 (Or.inl rfl) h0 rfl dX11_hide_30 ?_
    refine r_get (T := TX4) (N := 14) (ci := 4) (v := .int (eHi en)) X hM iX4 rfl 3 (by decide) q_102 (Or.inl rfl) h3 rfl dX11_hide_33 ?_
    refine lv_iload_n hx hb dX11_hide_36 rfl (lv_at hl 2 rfl) ?_
    refine lv_iload_n hx hb dX11_hide_37 rfl (lv_at hl 3 rfl) ?_
    refine K_i (G_S (As := [.int (eHi en), .int x, .int z]) (rest := [.ref (gA g 3)]) X hM (c_X11_withBit l g _ (eHi en) x z  ) lk_X11_148 rfl hl.1 rfl (Nat.le_of_ble_eq_true rfl) (by decide) dX11_hide_38 ⟨Nat.le_of_ble_eq_true rfl, Nat.le_of_ble_eq_true rfl⟩) hM (fun r M1 H locs hM hp => ?_)
    obtain ⟨rfl, rfl⟩ := hp
    refine r_put (T := TX4) (N := 14) (ci := 4) X hM iX4 tyX4 tyX4_ok nmX4 rfl 3 (by decide) q_102 rfl (Or.inl rfl) h3 rfl rfl (Nat.le_of_ble_eq_true rfl) dX11_hide_41 (fun H locs hM => ?_)
    have hM : MW g (mup M (gA g 3) (roofN g (eNi en) (nI (eL en)) (eSk en) (fWith (eHi en) x z))) H locs := hM
    refine lv_iload_n hx hb dX11_hide_44 rfl (lv_at hl 0 rfl) ?_
    have e9 : opHide en x z = (fBit (eHi en) x, fWith (eHi en) x z) := by
      unfold opHide; (try simp only [jc_j_1]); (first | rw [if_pos il_j_1] | rw [if_neg il_j_1] | skip); all_goals first | rfl | (simp only [if_true])
    exact R_i X hr hk hM ⟨(by rw [e9]), (by rw [e9] <;> first | rfl | (dsimp only; done) | (dsimp only; simp only [mup_id h3]; done) | (simp only [mup_id h3]; done))⟩ dX11_hide_45
set_option maxHeartbeats 4000000 in
set_option maxRecDepth 100000 in
theorem c_X11_pass (l : Launch) (g : Gp) (M : Mem) (ik : Int32) (en : En) (n : Int32) (h0 : M (gA g 0) = some (custE g ik)) (h3 : M (gA g 3) = some (roofN g (eNi en) (nI (eL en)) (eSk en) (eHi en))) (h4 : M (gA g 4) = some (aI g 2 (eSe en))) (h5 : M (gA g 5) = some (aS g 6 (eS en))) (h6 : M (gA g 6) = some (aI g 6 (eRo en))) (h7 : M (gA g 7) = some (aI g 6 (ePh en))) (h8 : M (gA g 8) = some (aI g 24 (eRw en))) (h9 : M (gA g 9) = some (skyE (gA g 10) (gA g 11) (gA g 12) (nI (eZ en)) (eTu en) (eCl en))) (h10 : M (gA g 10) = some (aI g 100 (eF1 en))) (h11 : M (gA g 11) = some (aI g 100 (eF2 en))) (h12 : M (gA g 12) = some (aI g 100 (eF3 en))) (hE : EnOk g M en) : Met l yX11_pass (wsM yX11_pass cX11_pass 5 (some .int)) (rmD 7 0 0) (Pre g M [.ref (gA g 0), .int n]) (Qi g (fun r M1 => ((opPass en n).1) = r ∧ mup (mup M (gA g 4) (aI g 2 ((opPass en n).2.2))) (gA g 3) (roofN g ((opPass en n).2.1) (nI (eL en)) (eSk en) (eHi en)) = M1)) 0 0 (gF g) := M_start (by decide +kernel) (Nat.le_of_ble_eq_true rfl) fun p e s m args below meth c ls X hr hk hnm hM hl => by
  have X : Cx g p m c cX11_pass 5 s args RX11 := X
  have hx := X.1.1
  have hb := X.1.2.1
  have hl : lv_has ls 5 [(0, .ref (gA g 0)), (1, .int n)] := hl
  refine lv_iload_n hx hb dX11_pass_0 rfl (lv_at hl 1 rfl) ?_
  refine lv_iconst (v := 0) hx hb dX11_pass_1 (by decide) ?_
  refine lv_bipush (v := 60) hx hb dX11_pass_2 (by decide) ?_
  refine K_i (G_S (As := [.int n, .int 0, .int 60]) (rest := []) X hM (c_X11_isIn l g _ n 0 60  ) lk_X11_53 rfl hl.1 rfl (Nat.le_of_ble_eq_true rfl) (by decide) dX11_pass_4 ⟨Nat.le_of_ble_eq_true rfl, Nat.le_of_ble_eq_true rfl⟩) hM (fun r M1 H locs hM hp => ?_)
  obtain ⟨rfl, rfl⟩ := hp
  refine lv_if_ne (tgt := 13) hx hb dX11_pass_7 (by decide) (fun c_1 => ?_) (fun c_1 => ?_)
  · skip
    obtain ⟨k, bk, rfl⟩ := fIn_k (K := 60) (by decide) c_1
    have ckk : (nI k).toNatClampNeg = k := nI_clamp (by omega)
    refine lv_aload_n hx hb dX11_pass_13 rfl (lv_at hl 0 rfl) ?_
    refine r_get (T := TX11) (N := 7) (ci := 11) (v := .ref (gA g 3)) X hM iX11 rfl 1 (by decide) q_177 (Or.inl rfl) h0 rfl dX11_pass_14 ?_
    refine r_get (T := TX4) (N := 14) (ci := 4) (v := .int (eNi en)) X hM iX4 rfl 0 (by decide) q_96 (Or.inl rfl) h3 rfl dX11_pass_17 ?_
    refine lv_iload_n hx hb dX11_pass_20 rfl (lv_at hl 1 rfl) ?_
    refine lv_iadd hx hb dX11_pass_21 ?_
    refine lv_sipush (v := 9999) hx hb dX11_pass_22 (by decide) ?_
    refine lv_icmp_le (tgt := 31) hx hb dX11_pass_25 (by decide) (fun c_2 => ?_) (fun c_2 => ?_)
    · skip
      refine lv_iconst (v := 0) hx hb dX11_pass_31 (by decide) ?_
      refine lv_istore_n (lv' := [(2, .int 0), (0, .ref (gA g 0)), (1, .int (nI k))]) hx hb dX11_pass_32 rfl hl (by decide) rfl (fun ls hl => ?_)
      have L33 : ∀ (fu : Nat) (i : Nat) (xn : Int32) (xf : Nat → Int32) (hi : i ≤ k) (kp : (xn, xf) = pasN en i) (H : Heap) (locs : List Loc) (hM : MW g (mup (mup M (gA g 4) (aI g 2 xf)) (gA g 3) (roofN g xn (nI (eL en)) (eSk en) (eHi en))) H locs) (ls : Array Slot) (hl : lv_has ls 5 [(0, .ref (gA g 0)), (1, .int (nI k)), (2, .int (nI i))]), k - i < fu → W p l e (rmD 7 0 0) s m args below meth c H locs 0 0 (MQ below (Qi g (fun r M1 => ((opPass en (nI k)).1) = r ∧ mup (mup M (gA g 4) (aI g 2 ((opPass en (nI k)).2.2))) (gA g 3) (roofN g ((opPass en (nI k)).2.1) (nI (eL en)) (eSk en) (eHi en)) = M1)) args s 0 0 (gF g)) (F0 m 33 ls []) := by
        intro fu
        induction fu with
        | zero => intro i xn xf hi kp H locs hM ls hl hmu; exact absurd hmu (Nat.not_lt_zero _)
        | succ fu ih =>
          intro i xn xf hi kp H locs hM ls hl hmu
          refine lv_iload_n hx hb dX11_pass_33 rfl (lv_at hl 2 rfl) ?_
          refine lv_iload_n hx hb dX11_pass_34 rfl (lv_at hl 1 rfl) ?_
          refine lv_icmp_ge (tgt := 136) hx hb dX11_pass_35 (by decide) (fun c_3 => ?_) (fun c_3 => ?_)
          · skip
            have hz1 : k ≤ i := (nI_leI (by omega) (by omega)).mp c_3
            have hz2 : i = k := by omega
            have hz3 := hz2.symm
            subst hz3
            refine lv_aload_n hx hb dX11_pass_136 rfl (lv_at hl 0 rfl) ?_
            refine r_get (T := TX11) (N := 7) (ci := 11) (v := .ref (gA g 3)) X hM iX11 rfl 1 (by decide) q_177 (Or.inl rfl) (mup_r (X.2.ne (i := 0) (j := 3) (by decide) (by decide) (by decide)) (mup_r (X.2.ne (i := 0) (j := 4) (by decide) (by decide) (by decide)) h0)) rfl dX11_pass_137 ?_
            refine r_get (T := TX4) (N := 14) (ci := 4) (v := .int xn) X hM iX4 rfl 0 (by decide) q_96 (Or.inl rfl) (mup_s _ _ _) rfl dX11_pass_140 ?_
            have e9 : opPass en (nI k) = (xn, xn, xf) := by
              unfold opPass; rw [if_neg c_1, if_pos c_2, ckk, ← kp]; (first | rw [if_pos c_3] | rw [if_neg c_3] | skip); all_goals first | rfl | (simp only [if_true])
            exact R_i X hr hk hM ⟨(by rw [e9]), (by rw [e9] <;> first | rfl | (dsimp only; done) | (dsimp only; simp only [mup_id h4, mup_id h3]; done) | (simp only [mup_id h4, mup_id h3]; done))⟩ dX11_pass_143
          · skip
            have hz1 : i < k := by
              rcases Nat.lt_or_ge i (k) with q | q
              · exact q
              · exact absurd ((nI_leI (by omega) (by omega)).mpr q) c_3
            refine lv_aload_n hx hb dX11_pass_38 rfl (lv_at hl 0 rfl) ?_
            refine r_get (T := TX11) (N := 7) (ci := 11) (v := .ref (gA g 3)) X hM iX11 rfl 1 (by decide) q_177 (Or.inl rfl) (mup_r (X.2.ne (i := 0) (j := 3) (by decide) (by decide) (by decide)) (mup_r (X.2.ne (i := 0) (j := 4) (by decide) (by decide) (by decide)) h0)) rfl dX11_pass_39 ?_
            refine lv_aload_n hx hb dX11_pass_42 rfl (lv_at hl 0 rfl) ?_
            refine r_get (T := TX11) (N := 7) (ci := 11) (v := .ref (gA g 3)) X hM iX11 rfl 1 (by decide) q_177 (Or.inl rfl) (mup_r (X.2.ne (i := 0) (j := 3) (by decide) (by decide) (by decide)) (mup_r (X.2.ne (i := 0) (j := 4) (by decide) (by decide) (by decide)) h0)) rfl dX11_pass_43 ?_
            refine r_get (T := TX4) (N := 14) (ci := 4) (v := .int xn) X hM iX4 rfl 0 (by decide) q_96 (Or.inl rfl) (mup_s _ _ _) rfl dX11_pass_46 ?_
            refine K_i (G_V (As := [.int xn]) (rest := []) X hM (c_X4_turnOf l g _ en xn (nI (eL en)) (eSk en) (eHi en) xn (mup_s _ _ _) (mup_r (X.2.ne (i := 9) (j := 3) (by decide) (by decide) (by decide)) (mup_r (X.2.ne (i := 9) (j := 4) (by decide) (by decide) (by decide)) h9)) ) lk_X11_158 (mup_s _ _ _) rfl rfl hl.1 rfl (Nat.le_of_ble_eq_true rfl) (by decide) dX11_pass_49 ⟨Nat.le_of_ble_eq_true rfl, Nat.le_of_ble_eq_true rfl⟩) hM (fun r M1 H locs hM hp => ?_)
            obtain ⟨rfl, rfl⟩ := hp
            refine lv_istore_n (lv' := [(3, .int (fTurn (eTu en) xn)), (0, .ref (gA g 0)), (1, .int (nI k)), (2, .int (nI i))]) hx hb dX11_pass_52 rfl hl (by decide) rfl (fun ls hl => ?_)
            refine lv_aload_n hx hb dX11_pass_53 rfl (lv_at hl 1 rfl) ?_
            refine r_get (T := TX11) (N := 7) (ci := 11) (v := .ref (gA g 3)) X hM iX11 rfl 1 (by decide) q_177 (Or.inl rfl) (mup_r (X.2.ne (i := 0) (j := 3) (by decide) (by decide) (by decide)) (mup_r (X.2.ne (i := 0) (j := 4) (by decide) (by decide) (by decide)) h0)) rfl dX11_pass_54 ?_
            refine r_get (T := TX4) (N := 14) (ci := 4) (v := .ref (gA g 4)) X hM iX4 rfl 4 (by decide) q_104 (Or.inl rfl) (mup_s _ _ _) rfl dX11_pass_57 ?_
            refine lv_iload_n hx hb dX11_pass_60 rfl (lv_at hl 0 rfl) ?_
            refine K_i (G_S (As := [.ref (gA g 4), .int (fTurn (eTu en) xn)]) (rest := []) X hM (c_X11_at l g _ (gA g 4) 2 xf (fTurn (eTu en) xn) (mup_r (X.2.ne (i := 4) (j := 3) (by decide) (by decide) (by decide)) (mup_s _ _ _)) (by decide)) lk_X11_113 rfl hl.1 rfl (Nat.le_of_ble_eq_true rfl) (by decide) dX11_pass_61 ⟨Nat.le_of_ble_eq_true rfl, Nat.le_of_ble_eq_true rfl⟩) hM (fun r M1 H locs hM hp => ?_)
            obtain ⟨rfl, rfl⟩ := hp
            refine lv_aload_n hx hb dX11_pass_64 rfl (lv_at hl 1 rfl) ?_
            refine r_get (T := TX11) (N := 7) (ci := 11) (v := .ref (gA g 3)) X hM iX11 rfl 1 (by decide) q_177 (Or.inl rfl) (mup_r (X.2.ne (i := 0) (j := 3) (by decide) (by decide) (by decide)) (mup_r (X.2.ne (i := 0) (j := 4) (by decide) (by decide) (by decide)) h0)) rfl dX11_pass_65 ?_
            refine lv_iload_n hx hb dX11_pass_68 rfl (lv_at hl 0 rfl) ?_
            refine lv_aload_n hx hb dX11_pass_69 rfl (lv_at hl 1 rfl) ?_
            refine r_get (T := TX11) (N := 7) (ci := 11) (v := .ref (gA g 3)) X hM iX11 rfl 1 (by decide) q_177 (Or.inl rfl) (mup_r (X.2.ne (i := 0) (j := 3) (by decide) (by decide) (by decide)) (mup_r (X.2.ne (i := 0) (j := 4) (by decide) (by decide) (by decide)) h0)) rfl dX11_pass_70 ?_
            refine r_get (T := TX4) (N := 14) (ci := 4) (v := .int xn) X hM iX4 rfl 0 (by decide) q_96 (Or.inl rfl) (mup_s _ _ _) rfl dX11_pass_73 ?_
            refine lv_aload_n hx hb dX11_pass_76 rfl (lv_at hl 1 rfl) ?_
            refine r_get (T := TX11) (N := 7) (ci := 11) (v := .ref (gA g 3)) X hM iX11 rfl 1 (by decide) q_177 (Or.inl rfl) (mup_r (X.2.ne (i := 0) (j := 3) (by decide) (by decide) (by decide)) (mup_r (X.2.ne (i := 0) (j := 4) (by decide) (by decide) (by decide)) h0)) rfl dX11_pass_77 ?_
            refine r_get (T := TX4) (N := 14) (ci := 4) (v := .int (eHi en)) X hM iX4 rfl 3 (by decide) q_102 (Or.inl rfl) (mup_s _ _ _) rfl dX11_pass_80 ?_
            refine lv_aload_n hx hb dX11_pass_83 rfl (lv_at hl 1 rfl) ?_
            refine r_get (T := TX11) (N := 7) (ci := 11) (v := .ref (gA g 3)) X hM iX11 rfl 1 (by decide) q_177 (Or.inl rfl) (mup_r (X.2.ne (i := 0) (j := 3) (by decide) (by decide) (by decide)) (mup_r (X.2.ne (i := 0) (j := 4) (by decide) (by decide) (by decide)) h0)) rfl dX11_pass_84 ?_
            refine r_get (T := TX4) (N := 14) (ci := 4) (v := .ref (gA g 9)) X hM iX4 rfl 9 (by decide) q_113 (Or.inl rfl) (mup_s _ _ _) rfl dX11_pass_87 ?_
            refine r_get (T := TX6) (N := 6) (ci := 6) (v := .int (eCl en)) X hM iX6 rfl 5 (by decide) q_79 (Or.inl rfl) (mup_r (X.2.ne (i := 9) (j := 3) (by decide) (by decide) (by decide)) (mup_r (X.2.ne (i := 9) (j := 4) (by decide) (by decide) (by decide)) h9)) rfl dX11_pass_90 ?_
            refine K_i (G_V (As := [.int (fTurn (eTu en) xn), .int xn, .int (eHi en), .int (eCl en)]) (rest := [.int (fAt 2 xf (fTurn (eTu en) xn))]) X hM (c_X4_hasFor l g _ en xn (eSk en) (eHi en) (fTurn (eTu en) xn) xn (eHi en) (eCl en) (mup_s _ _ _) (mup_r (X.2.ne (i := 5) (j := 3) (by decide) (by decide) (by decide)) (mup_r (X.2.ne (i := 5) (j := 4) (by decide) (by decide) (by decide)) h5)) (mup_r (X.2.ne (i := 6) (j := 3) (by decide) (by decide) (by decide)) (mup_r (X.2.ne (i := 6) (j := 4) (by decide) (by decide) (by decide)) h6)) (mup_r (X.2.ne (i := 7) (j := 3) (by decide) (by decide) (by decide)) (mup_r (X.2.ne (i := 7) (j := 4) (by decide) (by decide) (by decide)) h7)) (mup_r (X.2.ne (i := 8) (j := 3) (by decide) (by decide) (by decide)) (mup_r (X.2.ne (i := 8) (j := 4) (by decide) (by decide) (by decide)) h8)) (mup_r (X.2.ne (i := 9) (j := 3) (by decide) (by decide) (by decide)) (mup_r (X.2.ne (i := 9) (j := 4) (by decide) (by decide) (by decide)) h9)) (mup_r (X.2.ne (i := 10) (j := 3) (by decide) (by decide) (by decide)) (mup_r (X.2.ne (i := 10) (j := 4) (by decide) (by decide) (by decide)) h10)) (mup_r (X.2.ne (i := 11) (j := 3) (by decide) (by decide) (by decide)) (mup_r (X.2.ne (i := 11) (j := 4) (by decide) (by decide) (by decide)) h11)) (mup_r (X.2.ne (i := 12) (j := 3) (by decide) (by decide) (by decide)) (mup_r (X.2.ne (i := 12) (j := 4) (by decide) (by decide) (by decide)) h12)) (EnOk.up (EnOk.up hE h4 nostA) (mup_r (X.2.ne (i := 3) (j := 4) (by decide) (by decide) (by decide)) h3) (nostO (by decide)))) lk_X11_171 (mup_s _ _ _) rfl rfl hl.1 rfl (Nat.le_of_ble_eq_true rfl) (by decide) dX11_pass_93 ⟨Nat.le_of_ble_eq_true rfl, Nat.le_of_ble_eq_true rfl⟩) hM (fun r M1 H locs hM hp => ?_)
            obtain ⟨rfl, rfl⟩ := hp
            refine lv_iadd hx hb dX11_pass_96 ?_
            refine lv_istore (lv' := [(4, .int ((fAt 2 xf (fTurn (eTu en) xn)) + (fHas en (fTurn (eTu en) xn) xn (eHi en) (eCl en)))), (3, .int (fTurn (eTu en) xn)), (0, .ref (gA g 0)), (1, .int (nI k)), (2, .int (nI i))]) hx hb dX11_pass_97 hl (by decide) rfl (fun ls hl => ?_)
            refine lv_aload_n hx hb dX11_pass_99 rfl (lv_at hl 2 rfl) ?_
            refine r_get (T := TX11) (N := 7) (ci := 11) (v := .ref (gA g 3)) X hM iX11 rfl 1 (by decide) q_177 (Or.inl rfl) (mup_r (X.2.ne (i := 0) (j := 3) (by decide) (by decide) (by decide)) (mup_r (X.2.ne (i := 0) (j := 4) (by decide) (by decide) (by decide)) h0)) rfl dX11_pass_100 ?_
            refine r_get (T := TX4) (N := 14) (ci := 4) (v := .ref (gA g 4)) X hM iX4 rfl 4 (by decide) q_104 (Or.inl rfl) (mup_s _ _ _) rfl dX11_pass_103 ?_
            refine lv_iload_n hx hb dX11_pass_106 rfl (lv_at hl 1 rfl) ?_
            refine lv_iload hx hb dX11_pass_107 (lv_at hl 0 rfl) ?_
            refine lv_ldc (v := 9999999) hx hb X.1.2.2.2.1 (X.1.2.2.2.2 _ q_608) dX11_pass_109 ?_
            refine r_min X hl.1 q_339 q_340 q_3 q_341 (by decide) (Nat.le_of_ble_eq_true rfl) (Nat.le_of_ble_eq_true rfl) (Nat.le_of_ble_eq_true rfl) dX11_pass_111 ?_
            refine K_v (G_S (As := [.ref (gA g 4), .int (fTurn (eTu en) xn), .int (if 9999999 < (fAt 2 xf (fTurn (eTu en) xn)) + (fHas en (fTurn (eTu en) xn) xn (eHi en) (eCl en)) then 9999999 else (fAt 2 xf (fTurn (eTu en) xn)) + (fHas en (fTurn (eTu en) xn) xn (eHi en) (eCl en)))]) (rest := []) X hM (c_X11_put l g _ (gA g 4) 2 xf (fTurn (eTu en) xn) (if 9999999 < (fAt 2 xf (fTurn (eTu en) xn)) + (fHas en (fTurn (eTu en) xn) xn (eHi en) (eCl en)) then 9999999 else (fAt 2 xf (fTurn (eTu en) xn)) + (fHas en (fTurn (eTu en) xn) xn (eHi en) (eCl en))) (mup_r (X.2.ne (i := 4) (j := 3) (by decide) (by decide) (by decide)) (mup_s _ _ _)) (by decide)) lk_X11_181 rfl hl.1 rfl (Nat.le_of_ble_eq_true rfl) (by decide) dX11_pass_114 ⟨Nat.le_of_ble_eq_true rfl, Nat.le_of_ble_eq_true rfl⟩) hM (fun M1 H locs hM hp => ?_)
            subst hp
            rw [mup_w _ _ _ (X.2.ne (i := 3) (j := 4) (by decide) (by decide) (by decide)), mup_i] at hM
            have hM : MW g (mup (mup M (gA g 4) (aI g 2 (fPut 2 xf (fTurn (eTu en) xn) (if 9999999 < (fAt 2 xf (fTurn (eTu en) xn)) + (fHas en (fTurn (eTu en) xn) xn (eHi en) (eCl en)) then 9999999 else (fAt 2 xf (fTurn (eTu en) xn)) + (fHas en (fTurn (eTu en) xn) xn (eHi en) (eCl en)))))) (gA g 3) (roofN g xn (nI (eL en)) (eSk en) (eHi en))) H locs := hM
            refine lv_aload_n hx hb dX11_pass_117 rfl (lv_at hl 2 rfl) ?_
            refine r_get (T := TX11) (N := 7) (ci := 11) (v := .ref (gA g 3)) X hM iX11 rfl 1 (by decide) q_177 (Or.inl rfl) (mup_r (X.2.ne (i := 0) (j := 3) (by decide) (by decide) (by decide)) (mup_r (X.2.ne (i := 0) (j := 4) (by decide) (by decide) (by decide)) h0)) rfl dX11_pass_118 ?_
            refine lv_dup hx hb dX11_pass_121 rfl ?_
            refine r_get (T := TX4) (N := 14) (ci := 4) (v := .int xn) X hM iX4 rfl 0 (by decide) q_96 (Or.inl rfl) (mup_s _ _ _) rfl dX11_pass_122 ?_
            refine lv_iconst (v := 1) hx hb dX11_pass_125 (by decide) ?_
            refine lv_iadd hx hb dX11_pass_126 ?_
            refine r_put (T := TX4) (N := 14) (ci := 4) X hM iX4 tyX4 tyX4_ok nmX4 rfl 0 (by decide) q_96 rfl (Or.inl rfl) (mup_s _ _ _) rfl rfl (Nat.le_of_ble_eq_true rfl) dX11_pass_127 (fun H locs hM => ?_)
            rw [mup_i] at hM
            have hM : MW g (mup (mup M (gA g 4) (aI g 2 (fPut 2 xf (fTurn (eTu en) xn) (if 9999999 < (fAt 2 xf (fTurn (eTu en) xn)) + (fHas en (fTurn (eTu en) xn) xn (eHi en) (eCl en)) then 9999999 else (fAt 2 xf (fTurn (eTu en) xn)) + (fHas en (fTurn (eTu en) xn) xn (eHi en) (eCl en)))))) (gA g 3) (roofN g (xn + 1) (nI (eL en)) (eSk en) (eHi en))) H locs := hM
            refine lv_iinc (v := (nI i) + 1) (lv' := [(2, .int ((nI i) + 1)), (4, .int ((fAt 2 xf (fTurn (eTu en) xn)) + (fHas en (fTurn (eTu en) xn) xn (eHi en) (eCl en)))), (3, .int (fTurn (eTu en) xn)), (0, .ref (gA g 0)), (1, .int (nI k))]) hx hb dX11_pass_130 hl (k := 4) rfl rfl (by decide) rfl (fun ls hl => ?_)
            refine lv_goto (tgt := 33) hx hb dX11_pass_133 (by decide) ?_
            exact ih (i + 1) (xn + 1) (fPut 2 xf (fTurn (eTu en) xn) (if 9999999 < (fAt 2 xf (fTurn (eTu en) xn)) + (fHas en (fTurn (eTu en) xn) xn (eHi en) (eCl en)) then 9999999 else (fAt 2 xf (fTurn (eTu en) xn)) + (fHas en (fTurn (eTu en) xn) xn (eHi en) (eCl en)))) (by omega) (by rw [pasN, ← kp]; rfl) _ _ hM _ ((by rw [← nI_1]; exact lv_sub hl [3, 4, 0] rfl)) (by omega)
      exact L33 (k + 1) 0 (eNi en) (eSe en) (Nat.zero_le _) rfl _ _ (by show MW g (mup (mup M (gA g 4) (aI g 2 (eSe en))) (gA g 3) (roofN g (eNi en) (nI (eL en)) (eSk en) (eHi en))) _ _; rw [mup_id h4, mup_id h3]; exact hM) _ (lv_sub hl [1, 2, 0] rfl) (by first | exact Nat.lt_succ_self _ | omega)
    · skip
      refine lv_bipush (v := -3) hx hb dX11_pass_28 (by decide) ?_
      have e9 : opPass en (nI k) = (-3, eNi en, eSe en) := by
        unfold opPass; (first | rw [if_pos c_1] | rw [if_neg c_1] | skip); (first | rw [if_pos c_2] | rw [if_neg c_2] | skip); all_goals first | rfl | (simp only [if_true])
      exact R_i X hr hk hM ⟨(by rw [e9]), (by rw [e9] <;> first | rfl | (dsimp only; done) | (dsimp only; simp only [mup_id h4, mup_id h3]; done) | (simp only [mup_id h4, mup_id h3]; done) | (rw [mup_id h4, mup_id h3]) | (dsimp only; rw [mup_id h4, mup_id h3]))⟩ dX11_pass_30
  · skip
    refine lv_bipush (v := -2) hx hb dX11_pass_10 (by decide) ?_
    have e9 : opPass en n = (-2, eNi en, eSe en) := by
      unfold opPass; (first | rw [if_pos c_1] | rw [if_neg c_1] | skip); all_goals first | rfl | (simp only [if_true])
    exact R_i X hr hk hM ⟨(by rw [e9]), (by rw [e9] <;> first | rfl | (dsimp only; done) | (dsimp only; simp only [mup_id h4, mup_id h3]; done) | (simp only [mup_id h4, mup_id h3]; done) | (rw [mup_id h4, mup_id h3]) | (dsimp only; rw [mup_id h4, mup_id h3]))⟩ dX11_pass_12
set_option maxHeartbeats 4000000 in
set_option maxRecDepth 100000 in
theorem c_X11_note (l : Launch) (g : Gp) (M : Mem) (ik : Int32) (en : En) (nc : Int32) (nf : Nat → Int32) (x n u : Int32) (h0 : M (gA g 0) = some (custE g ik)) (h3 : M (gA g 3) = some (roofN g (eNi en) (nI (eL en)) (eSk en) (eHi en))) (h5 : M (gA g 5) = some (aS g 6 (eS en))) (h15 : M (gA g 15) = some (rowsE (gA g 16) 6 3 nc)) (h16 : M (gA g 16) = some (aI g 18 nf)) (hE : EnOk g M en) : Met l yX11_note (wsM yX11_note cX11_note 4 (some .int)) (rmD 3 0 0) (Pre g M [.ref (gA g 0), .int x, .int n, .int u]) (Qi g (fun r M1 => ((opNote en nc nf x n u).1) = r ∧ mup (mup M (gA g 16) (aI g 18 ((opNote en nc nf x n u).2.2))) (gA g 15) (rowsE (gA g 16) 6 3 ((opNote en nc nf x n u).2.1)) = M1)) 0 0 (gF g) := M_start (by decide +kernel) (Nat.le_of_ble_eq_true rfl) fun p e s m args below meth c ls X hr hk hnm hM hl => by
  have X : Cx g p m c cX11_note 4 s args RX11 := X
  have hx := X.1.1
  have hb := X.1.2.1
  have hl : lv_has ls 4 [(0, .ref (gA g 0)), (1, .int x), (2, .int n), (3, .int u)] := hl
  refine lv_iload_n hx hb dX11_note_0 rfl (lv_at hl 1 rfl) ?_
  refine lv_iconst (v := -1) hx hb dX11_note_1 (by decide) ?_
  refine lv_icmp_ne (tgt := 16) hx hb dX11_note_2 (by decide) (fun c_1 => ?_) (fun c_1 => ?_)
  · skip
    refine lv_aload_n hx hb dX11_note_16 rfl (lv_at hl 0 rfl) ?_
    refine r_get (T := TX11) (N := 7) (ci := 11) (v := .ref (gA g 3)) X hM iX11 rfl 1 (by decide) q_177 (Or.inl rfl) h0 rfl dX11_note_17 ?_
    refine lv_iload_n hx hb dX11_note_20 rfl (lv_at hl 1 rfl) ?_
    refine K_q (G_V (As := [.int x]) (rest := []) X hM (c_X4_starAt l g _ en (eNi en) (eSk en) (eHi en) x h3 h5 ) lk_X11_98 h3 rfl rfl hl.1 rfl (Nat.le_of_ble_eq_true rfl) (by decide) dX11_note_21 ⟨Nat.le_of_ble_eq_true rfl, Nat.le_of_ble_eq_true rfl⟩) hM (fun r M1 H locs hM hp => ?_)
    obtain ⟨rfl, rfl⟩ := hp
    rcases fStar_cases hE (x) with ⟨e_j_2, h_j_2⟩ | ⟨j_2, h_j_2, x_j_2, e_j_2⟩
    · rw [e_j_2]
      have il_j_2 := fIsL_0 h_j_2
      refine lv_ifnonnullN hx hb dX11_note_24 ?_
      refine lv_iconst (v := -1) hx hb dX11_note_27 (by decide) ?_
      have e9 : opNote en nc nf x n u = (-1, nc, nf) := by
        unfold opNote; (first | rw [if_pos c_1] | rw [if_neg c_1] | skip); (first | rw [if_pos il_j_2] | rw [if_neg il_j_2] | skip); all_goals first | rfl | (simp only [if_true])
      exact R_i X hr hk hM ⟨(by rw [e9]), (by rw [e9] <;> first | rfl | (dsimp only; done) | (dsimp only; simp only [mup_id h16, mup_id h15]; done) | (simp only [mup_id h16, mup_id h15]; done) | (rw [mup_id h16, mup_id h15]) | (dsimp only; rw [mup_id h16, mup_id h15]))⟩ dX11_note_28
    · rw [e_j_2]
      obtain ⟨s_j_2, m_j_2, hkd⟩ := hE.2.2 j_2 h_j_2
      have il_j_2 := fIsL_1n x_j_2 h_j_2 hE.1
      have jc_j_2 := clampj x_j_2 h_j_2 hE.1
      refine lv_ifnonnull (tgt := 29) hx hb dX11_note_24 (by decide) ?_
      refine lv_iload_n hx hb dX11_note_29 rfl (lv_at hl 2 rfl) ?_
      refine lv_iconst (v := 0) hx hb dX11_note_30 (by decide) ?_
      refine lv_bipush (v := 60) hx hb dX11_note_31 (by decide) ?_
      refine K_i (G_S (As := [.int n, .int 0, .int 60]) (rest := []) X hM (c_X11_isIn l g _ n 0 60  ) lk_X11_53 rfl hl.1 rfl (Nat.le_of_ble_eq_true rfl) (by decide) dX11_note_33 ⟨Nat.le_of_ble_eq_true rfl, Nat.le_of_ble_eq_true rfl⟩) hM (fun r M1 H locs hM hp => ?_)
      obtain ⟨rfl, rfl⟩ := hp
      refine lv_if_ne (tgt := 42) hx hb dX11_note_36 (by decide) (fun c_3 => ?_) (fun c_3 => ?_)
      · skip
        refine lv_aload_n hx hb dX11_note_42 rfl (lv_at hl 0 rfl) ?_
        refine r_get (T := TX11) (N := 7) (ci := 11) (v := .ref (gA g 3)) X hM iX11 rfl 1 (by decide) q_177 (Or.inl rfl) h0 rfl dX11_note_43 ?_
        refine r_get (T := TX4) (N := 14) (ci := 4) (v := .ref (gA g 15)) X hM iX4 rfl 11 (by decide) q_117 (Or.inl rfl) h3 rfl dX11_note_46 ?_
        refine K_i (G_V (As := []) (rest := []) X hM (c_X5_isFull l g _ (gA g 15) (gA g 16) 6 3 nc h15 ) lk_X11_57 h15 rfl rfl hl.1 rfl (Nat.le_of_ble_eq_true rfl) (by decide) dX11_note_49 ⟨Nat.le_of_ble_eq_true rfl, Nat.le_of_ble_eq_true rfl⟩) hM (fun r M1 H locs hM hp => ?_)
        obtain ⟨rfl, rfl⟩ := hp
        refine lv_if_eq (tgt := 60) hx hb dX11_note_52 (by decide) (fun c_4 => ?_) (fun c_4 => ?_)
        · skip
          have hq := full_0 c_4
          refine lv_aload_n hx hb dX11_note_60 rfl (lv_at hl 0 rfl) ?_
          refine r_get (T := TX11) (N := 7) (ci := 11) (v := .ref (gA g 3)) X hM iX11 rfl 1 (by decide) q_177 (Or.inl rfl) h0 rfl dX11_note_61 ?_
          refine r_get (T := TX4) (N := 14) (ci := 4) (v := .ref (gA g 15)) X hM iX4 rfl 11 (by decide) q_117 (Or.inl rfl) h3 rfl dX11_note_64 ?_
          refine lv_iload_n hx hb dX11_note_67 rfl (lv_at hl 1 rfl) ?_
          refine lv_iload_n hx hb dX11_note_68 rfl (lv_at hl 2 rfl) ?_
          refine lv_iload_n hx hb dX11_note_69 rfl (lv_at hl 3 rfl) ?_
          refine l_joinM (ls := ls) hM 78 (if u = 0 then 0 else 1) [.int n, .int x, .ref (gA g 15)] (fun H locs hM => ?_) (fun J70 => ?_)
          · skip
            refine K_i (G_V (As := [.int x, .int n, .int (if u = 0 then 0 else 1)]) (rest := []) X hM (c_X5_add l g _ (gA g 15) (gA g 16) 18 nf 6 3 nc x n (if u = 0 then 0 else 1) h15 h16 (by decide) (X.2.ne (i := 15) (j := 16) (by decide) (by decide) (by decide))) lk_X11_213 h15 rfl rfl hl.1 rfl (Nat.le_of_ble_eq_true rfl) (by decide) dX11_note_78 ⟨Nat.le_of_ble_eq_true rfl, Nat.le_of_ble_eq_true rfl⟩) hM (fun r M1 H locs hM hp => ?_)
            obtain ⟨rfl, rfl⟩ := hp
            have hM : MW g (mup (mup M (gA g 16) (aI g 18 (fPut 18 (fPut 18 (fPut 18 nf (nc * 3) x) (nc * 3 + 1) n) (nc * 3 + 2) (if u = 0 then 0 else 1)))) (gA g 15) (rowsE (gA g 16) 6 3 (nc + 1))) H locs := hM
            have e9 : opNote en nc nf x n u = (nc + 1, nc + 1, fPut 18 (fPut 18 (fPut 18 nf (nc * 3) x) (nc * 3 + 1) n) (nc * 3 + 2) (if u = 0 then 0 else 1)) := by
              unfold opNote; (try simp only [jc_j_2]); (first | rw [if_pos c_1] | rw [if_neg c_1] | skip); (first | rw [if_pos il_j_2] | rw [if_neg il_j_2] | skip); (first | rw [if_pos c_3] | rw [if_neg c_3] | skip); (first | rw [if_pos hq] | rw [if_neg hq] | skip); all_goals first | rfl | (simp only [if_true])
            exact R_i X hr hk hM ⟨(by rw [e9]), (by rw [e9] <;> first | rfl | (dsimp only; done) | (dsimp only; simp only [mup_id h16, mup_id h15]; done) | (simp only [mup_id h16, mup_id h15]; done))⟩ dX11_note_81
          refine lv_if_eq (tgt := 77) hx hb dX11_note_70 (by decide) (fun c_5 => ?_) (fun c_5 => ?_)
          · skip
            refine lv_iconst (v := 0) hx hb dX11_note_77 (by decide) ?_
            exact J70 _ _ _ hM (by (first | rw [if_pos c_5] | rw [if_neg c_5] | skip); all_goals (first | rfl | simp [*]))
          · skip
            refine lv_iconst (v := 1) hx hb dX11_note_73 (by decide) ?_
            refine lv_goto (tgt := 78) hx hb dX11_note_74 (by decide) ?_
            exact J70 _ _ _ hM (by (first | rw [if_pos c_5] | rw [if_neg c_5] | skip); all_goals (first | rfl | simp [*]))
        · skip
          have hq := full_1 c_4
          refine lv_bipush (v := -4) hx hb dX11_note_55 (by decide) ?_
          refine lv_goto (tgt := 81) hx hb dX11_note_57 (by decide) ?_
          have e9 : opNote en nc nf x n u = (-4, nc, nf) := by
            unfold opNote; (try simp only [jc_j_2]); (first | rw [if_pos c_1] | rw [if_neg c_1] | skip); (first | rw [if_pos il_j_2] | rw [if_neg il_j_2] | skip); (first | rw [if_pos c_3] | rw [if_neg c_3] | skip); (first | rw [if_pos hq] | rw [if_neg hq] | skip); all_goals first | rfl | (simp only [if_true])
          exact R_i X hr hk hM ⟨(by rw [e9]), (by rw [e9] <;> first | rfl | (dsimp only; done) | (dsimp only; simp only [mup_id h16, mup_id h15]; done) | (simp only [mup_id h16, mup_id h15]; done) | (rw [mup_id h16, mup_id h15]) | (dsimp only; rw [mup_id h16, mup_id h15]))⟩ dX11_note_81
      · skip
        refine lv_bipush (v := -2) hx hb dX11_note_39 (by decide) ?_
        have e9 : opNote en nc nf x n u = (-2, nc, nf) := by
          unfold opNote; (try simp only [jc_j_2]); (first | rw [if_pos c_1] | rw [if_neg c_1] | skip); (first | rw [if_pos il_j_2] | rw [if_neg il_j_2] | skip); (first | rw [if_pos c_3] | rw [if_neg c_3] | skip); all_goals first | rfl | (simp only [if_true])
        exact R_i X hr hk hM ⟨(by rw [e9]), (by rw [e9] <;> first | rfl | (dsimp only; done) | (dsimp only; simp only [mup_id h16, mup_id h15]; done) | (simp only [mup_id h16, mup_id h15]; done) | (rw [mup_id h16, mup_id h15]) | (dsimp only; rw [mup_id h16, mup_id h15]))⟩ dX11_note_41
  · skip
    refine lv_aload_n hx hb dX11_note_5 rfl (lv_at hl 0 rfl) ?_
    refine r_get (T := TX11) (N := 7) (ci := 11) (v := .ref (gA g 3)) X hM iX11 rfl 1 (by decide) q_177 (Or.inl rfl) h0 rfl dX11_note_6 ?_
    refine r_get (T := TX4) (N := 14) (ci := 4) (v := .ref (gA g 15)) X hM iX4 rfl 11 (by decide) q_117 (Or.inl rfl) h3 rfl dX11_note_9 ?_
    refine K_i (G_V (As := []) (rest := []) X hM (c_X5_clear l g _ (gA g 15) (gA g 16) 6 3 nc h15 ) lk_X11_73 h15 rfl rfl hl.1 rfl (Nat.le_of_ble_eq_true rfl) (by decide) dX11_note_12 ⟨Nat.le_of_ble_eq_true rfl, Nat.le_of_ble_eq_true rfl⟩) hM (fun r M1 H locs hM hp => ?_)
    obtain ⟨rfl, rfl⟩ := hp
    have hM : MW g (mup M (gA g 15) (rowsE (gA g 16) 6 3 0)) H locs := hM
    have e9 : opNote en nc nf x n u = (0, 0, nf) := by
      unfold opNote; (first | rw [if_pos c_1] | rw [if_neg c_1] | skip); all_goals first | rfl | (simp only [if_true])
    exact R_i X hr hk hM ⟨(by rw [e9]), (by rw [e9] <;> first | rfl | (dsimp only; done) | (dsimp only; simp only [mup_id h16, mup_id h15]; done) | (simp only [mup_id h16, mup_id h15]; done) | (rw [mup_id (mup_r (X.2.ne (i := 16) (j := 15) (by decide) (by decide) (by decide)) h16)]) | (dsimp only; rw [mup_id (mup_r (X.2.ne (i := 16) (j := 15) (by decide) (by decide) (by decide)) h16)]))⟩ dX11_note_15
set_option maxHeartbeats 4000000 in
set_option maxRecDepth 100000 in
theorem c_X11_plan (l : Launch) (g : Gp) (M : Mem) (ik : Int32) (en : En) (nc : Int32) (nf : Nat → Int32) (w x : Int32) (h0 : M (gA g 0) = some (custE g ik)) (h3 : M (gA g 3) = some (roofN g (eNi en) (nI (eL en)) (eSk en) (eHi en))) (h5 : M (gA g 5) = some (aS g 6 (eS en))) (h17 : M (gA g 17) = some (rowsE (gA g 18) 8 3 nc)) (h18 : M (gA g 18) = some (aI g 24 nf)) (hE : EnOk g M en) : Met l yX11_plan (wsM yX11_plan cX11_plan 3 (some .int)) (rmD 3 0 0) (Pre g M [.ref (gA g 0), .int w, .int x]) (Qi g (fun r M1 => ((opPlan en nc nf w x).1) = r ∧ mup (mup M (gA g 18) (aI g 24 ((opPlan en nc nf w x).2.2))) (gA g 17) (rowsE (gA g 18) 8 3 ((opPlan en nc nf w x).2.1)) = M1)) 0 0 (gF g) := M_start (by decide +kernel) (Nat.le_of_ble_eq_true rfl) fun p e s m args below meth c ls X hr hk hnm hM hl => by
  have X : Cx g p m c cX11_plan 3 s args RX11 := X
  have hx := X.1.1
  have hb := X.1.2.1
  have hl : lv_has ls 3 [(0, .ref (gA g 0)), (1, .int w), (2, .int x)] := hl
  refine lv_iload_n hx hb dX11_plan_0 rfl (lv_at hl 1 rfl) ?_
  refine lv_iconst (v := -1) hx hb dX11_plan_1 (by decide) ?_
  refine lv_icmp_ne (tgt := 16) hx hb dX11_plan_2 (by decide) (fun c_1 => ?_) (fun c_1 => ?_)
  · skip
    refine lv_iload_n hx hb dX11_plan_16 rfl (lv_at hl 1 rfl) ?_
    refine lv_iconst (v := 0) hx hb dX11_plan_17 (by decide) ?_
    refine lv_iconst (v := 2) hx hb dX11_plan_18 (by decide) ?_
    refine K_i (G_S (As := [.int w, .int 0, .int 2]) (rest := []) X hM (c_X11_isIn l g _ w 0 2  ) lk_X11_53 rfl hl.1 rfl (Nat.le_of_ble_eq_true rfl) (by decide) dX11_plan_19 ⟨Nat.le_of_ble_eq_true rfl, Nat.le_of_ble_eq_true rfl⟩) hM (fun r M1 H locs hM hp => ?_)
    obtain ⟨rfl, rfl⟩ := hp
    refine lv_if_eq (tgt := 40) hx hb dX11_plan_22 (by decide) (fun c_2 => ?_) (fun c_2 => ?_)
    · skip
      refine lv_iconst (v := -1) hx hb dX11_plan_40 (by decide) ?_
      have e9 : opPlan en nc nf w x = (-1, nc, nf) := by
        unfold opPlan; (first | rw [if_pos c_1] | rw [if_neg c_1] | skip); (first | rw [if_pos c_2] | rw [if_neg c_2] | skip); all_goals first | rfl | (simp only [if_true])
      exact R_i X hr hk hM ⟨(by rw [e9]), (by rw [e9] <;> first | rfl | (dsimp only; done) | (dsimp only; simp only [mup_id h18, mup_id h17]; done) | (simp only [mup_id h18, mup_id h17]; done) | (rw [mup_id h18, mup_id h17]) | (dsimp only; rw [mup_id h18, mup_id h17]))⟩ dX11_plan_41
    · skip
      refine lv_iload_n hx hb dX11_plan_25 rfl (lv_at hl 1 rfl) ?_
      refine lv_if_eq (tgt := 42) hx hb dX11_plan_26 (by decide) (fun c_3 => ?_) (fun c_3 => ?_)
      · skip
        refine lv_aload_n hx hb dX11_plan_42 rfl (lv_at hl 0 rfl) ?_
        refine r_get (T := TX11) (N := 7) (ci := 11) (v := .ref (gA g 3)) X hM iX11 rfl 1 (by decide) q_177 (Or.inl rfl) h0 rfl dX11_plan_43 ?_
        refine r_get (T := TX4) (N := 14) (ci := 4) (v := .ref (gA g 17)) X hM iX4 rfl 12 (by decide) q_119 (Or.inl rfl) h3 rfl dX11_plan_46 ?_
        refine K_i (G_V (As := []) (rest := []) X hM (c_X5_isFull l g _ (gA g 17) (gA g 18) 8 3 nc h17 ) lk_X11_57 h17 rfl rfl hl.1 rfl (Nat.le_of_ble_eq_true rfl) (by decide) dX11_plan_49 ⟨Nat.le_of_ble_eq_true rfl, Nat.le_of_ble_eq_true rfl⟩) hM (fun r M1 H locs hM hp => ?_)
        obtain ⟨rfl, rfl⟩ := hp
        refine lv_if_eq (tgt := 60) hx hb dX11_plan_52 (by decide) (fun c_4 => ?_) (fun c_4 => ?_)
        · skip
          have hq := full_0 c_4
          refine lv_aload_n hx hb dX11_plan_60 rfl (lv_at hl 0 rfl) ?_
          refine r_get (T := TX11) (N := 7) (ci := 11) (v := .ref (gA g 3)) X hM iX11 rfl 1 (by decide) q_177 (Or.inl rfl) h0 rfl dX11_plan_61 ?_
          refine r_get (T := TX4) (N := 14) (ci := 4) (v := .ref (gA g 17)) X hM iX4 rfl 12 (by decide) q_119 (Or.inl rfl) h3 rfl dX11_plan_64 ?_
          refine lv_iload_n hx hb dX11_plan_67 rfl (lv_at hl 1 rfl) ?_
          refine lv_iload_n hx hb dX11_plan_68 rfl (lv_at hl 1 rfl) ?_
          refine lv_if_ne (tgt := 76) hx hb dX11_plan_69 (by decide) (fun c_5 => ?_) (fun c_5 => ?_)
          · skip
            exact absurd c_3 c_5
          · skip
            refine lv_iconst (v := 0) hx hb dX11_plan_72 (by decide) ?_
            refine lv_goto (tgt := 77) hx hb dX11_plan_73 (by decide) ?_
            refine lv_iconst (v := 0) hx hb dX11_plan_77 (by decide) ?_
            refine K_i (G_V (As := [.int w, .int 0, .int 0]) (rest := []) X hM (c_X5_add l g _ (gA g 17) (gA g 18) 24 nf 8 3 nc w 0 0 h17 h18 (by decide) (X.2.ne (i := 17) (j := 18) (by decide) (by decide) (by decide))) lk_X11_213 h17 rfl rfl hl.1 rfl (Nat.le_of_ble_eq_true rfl) (by decide) dX11_plan_78 ⟨Nat.le_of_ble_eq_true rfl, Nat.le_of_ble_eq_true rfl⟩) hM (fun r M1 H locs hM hp => ?_)
            obtain ⟨rfl, rfl⟩ := hp
            have hM : MW g (mup (mup M (gA g 18) (aI g 24 (fPut 24 (fPut 24 (fPut 24 nf (nc * 3) w) (nc * 3 + 1) 0) (nc * 3 + 2) 0))) (gA g 17) (rowsE (gA g 18) 8 3 (nc + 1))) H locs := hM
            have e9 : opPlan en nc nf w x = (nc + 1, nc + 1, fPut 24 (fPut 24 (fPut 24 nf (nc * 3) w) (nc * 3 + 1) 0) (nc * 3 + 2) 0) := by
              unfold opPlan; (first | rw [if_pos c_1] | rw [if_neg c_1] | skip); (first | rw [if_pos c_2] | rw [if_neg c_2] | skip); (first | rw [if_pos c_3] | rw [if_neg c_3] | skip); (first | rw [if_pos hq] | rw [if_neg hq] | skip); (first | rw [if_pos c_5] | rw [if_neg c_5] | skip); all_goals first | rfl | (simp only [if_true])
            exact R_i X hr hk hM ⟨(by rw [e9]), (by rw [e9] <;> first | rfl | (dsimp only; done) | (dsimp only; simp only [mup_id h18, mup_id h17]; done) | (simp only [mup_id h18, mup_id h17]; done))⟩ dX11_plan_81
        · skip
          have hq := full_1 c_4
          refine lv_bipush (v := -4) hx hb dX11_plan_55 (by decide) ?_
          refine lv_goto (tgt := 81) hx hb dX11_plan_57 (by decide) ?_
          have e9 : opPlan en nc nf w x = (-4, nc, nf) := by
            unfold opPlan; (first | rw [if_pos c_1] | rw [if_neg c_1] | skip); (first | rw [if_pos c_2] | rw [if_neg c_2] | skip); (first | rw [if_pos c_3] | rw [if_neg c_3] | skip); (first | rw [if_pos hq] | rw [if_neg hq] | skip); all_goals first | rfl | (simp only [if_true])
          exact R_i X hr hk hM ⟨(by rw [e9]), (by rw [e9] <;> first | rfl | (dsimp only; done) | (dsimp only; simp only [mup_id h18, mup_id h17]; done) | (simp only [mup_id h18, mup_id h17]; done) | (rw [mup_id h18, mup_id h17]) | (dsimp only; rw [mup_id h18, mup_id h17]))⟩ dX11_plan_81
      · skip
        refine lv_aload_n hx hb dX11_plan_29 rfl (lv_at hl 0 rfl) ?_
        refine r_get (T := TX11) (N := 7) (ci := 11) (v := .ref (gA g 3)) X hM iX11 rfl 1 (by decide) q_177 (Or.inl rfl) h0 rfl dX11_plan_30 ?_
        refine lv_iload_n hx hb dX11_plan_33 rfl (lv_at hl 2 rfl) ?_
        refine K_q (G_V (As := [.int x]) (rest := []) X hM (c_X4_starAt l g _ en (eNi en) (eSk en) (eHi en) x h3 h5 ) lk_X11_98 h3 rfl rfl hl.1 rfl (Nat.le_of_ble_eq_true rfl) (by decide) dX11_plan_34 ⟨Nat.le_of_ble_eq_true rfl, Nat.le_of_ble_eq_true rfl⟩) hM (fun r M1 H locs hM hp => ?_)
        obtain ⟨rfl, rfl⟩ := hp
        rcases fStar_cases hE (x) with ⟨e_j_6, h_j_6⟩ | ⟨j_6, h_j_6, x_j_6, e_j_6⟩
        · rw [e_j_6]
          have il_j_6 := fIsL_0 h_j_6
          refine lv_ifnonnullN hx hb dX11_plan_37 ?_
          refine lv_iconst (v := -1) hx hb dX11_plan_40 (by decide) ?_
          have e9 : opPlan en nc nf w x = (-1, nc, nf) := by
            unfold opPlan; (first | rw [if_pos c_1] | rw [if_neg c_1] | skip); (first | rw [if_pos c_2] | rw [if_neg c_2] | skip); (first | rw [if_pos c_3] | rw [if_neg c_3] | skip); (first | rw [if_pos il_j_6] | rw [if_neg il_j_6] | skip); all_goals first | rfl | (simp only [if_true])
          exact R_i X hr hk hM ⟨(by rw [e9]), (by rw [e9] <;> first | rfl | (dsimp only; done) | (dsimp only; simp only [mup_id h18, mup_id h17]; done) | (simp only [mup_id h18, mup_id h17]; done) | (rw [mup_id h18, mup_id h17]) | (dsimp only; rw [mup_id h18, mup_id h17]))⟩ dX11_plan_41
        · rw [e_j_6]
          obtain ⟨s_j_6, m_j_6, hkd⟩ := hE.2.2 j_6 h_j_6
          have il_j_6 := fIsL_1n x_j_6 h_j_6 hE.1
          have jc_j_6 := clampj x_j_6 h_j_6 hE.1
          refine lv_ifnonnull (tgt := 42) hx hb dX11_plan_37 (by decide) ?_
          refine lv_aload_n hx hb dX11_plan_42 rfl (lv_at hl 0 rfl) ?_
          refine r_get (T := TX11) (N := 7) (ci := 11) (v := .ref (gA g 3)) X hM iX11 rfl 1 (by decide) q_177 (Or.inl rfl) h0 rfl dX11_plan_43 ?_
          refine r_get (T := TX4) (N := 14) (ci := 4) (v := .ref (gA g 17)) X hM iX4 rfl 12 (by decide) q_119 (Or.inl rfl) h3 rfl dX11_plan_46 ?_
          refine K_i (G_V (As := []) (rest := []) X hM (c_X5_isFull l g _ (gA g 17) (gA g 18) 8 3 nc h17 ) lk_X11_57 h17 rfl rfl hl.1 rfl (Nat.le_of_ble_eq_true rfl) (by decide) dX11_plan_49 ⟨Nat.le_of_ble_eq_true rfl, Nat.le_of_ble_eq_true rfl⟩) hM (fun r M1 H locs hM hp => ?_)
          obtain ⟨rfl, rfl⟩ := hp
          refine lv_if_eq (tgt := 60) hx hb dX11_plan_52 (by decide) (fun c_7 => ?_) (fun c_7 => ?_)
          · skip
            have hq := full_0 c_7
            refine lv_aload_n hx hb dX11_plan_60 rfl (lv_at hl 0 rfl) ?_
            refine r_get (T := TX11) (N := 7) (ci := 11) (v := .ref (gA g 3)) X hM iX11 rfl 1 (by decide) q_177 (Or.inl rfl) h0 rfl dX11_plan_61 ?_
            refine r_get (T := TX4) (N := 14) (ci := 4) (v := .ref (gA g 17)) X hM iX4 rfl 12 (by decide) q_119 (Or.inl rfl) h3 rfl dX11_plan_64 ?_
            refine lv_iload_n hx hb dX11_plan_67 rfl (lv_at hl 1 rfl) ?_
            refine lv_iload_n hx hb dX11_plan_68 rfl (lv_at hl 1 rfl) ?_
            refine lv_if_ne (tgt := 76) hx hb dX11_plan_69 (by decide) (fun c_8 => ?_) (fun c_8 => ?_)
            · skip
              refine lv_iload_n hx hb dX11_plan_76 rfl (lv_at hl 2 rfl) ?_
              refine lv_iconst (v := 0) hx hb dX11_plan_77 (by decide) ?_
              refine K_i (G_V (As := [.int w, .int x, .int 0]) (rest := []) X hM (c_X5_add l g _ (gA g 17) (gA g 18) 24 nf 8 3 nc w x 0 h17 h18 (by decide) (X.2.ne (i := 17) (j := 18) (by decide) (by decide) (by decide))) lk_X11_213 h17 rfl rfl hl.1 rfl (Nat.le_of_ble_eq_true rfl) (by decide) dX11_plan_78 ⟨Nat.le_of_ble_eq_true rfl, Nat.le_of_ble_eq_true rfl⟩) hM (fun r M1 H locs hM hp => ?_)
              obtain ⟨rfl, rfl⟩ := hp
              have hM : MW g (mup (mup M (gA g 18) (aI g 24 (fPut 24 (fPut 24 (fPut 24 nf (nc * 3) w) (nc * 3 + 1) x) (nc * 3 + 2) 0))) (gA g 17) (rowsE (gA g 18) 8 3 (nc + 1))) H locs := hM
              have e9 : opPlan en nc nf w x = (nc + 1, nc + 1, fPut 24 (fPut 24 (fPut 24 nf (nc * 3) w) (nc * 3 + 1) x) (nc * 3 + 2) 0) := by
                unfold opPlan; (try simp only [jc_j_6]); (first | rw [if_pos c_1] | rw [if_neg c_1] | skip); (first | rw [if_pos c_2] | rw [if_neg c_2] | skip); (first | rw [if_pos c_3] | rw [if_neg c_3] | skip); (first | rw [if_pos il_j_6] | rw [if_neg il_j_6] | skip); (first | rw [if_pos hq] | rw [if_neg hq] | skip); (first | rw [if_pos c_8] | rw [if_neg c_8] | skip); all_goals first | rfl | (simp only [if_true])
              exact R_i X hr hk hM ⟨(by rw [e9]), (by rw [e9] <;> first | rfl | (dsimp only; done) | (dsimp only; simp only [mup_id h18, mup_id h17]; done) | (simp only [mup_id h18, mup_id h17]; done))⟩ dX11_plan_81
            · skip
              exact absurd c_8 c_3
          · skip
            have hq := full_1 c_7
            refine lv_bipush (v := -4) hx hb dX11_plan_55 (by decide) ?_
            refine lv_goto (tgt := 81) hx hb dX11_plan_57 (by decide) ?_
            have e9 : opPlan en nc nf w x = (-4, nc, nf) := by
              unfold opPlan; (try simp only [jc_j_6]); (first | rw [if_pos c_1] | rw [if_neg c_1] | skip); (first | rw [if_pos c_2] | rw [if_neg c_2] | skip); (first | rw [if_pos c_3] | rw [if_neg c_3] | skip); (first | rw [if_pos il_j_6] | rw [if_neg il_j_6] | skip); (first | rw [if_pos hq] | rw [if_neg hq] | skip); all_goals first | rfl | (simp only [if_true])
            exact R_i X hr hk hM ⟨(by rw [e9]), (by rw [e9] <;> first | rfl | (dsimp only; done) | (dsimp only; simp only [mup_id h18, mup_id h17]; done) | (simp only [mup_id h18, mup_id h17]; done) | (rw [mup_id h18, mup_id h17]) | (dsimp only; rw [mup_id h18, mup_id h17]))⟩ dX11_plan_81
  · skip
    refine lv_aload_n hx hb dX11_plan_5 rfl (lv_at hl 0 rfl) ?_
    refine r_get (T := TX11) (N := 7) (ci := 11) (v := .ref (gA g 3)) X hM iX11 rfl 1 (by decide) q_177 (Or.inl rfl) h0 rfl dX11_plan_6 ?_
    refine r_get (T := TX4) (N := 14) (ci := 4) (v := .ref (gA g 17)) X hM iX4 rfl 12 (by decide) q_119 (Or.inl rfl) h3 rfl dX11_plan_9 ?_
    refine K_i (G_V (As := []) (rest := []) X hM (c_X5_clear l g _ (gA g 17) (gA g 18) 8 3 nc h17 ) lk_X11_73 h17 rfl rfl hl.1 rfl (Nat.le_of_ble_eq_true rfl) (by decide) dX11_plan_12 ⟨Nat.le_of_ble_eq_true rfl, Nat.le_of_ble_eq_true rfl⟩) hM (fun r M1 H locs hM hp => ?_)
    obtain ⟨rfl, rfl⟩ := hp
    have hM : MW g (mup M (gA g 17) (rowsE (gA g 18) 8 3 0)) H locs := hM
    have e9 : opPlan en nc nf w x = (0, 0, nf) := by
      unfold opPlan; (first | rw [if_pos c_1] | rw [if_neg c_1] | skip); all_goals first | rfl | (simp only [if_true])
    exact R_i X hr hk hM ⟨(by rw [e9]), (by rw [e9] <;> first | rfl | (dsimp only; done) | (dsimp only; simp only [mup_id h18, mup_id h17]; done) | (simp only [mup_id h18, mup_id h17]; done) | (rw [mup_id (mup_r (X.2.ne (i := 18) (j := 17) (by decide) (by decide) (by decide)) h18)]) | (dsimp only; rw [mup_id (mup_r (X.2.ne (i := 18) (j := 17) (by decide) (by decide) (by decide)) h18)]))⟩ dX11_plan_15
set_option maxHeartbeats 4000000 in
set_option maxRecDepth 100000 in
theorem c_X11_book (l : Launch) (g : Gp) (M : Mem) (ik yn yl yk yh nc : Int32) (nf : Nat → Int32) (n ho : Int32) (h0 : M (gA g 0) = some (custE g ik)) (h3 : M (gA g 3) = some (roofN g yn yl yk yh)) (h19 : M (gA g 19) = some (rowsE (gA g 20) 8 3 nc)) (h20 : M (gA g 20) = some (aI g 24 nf)) : Met l yX11_book (wsM yX11_book cX11_book 3 (some .int)) (rmD 3 0 0) (Pre g M [.ref (gA g 0), .int n, .int ho]) (Qi g (fun r M1 => ((opBook nc nf n ho).1) = r ∧ mup (mup M (gA g 20) (aI g 24 ((opBook nc nf n ho).2.2))) (gA g 19) (rowsE (gA g 20) 8 3 ((opBook nc nf n ho).2.1)) = M1)) 0 0 (gF g) := M_start (by decide +kernel) (Nat.le_of_ble_eq_true rfl) fun p e s m args below meth c ls X hr hk hnm hM hl => by
  have X : Cx g p m c cX11_book 3 s args RX11 := X
  have hx := X.1.1
  have hb := X.1.2.1
  have hl : lv_has ls 3 [(0, .ref (gA g 0)), (1, .int n), (2, .int ho)] := hl
  refine lv_iload_n hx hb dX11_book_0 rfl (lv_at hl 1 rfl) ?_
  refine lv_iconst (v := -1) hx hb dX11_book_1 (by decide) ?_
  refine lv_icmp_ne (tgt := 16) hx hb dX11_book_2 (by decide) (fun c_1 => ?_) (fun c_1 => ?_)
  · skip
    refine lv_iload_n hx hb dX11_book_16 rfl (lv_at hl 2 rfl) ?_
    refine lv_iconst (v := 0) hx hb dX11_book_17 (by decide) ?_
    refine lv_iconst (v := 1) hx hb dX11_book_18 (by decide) ?_
    refine K_i (G_S (As := [.int ho, .int 0, .int 1]) (rest := []) X hM (c_X11_isIn l g _ ho 0 1  ) lk_X11_53 rfl hl.1 rfl (Nat.le_of_ble_eq_true rfl) (by decide) dX11_book_19 ⟨Nat.le_of_ble_eq_true rfl, Nat.le_of_ble_eq_true rfl⟩) hM (fun r M1 H locs hM hp => ?_)
    obtain ⟨rfl, rfl⟩ := hp
    refine lv_if_ne (tgt := 27) hx hb dX11_book_22 (by decide) (fun c_2 => ?_) (fun c_2 => ?_)
    · skip
      refine lv_iload_n hx hb dX11_book_27 rfl (lv_at hl 1 rfl) ?_
      refine lv_iconst (v := 0) hx hb dX11_book_28 (by decide) ?_
      refine lv_bipush (v := 60) hx hb dX11_book_29 (by decide) ?_
      refine K_i (G_S (As := [.int n, .int 0, .int 60]) (rest := []) X hM (c_X11_isIn l g _ n 0 60  ) lk_X11_53 rfl hl.1 rfl (Nat.le_of_ble_eq_true rfl) (by decide) dX11_book_31 ⟨Nat.le_of_ble_eq_true rfl, Nat.le_of_ble_eq_true rfl⟩) hM (fun r M1 H locs hM hp => ?_)
      obtain ⟨rfl, rfl⟩ := hp
      refine lv_if_ne (tgt := 40) hx hb dX11_book_34 (by decide) (fun c_3 => ?_) (fun c_3 => ?_)
      · skip
        refine lv_aload_n hx hb dX11_book_40 rfl (lv_at hl 0 rfl) ?_
        refine r_get (T := TX11) (N := 7) (ci := 11) (v := .ref (gA g 3)) X hM iX11 rfl 1 (by decide) q_177 (Or.inl rfl) h0 rfl dX11_book_41 ?_
        refine r_get (T := TX4) (N := 14) (ci := 4) (v := .ref (gA g 19)) X hM iX4 rfl 13 (by decide) q_121 (Or.inl rfl) h3 rfl dX11_book_44 ?_
        refine K_i (G_V (As := []) (rest := []) X hM (c_X5_isFull l g _ (gA g 19) (gA g 20) 8 3 nc h19 ) lk_X11_57 h19 rfl rfl hl.1 rfl (Nat.le_of_ble_eq_true rfl) (by decide) dX11_book_47 ⟨Nat.le_of_ble_eq_true rfl, Nat.le_of_ble_eq_true rfl⟩) hM (fun r M1 H locs hM hp => ?_)
        obtain ⟨rfl, rfl⟩ := hp
        refine lv_if_eq (tgt := 58) hx hb dX11_book_50 (by decide) (fun c_4 => ?_) (fun c_4 => ?_)
        · skip
          have hq := full_0 c_4
          refine lv_aload_n hx hb dX11_book_58 rfl (lv_at hl 0 rfl) ?_
          refine r_get (T := TX11) (N := 7) (ci := 11) (v := .ref (gA g 3)) X hM iX11 rfl 1 (by decide) q_177 (Or.inl rfl) h0 rfl dX11_book_59 ?_
          refine r_get (T := TX4) (N := 14) (ci := 4) (v := .ref (gA g 19)) X hM iX4 rfl 13 (by decide) q_121 (Or.inl rfl) h3 rfl dX11_book_62 ?_
          refine lv_iload_n hx hb dX11_book_65 rfl (lv_at hl 1 rfl) ?_
          refine lv_iload_n hx hb dX11_book_66 rfl (lv_at hl 2 rfl) ?_
          refine lv_iconst (v := 0) hx hb dX11_book_67 (by decide) ?_
          refine K_i (G_V (As := [.int n, .int ho, .int 0]) (rest := []) X hM (c_X5_add l g _ (gA g 19) (gA g 20) 24 nf 8 3 nc n ho 0 h19 h20 (by decide) (X.2.ne (i := 19) (j := 20) (by decide) (by decide) (by decide))) lk_X11_213 h19 rfl rfl hl.1 rfl (Nat.le_of_ble_eq_true rfl) (by decide) dX11_book_68 ⟨Nat.le_of_ble_eq_true rfl, Nat.le_of_ble_eq_true rfl⟩) hM (fun r M1 H locs hM hp => ?_)
          obtain ⟨rfl, rfl⟩ := hp
          have hM : MW g (mup (mup M (gA g 20) (aI g 24 (fPut 24 (fPut 24 (fPut 24 nf (nc * 3) n) (nc * 3 + 1) ho) (nc * 3 + 2) 0))) (gA g 19) (rowsE (gA g 20) 8 3 (nc + 1))) H locs := hM
          have e9 : opBook nc nf n ho = (nc + 1, nc + 1, fPut 24 (fPut 24 (fPut 24 nf (nc * 3) n) (nc * 3 + 1) ho) (nc * 3 + 2) 0) := by
            unfold opBook; (first | rw [if_pos c_1] | rw [if_neg c_1] | skip); (first | rw [if_pos c_2] | rw [if_neg c_2] | skip); (first | rw [if_pos c_3] | rw [if_neg c_3] | skip); (first | rw [if_pos hq] | rw [if_neg hq] | skip); all_goals first | rfl | (simp only [if_true])
          exact R_i X hr hk hM ⟨(by rw [e9]), (by rw [e9] <;> first | rfl | (dsimp only; done) | (dsimp only; simp only [mup_id h20, mup_id h19]; done) | (simp only [mup_id h20, mup_id h19]; done))⟩ dX11_book_71
        · skip
          have hq := full_1 c_4
          refine lv_bipush (v := -4) hx hb dX11_book_53 (by decide) ?_
          refine lv_goto (tgt := 71) hx hb dX11_book_55 (by decide) ?_
          have e9 : opBook nc nf n ho = (-4, nc, nf) := by
            unfold opBook; (first | rw [if_pos c_1] | rw [if_neg c_1] | skip); (first | rw [if_pos c_2] | rw [if_neg c_2] | skip); (first | rw [if_pos c_3] | rw [if_neg c_3] | skip); (first | rw [if_pos hq] | rw [if_neg hq] | skip); all_goals first | rfl | (simp only [if_true])
          exact R_i X hr hk hM ⟨(by rw [e9]), (by rw [e9] <;> first | rfl | (dsimp only; done) | (dsimp only; simp only [mup_id h20, mup_id h19]; done) | (simp only [mup_id h20, mup_id h19]; done) | (rw [mup_id h20, mup_id h19]) | (dsimp only; rw [mup_id h20, mup_id h19]))⟩ dX11_book_71
      · skip
        refine lv_bipush (v := -2) hx hb dX11_book_37 (by decide) ?_
        have e9 : opBook nc nf n ho = (-2, nc, nf) := by
          unfold opBook; (first | rw [if_pos c_1] | rw [if_neg c_1] | skip); (first | rw [if_pos c_2] | rw [if_neg c_2] | skip); (first | rw [if_pos c_3] | rw [if_neg c_3] | skip); all_goals first | rfl | (simp only [if_true])
        exact R_i X hr hk hM ⟨(by rw [e9]), (by rw [e9] <;> first | rfl | (dsimp only; done) | (dsimp only; simp only [mup_id h20, mup_id h19]; done) | (simp only [mup_id h20, mup_id h19]; done) | (rw [mup_id h20, mup_id h19]) | (dsimp only; rw [mup_id h20, mup_id h19]))⟩ dX11_book_39
    · skip
      refine lv_iconst (v := -1) hx hb dX11_book_25 (by decide) ?_
      have e9 : opBook nc nf n ho = (-1, nc, nf) := by
        unfold opBook; (first | rw [if_pos c_1] | rw [if_neg c_1] | skip); (first | rw [if_pos c_2] | rw [if_neg c_2] | skip); all_goals first | rfl | (simp only [if_true])
      exact R_i X hr hk hM ⟨(by rw [e9]), (by rw [e9] <;> first | rfl | (dsimp only; done) | (dsimp only; simp only [mup_id h20, mup_id h19]; done) | (simp only [mup_id h20, mup_id h19]; done) | (rw [mup_id h20, mup_id h19]) | (dsimp only; rw [mup_id h20, mup_id h19]))⟩ dX11_book_26
  · skip
    refine lv_aload_n hx hb dX11_book_5 rfl (lv_at hl 0 rfl) ?_
    refine r_get (T := TX11) (N := 7) (ci := 11) (v := .ref (gA g 3)) X hM iX11 rfl 1 (by decide) q_177 (Or.inl rfl) h0 rfl dX11_book_6 ?_
    refine r_get (T := TX4) (N := 14) (ci := 4) (v := .ref (gA g 19)) X hM iX4 rfl 13 (by decide) q_121 (Or.inl rfl) h3 rfl dX11_book_9 ?_
    refine K_i (G_V (As := []) (rest := []) X hM (c_X5_clear l g _ (gA g 19) (gA g 20) 8 3 nc h19 ) lk_X11_73 h19 rfl rfl hl.1 rfl (Nat.le_of_ble_eq_true rfl) (by decide) dX11_book_12 ⟨Nat.le_of_ble_eq_true rfl, Nat.le_of_ble_eq_true rfl⟩) hM (fun r M1 H locs hM hp => ?_)
    obtain ⟨rfl, rfl⟩ := hp
    have hM : MW g (mup M (gA g 19) (rowsE (gA g 20) 8 3 0)) H locs := hM
    have e9 : opBook nc nf n ho = (0, 0, nf) := by
      unfold opBook; (first | rw [if_pos c_1] | rw [if_neg c_1] | skip); all_goals first | rfl | (simp only [if_true])
    exact R_i X hr hk hM ⟨(by rw [e9]), (by rw [e9] <;> first | rfl | (dsimp only; done) | (dsimp only; simp only [mup_id h20, mup_id h19]; done) | (simp only [mup_id h20, mup_id h19]; done) | (rw [mup_id (mup_r (X.2.ne (i := 20) (j := 19) (by decide) (by decide) (by decide)) h20)]) | (dsimp only; rw [mup_id (mup_r (X.2.ne (i := 20) (j := 19) (by decide) (by decide) (by decide)) h20)]))⟩ dX11_book_15
