theorem till_eq {P : Nat → Int32} {N i : Nat} (h : P i = 0) (hi : i < N) : till P (N - i) i = till P (N - (i + 1)) (i + 1) := by
  obtain ⟨u, hu⟩ : ∃ u, N - i = u + 1 := ⟨N - i - 1, by omega⟩
  rw [hu, show N - (i + 1) = u by omega]
  exact if_pos h
theorem till_ne {P : Nat → Int32} {N i : Nat} (h : ¬ P i = 0) (hi : i < N) : till P (N - i) i = nI i := by
  obtain ⟨u, hu⟩ : ∃ u, N - i = u + 1 := ⟨N - i - 1, by omega⟩
  rw [hu]
  exact if_neg h
def mWhP (f : Nat → Int32) (j t i : Nat) : Int32 := mUp f j (nI (t + i))
def mBoP (f : Nat → Int32) (j k t i : Nat) : Int32 := if mUp f j (nI (t + i)) = 0 then 0 else if mUp f k (nI (t + i)) = 0 then 0 else 1
def mWhen (f : Nat → Int32) (L t : Nat) (x : Int32) : Int32 := if fIsL L x = 0 then -1 else till (mWhP f x.toNatClampNeg t) 901 0
def mMeet (f : Nat → Int32) (L t : Nat) (x y : Int32) : Int32 := if fIsL L x = 0 then -1 else if fIsL L y = 0 then -1 else if x = y then -2 else till (mBoP f x.toNatClampNeg y.toNatClampNeg t) 901 0
def mDl (h : Nat → Int32) (u : Int32) (ho : Nat) : Nat → Int32
  | 0 => 0
  | i + 1 => mDl h u ho i + (if (u >>> (nI i &&& 31)) &&& 1 = nI ho then h (2 * i + ho) else 0)
def mFil (f : Nat → Int32) (L : Nat) (cl : Int32) (t : Nat) (h0 : Nat → Int32) : Nat → (Nat → Int32)
  | 0 => h0
  | i + 1 => upd (mFil f L cl t h0 i) i (mHas f L cl (t + i / 2) (nI (i % 2)))
def mB1Of (how one oth : Int32) : Int32 := if how = 0 then one + oth else if oth ≤ one then oth else one
def mB2Of (how one oth : Int32) : Int32 := if how = 0 then 0 else one + oth
def mBet (x1 x2 fi se : Int32) : Int32 := if fi < x1 then 1 else if x1 = fi then (if x2 ≤ se then 0 else 1) else 0
def mDe (h : Nat → Int32) (how : Int32) (n : Nat) : Nat → Int32 × Int32 × Int32
  | 0 => (0, -1, -1)
  | u + 1 => (fun x1 x2 z => if mBet x1 x2 z.2.1 z.2.2 = 0 then z else (nI u, x1, x2)) (mB1Of how (mDl h (nI u) 0 n) (mDl h (nI u) 1 n)) (mB2Of how (mDl h (nI u) 0 n) (mDl h (nI u) 1 n)) (mDe h how n u)
def mDeR (h : Nat → Int32) (how : Int32) (n w : Nat) : Int32 := if w = 0 then (mDe h how n (2 ^ n)).1 else mDl h (mDe h how n (2 ^ n)).1 (w - 1) n
def mDeal (f : Nat → Int32) (L t : Nat) (h0 : Nat → Int32) (n how w : Int32) : Int32 := if fIn how 0 1 = 0 then -1 else if fIn w 0 2 = 0 then -1 else if fIn n 1 9 = 0 then -2 else mDeR (mFil f L (mCl f) t h0 (2 * n.toNatClampNeg)) how n.toNatClampNeg w.toNatClampNeg

theorem lk_X12_187 : LkV RX12 187 yX12_dealt cX12_dealt 6 (some .int) 3 := lkV_of q_1087 q_1089 qs_37 q_7 q_1090 ⟨by decide, by decide, by decide +kernel⟩ (by decide)
set_option maxHeartbeats 4000000 in
set_option maxRecDepth 100000 in
theorem c_X12_when (l : Launch) (g : Gp) (M : Mem) (m0 m1 m2 m3 m4 m5 m6 m7 m8 m9 m10 m11 : Int32) (f : Nat → Int32) (L : Nat) (t : Nat) (x : Int32) (h46 : M (gA g 46) = some (mdE g m0 m1 m2 m3 m4 m5 m6 m7 m8 m9 m10 m11)) (h47 : M (gA g 47) = some (aI g 929 f)) (hO : MOk f L) (h0 : f 0 = nI t) (ht : t < 10000) : Met l yX12_when (wsM yX12_when cX12_when 3 (some .int)) (rmD 3 0 0) (Pre g M [.ref (gA g 46), .int x]) (Qi g (fun r M1 => (mWhen f L t x) = r ∧ M = M1)) 0 0 (gF g) := M_start (by decide +kernel) (Nat.le_of_ble_eq_true rfl) fun p e s m args below meth c ls X hr hk hnm hM hl => by
  have X : Cx g p m c cX12_when 3 s args RX12 := X
  have hx := X.1.1
  have hb := X.1.2.1
  have hl : lv_has ls 3 [(0, .ref (gA g 46)), (1, .int x)] := hl
  obtain ⟨h9, hL, hR, hS⟩ := id hO
  refine lv_aload_n hx hb dX12_when_0 rfl (lv_at hl 0 rfl) ?_
  refine lv_iload_n hx hb dX12_when_1 rfl (lv_at hl 1 rfl) ?_
  refine K_i (G_V (As := [.int x]) (rest := []) X hM (c_X12_isLightL l g _ m0 m1 m2 m3 m4 m5 m6 m7 m8 m9 m10 m11 f L x h46 h47 h9 hL) lk_X12_148 h46 rfl rfl hl.1 rfl (Nat.le_of_ble_eq_true rfl) (by decide) dX12_when_2 ⟨Nat.le_of_ble_eq_true rfl, Nat.le_of_ble_eq_true rfl⟩) hM (fun r M1 H locs hM hp => ?_)
  obtain ⟨rfl, rfl⟩ := hp
  refine lv_if_ne (tgt := 10) hx hb dX12_when_5 (by decide) (fun c_1 => ?_) (fun c_1 => ?_)
  · skip
    obtain ⟨j, hj, rfl⟩ := fIsL_k hL c_1
    have hcj : (nI j).toNatClampNeg = j := nI_clamp (by omega)
    refine lv_iconst (v := 0) hx hb dX12_when_10 (by decide) ?_
    refine lv_istore_n (lv' := [(2, .int 0), (0, .ref (gA g 46)), (1, .int (nI j))]) hx hb dX12_when_11 rfl hl (by decide) rfl (fun ls hl => ?_)
    have L12 : ∀ (fu : Nat) (i : Nat) (hi : i ≤ 901) (kb : till (mWhP f j t) (901 - i) i = till (mWhP f j t) 901 0) (H : Heap) (locs : List Loc) (hM : MW g (M) H locs) (ls : Array Slot) (hl : lv_has ls 3 [(0, .ref (gA g 46)), (1, .int (nI j)), (2, .int (nI i))]), 901 - i < fu → W p l e (rmD 3 0 0) s m args below meth c H locs 0 0 (MQ below (Qi g (fun r M1 => (mWhen f L t (nI j)) = r ∧ M = M1)) args s 0 0 (gF g)) (F0 m 12 ls []) := by
      intro fu
      induction fu with
      | zero => intro i hi kb H locs hM ls hl hmu; exact absurd hmu (Nat.not_lt_zero _)
      | succ fu ih =>
        intro i hi kb H locs hM ls hl hmu
        refine lv_iload_n hx hb dX12_when_12 rfl (lv_at hl 2 rfl) ?_
        refine lv_sipush (v := 900) hx hb dX12_when_13 (by decide) ?_
        refine lv_icmp_gt (tgt := 43) hx hb dX12_when_16 (by decide) (fun c_2 => ?_) (fun c_2 => ?_)
        · skip
          have hz1 : i = 901 := by
            rcases Nat.lt_or_ge 900 i with q_ | q_
            · omega
            · exact absurd (show nI i ≤ nI 900 from (nI_leI (by omega) (by omega)).mpr q_) (Int32.not_le.mpr (show nI 900 < nI i from c_2))
          refine lv_bipush (v := -5) hx hb dX12_when_43 (by decide) ?_
          exact R_i X hr hk hM ⟨(by unfold mWhen; rw [if_neg c_1, hcj, ← kb, hz1]; rfl), rfl⟩ dX12_when_45
        · skip
          have hz1 : i < 901 := by
            rcases Nat.lt_or_ge 900 i with q_ | q_
            · exact absurd (show nI 900 < nI i from (nI_ltI (by omega) (by omega)).mpr q_) c_2
            · omega
          refine lv_aload_n hx hb dX12_when_19 rfl (lv_at hl 0 rfl) ?_
          refine lv_iload_n hx hb dX12_when_20 rfl (lv_at hl 1 rfl) ?_
          refine lv_aload_n hx hb dX12_when_21 rfl (lv_at hl 0 rfl) ?_
          refine r_get (T := TX12) (N := 20) (ci := 12) (v := .ref (gA g 47)) X hM iX12 rfl 1 (by decide) q_836 (Or.inl rfl) h46 rfl dX12_when_22 ?_
          refine lv_iconst (v := 0) hx hb dX12_when_25 (by decide) ?_
          refine r_iald (i := 0) X hM h47 (vp_in_nI (n := 0) (by decide) (by decide)) dX12_when_26 ?_
          rw [show ((0 : Int32)).toNatClampNeg = 0 from by decide]
          rw [h0]
          refine lv_iload_n hx hb dX12_when_27 rfl (lv_at hl 2 rfl) ?_
          refine lv_iadd hx hb dX12_when_28 ?_
          rw [show (nI t) + (nI i) = nI (t + i) from nI_add t i]
          refine K_i (G_V (As := [.int (nI j), .int (nI (t + i))]) (rest := []) X hM (c_X12_isUp l g _ m0 m1 m2 m3 m4 m5 m6 m7 m8 m9 m10 m11 f j (nI (t + i)) h46 h47 (by omega) (hR _ (by omega))) lk_X12_141 h46 rfl rfl hl.1 rfl (Nat.le_of_ble_eq_true rfl) (by decide) dX12_when_29 ⟨Nat.le_of_ble_eq_true rfl, Nat.le_of_ble_eq_true rfl⟩) hM (fun r M1 H locs hM hp => ?_)
          obtain ⟨rfl, rfl⟩ := hp
          refine lv_if_eq (tgt := 37) hx hb dX12_when_32 (by decide) (fun c_3 => ?_) (fun c_3 => ?_)
          · skip
            refine lv_iinc (v := (nI i) + 1) (lv' := [(2, .int ((nI i) + 1)), (0, .ref (gA g 46)), (1, .int (nI j))]) hx hb dX12_when_37 hl (k := 2) rfl rfl (by decide) rfl (fun ls hl => ?_)
            refine lv_goto (tgt := 12) hx hb dX12_when_40 (by decide) ?_
            exact ih (i + 1) (by omega) (by rw [← kb, till_eq (P := mWhP f j t) c_3 hz1]) _ _ hM _ ((by rw [← nI_1]; exact lv_sub hl [1, 2, 0] rfl)) (by omega)
          · skip
            refine lv_iload_n hx hb dX12_when_35 rfl (lv_at hl 2 rfl) ?_
            exact R_i X hr hk hM ⟨(by unfold mWhen; rw [if_neg c_1, hcj, ← kb, till_ne (P := mWhP f j t) c_3 hz1]), rfl⟩ dX12_when_36
    exact L12 (901 + 1) 0 (Nat.zero_le _) rfl _ _ hM _ (lv_sub hl [1, 2, 0] rfl) (by first | exact Nat.lt_succ_self _ | omega)
  · skip
    refine lv_iconst (v := -1) hx hb dX12_when_8 (by decide) ?_
    exact R_i X hr hk hM ⟨(by unfold mWhen; (try simp only [hcj]); (first | rw [if_pos c_1] | rw [if_neg c_1] | skip); all_goals (first | rfl | (simp [*]))), rfl⟩ dX12_when_9
set_option maxHeartbeats 4000000 in
set_option maxRecDepth 100000 in
theorem c_X12_meet (l : Launch) (g : Gp) (M : Mem) (m0 m1 m2 m3 m4 m5 m6 m7 m8 m9 m10 m11 : Int32) (f : Nat → Int32) (L : Nat) (t : Nat) (x y : Int32) (h46 : M (gA g 46) = some (mdE g m0 m1 m2 m3 m4 m5 m6 m7 m8 m9 m10 m11)) (h47 : M (gA g 47) = some (aI g 929 f)) (hO : MOk f L) (h0 : f 0 = nI t) (ht : t < 10000) : Met l yX12_meet (wsM yX12_meet cX12_meet 4 (some .int)) (rmD 3 0 0) (Pre g M [.ref (gA g 46), .int x, .int y]) (Qi g (fun r M1 => (mMeet f L t x y) = r ∧ M = M1)) 0 0 (gF g) := M_start (by decide +kernel) (Nat.le_of_ble_eq_true rfl) fun p e s m args below meth c ls X hr hk hnm hM hl => by
  have X : Cx g p m c cX12_meet 4 s args RX12 := X
  have hx := X.1.1
  have hb := X.1.2.1
  have hl : lv_has ls 4 [(0, .ref (gA g 46)), (1, .int x), (2, .int y)] := hl
  obtain ⟨h9, hL, hR, hS⟩ := id hO
  refine lv_aload_n hx hb dX12_meet_0 rfl (lv_at hl 0 rfl) ?_
  refine lv_iload_n hx hb dX12_meet_1 rfl (lv_at hl 1 rfl) ?_
  refine K_i (G_V (As := [.int x]) (rest := []) X hM (c_X12_isLightL l g _ m0 m1 m2 m3 m4 m5 m6 m7 m8 m9 m10 m11 f L x h46 h47 h9 hL) lk_X12_148 h46 rfl rfl hl.1 rfl (Nat.le_of_ble_eq_true rfl) (by decide) dX12_meet_2 ⟨Nat.le_of_ble_eq_true rfl, Nat.le_of_ble_eq_true rfl⟩) hM (fun r M1 H locs hM hp => ?_)
  obtain ⟨rfl, rfl⟩ := hp
  refine lv_if_eq (tgt := 16) hx hb dX12_meet_5 (by decide) (fun c_1 => ?_) (fun c_1 => ?_)
  · skip
    refine lv_iconst (v := -1) hx hb dX12_meet_16 (by decide) ?_
    exact R_i X hr hk hM ⟨(by unfold mMeet; (try simp only [hcj]); (try simp only [hck]); (first | rw [if_pos c_1] | rw [if_neg c_1] | skip)), rfl⟩ dX12_meet_17
  · skip
    obtain ⟨j, hj, rfl⟩ := fIsL_k hL c_1
    have hcj : (nI j).toNatClampNeg = j := nI_clamp (by omega)
    refine lv_aload_n hx hb dX12_meet_8 rfl (lv_at hl 0 rfl) ?_
    refine lv_iload_n hx hb dX12_meet_9 rfl (lv_at hl 2 rfl) ?_
    refine K_i (G_V (As := [.int y]) (rest := []) X hM (c_X12_isLightL l g _ m0 m1 m2 m3 m4 m5 m6 m7 m8 m9 m10 m11 f L y h46 h47 h9 hL) lk_X12_148 h46 rfl rfl hl.1 rfl (Nat.le_of_ble_eq_true rfl) (by decide) dX12_meet_10 ⟨Nat.le_of_ble_eq_true rfl, Nat.le_of_ble_eq_true rfl⟩) hM (fun r M1 H locs hM hp => ?_)
    obtain ⟨rfl, rfl⟩ := hp
    refine lv_if_ne (tgt := 18) hx hb dX12_meet_13 (by decide) (fun c_2 => ?_) (fun c_2 => ?_)
    · skip
      obtain ⟨k, hk9, rfl⟩ := fIsL_k hL c_2
      have hck : (nI k).toNatClampNeg = k := nI_clamp (by omega)
      refine lv_iload_n hx hb dX12_meet_18 rfl (lv_at hl 1 rfl) ?_
      refine lv_iload_n hx hb dX12_meet_19 rfl (lv_at hl 2 rfl) ?_
      refine lv_icmp_ne (tgt := 26) hx hb dX12_meet_20 (by decide) (fun c_3 => ?_) (fun c_3 => ?_)
      · skip
        refine lv_iconst (v := 0) hx hb dX12_meet_26 (by decide) ?_
        refine lv_istore_n (lv' := [(3, .int 0), (0, .ref (gA g 46)), (1, .int (nI j)), (2, .int (nI k))]) hx hb dX12_meet_27 rfl hl (by decide) rfl (fun ls hl => ?_)
        have L28 : ∀ (fu : Nat) (i : Nat) (hi : i ≤ 901) (kb : till (mBoP f j k t) (901 - i) i = till (mBoP f j k t) 901 0) (H : Heap) (locs : List Loc) (hM : MW g (M) H locs) (ls : Array Slot) (hl : lv_has ls 4 [(0, .ref (gA g 46)), (1, .int (nI j)), (2, .int (nI k)), (3, .int (nI i))]), 901 - i < fu → W p l e (rmD 3 0 0) s m args below meth c H locs 0 0 (MQ below (Qi g (fun r M1 => (mMeet f L t (nI j) (nI k)) = r ∧ M = M1)) args s 0 0 (gF g)) (F0 m 28 ls []) := by
          intro fu
          induction fu with
          | zero => intro i hi kb H locs hM ls hl hmu; exact absurd hmu (Nat.not_lt_zero _)
          | succ fu ih =>
            intro i hi kb H locs hM ls hl hmu
            refine lv_iload_n hx hb dX12_meet_28 rfl (lv_at hl 3 rfl) ?_
            refine lv_sipush (v := 900) hx hb dX12_meet_29 (by decide) ?_
            refine lv_icmp_gt (tgt := 75) hx hb dX12_meet_32 (by decide) (fun c_4 => ?_) (fun c_4 => ?_)
            · skip
              have hz1 : i = 901 := by
                rcases Nat.lt_or_ge 900 i with q_ | q_
                · omega
                · exact absurd (show nI i ≤ nI 900 from (nI_leI (by omega) (by omega)).mpr q_) (Int32.not_le.mpr (show nI 900 < nI i from c_4))
              refine lv_bipush (v := -5) hx hb dX12_meet_75 (by decide) ?_
              exact R_i X hr hk hM ⟨(by unfold mMeet; simp only [hcj, hck]; rw [if_neg c_1, if_neg c_2, if_neg c_3, ← kb, hz1]; rfl), rfl⟩ dX12_meet_77
            · skip
              have hz1 : i < 901 := by
                rcases Nat.lt_or_ge 900 i with q_ | q_
                · exact absurd (show nI 900 < nI i from (nI_ltI (by omega) (by omega)).mpr q_) c_4
                · omega
              refine lv_aload_n hx hb dX12_meet_35 rfl (lv_at hl 0 rfl) ?_
              refine lv_iload_n hx hb dX12_meet_36 rfl (lv_at hl 1 rfl) ?_
              refine lv_aload_n hx hb dX12_meet_37 rfl (lv_at hl 0 rfl) ?_
              refine r_get (T := TX12) (N := 20) (ci := 12) (v := .ref (gA g 47)) X hM iX12 rfl 1 (by decide) q_836 (Or.inl rfl) h46 rfl dX12_meet_38 ?_
              refine lv_iconst (v := 0) hx hb dX12_meet_41 (by decide) ?_
              refine r_iald (i := 0) X hM h47 (vp_in_nI (n := 0) (by decide) (by decide)) dX12_meet_42 ?_
              rw [show ((0 : Int32)).toNatClampNeg = 0 from by decide]
              rw [h0]
              refine lv_iload_n hx hb dX12_meet_43 rfl (lv_at hl 3 rfl) ?_
              refine lv_iadd hx hb dX12_meet_44 ?_
              rw [show (nI t) + (nI i) = nI (t + i) from nI_add t i]
              refine K_i (G_V (As := [.int (nI j), .int (nI (t + i))]) (rest := []) X hM (c_X12_isUp l g _ m0 m1 m2 m3 m4 m5 m6 m7 m8 m9 m10 m11 f j (nI (t + i)) h46 h47 (by omega) (hR _ (by omega))) lk_X12_141 h46 rfl rfl hl.1 rfl (Nat.le_of_ble_eq_true rfl) (by decide) dX12_meet_45 ⟨Nat.le_of_ble_eq_true rfl, Nat.le_of_ble_eq_true rfl⟩) hM (fun r M1 H locs hM hp => ?_)
              obtain ⟨rfl, rfl⟩ := hp
              refine lv_if_eq (tgt := 69) hx hb dX12_meet_48 (by decide) (fun c_5 => ?_) (fun c_5 => ?_)
              · skip
                refine lv_iinc (v := (nI i) + 1) (lv' := [(3, .int ((nI i) + 1)), (0, .ref (gA g 46)), (1, .int (nI j)), (2, .int (nI k))]) hx hb dX12_meet_69 hl (k := 3) rfl rfl (by decide) rfl (fun ls hl => ?_)
                refine lv_goto (tgt := 28) hx hb dX12_meet_72 (by decide) ?_
                exact ih (i + 1) (by omega) (by rw [← kb, till_eq (P := mBoP f j k t) (show mBoP f j k t i = 0 from by unfold mBoP; (first | rw [if_pos c_5] | rw [if_neg c_5])) hz1]) _ _ hM _ ((by rw [← nI_1]; exact lv_sub hl [1, 2, 3, 0] rfl)) (by omega)
              · skip
                refine lv_aload_n hx hb dX12_meet_51 rfl (lv_at hl 0 rfl) ?_
                refine lv_iload_n hx hb dX12_meet_52 rfl (lv_at hl 2 rfl) ?_
                refine lv_aload_n hx hb dX12_meet_53 rfl (lv_at hl 0 rfl) ?_
                refine r_get (T := TX12) (N := 20) (ci := 12) (v := .ref (gA g 47)) X hM iX12 rfl 1 (by decide) q_836 (Or.inl rfl) h46 rfl dX12_meet_54 ?_
                refine lv_iconst (v := 0) hx hb dX12_meet_57 (by decide) ?_
                refine r_iald (i := 0) X hM h47 (vp_in_nI (n := 0) (by decide) (by decide)) dX12_meet_58 ?_
                rw [show ((0 : Int32)).toNatClampNeg = 0 from by decide]
                rw [h0]
                refine lv_iload_n hx hb dX12_meet_59 rfl (lv_at hl 3 rfl) ?_
                refine lv_iadd hx hb dX12_meet_60 ?_
                rw [show (nI t) + (nI i) = nI (t + i) from nI_add t i]
                refine K_i (G_V (As := [.int (nI k), .int (nI (t + i))]) (rest := []) X hM (c_X12_isUp l g _ m0 m1 m2 m3 m4 m5 m6 m7 m8 m9 m10 m11 f k (nI (t + i)) h46 h47 (by omega) (hR _ (by omega))) lk_X12_141 h46 rfl rfl hl.1 rfl (Nat.le_of_ble_eq_true rfl) (by decide) dX12_meet_61 ⟨Nat.le_of_ble_eq_true rfl, Nat.le_of_ble_eq_true rfl⟩) hM (fun r M1 H locs hM hp => ?_)
                obtain ⟨rfl, rfl⟩ := hp
                refine lv_if_eq (tgt := 69) hx hb dX12_meet_64 (by decide) (fun c_6 => ?_) (fun c_6 => ?_)
                · skip
                  refine lv_iinc (v := (nI i) + 1) (lv' := [(3, .int ((nI i) + 1)), (0, .ref (gA g 46)), (1, .int (nI j)), (2, .int (nI k))]) hx hb dX12_meet_69 hl (k := 3) rfl rfl (by decide) rfl (fun ls hl => ?_)
                  refine lv_goto (tgt := 28) hx hb dX12_meet_72 (by decide) ?_
                  exact ih (i + 1) (by omega) (by rw [← kb, till_eq (P := mBoP f j k t) (show mBoP f j k t i = 0 from by unfold mBoP; (first | rw [if_pos c_5] | rw [if_neg c_5]); (first | rw [if_pos c_6] | rw [if_neg c_6])) hz1]) _ _ hM _ ((by rw [← nI_1]; exact lv_sub hl [1, 2, 3, 0] rfl)) (by omega)
                · skip
                  refine lv_iload_n hx hb dX12_meet_67 rfl (lv_at hl 3 rfl) ?_
                  exact R_i X hr hk hM ⟨(by unfold mMeet; simp only [hcj, hck]; rw [if_neg c_1, if_neg c_2, if_neg c_3, ← kb, till_ne (P := mBoP f j k t) (show ¬ mBoP f j k t i = 0 from by unfold mBoP; rw [if_neg c_5, if_neg c_6]; decide) hz1]), rfl⟩ dX12_meet_68
        exact L28 (901 + 1) 0 (Nat.zero_le _) rfl _ _ hM _ (lv_sub hl [1, 2, 3, 0] rfl) (by first | exact Nat.lt_succ_self _ | omega)
      · skip
        refine lv_bipush (v := -2) hx hb dX12_meet_23 (by decide) ?_
        exact R_i X hr hk hM ⟨(by unfold mMeet; (try simp only [hcj]); (try simp only [hck]); (first | rw [if_pos c_1] | rw [if_neg c_1] | skip); (first | rw [if_pos c_2] | rw [if_neg c_2] | skip); (first | rw [if_pos c_3] | rw [if_neg c_3] | skip)), rfl⟩ dX12_meet_25
    · skip
      refine lv_iconst (v := -1) hx hb dX12_meet_16 (by decide) ?_
      exact R_i X hr hk hM ⟨(by unfold mMeet; (try simp only [hcj]); (try simp only [hck]); (first | rw [if_pos c_1] | rw [if_neg c_1] | skip); (first | rw [if_pos c_2] | rw [if_neg c_2] | skip)), rfl⟩ dX12_meet_17
set_option maxHeartbeats 4000000 in
set_option maxRecDepth 100000 in
theorem c_X12_dealt (l : Launch) (g : Gp) (M : Mem) (m0 m1 m2 m3 m4 m5 m6 m7 m8 m9 m10 m11 : Int32) (ha : Nat → Int32) (u : Int32) (n ho : Nat) (h46 : M (gA g 46) = some (mdE g m0 m1 m2 m3 m4 m5 m6 m7 m8 m9 m10 m11)) (h52 : M (gA g 52) = some (aI g 18 ha)) (hn : n ≤ 9) (hho : ho ≤ 1) : Met l yX12_dealt (wsM yX12_dealt cX12_dealt 6 (some .int)) (rmD 1 0 0) (Pre g M [.ref (gA g 46), .int u, .int (nI n), .int (nI ho)]) (Qi g (fun r M1 => (mDl ha u ho n) = r ∧ M = M1)) 0 0 (gF g) := M_start (by decide +kernel) (Nat.le_of_ble_eq_true rfl) fun p e s m args below meth c ls X hr hk hnm hM hl => by
  have X : Cx g p m c cX12_dealt 6 s args RX12 := X
  have hx := X.1.1
  have hb := X.1.2.1
  have hl : lv_has ls 6 [(0, .ref (gA g 46)), (1, .int u), (2, .int (nI n)), (3, .int (nI ho))] := hl
  refine lv_iconst (v := 0) hx hb dX12_dealt_0 (by decide) ?_
  refine lv_istore (lv' := [(4, .int 0), (0, .ref (gA g 46)), (1, .int u), (2, .int (nI n)), (3, .int (nI ho))]) hx hb dX12_dealt_1 hl (by decide) rfl (fun ls hl => ?_)
  refine lv_iconst (v := 0) hx hb dX12_dealt_3 (by decide) ?_
  refine lv_istore (lv' := [(5, .int 0), (4, .int 0), (0, .ref (gA g 46)), (1, .int u), (2, .int (nI n)), (3, .int (nI ho))]) hx hb dX12_dealt_4 hl (by decide) rfl (fun ls hl => ?_)
  have L6 : ∀ (fu : Nat) (i : Nat) (x4 : Int32) (hi : i ≤ n) (k4 : x4 = mDl ha u ho i) (H : Heap) (locs : List Loc) (hM : MW g (M) H locs) (ls : Array Slot) (hl : lv_has ls 6 [(0, .ref (gA g 46)), (1, .int u), (2, .int (nI n)), (3, .int (nI ho)), (4, .int x4), (5, .int (nI i))]), n - i < fu → W p l e (rmD 1 0 0) s m args below meth c H locs 0 0 (MQ below (Qi g (fun r M1 => (mDl ha u ho n) = r ∧ M = M1)) args s 0 0 (gF g)) (F0 m 6 ls []) := by
    intro fu
    induction fu with
    | zero => intro i x4 hi k4 H locs hM ls hl hmu; exact absurd hmu (Nat.not_lt_zero _)
    | succ fu ih =>
      intro i x4 hi k4 H locs hM ls hl hmu
      refine lv_iload hx hb dX12_dealt_6 (lv_at hl 5 rfl) ?_
      refine lv_iload_n hx hb dX12_dealt_8 rfl (lv_at hl 2 rfl) ?_
      refine lv_icmp_ge (tgt := 48) hx hb dX12_dealt_9 (by decide) (fun c_1 => ?_) (fun c_1 => ?_)
      · skip
        have hz1 : n ≤ i := (nI_leI (by omega) (by omega)).mp c_1
        have hz2 : i = n := by omega
        refine lv_iload hx hb dX12_dealt_48 (lv_at hl 4 rfl) ?_
        exact R_i X hr hk hM ⟨(by rw [k4, hz2]), rfl⟩ dX12_dealt_50
      · skip
        have hz1 : i < n := by
          rcases Nat.lt_or_ge i (n) with q | q
          · exact q
          · exact absurd ((nI_leI (by omega) (by omega)).mpr q) c_1
        refine lv_iload hx hb dX12_dealt_12 (lv_at hl 4 rfl) ?_
        refine lv_iload_n hx hb dX12_dealt_14 rfl (lv_at hl 1 rfl) ?_
        refine lv_iload hx hb dX12_dealt_15 (lv_at hl 5 rfl) ?_
        refine lv_ishr hx hb dX12_dealt_17 ?_
        refine lv_iconst (v := 1) hx hb dX12_dealt_18 (by decide) ?_
        refine lv_iand hx hb dX12_dealt_19 ?_
        refine lv_iload_n hx hb dX12_dealt_20 rfl (lv_at hl 3 rfl) ?_
        refine lv_icmp_ne (tgt := 38) hx hb dX12_dealt_21 (by decide) (fun c_2 => ?_) (fun c_2 => ?_)
        · skip
          refine lv_iconst (v := 0) hx hb dX12_dealt_38 (by decide) ?_
          refine lv_iadd hx hb dX12_dealt_39 ?_
          refine lv_istore (lv' := [(4, .int (x4 + 0)), (0, .ref (gA g 46)), (1, .int u), (2, .int (nI n)), (3, .int (nI ho)), (5, .int (nI i))]) hx hb dX12_dealt_40 hl (by decide) rfl (fun ls hl => ?_)
          refine lv_iinc (v := (nI i) + 1) (lv' := [(5, .int ((nI i) + 1)), (4, .int (x4 + 0)), (0, .ref (gA g 46)), (1, .int u), (2, .int (nI n)), (3, .int (nI ho))]) hx hb dX12_dealt_42 hl (k := 5) rfl rfl (by decide) rfl (fun ls hl => ?_)
          refine lv_goto (tgt := 6) hx hb dX12_dealt_45 (by decide) ?_
          exact ih (i + 1) (x4 + 0) (by omega) (by rw [k4, mDl]; (first | rw [if_pos c_2] | rw [if_neg c_2])) _ _ hM _ ((by rw [← nI_1]; exact lv_sub hl [2, 3, 4, 5, 1, 0] rfl)) (by omega)
        · skip
          refine lv_aload_n hx hb dX12_dealt_24 rfl (lv_at hl 0 rfl) ?_
          refine r_get (T := TX12) (N := 20) (ci := 12) (v := .ref (gA g 52)) X hM iX12 rfl 13 (by decide) q_848 (Or.inl rfl) h46 rfl dX12_dealt_25 ?_
          refine lv_iconst (v := 2) hx hb dX12_dealt_28 (by decide) ?_
          refine lv_iload hx hb dX12_dealt_29 (lv_at hl 5 rfl) ?_
          refine lv_imul hx hb dX12_dealt_31 ?_
          rw [show (2 : Int32) * (nI i) = nI (2 * i) from nI_mul 2 i]
          refine lv_iload_n hx hb dX12_dealt_32 rfl (lv_at hl 3 rfl) ?_
          refine lv_iadd hx hb dX12_dealt_33 ?_
          rw [show (nI (2 * i)) + (nI ho) = nI ((2 * i) + ho) from nI_add (2 * i) ho]
          refine r_iald (i := nI ((2 * i) + ho)) X hM h52 (vp_in_nI (by omega) (by decide)) dX12_dealt_34 ?_
          rw [nI_clamp (show (2 * i) + ho < 2147483648 by omega)]
          refine lv_goto (tgt := 39) hx hb dX12_dealt_35 (by decide) ?_
          refine lv_iadd hx hb dX12_dealt_39 ?_
          refine lv_istore (lv' := [(4, .int (x4 + (ha ((2 * i) + ho)))), (0, .ref (gA g 46)), (1, .int u), (2, .int (nI n)), (3, .int (nI ho)), (5, .int (nI i))]) hx hb dX12_dealt_40 hl (by decide) rfl (fun ls hl => ?_)
          refine lv_iinc (v := (nI i) + 1) (lv' := [(5, .int ((nI i) + 1)), (4, .int (x4 + (ha ((2 * i) + ho)))), (0, .ref (gA g 46)), (1, .int u), (2, .int (nI n)), (3, .int (nI ho))]) hx hb dX12_dealt_42 hl (k := 5) rfl rfl (by decide) rfl (fun ls hl => ?_)
          refine lv_goto (tgt := 6) hx hb dX12_dealt_45 (by decide) ?_
          exact ih (i + 1) (x4 + (ha ((2 * i) + ho))) (by omega) (by rw [k4, mDl]; (first | rw [if_pos c_2] | rw [if_neg c_2])) _ _ hM _ ((by rw [← nI_1]; exact lv_sub hl [2, 3, 4, 5, 1, 0] rfl)) (by omega)
  exact L6 (n + 1) 0 0 (Nat.zero_le _) rfl _ _ hM _ (lv_sub hl [2, 3, 4, 5, 1, 0] rfl) (by first | exact Nat.lt_succ_self _ | omega)
set_option maxHeartbeats 4000000 in
set_option maxRecDepth 100000 in
theorem c_X12_deal (l : Launch) (g : Gp) (M : Mem) (m0 m1 m2 m3 m4 m5 m6 m7 m8 m9 m10 m11 : Int32) (f : Nat → Int32) (L : Nat) (t : Nat) (n how w : Int32) (by_ tr : Nat → Int32) (ha : Nat → Int32) (h46 : M (gA g 46) = some (mdE g m0 m1 m2 m3 m4 m5 m6 m7 m8 m9 m10 m11)) (h47 : M (gA g 47) = some (aI g 929 f)) (h50 : M (gA g 50) = some (aI g 6 by_)) (h51 : M (gA g 51) = some (aZ g 64 tr)) (h52 : M (gA g 52) = some (aI g 18 ha)) (hO : MOk f L) (h0 : f 0 = nI t) (ht : t < 10000) : Met l yX12_deal (wsM yX12_deal cX12_deal 13 (some .int)) (rmD 6 0 0) (Pre g M [.ref (gA g 46), .int n, .int how, .int w]) (Qi g (fun r M1 => ∃ (y2 : Int32) (y0 : Nat → Int32) (y1 : Nat → Int32) (y3 : Nat → Int32), (mDeal f L t ha n how w) = r ∧ mup (mup (mup (mup M (gA g 46) (mdE g m0 m1 y2 m3 m4 m5 m6 m7 m8 m9 m10 m11)) (gA g 50) (aI g 6 y0)) (gA g 51) (aZ g 64 y1)) (gA g 52) (aI g 18 y3) = M1)) 0 0 (gF g) := M_start (by decide +kernel) (Nat.le_of_ble_eq_true rfl) fun p e s m args below meth c ls X hr hk hnm hM hl => by
  have X : Cx g p m c cX12_deal 13 s args RX12 := X
  have hx := X.1.1
  have hb := X.1.2.1
  have hl : lv_has ls 13 [(0, .ref (gA g 46)), (1, .int n), (2, .int how), (3, .int w)] := hl
  obtain ⟨h9, hL, hR, hS⟩ := id hO
  refine lv_iload_n hx hb dX12_deal_0 rfl (lv_at hl 2 rfl) ?_
  refine lv_iconst (v := 0) hx hb dX12_deal_1 (by decide) ?_
  refine lv_iconst (v := 1) hx hb dX12_deal_2 (by decide) ?_
  refine K_i (G_S (As := [.int how, .int 0, .int 1]) (rest := []) X hM (c_X12_in l g _ how 0 1  ) lk_X12_41 rfl hl.1 rfl (Nat.le_of_ble_eq_true rfl) (by decide) dX12_deal_3 ⟨Nat.le_of_ble_eq_true rfl, Nat.le_of_ble_eq_true rfl⟩) hM (fun r M1 H locs hM hp => ?_)
  obtain ⟨rfl, rfl⟩ := hp
  refine lv_if_eq (tgt := 18) hx hb dX12_deal_6 (by decide) (fun c_1 => ?_) (fun c_1 => ?_)
  · skip
    refine lv_iconst (v := -1) hx hb dX12_deal_18 (by decide) ?_
    exact R_i X hr hk hM ⟨m2, by_, tr, ha, (by unfold mDeal; (try simp only [hcn]); (try simp only [hcj]); (first | rw [if_pos c_1] | rw [if_neg c_1] | skip)), (by rw [mup_id h46, mup_id h50, mup_id h51, mup_id h52])⟩ dX12_deal_19
  · skip
    refine lv_iload_n hx hb dX12_deal_9 rfl (lv_at hl 3 rfl) ?_
    refine lv_iconst (v := 0) hx hb dX12_deal_10 (by decide) ?_
    refine lv_iconst (v := 2) hx hb dX12_deal_11 (by decide) ?_
    refine K_i (G_S (As := [.int w, .int 0, .int 2]) (rest := []) X hM (c_X12_in l g _ w 0 2  ) lk_X12_41 rfl hl.1 rfl (Nat.le_of_ble_eq_true rfl) (by decide) dX12_deal_12 ⟨Nat.le_of_ble_eq_true rfl, Nat.le_of_ble_eq_true rfl⟩) hM (fun r M1 H locs hM hp => ?_)
    obtain ⟨rfl, rfl⟩ := hp
    refine lv_if_ne (tgt := 20) hx hb dX12_deal_15 (by decide) (fun c_2 => ?_) (fun c_2 => ?_)
    · skip
      obtain ⟨j, hj, rfl⟩ := fIn_k (K := 2) (by decide) c_2
      have hcj : (nI j).toNatClampNeg = j := nI_clamp (by omega)
      refine lv_iload_n hx hb dX12_deal_20 rfl (lv_at hl 1 rfl) ?_
      refine lv_iconst (v := 1) hx hb dX12_deal_21 (by decide) ?_
      refine lv_bipush (v := 9) hx hb dX12_deal_22 (by decide) ?_
      refine K_i (G_S (As := [.int n, .int 1, .int 9]) (rest := []) X hM (c_X12_in l g _ n 1 9  ) lk_X12_41 rfl hl.1 rfl (Nat.le_of_ble_eq_true rfl) (by decide) dX12_deal_24 ⟨Nat.le_of_ble_eq_true rfl, Nat.le_of_ble_eq_true rfl⟩) hM (fun r M1 H locs hM hp => ?_)
      obtain ⟨rfl, rfl⟩ := hp
      refine lv_if_ne (tgt := 33) hx hb dX12_deal_27 (by decide) (fun c_3 => ?_) (fun c_3 => ?_)
      · skip
        obtain ⟨n, bn1, bn, rfl⟩ := fIn_k1 (K := 9) (by decide) c_3
        have hcn : (nI n).toNatClampNeg = n := nI_clamp (by omega)
        have hp10 := pow10 (show n < 10 by omega)
        refine lv_aload_n hx hb dX12_deal_33 rfl (lv_at hl 0 rfl) ?_
        refine K_v (G_V (As := []) (rest := []) X hM (c_X12_asItIs l g _ m0 m1 m2 m3 m4 m5 m6 m7 m8 m9 m10 m11 f h46 h47 hS.hd) lk_X12_155 h46 rfl rfl hl.1 rfl (Nat.le_of_ble_eq_true rfl) (by decide) dX12_deal_34 ⟨Nat.le_of_ble_eq_true rfl, Nat.le_of_ble_eq_true rfl⟩) hM (fun M1 H locs hM hp => ?_)
        subst hp
        have hM : MW g (mup M (gA g 46) (mdE g m0 m1 (mTel f 219 0) m3 m4 m5 m6 m7 m8 m9 m10 m11)) H locs := hM
        refine lv_iconst (v := 0) hx hb dX12_deal_37 (by decide) ?_
        refine lv_istore (lv' := [(4, .int 0), (0, .ref (gA g 46)), (1, .int (nI n)), (2, .int how), (3, .int (nI j))]) hx hb dX12_deal_38 hl (by decide) rfl (fun ls hl => ?_)
        have L40 : ∀ (fu : Nat) (i : Nat) (b0 b1 : Nat → Int32) (hi : i ≤ 2 * n) (H : Heap) (locs : List Loc) (hM : MW g (mup (mup (mup (mup M (gA g 46) (mdE g m0 m1 (mCl f) m3 m4 m5 m6 m7 m8 m9 m10 m11)) (gA g 50) (aI g 6 b0)) (gA g 51) (aZ g 64 b1)) (gA g 52) (aI g 18 (mFil f L (mCl f) t ha i))) H locs) (ls : Array Slot) (hl : lv_has ls 13 [(0, .ref (gA g 46)), (1, .int (nI n)), (2, .int how), (3, .int (nI j)), (4, .int (nI i))]), 2 * n - i < fu → W p l e (rmD 6 0 0) s m args below meth c H locs 0 0 (MQ below (Qi g (fun r M1 => ∃ (y2 : Int32) (y0 : Nat → Int32) (y1 : Nat → Int32) (y3 : Nat → Int32), (mDeal f L t ha (nI n) how (nI j)) = r ∧ mup (mup (mup (mup M (gA g 46) (mdE g m0 m1 y2 m3 m4 m5 m6 m7 m8 m9 m10 m11)) (gA g 50) (aI g 6 y0)) (gA g 51) (aZ g 64 y1)) (gA g 52) (aI g 18 y3) = M1)) args s 0 0 (gF g)) (F0 m 40 ls []) := by
          intro fu
          induction fu with
          | zero => intro i b0 b1 hi H locs hM ls hl hmu; exact absurd hmu (Nat.not_lt_zero _)
          | succ fu ih =>
            intro i b0 b1 hi H locs hM ls hl hmu
            refine lv_iload hx hb dX12_deal_40 (lv_at hl 4 rfl) ?_
            refine lv_iconst (v := 2) hx hb dX12_deal_42 (by decide) ?_
            refine lv_iload_n hx hb dX12_deal_43 rfl (lv_at hl 1 rfl) ?_
            refine lv_imul hx hb dX12_deal_44 ?_
            rw [show (2 : Int32) * (nI n) = nI (2 * n) from nI_mul 2 n]
            refine lv_icmp_ge (tgt := 80) hx hb dX12_deal_45 (by decide) (fun c_4 => ?_) (fun c_4 => ?_)
            · skip
              have hz1 : 2 * n ≤ i := (nI_leI (by omega) (by omega)).mp c_4
              have hz2 : i = 2 * n := by omega
              have hz3 := hz2.symm
              subst hz2
              refine lv_iconst (v := 0) hx hb dX12_deal_80 (by decide) ?_
              refine lv_istore (lv' := [(4, .int 0), (0, .ref (gA g 46)), (1, .int (nI n)), (2, .int how), (3, .int (nI j))]) hx hb dX12_deal_81 hl (by decide) rfl (fun ls hl => ?_)
              refine lv_iconst (v := -1) hx hb dX12_deal_83 (by decide) ?_
              refine lv_istore (lv' := [(5, .int (-1)), (4, .int 0), (0, .ref (gA g 46)), (1, .int (nI n)), (2, .int how), (3, .int (nI j))]) hx hb dX12_deal_84 hl (by decide) rfl (fun ls hl => ?_)
              refine lv_iconst (v := -1) hx hb dX12_deal_86 (by decide) ?_
              refine lv_istore (lv' := [(6, .int (-1)), (5, .int (-1)), (4, .int 0), (0, .ref (gA g 46)), (1, .int (nI n)), (2, .int how), (3, .int (nI j))]) hx hb dX12_deal_87 hl (by decide) rfl (fun ls hl => ?_)
              refine lv_iconst (v := 0) hx hb dX12_deal_89 (by decide) ?_
              refine lv_istore (lv' := [(7, .int 0), (6, .int (-1)), (5, .int (-1)), (4, .int 0), (0, .ref (gA g 46)), (1, .int (nI n)), (2, .int how), (3, .int (nI j))]) hx hb dX12_deal_90 hl (by decide) rfl (fun ls hl => ?_)
              have L92 : ∀ (fu : Nat) (u : Nat) (x4 x5 x6 : Int32) (hu : u ≤ 2 ^ n) (kd : (x4, x5, x6) = mDe (mFil f L (mCl f) t ha (2 * n)) how n u) (H : Heap) (locs : List Loc) (hM : MW g (mup (mup (mup (mup M (gA g 46) (mdE g m0 m1 (mCl f) m3 m4 m5 m6 m7 m8 m9 m10 m11)) (gA g 50) (aI g 6 b0)) (gA g 51) (aZ g 64 b1)) (gA g 52) (aI g 18 (mFil f L (mCl f) t ha (2 * n)))) H locs) (ls : Array Slot) (hl : lv_has ls 13 [(0, .ref (gA g 46)), (1, .int (nI n)), (2, .int how), (3, .int (nI j)), (4, .int x4), (5, .int x5), (6, .int x6), (7, .int (nI u))]), 2 ^ n - u < fu → W p l e (rmD 6 0 0) s m args below meth c H locs 0 0 (MQ below (Qi g (fun r M1 => ∃ (y2 : Int32) (y0 : Nat → Int32) (y1 : Nat → Int32) (y3 : Nat → Int32), (mDeal f L t ha (nI n) how (nI j)) = r ∧ mup (mup (mup (mup M (gA g 46) (mdE g m0 m1 y2 m3 m4 m5 m6 m7 m8 m9 m10 m11)) (gA g 50) (aI g 6 y0)) (gA g 51) (aZ g 64 y1)) (gA g 52) (aI g 18 y3) = M1)) args s 0 0 (gF g)) (F0 m 92 ls []) := by
                intro fu92
                induction fu92 with
                | zero => intro u x4 x5 x6 hu kd H locs hM ls hl hmu; exact absurd hmu (Nat.not_lt_zero _)
                | succ fu92 ih92 =>
                  intro u x4 x5 x6 hu kd H locs hM ls hl hmu
                  refine lv_iload hx hb dX12_deal_92 (lv_at hl 7 rfl) ?_
                  refine lv_iconst (v := 1) hx hb dX12_deal_94 (by decide) ?_
                  refine lv_iload_n hx hb dX12_deal_95 rfl (lv_at hl 1 rfl) ?_
                  refine lv_ishl hx hb dX12_deal_96 ?_
                  rw [show (1 <<< ((nI n) &&& 31) : Int32) = nI (2 ^ n) from shl1 n (by omega)]
                  refine lv_icmp_ge (tgt := 239) hx hb dX12_deal_97 (by decide) (fun c_5 => ?_) (fun c_5 => ?_)
                  · skip
                    have hz1 : 2 ^ n ≤ u := (nI_leI (by omega) (by omega)).mp c_5
                    have hz2 : u = 2 ^ n := by omega
                    refine lv_iload_n hx hb dX12_deal_239 rfl (lv_at hl 3 rfl) ?_
                    refine lv_if_ne (tgt := 248) hx hb dX12_deal_240 (by decide) (fun c_6 => ?_) (fun c_6 => ?_)
                    · skip
                      refine lv_aload_n hx hb dX12_deal_248 rfl (lv_at hl 0 rfl) ?_
                      refine lv_iload hx hb dX12_deal_249 (lv_at hl 4 rfl) ?_
                      refine lv_iload_n hx hb dX12_deal_251 rfl (lv_at hl 1 rfl) ?_
                      refine lv_iload_n hx hb dX12_deal_252 rfl (lv_at hl 3 rfl) ?_
                      refine lv_iconst (v := 1) hx hb dX12_deal_253 (by decide) ?_
                      refine lv_isub hx hb dX12_deal_254 ?_
                      rw [show (nI j) - 1 = nI (j - 1) from nI_sub1 (Nat.pos_of_ne_zero (fun q => c_6 (by rw [q]; rfl)))]
                      refine K_i (G_V (As := [.int x4, .int (nI n), .int (nI (j - 1))]) (rest := []) X hM (c_X12_dealt l g _ m0 m1 (mCl f) m3 m4 m5 m6 m7 m8 m9 m10 m11 (mFil f L (mCl f) t ha (2 * n)) x4 n (j - 1) (mup_r (X.2.ne (i := 46) (j := 52) (by decide) (by decide) (by decide)) (mup_r (X.2.ne (i := 46) (j := 51) (by decide) (by decide) (by decide)) (mup_r (X.2.ne (i := 46) (j := 50) (by decide) (by decide) (by decide)) (mup_s _ _ _)))) (mup_s _ _ _) bn (by omega)) lk_X12_187 (mup_r (X.2.ne (i := 46) (j := 52) (by decide) (by decide) (by decide)) (mup_r (X.2.ne (i := 46) (j := 51) (by decide) (by decide) (by decide)) (mup_r (X.2.ne (i := 46) (j := 50) (by decide) (by decide) (by decide)) (mup_s _ _ _)))) rfl rfl hl.1 rfl (Nat.le_of_ble_eq_true rfl) (by decide) dX12_deal_255 ⟨Nat.le_of_ble_eq_true rfl, Nat.le_of_ble_eq_true rfl⟩) hM (fun r M1 H locs hM hp => ?_)
                      obtain ⟨rfl, rfl⟩ := hp
                      exact R_i X hr hk hM ⟨_, _, _, _, (by unfold mDeal; simp only [hcn, hcj]; rw [if_neg c_1, if_neg c_2, if_neg c_3]; unfold mDeR; rw [if_neg (fun q => c_6 (by rw [q]; rfl)), ← hz2, ← kd]), rfl⟩ dX12_deal_258
                    · skip
                      refine lv_iload hx hb dX12_deal_243 (lv_at hl 4 rfl) ?_
                      refine lv_goto (tgt := 258) hx hb dX12_deal_245 (by decide) ?_
                      exact R_i X hr hk hM ⟨_, _, _, _, (by unfold mDeal; simp only [hcn, hcj]; rw [if_neg c_1, if_neg c_2, if_neg c_3]; unfold mDeR; rw [if_pos ((nI_eq (b := 0) (by omega) (by omega)).mp c_6), ← hz2, ← kd]), rfl⟩ dX12_deal_258
                  · skip
                    have hz1 : u < 2 ^ n := by
                      rcases Nat.lt_or_ge u (2 ^ n) with q | q
                      · exact q
                      · exact absurd ((nI_leI (by omega) (by omega)).mpr q) c_5
                    refine lv_aload_n hx hb dX12_deal_100 rfl (lv_at hl 0 rfl) ?_
                    refine lv_iload hx hb dX12_deal_101 (lv_at hl 7 rfl) ?_
                    refine lv_iload_n hx hb dX12_deal_103 rfl (lv_at hl 1 rfl) ?_
                    refine lv_iconst (v := 0) hx hb dX12_deal_104 (by decide) ?_
                    refine K_i (G_V (As := [.int (nI u), .int (nI n), .int 0]) (rest := []) X hM (c_X12_dealt l g _ m0 m1 (mCl f) m3 m4 m5 m6 m7 m8 m9 m10 m11 (mFil f L (mCl f) t ha (2 * n)) (nI u) n 0 (mup_r (X.2.ne (i := 46) (j := 52) (by decide) (by decide) (by decide)) (mup_r (X.2.ne (i := 46) (j := 51) (by decide) (by decide) (by decide)) (mup_r (X.2.ne (i := 46) (j := 50) (by decide) (by decide) (by decide)) (mup_s _ _ _)))) (mup_s _ _ _) bn (by omega)) lk_X12_187 (mup_r (X.2.ne (i := 46) (j := 52) (by decide) (by decide) (by decide)) (mup_r (X.2.ne (i := 46) (j := 51) (by decide) (by decide) (by decide)) (mup_r (X.2.ne (i := 46) (j := 50) (by decide) (by decide) (by decide)) (mup_s _ _ _)))) rfl rfl hl.1 rfl (Nat.le_of_ble_eq_true rfl) (by decide) dX12_deal_105 ⟨Nat.le_of_ble_eq_true rfl, Nat.le_of_ble_eq_true rfl⟩) hM (fun r M1 H locs hM hp => ?_)
                    obtain ⟨rfl, rfl⟩ := hp
                    refine lv_istore (lv' := [(8, .int (mDl (mFil f L (mCl f) t ha (2 * n)) (nI u) 0 n)), (0, .ref (gA g 46)), (1, .int (nI n)), (2, .int how), (3, .int (nI j)), (4, .int x4), (5, .int x5), (6, .int x6), (7, .int (nI u))]) hx hb dX12_deal_108 hl (by decide) rfl (fun ls hl => ?_)
                    refine lv_aload_n hx hb dX12_deal_110 rfl (lv_at hl 1 rfl) ?_
                    refine lv_iload hx hb dX12_deal_111 (lv_at hl 8 rfl) ?_
                    refine lv_iload_n hx hb dX12_deal_113 rfl (lv_at hl 2 rfl) ?_
                    refine lv_iconst (v := 1) hx hb dX12_deal_114 (by decide) ?_
                    refine K_i (G_V (As := [.int (nI u), .int (nI n), .int 1]) (rest := []) X hM (c_X12_dealt l g _ m0 m1 (mCl f) m3 m4 m5 m6 m7 m8 m9 m10 m11 (mFil f L (mCl f) t ha (2 * n)) (nI u) n 1 (mup_r (X.2.ne (i := 46) (j := 52) (by decide) (by decide) (by decide)) (mup_r (X.2.ne (i := 46) (j := 51) (by decide) (by decide) (by decide)) (mup_r (X.2.ne (i := 46) (j := 50) (by decide) (by decide) (by decide)) (mup_s _ _ _)))) (mup_s _ _ _) bn (by omega)) lk_X12_187 (mup_r (X.2.ne (i := 46) (j := 52) (by decide) (by decide) (by decide)) (mup_r (X.2.ne (i := 46) (j := 51) (by decide) (by decide) (by decide)) (mup_r (X.2.ne (i := 46) (j := 50) (by decide) (by decide) (by decide)) (mup_s _ _ _)))) rfl rfl hl.1 rfl (Nat.le_of_ble_eq_true rfl) (by decide) dX12_deal_115 ⟨Nat.le_of_ble_eq_true rfl, Nat.le_of_ble_eq_true rfl⟩) hM (fun r M1 H locs hM hp => ?_)
                    obtain ⟨rfl, rfl⟩ := hp
                    refine lv_istore (lv' := [(9, .int (mDl (mFil f L (mCl f) t ha (2 * n)) (nI u) 1 n)), (8, .int (mDl (mFil f L (mCl f) t ha (2 * n)) (nI u) 0 n)), (0, .ref (gA g 46)), (1, .int (nI n)), (2, .int how), (3, .int (nI j)), (4, .int x4), (5, .int x5), (6, .int x6), (7, .int (nI u))]) hx hb dX12_deal_118 hl (by decide) rfl (fun ls hl => ?_)
                    refine l_joinM (ls := ls) hM 146 (mB1Of how (mDl (mFil f L (mCl f) t ha (2 * n)) (nI u) 0 n) (mDl (mFil f L (mCl f) t ha (2 * n)) (nI u) 1 n)) [] (fun H locs hM => ?_) (fun J120 => ?_)
                    · skip
                      refine lv_topi (fun v1 e_v1 => ?_)
                      refine lv_istore (lv' := [(10, .int v1), (9, .int (mDl (mFil f L (mCl f) t ha (2 * n)) (nI u) 1 n)), (8, .int (mDl (mFil f L (mCl f) t ha (2 * n)) (nI u) 0 n)), (0, .ref (gA g 46)), (1, .int (nI n)), (2, .int how), (3, .int (nI j)), (4, .int x4), (5, .int x5), (6, .int x6), (7, .int (nI u))]) hx hb dX12_deal_146 hl (by decide) rfl (fun ls hl => ?_)
                      refine l_joinM (ls := ls) hM 161 (mB2Of how (mDl (mFil f L (mCl f) t ha (2 * n)) (nI u) 0 n) (mDl (mFil f L (mCl f) t ha (2 * n)) (nI u) 1 n)) [] (fun H locs hM => ?_) (fun J148 => ?_)
                      · skip
                        refine lv_topi (fun v2 e_v2 => ?_)
                        refine lv_istore (lv' := [(11, .int v2), (10, .int v1), (9, .int (mDl (mFil f L (mCl f) t ha (2 * n)) (nI u) 1 n)), (8, .int (mDl (mFil f L (mCl f) t ha (2 * n)) (nI u) 0 n)), (0, .ref (gA g 46)), (1, .int (nI n)), (2, .int how), (3, .int (nI j)), (4, .int x4), (5, .int x5), (6, .int x6), (7, .int (nI u))]) hx hb dX12_deal_161 hl (by decide) rfl (fun ls hl => ?_)
                        refine l_joinM (ls := ls) hM 189 (mBet v1 v2 x5 x6) [] (fun H locs hM => ?_) (fun J163 => ?_)
                        · skip
                          refine lv_topi (fun vb e_vb => ?_)
                          refine lv_istore (lv' := [(12, .int vb), (11, .int v2), (10, .int v1), (9, .int (mDl (mFil f L (mCl f) t ha (2 * n)) (nI u) 1 n)), (8, .int (mDl (mFil f L (mCl f) t ha (2 * n)) (nI u) 0 n)), (0, .ref (gA g 46)), (1, .int (nI n)), (2, .int how), (3, .int (nI j)), (4, .int x4), (5, .int x5), (6, .int x6), (7, .int (nI u))]) hx hb dX12_deal_189 hl (by decide) rfl (fun ls hl => ?_)
                          refine l_joinM (ls := ls) hM 203 (if vb = 0 then x4 else nI u) [] (fun H locs hM => ?_) (fun J191 => ?_)
                          · skip
                            refine lv_istore (lv' := [(4, .int (if vb = 0 then x4 else nI u)), (12, .int vb), (11, .int v2), (10, .int v1), (9, .int (mDl (mFil f L (mCl f) t ha (2 * n)) (nI u) 1 n)), (8, .int (mDl (mFil f L (mCl f) t ha (2 * n)) (nI u) 0 n)), (0, .ref (gA g 46)), (1, .int (nI n)), (2, .int how), (3, .int (nI j)), (5, .int x5), (6, .int x6), (7, .int (nI u))]) hx hb dX12_deal_203 hl (by decide) rfl (fun ls hl => ?_)
                            refine l_joinM (ls := ls) hM 217 (if vb = 0 then x5 else v1) [] (fun H locs hM => ?_) (fun J205 => ?_)
                            · skip
                              refine lv_istore (lv' := [(5, .int (if vb = 0 then x5 else v1)), (4, .int (if vb = 0 then x4 else nI u)), (12, .int vb), (11, .int v2), (10, .int v1), (9, .int (mDl (mFil f L (mCl f) t ha (2 * n)) (nI u) 1 n)), (8, .int (mDl (mFil f L (mCl f) t ha (2 * n)) (nI u) 0 n)), (0, .ref (gA g 46)), (1, .int (nI n)), (2, .int how), (3, .int (nI j)), (6, .int x6), (7, .int (nI u))]) hx hb dX12_deal_217 hl (by decide) rfl (fun ls hl => ?_)
                              refine l_joinM (ls := ls) hM 231 (if vb = 0 then x6 else v2) [] (fun H locs hM => ?_) (fun J219 => ?_)
                              · skip
                                refine lv_istore (lv' := [(6, .int (if vb = 0 then x6 else v2)), (5, .int (if vb = 0 then x5 else v1)), (4, .int (if vb = 0 then x4 else nI u)), (12, .int vb), (11, .int v2), (10, .int v1), (9, .int (mDl (mFil f L (mCl f) t ha (2 * n)) (nI u) 1 n)), (8, .int (mDl (mFil f L (mCl f) t ha (2 * n)) (nI u) 0 n)), (0, .ref (gA g 46)), (1, .int (nI n)), (2, .int how), (3, .int (nI j)), (7, .int (nI u))]) hx hb dX12_deal_231 hl (by decide) rfl (fun ls hl => ?_)
                                refine lv_iinc (v := (nI u) + 1) (lv' := [(7, .int ((nI u) + 1)), (6, .int (if vb = 0 then x6 else v2)), (5, .int (if vb = 0 then x5 else v1)), (4, .int (if vb = 0 then x4 else nI u)), (12, .int vb), (11, .int v2), (10, .int v1), (9, .int (mDl (mFil f L (mCl f) t ha (2 * n)) (nI u) 1 n)), (8, .int (mDl (mFil f L (mCl f) t ha (2 * n)) (nI u) 0 n)), (0, .ref (gA g 46)), (1, .int (nI n)), (2, .int how), (3, .int (nI j))]) hx hb dX12_deal_233 hl (k := 12) rfl rfl (by decide) rfl (fun ls hl => ?_)
                                refine lv_goto (tgt := 92) hx hb dX12_deal_236 (by decide) ?_
                                have e9 : mDe (mFil f L (mCl f) t ha (2 * n)) how n (u + 1) = (if vb = 0 then x4 else nI u, if vb = 0 then x5 else v1, if vb = 0 then x6 else v2) := by
                                  show (fun x1 x2 z => if mBet x1 x2 z.2.1 z.2.2 = 0 then z else (nI u, x1, x2)) (mB1Of how (mDl (mFil f L (mCl f) t ha (2 * n)) (nI u) 0 n) (mDl (mFil f L (mCl f) t ha (2 * n)) (nI u) 1 n)) (mB2Of how (mDl (mFil f L (mCl f) t ha (2 * n)) (nI u) 0 n) (mDl (mFil f L (mCl f) t ha (2 * n)) (nI u) 1 n)) (mDe (mFil f L (mCl f) t ha (2 * n)) how n u) = _
                                  rw [← kd, ← e_v1, ← e_v2]
                                  dsimp only
                                  rw [← e_vb]
                                  by_cases q_ : vb = 0 <;> simp only [q_, if_true, if_false]
                                exact ih92 (u + 1) (if vb = 0 then x4 else nI u) (if vb = 0 then x5 else v1) (if vb = 0 then x6 else v2) (by omega) e9.symm _ _ hM _ ((by rw [← nI_1]; exact lv_sub hl [9, 10, 11, 12, 3, 2, 1, 0] rfl)) (by omega)
                              refine lv_iload hx hb dX12_deal_219 (lv_at hl 2 rfl) ?_
                              refine lv_if_eq (tgt := 229) hx hb dX12_deal_221 (by decide) (fun c_7 => ?_) (fun c_7 => ?_)
                              · skip
                                refine lv_iload hx hb dX12_deal_229 (lv_at hl 11 rfl) ?_
                                exact J219 _ _ _ hM (by (first | rw [if_pos c_7] | rw [if_neg c_7] | skip))
                              · skip
                                refine lv_iload hx hb dX12_deal_224 (lv_at hl 3 rfl) ?_
                                refine lv_goto (tgt := 231) hx hb dX12_deal_226 (by decide) ?_
                                exact J219 _ _ _ hM (by (first | rw [if_pos c_7] | rw [if_neg c_7] | skip))
                            refine lv_iload hx hb dX12_deal_205 (lv_at hl 1 rfl) ?_
                            refine lv_if_eq (tgt := 215) hx hb dX12_deal_207 (by decide) (fun c_8 => ?_) (fun c_8 => ?_)
                            · skip
                              refine lv_iload hx hb dX12_deal_215 (lv_at hl 10 rfl) ?_
                              exact J205 _ _ _ hM (by (first | rw [if_pos c_8] | rw [if_neg c_8] | skip))
                            · skip
                              refine lv_iload hx hb dX12_deal_210 (lv_at hl 3 rfl) ?_
                              refine lv_goto (tgt := 217) hx hb dX12_deal_212 (by decide) ?_
                              exact J205 _ _ _ hM (by (first | rw [if_pos c_8] | rw [if_neg c_8] | skip))
                          refine lv_iload hx hb dX12_deal_191 (lv_at hl 0 rfl) ?_
                          refine lv_if_eq (tgt := 201) hx hb dX12_deal_193 (by decide) (fun c_9 => ?_) (fun c_9 => ?_)
                          · skip
                            refine lv_iload hx hb dX12_deal_201 (lv_at hl 9 rfl) ?_
                            exact J191 _ _ _ hM (by (first | rw [if_pos c_9] | rw [if_neg c_9] | skip))
                          · skip
                            refine lv_iload hx hb dX12_deal_196 (lv_at hl 12 rfl) ?_
                            refine lv_goto (tgt := 203) hx hb dX12_deal_198 (by decide) ?_
                            exact J191 _ _ _ hM (by (first | rw [if_pos c_9] | rw [if_neg c_9] | skip))
                        refine lv_iload hx hb dX12_deal_163 (lv_at hl 1 rfl) ?_
                        refine lv_iload hx hb dX12_deal_165 (lv_at hl 9 rfl) ?_
                        refine lv_icmp_gt (tgt := 184) hx hb dX12_deal_167 (by decide) (fun c_10 => ?_) (fun c_10 => ?_)
                        · skip
                          refine lv_iconst (v := 1) hx hb dX12_deal_184 (by decide) ?_
                          refine lv_goto (tgt := 189) hx hb dX12_deal_185 (by decide) ?_
                          exact J163 _ _ _ hM (by unfold mBet; (first | rw [if_pos c_10] | rw [if_neg c_10] | skip))
                        · skip
                          refine lv_iload hx hb dX12_deal_170 (lv_at hl 1 rfl) ?_
                          refine lv_iload hx hb dX12_deal_172 (lv_at hl 9 rfl) ?_
                          refine lv_icmp_ne (tgt := 188) hx hb dX12_deal_174 (by decide) (fun c_11 => ?_) (fun c_11 => ?_)
                          · skip
                            refine lv_iconst (v := 0) hx hb dX12_deal_188 (by decide) ?_
                            exact J163 _ _ _ hM (by unfold mBet; (first | rw [if_pos c_10] | rw [if_neg c_10] | skip); (first | rw [if_pos c_11] | rw [if_neg c_11] | skip))
                          · skip
                            refine lv_iload hx hb dX12_deal_177 (lv_at hl 0 rfl) ?_
                            refine lv_iload hx hb dX12_deal_179 (lv_at hl 10 rfl) ?_
                            refine lv_icmp_le (tgt := 188) hx hb dX12_deal_181 (by decide) (fun c_12 => ?_) (fun c_12 => ?_)
                            · skip
                              refine lv_iconst (v := 0) hx hb dX12_deal_188 (by decide) ?_
                              exact J163 _ _ _ hM (by unfold mBet; (first | rw [if_pos c_10] | rw [if_neg c_10] | skip); (first | rw [if_pos c_11] | rw [if_neg c_11] | skip); (first | rw [if_pos c_12] | rw [if_neg c_12] | skip))
                            · skip
                              refine lv_iconst (v := 1) hx hb dX12_deal_184 (by decide) ?_
                              refine lv_goto (tgt := 189) hx hb dX12_deal_185 (by decide) ?_
                              exact J163 _ _ _ hM (by unfold mBet; (first | rw [if_pos c_10] | rw [if_neg c_10] | skip); (first | rw [if_pos c_11] | rw [if_neg c_11] | skip); (first | rw [if_pos c_12] | rw [if_neg c_12] | skip))
                      refine lv_iload_n hx hb dX12_deal_148 rfl (lv_at hl 5 rfl) ?_
                      refine lv_if_ne (tgt := 156) hx hb dX12_deal_149 (by decide) (fun c_13 => ?_) (fun c_13 => ?_)
                      · skip
                        refine lv_iload hx hb dX12_deal_156 (lv_at hl 2 rfl) ?_
                        refine lv_iload hx hb dX12_deal_158 (lv_at hl 1 rfl) ?_
                        refine lv_iadd hx hb dX12_deal_160 ?_
                        exact J148 _ _ _ hM (by unfold mB2Of; (first | rw [if_pos c_13] | rw [if_neg c_13] | skip))
                      · skip
                        refine lv_iconst (v := 0) hx hb dX12_deal_152 (by decide) ?_
                        refine lv_goto (tgt := 161) hx hb dX12_deal_153 (by decide) ?_
                        exact J148 _ _ _ hM (by unfold mB2Of; (first | rw [if_pos c_13] | rw [if_neg c_13] | skip))
                    refine lv_iload_n hx hb dX12_deal_120 rfl (lv_at hl 4 rfl) ?_
                    refine lv_if_ne (tgt := 132) hx hb dX12_deal_121 (by decide) (fun c_14 => ?_) (fun c_14 => ?_)
                    · skip
                      refine lv_iload hx hb dX12_deal_132 (lv_at hl 1 rfl) ?_
                      refine lv_iload hx hb dX12_deal_134 (lv_at hl 0 rfl) ?_
                      refine lv_icmp_ge (tgt := 144) hx hb dX12_deal_136 (by decide) (fun c_15 => ?_) (fun c_15 => ?_)
                      · skip
                        refine lv_iload hx hb dX12_deal_144 (lv_at hl 0 rfl) ?_
                        exact J120 _ _ _ hM (by unfold mB1Of; (first | rw [if_pos c_14] | rw [if_neg c_14] | skip); (first | rw [if_pos c_15] | rw [if_neg c_15] | skip))
                      · skip
                        refine lv_iload hx hb dX12_deal_139 (lv_at hl 1 rfl) ?_
                        refine lv_goto (tgt := 146) hx hb dX12_deal_141 (by decide) ?_
                        exact J120 _ _ _ hM (by unfold mB1Of; (first | rw [if_pos c_14] | rw [if_neg c_14] | skip); (first | rw [if_pos c_15] | rw [if_neg c_15] | skip))
                    · skip
                      refine lv_iload hx hb dX12_deal_124 (lv_at hl 1 rfl) ?_
                      refine lv_iload hx hb dX12_deal_126 (lv_at hl 0 rfl) ?_
                      refine lv_iadd hx hb dX12_deal_128 ?_
                      refine lv_goto (tgt := 146) hx hb dX12_deal_129 (by decide) ?_
                      exact J120 _ _ _ hM (by unfold mB1Of; (first | rw [if_pos c_14] | rw [if_neg c_14] | skip))
              exact L92 (2 ^ n + 1) 0 0 (-1) (-1) (Nat.zero_le _) rfl _ _ hM _ (lv_sub hl [4, 5, 6, 7, 3, 2, 1, 0] rfl) (by first | exact Nat.lt_succ_self _ | omega)
            · skip
              have hz1 : i < 2 * n := by
                rcases Nat.lt_or_ge i (2 * n) with q | q
                · exact q
                · exact absurd ((nI_leI (by omega) (by omega)).mpr q) c_4
              refine lv_aload_n hx hb dX12_deal_48 rfl (lv_at hl 0 rfl) ?_
              refine r_get (T := TX12) (N := 20) (ci := 12) (v := .ref (gA g 52)) X hM iX12 rfl 13 (by decide) q_848 (Or.inl rfl) (mup_r (X.2.ne (i := 46) (j := 52) (by decide) (by decide) (by decide)) (mup_r (X.2.ne (i := 46) (j := 51) (by decide) (by decide) (by decide)) (mup_r (X.2.ne (i := 46) (j := 50) (by decide) (by decide) (by decide)) (mup_s _ _ _)))) rfl dX12_deal_49 ?_
              refine lv_iload hx hb dX12_deal_52 (lv_at hl 4 rfl) ?_
              refine lv_aload_n hx hb dX12_deal_54 rfl (lv_at hl 0 rfl) ?_
              refine lv_aload_n hx hb dX12_deal_55 rfl (lv_at hl 0 rfl) ?_
              refine r_get (T := TX12) (N := 20) (ci := 12) (v := .ref (gA g 47)) X hM iX12 rfl 1 (by decide) q_836 (Or.inl rfl) (mup_r (X.2.ne (i := 46) (j := 52) (by decide) (by decide) (by decide)) (mup_r (X.2.ne (i := 46) (j := 51) (by decide) (by decide) (by decide)) (mup_r (X.2.ne (i := 46) (j := 50) (by decide) (by decide) (by decide)) (mup_s _ _ _)))) rfl dX12_deal_56 ?_
              refine lv_iconst (v := 0) hx hb dX12_deal_59 (by decide) ?_
              refine r_iald (i := 0) X hM (mup_r (X.2.ne (i := 47) (j := 52) (by decide) (by decide) (by decide)) (mup_r (X.2.ne (i := 47) (j := 51) (by decide) (by decide) (by decide)) (mup_r (X.2.ne (i := 47) (j := 50) (by decide) (by decide) (by decide)) (mup_r (X.2.ne (i := 47) (j := 46) (by decide) (by decide) (by decide)) h47)))) (vp_in_nI (n := 0) (by decide) (by decide)) dX12_deal_60 ?_
              rw [show ((0 : Int32)).toNatClampNeg = 0 from by decide]
              rw [h0]
              refine lv_iload hx hb dX12_deal_61 (lv_at hl 4 rfl) ?_
              refine lv_iconst (v := 2) hx hb dX12_deal_63 (by decide) ?_
              refine lv_idiv hx hb dX12_deal_64 (by decide) ?_
              rw [show (nI i) / 2 = nI (i / 2) from pk_div (d := 2) (by omega) (by decide) (by decide)]
              refine lv_iadd hx hb dX12_deal_65 ?_
              rw [show (nI t) + (nI (i / 2)) = nI (t + (i / 2)) from nI_add t (i / 2)]
              refine lv_iload hx hb dX12_deal_66 (lv_at hl 4 rfl) ?_
              refine lv_iconst (v := 2) hx hb dX12_deal_68 (by decide) ?_
              refine l_irem hx hb dX12_deal_69 (by decide) ?_
              rw [show iR (nI i) 2 = nI (i % 2) from iR_nI (d := 2) (by omega) (by decide) (by decide)]
              refine K_i (G_V (As := [.int (nI (t + (i / 2))), .int (nI (i % 2))]) (rest := [.int (nI i), .ref (gA g 52)]) X hM (c_X12_hasOn l g _ m0 m1 (mCl f) m3 m4 m5 m6 m7 m8 m9 m10 m11 f L (t + (i / 2)) (nI (i % 2)) b0 b1 (mup_r (X.2.ne (i := 46) (j := 52) (by decide) (by decide) (by decide)) (mup_r (X.2.ne (i := 46) (j := 51) (by decide) (by decide) (by decide)) (mup_r (X.2.ne (i := 46) (j := 50) (by decide) (by decide) (by decide)) (mup_s _ _ _)))) (mup_r (X.2.ne (i := 47) (j := 52) (by decide) (by decide) (by decide)) (mup_r (X.2.ne (i := 47) (j := 51) (by decide) (by decide) (by decide)) (mup_r (X.2.ne (i := 47) (j := 50) (by decide) (by decide) (by decide)) (mup_r (X.2.ne (i := 47) (j := 46) (by decide) (by decide) (by decide)) h47)))) (mup_r (X.2.ne (i := 50) (j := 52) (by decide) (by decide) (by decide)) (mup_r (X.2.ne (i := 50) (j := 51) (by decide) (by decide) (by decide)) (mup_s _ _ _))) (mup_r (X.2.ne (i := 51) (j := 52) (by decide) (by decide) (by decide)) (mup_s _ _ _)) hO (by omega)) lk_X12_165 (mup_r (X.2.ne (i := 46) (j := 52) (by decide) (by decide) (by decide)) (mup_r (X.2.ne (i := 46) (j := 51) (by decide) (by decide) (by decide)) (mup_r (X.2.ne (i := 46) (j := 50) (by decide) (by decide) (by decide)) (mup_s _ _ _)))) rfl rfl hl.1 rfl (Nat.le_of_ble_eq_true rfl) (by decide) dX12_deal_70 ⟨Nat.le_of_ble_eq_true rfl, Nat.le_of_ble_eq_true rfl⟩) hM (fun r M1 H locs hM hp => ?_)
              obtain ⟨y0_16, y1_17, rfl, rfl⟩ := hp
              rw [mup_w _ _ _ (X.2.ne (i := 52) (j := 50) (by decide) (by decide) (by decide)), mup_w _ _ _ (X.2.ne (i := 51) (j := 50) (by decide) (by decide) (by decide)), mup_i] at hM
              rw [mup_w _ _ _ (X.2.ne (i := 52) (j := 51) (by decide) (by decide) (by decide)), mup_i] at hM
              have hM : MW g (mup (mup (mup (mup M (gA g 46) (mdE g m0 m1 (mCl f) m3 m4 m5 m6 m7 m8 m9 m10 m11)) (gA g 50) (aI g 6 y0_16)) (gA g 51) (aZ g 64 y1_17)) (gA g 52) (aI g 18 (mFil f L (mCl f) t ha i))) H locs := hM
              refine r_iast (i := nI i) (x := mHas f L (mCl f) (t + (i / 2)) (nI (i % 2))) X hM (mup_s _ _ _) (vp_in_nI (by omega) (by decide)) dX12_deal_73 (fun H locs hM => ?_)
              rw [nI_clamp (show i < 2147483648 by omega)] at hM
              rw [mup_i] at hM
              have hM : MW g (mup (mup (mup (mup M (gA g 46) (mdE g m0 m1 (mCl f) m3 m4 m5 m6 m7 m8 m9 m10 m11)) (gA g 50) (aI g 6 y0_16)) (gA g 51) (aZ g 64 y1_17)) (gA g 52) (aI g 18 (upd (mFil f L (mCl f) t ha i) i (mHas f L (mCl f) (t + (i / 2)) (nI (i % 2)))))) H locs := hM
              refine lv_iinc (v := (nI i) + 1) (lv' := [(4, .int ((nI i) + 1)), (0, .ref (gA g 46)), (1, .int (nI n)), (2, .int how), (3, .int (nI j))]) hx hb dX12_deal_74 hl (k := 4) rfl rfl (by decide) rfl (fun ls hl => ?_)
              refine lv_goto (tgt := 40) hx hb dX12_deal_77 (by decide) ?_
              exact ih (i + 1) y0_16 y1_17 (by omega) _ _ hM _ ((by rw [← nI_1]; exact lv_sub hl [1, 2, 3, 4, 0] rfl)) (by omega)
        exact L40 (2 * n + 1) 0 by_ tr (Nat.zero_le _) _ _ (by show MW g (mup (mup (mup (mup M (gA g 46) (mdE g m0 m1 (mCl f) m3 m4 m5 m6 m7 m8 m9 m10 m11)) (gA g 50) (aI g 6 by_)) (gA g 51) (aZ g 64 tr)) (gA g 52) (aI g 18 ha)) _ _; rw [mup_id (a := gA g 50) (mup_r (X.2.ne (i := 50) (j := 46) (by decide) (by decide) (by decide)) h50), mup_id (a := gA g 51) (mup_r (X.2.ne (i := 51) (j := 46) (by decide) (by decide) (by decide)) h51), mup_id (a := gA g 52) (mup_r (X.2.ne (i := 52) (j := 46) (by decide) (by decide) (by decide)) h52)]; exact hM) _ (lv_sub hl [1, 2, 3, 4, 0] rfl) (by first | exact Nat.lt_succ_self _ | omega)
      · skip
        refine lv_bipush (v := -2) hx hb dX12_deal_30 (by decide) ?_
        exact R_i X hr hk hM ⟨m2, by_, tr, ha, (by unfold mDeal; (try simp only [hcn]); (try simp only [hcj]); (first | rw [if_pos c_1] | rw [if_neg c_1] | skip); (first | rw [if_pos c_2] | rw [if_neg c_2] | skip); (first | rw [if_pos c_3] | rw [if_neg c_3] | skip)), (by rw [mup_id h46, mup_id h50, mup_id h51, mup_id h52])⟩ dX12_deal_32
    · skip
      refine lv_iconst (v := -1) hx hb dX12_deal_18 (by decide) ?_
      exact R_i X hr hk hM ⟨m2, by_, tr, ha, (by unfold mDeal; (try simp only [hcn]); (try simp only [hcj]); (first | rw [if_pos c_1] | rw [if_neg c_1] | skip); (first | rw [if_pos c_2] | rw [if_neg c_2] | skip)), (by rw [mup_id h46, mup_id h50, mup_id h51, mup_id h52])⟩ dX12_deal_19
