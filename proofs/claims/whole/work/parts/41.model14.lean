def mThS (f : Nat → Int32) (sp en : Nat) (z : Int32) (k : Nat) : Nat × Int32 := mSpl f sp en z k (lenS.getD k 0)
def mThW (f : Nat → Int32) (sp en : Nat) (z : Int32) (k : Nat) : Int32 := mFgW f (mThS f sp en z k).1 en (mThS f sp en z k).2
def mThN (f : Nat → Int32) (sp en : Nat) (z : Int32) (k : Nat) : Int32 × Nat := mFig f (mThS f sp en z k).1 en (mThW f sp en z k)
def mThF (f : Nat → Int32) (w a sp en : Nat) (z : Int32) (k : Nat) : Nat → Int32 := if mThW f sp en z k = 0 then upd f (w + a) (mThN f sp en z k).1 else f
theorem mSpl_le (f : Nat → Int32) (sp en : Nat) (z : Int32) (k : Nat) : ∀ i, (mSpl f sp en z k i).1 ≤ sp + i := fun i => by
  induction i with
  | zero => exact Nat.le_refl _
  | succ i ih =>
    have := mMuS_le f (mSpl f sp en z k i).1 en (mSpl f sp en z k i).2 (chS k i)
    show mMuS f (mSpl f sp en z k i).1 en (mSpl f sp en z k i).2 (chS k i) ≤ _
    omega

theorem lk_X12_108 : LkV RX12 108 yX12_spells cX12_spells 3 none 1 := lkV_of q_921 q_923 qs_13 q_7 q_924 ⟨by decide, by decide, by decide +kernel⟩ (by decide)
theorem lk_X12_102 : LkV RX12 102 yX12_figures cX12_figures 3 (some .int) 0 := lkV_of q_931 q_933 qs_15 q_7 q_934 ⟨by decide, by decide, by decide +kernel⟩ (by decide)
set_option maxHeartbeats 4000000 in
set_option maxRecDepth 100000 in
theorem c_X12_tellsHere (l : Launch) (g : Gp) (M : Mem) (m0 m1 m2 m6 m7 m8 m9 m10 m11 : Int32) (a sp en : Nat) (f : Nat → Int32) (w k : Nat) (h46 : M (gA g 46) = some (mdE g m0 m1 m2 (nI a) (nI sp) (nI en) m6 m7 m8 m9 m10 m11)) (h47 : M (gA g 47) = some (aI g 929 f)) (hsp : sp ≤ 150) (hen : en ≤ 100) (hK : k < 10) (ha : a < 5) (hw : w ≤ 219) : Met l yX12_tellsHere (wsM yX12_tellsHere cX12_tellsHere 4 none) (rmD 6 0 0) (Pre g M [.ref (gA g 46), .int (nI w), .ref (gK g k)]) (Qv g (fun M1 => mup (mup M (gA g 46) (mdE g m0 m1 m2 (nI a) (nI (mThN f sp en m6 k).2) (nI en) (mThW f sp en m6 k) m7 m8 m9 m10 m11)) (gA g 47) (aI g 929 (mThF f w a sp en m6 k)) = M1)) 0 0 (gF g) := M_start (by decide +kernel) (Nat.le_of_ble_eq_true rfl) fun p e s m args below meth c ls X hr hk hnm hM hl => by
  have X : Cx g p m c cX12_tellsHere 4 s args RX12 := X
  have hx := X.1.1
  have hb := X.1.2.1
  have hl : lv_has ls 4 [(0, .ref (gA g 46)), (1, .int (nI w)), (2, .ref (gK g k))] := hl
  refine lv_aload_n hx hb dX12_tellsHere_0 rfl (lv_at hl 0 rfl) ?_
  refine lv_aload_n hx hb dX12_tellsHere_1 rfl (lv_at hl 2 rfl) ?_
  refine K_v (G_V (As := [.ref (gK g k)]) (rest := []) X hM (c_X12_spells l g _ m0 m1 m2 (nI a) m6 m7 m8 m9 m10 m11 sp en f k h46 h47 (by omega) hen hK) lk_X12_108 h46 rfl rfl hl.1 rfl (Nat.le_of_ble_eq_true rfl) (by decide) dX12_tellsHere_2 ⟨Nat.le_of_ble_eq_true rfl, Nat.le_of_ble_eq_true rfl⟩) hM (fun M1 H locs hM hp => ?_)
  subst hp
  have hM : MW g (mup M (gA g 46) (mdE g m0 m1 m2 (nI a) (nI (mSpl f sp en m6 k (lenS.getD k 0)).1) (nI en) ((mSpl f sp en m6 k (lenS.getD k 0)).2) m7 m8 m9 m10 m11)) H locs := hM
  refine lv_aload_n hx hb dX12_tellsHere_5 rfl (lv_at hl 0 rfl) ?_
  refine K_i (G_V (As := []) (rest := []) X hM (c_X12_figures l g _ m0 m1 m2 (nI a) ((mSpl f sp en m6 k (lenS.getD k 0)).2) m7 m8 m9 m10 m11 ((mSpl f sp en m6 k (lenS.getD k 0)).1) en f (mup_s _ _ _) (mup_r (X.2.ne (i := 47) (j := 46) (by decide) (by decide) (by decide)) h47) (by have := mSpl_le f sp en m6 k (lenS.getD k 0); have := lenS_le k hK; omega) hen) lk_X12_102 (mup_s _ _ _) rfl rfl hl.1 rfl (Nat.le_of_ble_eq_true rfl) (by decide) dX12_tellsHere_6 ⟨Nat.le_of_ble_eq_true rfl, Nat.le_of_ble_eq_true rfl⟩) hM (fun r M1 H locs hM hp => ?_)
  obtain ⟨rfl, rfl⟩ := hp
  rw [mup_i] at hM
  have hM : MW g (mup M (gA g 46) (mdE g m0 m1 m2 (nI a) (nI (mFig f ((mSpl f sp en m6 k (lenS.getD k 0)).1) en (mFgW f ((mSpl f sp en m6 k (lenS.getD k 0)).1) en ((mSpl f sp en m6 k (lenS.getD k 0)).2))).2) (nI en) (mFgW f ((mSpl f sp en m6 k (lenS.getD k 0)).1) en ((mSpl f sp en m6 k (lenS.getD k 0)).2)) m7 m8 m9 m10 m11)) H locs := hM
  refine lv_istore_n (lv' := [(3, .int ((mFig f ((mSpl f sp en m6 k (lenS.getD k 0)).1) en (mFgW f ((mSpl f sp en m6 k (lenS.getD k 0)).1) en ((mSpl f sp en m6 k (lenS.getD k 0)).2))).1)), (0, .ref (gA g 46)), (1, .int (nI w)), (2, .ref (gK g k))]) hx hb dX12_tellsHere_9 rfl hl (by decide) rfl (fun ls hl => ?_)
  refine lv_aload_n hx hb dX12_tellsHere_10 rfl (lv_at hl 1 rfl) ?_
  refine r_get (T := TX12) (N := 20) (ci := 12) (v := .int (mFgW f ((mSpl f sp en m6 k (lenS.getD k 0)).1) en ((mSpl f sp en m6 k (lenS.getD k 0)).2))) X hM iX12 rfl 9 (by decide) q_844 (Or.inl rfl) (mup_s _ _ _) rfl dX12_tellsHere_11 ?_
  refine lv_if_ne (tgt := 29) hx hb dX12_tellsHere_14 (by decide) (fun c_1 => ?_) (fun c_1 => ?_)
  · skip
    exact R_v X hr hk hM (by rw [show mThF f w a sp en m6 k = f from if_neg c_1, mup_id (mup_r (X.2.ne (i := 47) (j := 46) (by decide) (by decide) (by decide)) h47)]; rfl) dX12_tellsHere_29
  · skip
    refine lv_aload_n hx hb dX12_tellsHere_17 rfl (lv_at hl 1 rfl) ?_
    refine r_get (T := TX12) (N := 20) (ci := 12) (v := .ref (gA g 47)) X hM iX12 rfl 1 (by decide) q_836 (Or.inl rfl) (mup_s _ _ _) rfl dX12_tellsHere_18 ?_
    refine lv_iload_n hx hb dX12_tellsHere_21 rfl (lv_at hl 2 rfl) ?_
    refine lv_aload_n hx hb dX12_tellsHere_22 rfl (lv_at hl 1 rfl) ?_
    refine r_get (T := TX12) (N := 20) (ci := 12) (v := .int (nI a)) X hM iX12 rfl 6 (by decide) q_841 (Or.inl rfl) (mup_s _ _ _) rfl dX12_tellsHere_23 ?_
    refine lv_iadd hx hb dX12_tellsHere_26 ?_
    rw [show (nI w) + (nI a) = nI (w + a) from nI_add w a]
    refine lv_iload_n hx hb dX12_tellsHere_27 rfl (lv_at hl 0 rfl) ?_
    refine r_iast (i := nI (w + a)) (x := (mFig f ((mSpl f sp en m6 k (lenS.getD k 0)).1) en (mFgW f ((mSpl f sp en m6 k (lenS.getD k 0)).1) en ((mSpl f sp en m6 k (lenS.getD k 0)).2))).1) X hM (mup_r (X.2.ne (i := 47) (j := 46) (by decide) (by decide) (by decide)) h47) (vp_in_nI (by omega) (by decide)) dX12_tellsHere_28 (fun H locs hM => ?_)
    rw [nI_clamp (show w + a < 2147483648 by omega)] at hM
    have hM : MW g (mup (mup M (gA g 46) (mdE g m0 m1 m2 (nI a) (nI (mFig f ((mSpl f sp en m6 k (lenS.getD k 0)).1) en (mFgW f ((mSpl f sp en m6 k (lenS.getD k 0)).1) en ((mSpl f sp en m6 k (lenS.getD k 0)).2))).2) (nI en) (mFgW f ((mSpl f sp en m6 k (lenS.getD k 0)).1) en ((mSpl f sp en m6 k (lenS.getD k 0)).2)) m7 m8 m9 m10 m11)) (gA g 47) (aI g 929 (upd f (w + a) ((mFig f ((mSpl f sp en m6 k (lenS.getD k 0)).1) en (mFgW f ((mSpl f sp en m6 k (lenS.getD k 0)).1) en ((mSpl f sp en m6 k (lenS.getD k 0)).2))).1)))) H locs := hM
    exact R_v X hr hk hM (by rw [show mThF f w a sp en m6 k = upd f (w + a) ((mFig f ((mSpl f sp en m6 k (lenS.getD k 0)).1) en (mFgW f ((mSpl f sp en m6 k (lenS.getD k 0)).1) en ((mSpl f sp en m6 k (lenS.getD k 0)).2))).1) from if_pos c_1]; rfl) dX12_tellsHere_29
