theorem upd_upd (f : Nat → Int32) (a : Nat) (x y : Int32) : upd (upd f a x) a y = upd f a y := by
  funext q
  unfold upd
  by_cases h : q = a <;> simp [h]
def mMon (f : Nat → Int32) (t k : Nat) : Nat → Int32
  | 0 => 0
  | i + 1 => mMon f t k i + (if mUp f (k / 2) (nI (t + i)) = 0 then 0 else mWor f (k / 2) (nI (k % 2)) (t + i))
def mWf (f : Nat → Int32) (t : Nat) (w0 : Nat → Int32) : Nat → (Nat → Int32)
  | 0 => w0
  | k + 1 => upd (mWf f t w0 k) k (mMon f t k 28)
def mSh (w : Nat → Int32) (u to : Int32) (ho : Nat) : Nat → Int32
  | 0 => 0
  | i + 1 => mSh w u to ho i + (if (u >>> (nI i &&& 31)) &&& 1 = to then w (2 * i + ho) else 0)
def mEnv (w : Nat → Int32) (L : Nat) (u : Int32) : Int32 := if mSh w u 0 0 L < mSh w u 1 0 L then 1 else if mSh w u 0 1 L ≤ mSh w u 1 1 L then 0 else 1
def mBth (w : Nat → Int32) (L : Nat) (u : Int32) : Int32 := mSh w u 0 0 L + mSh w u 1 1 L
def mShS (w : Nat → Int32) (L : Nat) : Nat → Int32 × Int32 × Int32
  | 0 => (-5, 0, -1)
  | u + 1 => (fun v b z => (if z.1 = -5 then (if v = 0 then nI u else z.1) else z.1, if b ≤ z.2.2 then z.2.1 else nI u, if b ≤ z.2.2 then z.2.2 else b)) (mEnv w L (nI u)) (mBth w L (nI u)) (mShS w L u)
def mShares (f : Nat → Int32) (L t : Nat) (w0 : Nat → Int32) (x : Int32) : Int32 := if fIn x 0 1 = 0 then -1 else if x = 0 then (mShS (mWf f t w0 (2 * L)) L (2 ^ L)).1 else (mShS (mWf f t w0 (2 * L)) L (2 ^ L)).2.1

theorem lk_X12_190 : LkV RX12 190 yX12_looksForWorths cX12_looksForWorths 3 none 0 := lkV_of q_1095 q_1097 qs_38 q_7 q_1098 ⟨by decide, by decide, by decide +kernel⟩ (by decide)
theorem lk_X12_193 : LkV RX12 193 yX12_shareOf cX12_shareOf 6 (some .int) 3 := lkV_of q_1099 q_1101 qs_39 q_7 q_1102 ⟨by decide, by decide, by decide +kernel⟩ (by decide)
set_option maxHeartbeats 4000000 in
set_option maxRecDepth 100000 in
theorem c_X12_looksForWorths (l : Launch) (g : Gp) (M : Mem) (m0 m1 m2 m3 m4 m5 m6 m7 m8 m9 m10 m11 : Int32) (f : Nat → Int32) (L : Nat) (t : Nat) (by_ tr : Nat → Int32) (wo : Nat → Int32) (h46 : M (gA g 46) = some (mdE g m0 m1 m2 m3 m4 m5 m6 m7 m8 m9 m10 m11)) (h47 : M (gA g 47) = some (aI g 929 f)) (h50 : M (gA g 50) = some (aI g 6 by_)) (h51 : M (gA g 51) = some (aZ g 64 tr)) (h53 : M (gA g 53) = some (aI g 12 wo)) (hO : MOk f L) (h0 : f 0 = nI t) (ht : t < 10000) : Met l yX12_looksForWorths (wsM yX12_looksForWorths cX12_looksForWorths 3 none) (rmD 5 0 0) (Pre g M [.ref (gA g 46)]) (Qv g (fun M1 => ∃ (y0 : Nat → Int32) (y1 : Nat → Int32), mup (mup (mup M (gA g 53) (aI g 12 (mWf f t wo (2 * L)))) (gA g 50) (aI g 6 y0)) (gA g 51) (aZ g 64 y1) = M1)) 0 0 (gF g) := M_start (by decide +kernel) (Nat.le_of_ble_eq_true rfl) fun p e s m args below meth c ls X hr hk hnm hM hl => by
  have X : Cx g p m c cX12_looksForWorths 3 s args RX12 := X
  have hx := X.1.1
  have hb := X.1.2.1
  have hl : lv_has ls 3 [(0, .ref (gA g 46))] := hl
  obtain ⟨h9, hL, hR, hS⟩ := id hO
  refine lv_iconst (v := 0) hx hb dX12_looksForWorths_0 (by decide) ?_
  refine lv_istore_n (lv' := [(1, .int 0), (0, .ref (gA g 46))]) hx hb dX12_looksForWorths_1 rfl hl (by decide) rfl (fun ls hl => ?_)
  have L2 : ∀ (fu : Nat) (k : Nat) (b0 b1 : Nat → Int32) (hi : k ≤ 2 * L) (H : Heap) (locs : List Loc) (hM : MW g (mup (mup (mup M (gA g 53) (aI g 12 (mWf f t wo k))) (gA g 50) (aI g 6 b0)) (gA g 51) (aZ g 64 b1)) H locs) (ls : Array Slot) (hl : lv_has ls 3 [(0, .ref (gA g 46)), (1, .int (nI k))]), 2 * L - k < fu → W p l e (rmD 5 0 0) s m args below meth c H locs 0 0 (MQ below (Qv g (fun M1 => ∃ (y0 : Nat → Int32) (y1 : Nat → Int32), mup (mup (mup M (gA g 53) (aI g 12 (mWf f t wo (2 * L)))) (gA g 50) (aI g 6 y0)) (gA g 51) (aZ g 64 y1) = M1)) args s 0 0 (gF g)) (F0 m 2 ls []) := by
    intro fu
    induction fu with
    | zero => intro k b0 b1 hi H locs hM ls hl hmu; exact absurd hmu (Nat.not_lt_zero _)
    | succ fu ih =>
      intro k b0 b1 hi H locs hM ls hl hmu
      refine lv_iload_n hx hb dX12_looksForWorths_2 rfl (lv_at hl 1 rfl) ?_
      refine lv_iconst (v := 2) hx hb dX12_looksForWorths_3 (by decide) ?_
      refine lv_aload_n hx hb dX12_looksForWorths_4 rfl (lv_at hl 0 rfl) ?_
      refine r_get (T := TX12) (N := 20) (ci := 12) (v := .ref (gA g 47)) X hM iX12 rfl 1 (by decide) q_836 (Or.inl rfl) (mup_r (X.2.ne (i := 46) (j := 51) (by decide) (by decide) (by decide)) (mup_r (X.2.ne (i := 46) (j := 50) (by decide) (by decide) (by decide)) (mup_r (X.2.ne (i := 46) (j := 53) (by decide) (by decide) (by decide)) h46))) rfl dX12_looksForWorths_5 ?_
      refine lv_bipush (v := 9) hx hb dX12_looksForWorths_8 (by decide) ?_
      refine r_iald (i := 9) X hM (mup_r (X.2.ne (i := 47) (j := 51) (by decide) (by decide) (by decide)) (mup_r (X.2.ne (i := 47) (j := 50) (by decide) (by decide) (by decide)) (mup_r (X.2.ne (i := 47) (j := 53) (by decide) (by decide) (by decide)) h47))) (vp_in_nI (n := 9) (by decide) (by decide)) dX12_looksForWorths_10 ?_
      rw [show ((9 : Int32)).toNatClampNeg = 9 from by decide]
      rw [h9]
      refine lv_imul hx hb dX12_looksForWorths_11 ?_
      rw [show (2 : Int32) * (nI L) = nI (2 * L) from nI_mul 2 L]
      refine lv_icmp_ge (tgt := 91) hx hb dX12_looksForWorths_12 (by decide) (fun c_1 => ?_) (fun c_1 => ?_)
      · skip
        have hz1 : 2 * L ≤ k := (nI_leI (by omega) (by omega)).mp c_1
        have hz2 : k = 2 * L := by omega
        exact R_v X hr hk hM ⟨_, _, (by rw [hz2])⟩ dX12_looksForWorths_91
      · skip
        have hz1 : k < 2 * L := by
          rcases Nat.lt_or_ge k (2 * L) with q | q
          · exact q
          · exact absurd ((nI_leI (by omega) (by omega)).mpr q) c_1
        refine lv_aload_n hx hb dX12_looksForWorths_15 rfl (lv_at hl 0 rfl) ?_
        refine r_get (T := TX12) (N := 20) (ci := 12) (v := .ref (gA g 53)) X hM iX12 rfl 14 (by decide) q_849 (Or.inl rfl) (mup_r (X.2.ne (i := 46) (j := 51) (by decide) (by decide) (by decide)) (mup_r (X.2.ne (i := 46) (j := 50) (by decide) (by decide) (by decide)) (mup_r (X.2.ne (i := 46) (j := 53) (by decide) (by decide) (by decide)) h46))) rfl dX12_looksForWorths_16 ?_
        refine lv_iload_n hx hb dX12_looksForWorths_19 rfl (lv_at hl 1 rfl) ?_
        refine lv_iconst (v := 0) hx hb dX12_looksForWorths_20 (by decide) ?_
        refine r_iast (i := nI k) (x := 0) X hM (mup_r (X.2.ne (i := 53) (j := 51) (by decide) (by decide) (by decide)) (mup_r (X.2.ne (i := 53) (j := 50) (by decide) (by decide) (by decide)) (mup_s _ _ _))) (vp_in_nI (by omega) (by decide)) dX12_looksForWorths_21 (fun H locs hM => ?_)
        rw [nI_clamp (show k < 2147483648 by omega)] at hM
        rw [mup_w _ _ _ (X.2.ne (i := 51) (j := 53) (by decide) (by decide) (by decide)), mup_w _ _ _ (X.2.ne (i := 50) (j := 53) (by decide) (by decide) (by decide)), mup_i] at hM
        have hM : MW g (mup (mup (mup M (gA g 53) (aI g 12 (upd (mWf f t wo k) k 0))) (gA g 50) (aI g 6 b0)) (gA g 51) (aZ g 64 b1)) H locs := hM
        refine lv_iconst (v := 0) hx hb dX12_looksForWorths_22 (by decide) ?_
        refine lv_istore_n (lv' := [(2, .int 0), (0, .ref (gA g 46)), (1, .int (nI k))]) hx hb dX12_looksForWorths_23 rfl hl (by decide) rfl (fun ls hl => ?_)
        have L24 : ∀ (fu : Nat) (i : Nat) (a0 a1 : Nat → Int32) (hi2 : i ≤ 28) (H : Heap) (locs : List Loc) (hM : MW g (mup (mup (mup M (gA g 53) (aI g 12 (upd (mWf f t wo k) k (mMon f t k i)))) (gA g 50) (aI g 6 a0)) (gA g 51) (aZ g 64 a1)) H locs) (ls : Array Slot) (hl : lv_has ls 3 [(0, .ref (gA g 46)), (1, .int (nI k)), (2, .int (nI i))]), 28 - i < fu → W p l e (rmD 5 0 0) s m args below meth c H locs 0 0 (MQ below (Qv g (fun M1 => ∃ (y0 : Nat → Int32) (y1 : Nat → Int32), mup (mup (mup M (gA g 53) (aI g 12 (mWf f t wo (2 * L)))) (gA g 50) (aI g 6 y0)) (gA g 51) (aZ g 64 y1) = M1)) args s 0 0 (gF g)) (F0 m 24 ls []) := by
          intro fu24
          induction fu24 with
          | zero => intro i a0 a1 hi2 H locs hM ls hl hmu; exact absurd hmu (Nat.not_lt_zero _)
          | succ fu24 ih24 =>
            intro i a0 a1 hi2 H locs hM ls hl hmu
            refine lv_iload_n hx hb dX12_looksForWorths_24 rfl (lv_at hl 2 rfl) ?_
            refine lv_bipush (v := 28) hx hb dX12_looksForWorths_25 (by decide) ?_
            refine lv_icmp_ge (tgt := 85) hx hb dX12_looksForWorths_27 (by decide) (fun c_2 => ?_) (fun c_2 => ?_)
            · skip
              have hy1 : 28 ≤ i := (nI_leI (a := 28) (by omega) (by omega)).mp c_2
              have hy2 : i = 28 := by omega
              subst hy2
              refine lv_iinc (v := (nI k) + 1) (lv' := [(1, .int ((nI k) + 1)), (0, .ref (gA g 46)), (2, .int (nI 28))]) hx hb dX12_looksForWorths_85 hl (k := 1) rfl rfl (by decide) rfl (fun ls hl => ?_)
              refine lv_goto (tgt := 2) hx hb dX12_looksForWorths_88 (by decide) ?_
              exact ih (k + 1) a0 a1 (by omega) _ _ hM _ ((by rw [← nI_1]; exact lv_sub hl [1, 0] rfl)) (by omega)
            · skip
              have hy1 : i < 28 := by
                rcases Nat.lt_or_ge i 28 with q | q
                · exact q
                · exact absurd (show nI 28 ≤ nI i from (nI_leI (by omega) (by omega)).mpr q) c_2
              refine lv_aload_n hx hb dX12_looksForWorths_30 rfl (lv_at hl 0 rfl) ?_
              refine r_get (T := TX12) (N := 20) (ci := 12) (v := .ref (gA g 53)) X hM iX12 rfl 14 (by decide) q_849 (Or.inl rfl) (mup_r (X.2.ne (i := 46) (j := 51) (by decide) (by decide) (by decide)) (mup_r (X.2.ne (i := 46) (j := 50) (by decide) (by decide) (by decide)) (mup_r (X.2.ne (i := 46) (j := 53) (by decide) (by decide) (by decide)) h46))) rfl dX12_looksForWorths_31 ?_
              refine lv_iload_n hx hb dX12_looksForWorths_34 rfl (lv_at hl 1 rfl) ?_
              refine lv_dup2_11 hx hb dX12_looksForWorths_35 rfl rfl ?_
              refine r_iald (i := nI k) X hM (mup_r (X.2.ne (i := 53) (j := 51) (by decide) (by decide) (by decide)) (mup_r (X.2.ne (i := 53) (j := 50) (by decide) (by decide) (by decide)) (mup_s _ _ _))) (vp_in_nI (by omega) (by decide)) dX12_looksForWorths_36 ?_
              rw [nI_clamp (show k < 2147483648 by omega)]
              rw [show upd (mWf f t wo k) k (mMon f t k i) k = mMon f t k i from upd_eq]
              refine lv_aload_n hx hb dX12_looksForWorths_37 rfl (lv_at hl 0 rfl) ?_
              refine lv_iload_n hx hb dX12_looksForWorths_38 rfl (lv_at hl 1 rfl) ?_
              refine lv_iconst (v := 2) hx hb dX12_looksForWorths_39 (by decide) ?_
              refine lv_idiv hx hb dX12_looksForWorths_40 (by decide) ?_
              rw [show (nI k) / 2 = nI (k / 2) from pk_div (d := 2) (by omega) (by decide) (by decide)]
              refine lv_aload_n hx hb dX12_looksForWorths_41 rfl (lv_at hl 0 rfl) ?_
              refine r_get (T := TX12) (N := 20) (ci := 12) (v := .ref (gA g 47)) X hM iX12 rfl 1 (by decide) q_836 (Or.inl rfl) (mup_r (X.2.ne (i := 46) (j := 51) (by decide) (by decide) (by decide)) (mup_r (X.2.ne (i := 46) (j := 50) (by decide) (by decide) (by decide)) (mup_r (X.2.ne (i := 46) (j := 53) (by decide) (by decide) (by decide)) h46))) rfl dX12_looksForWorths_42 ?_
              refine lv_iconst (v := 0) hx hb dX12_looksForWorths_45 (by decide) ?_
              refine r_iald (i := 0) X hM (mup_r (X.2.ne (i := 47) (j := 51) (by decide) (by decide) (by decide)) (mup_r (X.2.ne (i := 47) (j := 50) (by decide) (by decide) (by decide)) (mup_r (X.2.ne (i := 47) (j := 53) (by decide) (by decide) (by decide)) h47))) (vp_in_nI (n := 0) (by decide) (by decide)) dX12_looksForWorths_46 ?_
              rw [show ((0 : Int32)).toNatClampNeg = 0 from by decide]
              rw [h0]
              refine lv_iload_n hx hb dX12_looksForWorths_47 rfl (lv_at hl 2 rfl) ?_
              refine lv_iadd hx hb dX12_looksForWorths_48 ?_
              rw [show (nI t) + (nI i) = nI (t + i) from nI_add t i]
              refine K_i (G_V (As := [.int (nI (k / 2)), .int (nI (t + i))]) (rest := [.int (mMon f t k i), .int (nI k), .ref (gA g 53)]) X hM (c_X12_isUp l g _ m0 m1 m2 m3 m4 m5 m6 m7 m8 m9 m10 m11 f (k / 2) (nI (t + i)) (mup_r (X.2.ne (i := 46) (j := 51) (by decide) (by decide) (by decide)) (mup_r (X.2.ne (i := 46) (j := 50) (by decide) (by decide) (by decide)) (mup_r (X.2.ne (i := 46) (j := 53) (by decide) (by decide) (by decide)) h46))) (mup_r (X.2.ne (i := 47) (j := 51) (by decide) (by decide) (by decide)) (mup_r (X.2.ne (i := 47) (j := 50) (by decide) (by decide) (by decide)) (mup_r (X.2.ne (i := 47) (j := 53) (by decide) (by decide) (by decide)) h47))) (by omega) (hR _ (by omega))) lk_X12_141 (mup_r (X.2.ne (i := 46) (j := 51) (by decide) (by decide) (by decide)) (mup_r (X.2.ne (i := 46) (j := 50) (by decide) (by decide) (by decide)) (mup_r (X.2.ne (i := 46) (j := 53) (by decide) (by decide) (by decide)) h46))) rfl rfl hl.1 rfl (Nat.le_of_ble_eq_true rfl) (by decide) dX12_looksForWorths_49 ⟨Nat.le_of_ble_eq_true rfl, Nat.le_of_ble_eq_true rfl⟩) hM (fun r M1 H locs hM hp => ?_)
              obtain ⟨rfl, rfl⟩ := hp
              refine lv_if_eq (tgt := 76) hx hb dX12_looksForWorths_52 (by decide) (fun c_3 => ?_) (fun c_3 => ?_)
              · skip
                refine lv_iconst (v := 0) hx hb dX12_looksForWorths_76 (by decide) ?_
                refine lv_iadd hx hb dX12_looksForWorths_77 ?_
                rw [show (mMon f t k i) + 0 = mMon f t k (i + 1) from show _ = mMon f t k i + (if mUp f (k / 2) (nI (t + i)) = 0 then 0 else mWor f (k / 2) (nI (k % 2)) (t + i)) from by first | rw [if_pos c_3] | rw [if_neg c_3]]
                refine r_iast (i := nI k) (x := mMon f t k (i + 1)) X hM (mup_r (X.2.ne (i := 53) (j := 51) (by decide) (by decide) (by decide)) (mup_r (X.2.ne (i := 53) (j := 50) (by decide) (by decide) (by decide)) (mup_s _ _ _))) (vp_in_nI (by omega) (by decide)) dX12_looksForWorths_78 (fun H locs hM => ?_)
                rw [nI_clamp (show k < 2147483648 by omega)] at hM
                rw [mup_w _ _ _ (X.2.ne (i := 51) (j := 53) (by decide) (by decide) (by decide)), mup_w _ _ _ (X.2.ne (i := 50) (j := 53) (by decide) (by decide) (by decide)), mup_i] at hM
                have hM : MW g (mup (mup (mup M (gA g 53) (aI g 12 (upd (upd (mWf f t wo k) k (mMon f t k i)) k (mMon f t k (i + 1))))) (gA g 50) (aI g 6 a0)) (gA g 51) (aZ g 64 a1)) H locs := hM
                refine lv_iinc (v := (nI i) + 1) (lv' := [(2, .int ((nI i) + 1)), (0, .ref (gA g 46)), (1, .int (nI k))]) hx hb dX12_looksForWorths_79 hl (k := 2) rfl rfl (by decide) rfl (fun ls hl => ?_)
                refine lv_goto (tgt := 24) hx hb dX12_looksForWorths_82 (by decide) ?_
                rw [upd_upd] at hM
                exact ih24 (i + 1) a0 a1 (by omega) _ _ hM _ ((by rw [← nI_1]; exact lv_sub hl [1, 2, 0] rfl)) (by omega)
              · skip
                refine lv_aload_n hx hb dX12_looksForWorths_55 rfl (lv_at hl 0 rfl) ?_
                refine lv_iload_n hx hb dX12_looksForWorths_56 rfl (lv_at hl 1 rfl) ?_
                refine lv_iconst (v := 2) hx hb dX12_looksForWorths_57 (by decide) ?_
                refine lv_idiv hx hb dX12_looksForWorths_58 (by decide) ?_
                rw [show (nI k) / 2 = nI (k / 2) from pk_div (d := 2) (by omega) (by decide) (by decide)]
                refine lv_iload_n hx hb dX12_looksForWorths_59 rfl (lv_at hl 1 rfl) ?_
                refine lv_iconst (v := 2) hx hb dX12_looksForWorths_60 (by decide) ?_
                refine l_irem hx hb dX12_looksForWorths_61 (by decide) ?_
                rw [show iR (nI k) 2 = nI (k % 2) from iR_nI (d := 2) (by omega) (by decide) (by decide)]
                refine lv_aload_n hx hb dX12_looksForWorths_62 rfl (lv_at hl 0 rfl) ?_
                refine r_get (T := TX12) (N := 20) (ci := 12) (v := .ref (gA g 47)) X hM iX12 rfl 1 (by decide) q_836 (Or.inl rfl) (mup_r (X.2.ne (i := 46) (j := 51) (by decide) (by decide) (by decide)) (mup_r (X.2.ne (i := 46) (j := 50) (by decide) (by decide) (by decide)) (mup_r (X.2.ne (i := 46) (j := 53) (by decide) (by decide) (by decide)) h46))) rfl dX12_looksForWorths_63 ?_
                refine lv_iconst (v := 0) hx hb dX12_looksForWorths_66 (by decide) ?_
                refine r_iald (i := 0) X hM (mup_r (X.2.ne (i := 47) (j := 51) (by decide) (by decide) (by decide)) (mup_r (X.2.ne (i := 47) (j := 50) (by decide) (by decide) (by decide)) (mup_r (X.2.ne (i := 47) (j := 53) (by decide) (by decide) (by decide)) h47))) (vp_in_nI (n := 0) (by decide) (by decide)) dX12_looksForWorths_67 ?_
                rw [show ((0 : Int32)).toNatClampNeg = 0 from by decide]
                rw [h0]
                refine lv_iload_n hx hb dX12_looksForWorths_68 rfl (lv_at hl 2 rfl) ?_
                refine lv_iadd hx hb dX12_looksForWorths_69 ?_
                rw [show (nI t) + (nI i) = nI (t + i) from nI_add t i]
                refine K_i (G_V (As := [.int (nI (k / 2)), .int (nI (k % 2)), .int (nI (t + i))]) (rest := [.int (mMon f t k i), .int (nI k), .ref (gA g 53)]) X hM (c_X12_worthOf l g _ m0 m1 m2 m3 m4 m5 m6 m7 m8 m9 m10 m11 f (k / 2) (t + i) (nI (k % 2)) a0 a1 (mup_r (X.2.ne (i := 46) (j := 51) (by decide) (by decide) (by decide)) (mup_r (X.2.ne (i := 46) (j := 50) (by decide) (by decide) (by decide)) (mup_r (X.2.ne (i := 46) (j := 53) (by decide) (by decide) (by decide)) h46))) (mup_r (X.2.ne (i := 47) (j := 51) (by decide) (by decide) (by decide)) (mup_r (X.2.ne (i := 47) (j := 50) (by decide) (by decide) (by decide)) (mup_r (X.2.ne (i := 47) (j := 53) (by decide) (by decide) (by decide)) h47))) (mup_r (X.2.ne (i := 50) (j := 51) (by decide) (by decide) (by decide)) (mup_s _ _ _)) (mup_s _ _ _) hS (by omega) (by omega)) lk_X12_145 (mup_r (X.2.ne (i := 46) (j := 51) (by decide) (by decide) (by decide)) (mup_r (X.2.ne (i := 46) (j := 50) (by decide) (by decide) (by decide)) (mup_r (X.2.ne (i := 46) (j := 53) (by decide) (by decide) (by decide)) h46))) rfl rfl hl.1 rfl (Nat.le_of_ble_eq_true rfl) (by decide) dX12_looksForWorths_70 ⟨Nat.le_of_ble_eq_true rfl, Nat.le_of_ble_eq_true rfl⟩) hM (fun r M1 H locs hM hp => ?_)
                obtain ⟨y0_4, y1_5, rfl, rfl⟩ := hp
                rw [mup_w _ _ _ (X.2.ne (i := 51) (j := 50) (by decide) (by decide) (by decide)), mup_i] at hM
                rw [mup_i] at hM
                have hM : MW g (mup (mup (mup M (gA g 53) (aI g 12 (upd (mWf f t wo k) k (mMon f t k i)))) (gA g 50) (aI g 6 y0_4)) (gA g 51) (aZ g 64 y1_5)) H locs := hM
                refine lv_goto (tgt := 77) hx hb dX12_looksForWorths_73 (by decide) ?_
                refine lv_iadd hx hb dX12_looksForWorths_77 ?_
                rw [show (mMon f t k i) + (mWor f (k / 2) (nI (k % 2)) (t + i)) = mMon f t k (i + 1) from show _ = mMon f t k i + (if mUp f (k / 2) (nI (t + i)) = 0 then 0 else mWor f (k / 2) (nI (k % 2)) (t + i)) from by first | rw [if_pos c_3] | rw [if_neg c_3]]
                refine r_iast (i := nI k) (x := mMon f t k (i + 1)) X hM (mup_r (X.2.ne (i := 53) (j := 51) (by decide) (by decide) (by decide)) (mup_r (X.2.ne (i := 53) (j := 50) (by decide) (by decide) (by decide)) (mup_s _ _ _))) (vp_in_nI (by omega) (by decide)) dX12_looksForWorths_78 (fun H locs hM => ?_)
                rw [nI_clamp (show k < 2147483648 by omega)] at hM
                rw [mup_w _ _ _ (X.2.ne (i := 51) (j := 53) (by decide) (by decide) (by decide)), mup_w _ _ _ (X.2.ne (i := 50) (j := 53) (by decide) (by decide) (by decide)), mup_i] at hM
                have hM : MW g (mup (mup (mup M (gA g 53) (aI g 12 (upd (upd (mWf f t wo k) k (mMon f t k i)) k (mMon f t k (i + 1))))) (gA g 50) (aI g 6 y0_4)) (gA g 51) (aZ g 64 y1_5)) H locs := hM
                refine lv_iinc (v := (nI i) + 1) (lv' := [(2, .int ((nI i) + 1)), (0, .ref (gA g 46)), (1, .int (nI k))]) hx hb dX12_looksForWorths_79 hl (k := 2) rfl rfl (by decide) rfl (fun ls hl => ?_)
                refine lv_goto (tgt := 24) hx hb dX12_looksForWorths_82 (by decide) ?_
                rw [upd_upd] at hM
                exact ih24 (i + 1) y0_4 y1_5 (by omega) _ _ hM _ ((by rw [← nI_1]; exact lv_sub hl [1, 2, 0] rfl)) (by omega)
        exact L24 (28 + 1) 0 b0 b1 (Nat.zero_le _) _ _ hM _ (lv_sub hl [1, 2, 0] rfl) (by first | exact Nat.lt_succ_self _ | omega)
  exact L2 (2 * L + 1) 0 by_ tr (Nat.zero_le _) _ _ (by show MW g (mup (mup (mup M (gA g 53) (aI g 12 wo)) (gA g 50) (aI g 6 by_)) (gA g 51) (aZ g 64 tr)) _ _; rw [mup_id h53, mup_id h50, mup_id h51]; exact hM) _ (lv_sub hl [1, 0] rfl) (by first | exact Nat.lt_succ_self _ | omega)
set_option maxHeartbeats 4000000 in
set_option maxRecDepth 100000 in
theorem c_X12_shareOf (l : Launch) (g : Gp) (M : Mem) (m0 m1 m2 m3 m4 m5 m6 m7 m8 m9 m10 m11 : Int32) (f : Nat → Int32) (L : Nat) (wo : Nat → Int32) (u to : Int32) (ho : Nat) (h46 : M (gA g 46) = some (mdE g m0 m1 m2 m3 m4 m5 m6 m7 m8 m9 m10 m11)) (h47 : M (gA g 47) = some (aI g 929 f)) (h53 : M (gA g 53) = some (aI g 12 wo)) (h9 : f 9 = nI L) (hL : L ≤ 6) (hho : ho ≤ 1) : Met l yX12_shareOf (wsM yX12_shareOf cX12_shareOf 6 (some .int)) (rmD 1 0 0) (Pre g M [.ref (gA g 46), .int u, .int to, .int (nI ho)]) (Qi g (fun r M1 => (mSh wo u to ho L) = r ∧ M = M1)) 0 0 (gF g) := M_start (by decide +kernel) (Nat.le_of_ble_eq_true rfl) fun p e s m args below meth c ls X hr hk hnm hM hl => by
  have X : Cx g p m c cX12_shareOf 6 s args RX12 := X
  have hx := X.1.1
  have hb := X.1.2.1
  have hl : lv_has ls 6 [(0, .ref (gA g 46)), (1, .int u), (2, .int to), (3, .int (nI ho))] := hl
  refine lv_iconst (v := 0) hx hb dX12_shareOf_0 (by decide) ?_
  refine lv_istore (lv' := [(4, .int 0), (0, .ref (gA g 46)), (1, .int u), (2, .int to), (3, .int (nI ho))]) hx hb dX12_shareOf_1 hl (by decide) rfl (fun ls hl => ?_)
  refine lv_iconst (v := 0) hx hb dX12_shareOf_3 (by decide) ?_
  refine lv_istore (lv' := [(5, .int 0), (4, .int 0), (0, .ref (gA g 46)), (1, .int u), (2, .int to), (3, .int (nI ho))]) hx hb dX12_shareOf_4 hl (by decide) rfl (fun ls hl => ?_)
  have L6 : ∀ (fu : Nat) (i : Nat) (x4 : Int32) (hi : i ≤ L) (k4 : x4 = mSh wo u to ho i) (H : Heap) (locs : List Loc) (hM : MW g (M) H locs) (ls : Array Slot) (hl : lv_has ls 6 [(0, .ref (gA g 46)), (1, .int u), (2, .int to), (3, .int (nI ho)), (4, .int x4), (5, .int (nI i))]), L - i < fu → W p l e (rmD 1 0 0) s m args below meth c H locs 0 0 (MQ below (Qi g (fun r M1 => (mSh wo u to ho L) = r ∧ M = M1)) args s 0 0 (gF g)) (F0 m 6 ls []) := by
    intro fu
    induction fu with
    | zero => intro i x4 hi k4 H locs hM ls hl hmu; exact absurd hmu (Nat.not_lt_zero _)
    | succ fu ih =>
      intro i x4 hi k4 H locs hM ls hl hmu
      refine lv_iload hx hb dX12_shareOf_6 (lv_at hl 5 rfl) ?_
      refine lv_aload_n hx hb dX12_shareOf_8 rfl (lv_at hl 0 rfl) ?_
      refine r_get (T := TX12) (N := 20) (ci := 12) (v := .ref (gA g 47)) X hM iX12 rfl 1 (by decide) q_836 (Or.inl rfl) h46 rfl dX12_shareOf_9 ?_
      refine lv_bipush (v := 9) hx hb dX12_shareOf_12 (by decide) ?_
      refine r_iald (i := 9) X hM h47 (vp_in_nI (n := 9) (by decide) (by decide)) dX12_shareOf_14 ?_
      rw [show ((9 : Int32)).toNatClampNeg = 9 from by decide]
      rw [h9]
      refine lv_icmp_ge (tgt := 54) hx hb dX12_shareOf_15 (by decide) (fun c_1 => ?_) (fun c_1 => ?_)
      · skip
        have hz1 : L ≤ i := (nI_leI (by omega) (by omega)).mp c_1
        have hz2 : i = L := by omega
        refine lv_iload hx hb dX12_shareOf_54 (lv_at hl 4 rfl) ?_
        exact R_i X hr hk hM ⟨(by rw [k4, hz2]), rfl⟩ dX12_shareOf_56
      · skip
        have hz1 : i < L := by
          rcases Nat.lt_or_ge i L with q | q
          · exact q
          · exact absurd ((nI_leI (by omega) (by omega)).mpr q) c_1
        refine lv_iload hx hb dX12_shareOf_18 (lv_at hl 4 rfl) ?_
        refine lv_iload_n hx hb dX12_shareOf_20 rfl (lv_at hl 1 rfl) ?_
        refine lv_iload hx hb dX12_shareOf_21 (lv_at hl 5 rfl) ?_
        refine lv_ishr hx hb dX12_shareOf_23 ?_
        refine lv_iconst (v := 1) hx hb dX12_shareOf_24 (by decide) ?_
        refine lv_iand hx hb dX12_shareOf_25 ?_
        refine lv_iload_n hx hb dX12_shareOf_26 rfl (lv_at hl 2 rfl) ?_
        refine lv_icmp_ne (tgt := 44) hx hb dX12_shareOf_27 (by decide) (fun c_2 => ?_) (fun c_2 => ?_)
        · skip
          refine lv_iconst (v := 0) hx hb dX12_shareOf_44 (by decide) ?_
          refine lv_iadd hx hb dX12_shareOf_45 ?_
          refine lv_istore (lv' := [(4, .int (x4 + 0)), (0, .ref (gA g 46)), (1, .int u), (2, .int to), (3, .int (nI ho)), (5, .int (nI i))]) hx hb dX12_shareOf_46 hl (by decide) rfl (fun ls hl => ?_)
          refine lv_iinc (v := (nI i) + 1) (lv' := [(5, .int ((nI i) + 1)), (4, .int (x4 + 0)), (0, .ref (gA g 46)), (1, .int u), (2, .int to), (3, .int (nI ho))]) hx hb dX12_shareOf_48 hl (k := 5) rfl rfl (by decide) rfl (fun ls hl => ?_)
          refine lv_goto (tgt := 6) hx hb dX12_shareOf_51 (by decide) ?_
          exact ih (i + 1) (x4 + 0) (by omega) (by rw [k4, mSh]; (first | rw [if_pos c_2] | rw [if_neg c_2])) _ _ hM _ ((by rw [← nI_1]; exact lv_sub hl [2, 3, 4, 5, 1, 0] rfl)) (by omega)
        · skip
          refine lv_aload_n hx hb dX12_shareOf_30 rfl (lv_at hl 0 rfl) ?_
          refine r_get (T := TX12) (N := 20) (ci := 12) (v := .ref (gA g 53)) X hM iX12 rfl 14 (by decide) q_849 (Or.inl rfl) h46 rfl dX12_shareOf_31 ?_
          refine lv_iconst (v := 2) hx hb dX12_shareOf_34 (by decide) ?_
          refine lv_iload hx hb dX12_shareOf_35 (lv_at hl 5 rfl) ?_
          refine lv_imul hx hb dX12_shareOf_37 ?_
          rw [show (2 : Int32) * (nI i) = nI (2 * i) from nI_mul 2 i]
          refine lv_iload_n hx hb dX12_shareOf_38 rfl (lv_at hl 3 rfl) ?_
          refine lv_iadd hx hb dX12_shareOf_39 ?_
          rw [show (nI (2 * i)) + (nI ho) = nI ((2 * i) + ho) from nI_add (2 * i) ho]
          refine r_iald (i := nI ((2 * i) + ho)) X hM h53 (vp_in_nI (by omega) (by decide)) dX12_shareOf_40 ?_
          rw [nI_clamp (show (2 * i) + ho < 2147483648 by omega)]
          refine lv_goto (tgt := 45) hx hb dX12_shareOf_41 (by decide) ?_
          refine lv_iadd hx hb dX12_shareOf_45 ?_
          refine lv_istore (lv' := [(4, .int (x4 + (wo ((2 * i) + ho)))), (0, .ref (gA g 46)), (1, .int u), (2, .int to), (3, .int (nI ho)), (5, .int (nI i))]) hx hb dX12_shareOf_46 hl (by decide) rfl (fun ls hl => ?_)
          refine lv_iinc (v := (nI i) + 1) (lv' := [(5, .int ((nI i) + 1)), (4, .int (x4 + (wo ((2 * i) + ho)))), (0, .ref (gA g 46)), (1, .int u), (2, .int to), (3, .int (nI ho))]) hx hb dX12_shareOf_48 hl (k := 5) rfl rfl (by decide) rfl (fun ls hl => ?_)
          refine lv_goto (tgt := 6) hx hb dX12_shareOf_51 (by decide) ?_
          exact ih (i + 1) (x4 + (wo ((2 * i) + ho))) (by omega) (by rw [k4, mSh]; (first | rw [if_pos c_2] | rw [if_neg c_2])) _ _ hM _ ((by rw [← nI_1]; exact lv_sub hl [2, 3, 4, 5, 1, 0] rfl)) (by omega)
  exact L6 (L + 1) 0 0 (Nat.zero_le _) rfl _ _ hM _ (lv_sub hl [2, 3, 4, 5, 1, 0] rfl) (by first | exact Nat.lt_succ_self _ | omega)
set_option maxHeartbeats 4000000 in
set_option maxRecDepth 100000 in
theorem c_X12_shares (l : Launch) (g : Gp) (M : Mem) (m0 m1 m2 m3 m4 m5 m6 m7 m8 m9 m10 m11 : Int32) (f : Nat → Int32) (L : Nat) (t : Nat) (by_ tr : Nat → Int32) (wo : Nat → Int32) (x : Int32) (h46 : M (gA g 46) = some (mdE g m0 m1 m2 m3 m4 m5 m6 m7 m8 m9 m10 m11)) (h47 : M (gA g 47) = some (aI g 929 f)) (h50 : M (gA g 50) = some (aI g 6 by_)) (h51 : M (gA g 51) = some (aZ g 64 tr)) (h53 : M (gA g 53) = some (aI g 12 wo)) (hO : MOk f L) (h0 : f 0 = nI t) (ht : t < 10000) : Met l yX12_shares (wsM yX12_shares cX12_shares 8 (some .int)) (rmD 6 0 0) (Pre g M [.ref (gA g 46), .int x]) (Qi g (fun r M1 => ∃ (y0 : Nat → Int32) (y1 : Nat → Int32) (y3 : Nat → Int32), (mShares f L t wo x) = r ∧ mup (mup (mup M (gA g 53) (aI g 12 y3)) (gA g 50) (aI g 6 y0)) (gA g 51) (aZ g 64 y1) = M1)) 0 0 (gF g) := M_start (by decide +kernel) (Nat.le_of_ble_eq_true rfl) fun p e s m args below meth c ls X hr hk hnm hM hl => by
  have X : Cx g p m c cX12_shares 8 s args RX12 := X
  have hx := X.1.1
  have hb := X.1.2.1
  have hl : lv_has ls 8 [(0, .ref (gA g 46)), (1, .int x)] := hl
  obtain ⟨h9, hL, hR, hS⟩ := id hO
  have hp10 := pow10 (show L < 10 by omega)
  refine lv_iload_n hx hb dX12_shares_0 rfl (lv_at hl 1 rfl) ?_
  refine lv_iconst (v := 0) hx hb dX12_shares_1 (by decide) ?_
  refine lv_iconst (v := 1) hx hb dX12_shares_2 (by decide) ?_
  refine K_i (G_S (As := [.int x, .int 0, .int 1]) (rest := []) X hM (c_X12_in l g _ x 0 1  ) lk_X12_41 rfl hl.1 rfl (Nat.le_of_ble_eq_true rfl) (by decide) dX12_shares_3 ⟨Nat.le_of_ble_eq_true rfl, Nat.le_of_ble_eq_true rfl⟩) hM (fun r M1 H locs hM hp => ?_)
  obtain ⟨rfl, rfl⟩ := hp
  refine lv_if_ne (tgt := 11) hx hb dX12_shares_6 (by decide) (fun c_1 => ?_) (fun c_1 => ?_)
  · skip
    refine lv_aload_n hx hb dX12_shares_11 rfl (lv_at hl 0 rfl) ?_
    refine K_v (G_V (As := []) (rest := []) X hM (c_X12_looksForWorths l g _ m0 m1 m2 m3 m4 m5 m6 m7 m8 m9 m10 m11 f L t by_ tr wo h46 h47 h50 h51 h53 hO h0 ht) lk_X12_190 h46 rfl rfl hl.1 rfl (Nat.le_of_ble_eq_true rfl) (by decide) dX12_shares_12 ⟨Nat.le_of_ble_eq_true rfl, Nat.le_of_ble_eq_true rfl⟩) hM (fun M1 H locs hM hp => ?_)
    obtain ⟨y0_2, y1_3, rfl⟩ := hp
    have hM : MW g (mup (mup (mup M (gA g 53) (aI g 12 (mWf f t wo (2 * L)))) (gA g 50) (aI g 6 y0_2)) (gA g 51) (aZ g 64 y1_3)) H locs := hM
    refine lv_bipush (v := -5) hx hb dX12_shares_15 (by decide) ?_
    refine lv_istore_n (lv' := [(2, .int (-5)), (0, .ref (gA g 46)), (1, .int x)]) hx hb dX12_shares_17 rfl hl (by decide) rfl (fun ls hl => ?_)
    refine lv_iconst (v := 0) hx hb dX12_shares_18 (by decide) ?_
    refine lv_istore_n (lv' := [(3, .int 0), (2, .int (-5)), (0, .ref (gA g 46)), (1, .int x)]) hx hb dX12_shares_19 rfl hl (by decide) rfl (fun ls hl => ?_)
    refine lv_iconst (v := -1) hx hb dX12_shares_20 (by decide) ?_
    refine lv_istore (lv' := [(4, .int (-1)), (3, .int 0), (2, .int (-5)), (0, .ref (gA g 46)), (1, .int x)]) hx hb dX12_shares_21 hl (by decide) rfl (fun ls hl => ?_)
    refine lv_iconst (v := 0) hx hb dX12_shares_23 (by decide) ?_
    refine lv_istore (lv' := [(5, .int 0), (4, .int (-1)), (3, .int 0), (2, .int (-5)), (0, .ref (gA g 46)), (1, .int x)]) hx hb dX12_shares_24 hl (by decide) rfl (fun ls hl => ?_)
    have L26 : ∀ (fu : Nat) (u : Nat) (x2 x3 x4 : Int32) (hu : u ≤ 2 ^ L) (kd : (x2, x3, x4) = mShS (mWf f t wo (2 * L)) L u) (H : Heap) (locs : List Loc) (hM : MW g (mup (mup (mup M (gA g 53) (aI g 12 (mWf f t wo (2 * L)))) (gA g 50) (aI g 6 y0_2)) (gA g 51) (aZ g 64 y1_3)) H locs) (ls : Array Slot) (hl : lv_has ls 8 [(0, .ref (gA g 46)), (1, .int x), (2, .int x2), (3, .int x3), (4, .int x4), (5, .int (nI u))]), 2 ^ L - u < fu → W p l e (rmD 6 0 0) s m args below meth c H locs 0 0 (MQ below (Qi g (fun r M1 => ∃ (y0 : Nat → Int32) (y1 : Nat → Int32) (y3 : Nat → Int32), (mShares f L t wo x) = r ∧ mup (mup (mup M (gA g 53) (aI g 12 y3)) (gA g 50) (aI g 6 y0)) (gA g 51) (aZ g 64 y1) = M1)) args s 0 0 (gF g)) (F0 m 26 ls []) := by
      intro fu
      induction fu with
      | zero => intro u x2 x3 x4 hu kd H locs hM ls hl hmu; exact absurd hmu (Nat.not_lt_zero _)
      | succ fu ih =>
        intro u x2 x3 x4 hu kd H locs hM ls hl hmu
        refine lv_iload hx hb dX12_shares_26 (lv_at hl 5 rfl) ?_
        refine lv_iconst (v := 1) hx hb dX12_shares_28 (by decide) ?_
        refine lv_aload_n hx hb dX12_shares_29 rfl (lv_at hl 0 rfl) ?_
        refine r_get (T := TX12) (N := 20) (ci := 12) (v := .ref (gA g 47)) X hM iX12 rfl 1 (by decide) q_836 (Or.inl rfl) (mup_r (X.2.ne (i := 46) (j := 51) (by decide) (by decide) (by decide)) (mup_r (X.2.ne (i := 46) (j := 50) (by decide) (by decide) (by decide)) (mup_r (X.2.ne (i := 46) (j := 53) (by decide) (by decide) (by decide)) h46))) rfl dX12_shares_30 ?_
        refine lv_bipush (v := 9) hx hb dX12_shares_33 (by decide) ?_
        refine r_iald (i := 9) X hM (mup_r (X.2.ne (i := 47) (j := 51) (by decide) (by decide) (by decide)) (mup_r (X.2.ne (i := 47) (j := 50) (by decide) (by decide) (by decide)) (mup_r (X.2.ne (i := 47) (j := 53) (by decide) (by decide) (by decide)) h47))) (vp_in_nI (n := 9) (by decide) (by decide)) dX12_shares_35 ?_
        rw [show ((9 : Int32)).toNatClampNeg = 9 from by decide]
        rw [h9]
        refine lv_ishl hx hb dX12_shares_36 ?_
        rw [show (1 <<< ((nI L) &&& 31) : Int32) = nI (2 ^ L) from shl1 L (by omega)]
        refine lv_icmp_ge (tgt := 158) hx hb dX12_shares_37 (by decide) (fun c_4 => ?_) (fun c_4 => ?_)
        · skip
          have hz1 : 2 ^ L ≤ u := (nI_leI (by omega) (by omega)).mp c_4
          have hz2 : u = 2 ^ L := by omega
          refine lv_iload_n hx hb dX12_shares_158 rfl (lv_at hl 1 rfl) ?_
          refine lv_if_ne (tgt := 166) hx hb dX12_shares_159 (by decide) (fun c_5 => ?_) (fun c_5 => ?_)
          · skip
            refine lv_iload_n hx hb dX12_shares_166 rfl (lv_at hl 3 rfl) ?_
            exact R_i X hr hk hM ⟨_, _, _, (by unfold mShares; rw [if_neg c_1, ← hz2, ← kd]; first | rw [if_pos c_5] | rw [if_neg c_5]), rfl⟩ dX12_shares_167
          · skip
            refine lv_iload_n hx hb dX12_shares_162 rfl (lv_at hl 2 rfl) ?_
            refine lv_goto (tgt := 167) hx hb dX12_shares_163 (by decide) ?_
            exact R_i X hr hk hM ⟨_, _, _, (by unfold mShares; rw [if_neg c_1, ← hz2, ← kd]; first | rw [if_pos c_5] | rw [if_neg c_5]), rfl⟩ dX12_shares_167
        · skip
          have hz1 : u < 2 ^ L := by
            rcases Nat.lt_or_ge u (2 ^ L) with q | q
            · exact q
            · exact absurd ((nI_leI (by omega) (by omega)).mpr q) c_4
          refine l_joinM (ls := ls) hM 83 (mEnv (mWf f t wo (2 * L)) L (nI u)) [] (fun H locs hM => ?_) (fun J40 => ?_)
          · skip
            refine lv_topi (fun ve e_ve => ?_)
            refine lv_istore (lv' := [(6, .int ve), (0, .ref (gA g 46)), (1, .int x), (2, .int x2), (3, .int x3), (4, .int x4), (5, .int (nI u))]) hx hb dX12_shares_83 hl (by decide) rfl (fun ls hl => ?_)
            refine l_joinM (ls := ls) hM 102 (if x2 = -5 then (if ve = 0 then nI u else x2) else x2) [] (fun H locs hM => ?_) (fun J85 => ?_)
            · skip
              refine lv_istore_n (lv' := [(2, .int (if x2 = -5 then (if ve = 0 then nI u else x2) else x2)), (6, .int ve), (0, .ref (gA g 46)), (1, .int x), (3, .int x3), (4, .int x4), (5, .int (nI u))]) hx hb dX12_shares_102 rfl hl (by decide) rfl (fun ls hl => ?_)
              refine lv_aload_n hx hb dX12_shares_103 rfl (lv_at hl 2 rfl) ?_
              refine lv_iload hx hb dX12_shares_104 (lv_at hl 6 rfl) ?_
              refine lv_iconst (v := 0) hx hb dX12_shares_106 (by decide) ?_
              refine lv_iconst (v := 0) hx hb dX12_shares_107 (by decide) ?_
              refine K_i (G_V (As := [.int (nI u), .int 0, .int 0]) (rest := []) X hM (c_X12_shareOf l g _ m0 m1 m2 m3 m4 m5 m6 m7 m8 m9 m10 m11 f L (mWf f t wo (2 * L)) (nI u) 0 0 (mup_r (X.2.ne (i := 46) (j := 51) (by decide) (by decide) (by decide)) (mup_r (X.2.ne (i := 46) (j := 50) (by decide) (by decide) (by decide)) (mup_r (X.2.ne (i := 46) (j := 53) (by decide) (by decide) (by decide)) h46))) (mup_r (X.2.ne (i := 47) (j := 51) (by decide) (by decide) (by decide)) (mup_r (X.2.ne (i := 47) (j := 50) (by decide) (by decide) (by decide)) (mup_r (X.2.ne (i := 47) (j := 53) (by decide) (by decide) (by decide)) h47))) (mup_r (X.2.ne (i := 53) (j := 51) (by decide) (by decide) (by decide)) (mup_r (X.2.ne (i := 53) (j := 50) (by decide) (by decide) (by decide)) (mup_s _ _ _))) h9 hL (by decide)) lk_X12_193 (mup_r (X.2.ne (i := 46) (j := 51) (by decide) (by decide) (by decide)) (mup_r (X.2.ne (i := 46) (j := 50) (by decide) (by decide) (by decide)) (mup_r (X.2.ne (i := 46) (j := 53) (by decide) (by decide) (by decide)) h46))) rfl rfl hl.1 rfl (Nat.le_of_ble_eq_true rfl) (by decide) dX12_shares_108 ⟨Nat.le_of_ble_eq_true rfl, Nat.le_of_ble_eq_true rfl⟩) hM (fun r M1 H locs hM hp => ?_)
              obtain ⟨rfl, rfl⟩ := hp
              refine lv_aload_n hx hb dX12_shares_111 rfl (lv_at hl 2 rfl) ?_
              refine lv_iload hx hb dX12_shares_112 (lv_at hl 6 rfl) ?_
              refine lv_iconst (v := 1) hx hb dX12_shares_114 (by decide) ?_
              refine lv_iconst (v := 1) hx hb dX12_shares_115 (by decide) ?_
              refine K_i (G_V (As := [.int (nI u), .int 1, .int 1]) (rest := [.int (mSh (mWf f t wo (2 * L)) (nI u) 0 0 L)]) X hM (c_X12_shareOf l g _ m0 m1 m2 m3 m4 m5 m6 m7 m8 m9 m10 m11 f L (mWf f t wo (2 * L)) (nI u) 1 1 (mup_r (X.2.ne (i := 46) (j := 51) (by decide) (by decide) (by decide)) (mup_r (X.2.ne (i := 46) (j := 50) (by decide) (by decide) (by decide)) (mup_r (X.2.ne (i := 46) (j := 53) (by decide) (by decide) (by decide)) h46))) (mup_r (X.2.ne (i := 47) (j := 51) (by decide) (by decide) (by decide)) (mup_r (X.2.ne (i := 47) (j := 50) (by decide) (by decide) (by decide)) (mup_r (X.2.ne (i := 47) (j := 53) (by decide) (by decide) (by decide)) h47))) (mup_r (X.2.ne (i := 53) (j := 51) (by decide) (by decide) (by decide)) (mup_r (X.2.ne (i := 53) (j := 50) (by decide) (by decide) (by decide)) (mup_s _ _ _))) h9 hL (by decide)) lk_X12_193 (mup_r (X.2.ne (i := 46) (j := 51) (by decide) (by decide) (by decide)) (mup_r (X.2.ne (i := 46) (j := 50) (by decide) (by decide) (by decide)) (mup_r (X.2.ne (i := 46) (j := 53) (by decide) (by decide) (by decide)) h46))) rfl rfl hl.1 rfl (Nat.le_of_ble_eq_true rfl) (by decide) dX12_shares_116 ⟨Nat.le_of_ble_eq_true rfl, Nat.le_of_ble_eq_true rfl⟩) hM (fun r M1 H locs hM hp => ?_)
              obtain ⟨rfl, rfl⟩ := hp
              refine lv_iadd hx hb dX12_shares_119 ?_
              refine lv_istore (lv' := [(7, .int ((mSh (mWf f t wo (2 * L)) (nI u) 0 0 L) + (mSh (mWf f t wo (2 * L)) (nI u) 1 1 L))), (2, .int (if x2 = -5 then (if ve = 0 then nI u else x2) else x2)), (6, .int ve), (0, .ref (gA g 46)), (1, .int x), (3, .int x3), (4, .int x4), (5, .int (nI u))]) hx hb dX12_shares_120 hl (by decide) rfl (fun ls hl => ?_)
              refine l_joinM (ls := ls) hM 135 (if mSh (mWf f t wo (2 * L)) (nI u) 0 0 L + mSh (mWf f t wo (2 * L)) (nI u) 1 1 L ≤ x4 then x3 else nI u) [] (fun H locs hM => ?_) (fun J122 => ?_)
              · skip
                refine lv_istore_n (lv' := [(3, .int (if mSh (mWf f t wo (2 * L)) (nI u) 0 0 L + mSh (mWf f t wo (2 * L)) (nI u) 1 1 L ≤ x4 then x3 else nI u)), (7, .int ((mSh (mWf f t wo (2 * L)) (nI u) 0 0 L) + (mSh (mWf f t wo (2 * L)) (nI u) 1 1 L))), (2, .int (if x2 = -5 then (if ve = 0 then nI u else x2) else x2)), (6, .int ve), (0, .ref (gA g 46)), (1, .int x), (4, .int x4), (5, .int (nI u))]) hx hb dX12_shares_135 rfl hl (by decide) rfl (fun ls hl => ?_)
                refine l_joinM (ls := ls) hM 150 (if mSh (mWf f t wo (2 * L)) (nI u) 0 0 L + mSh (mWf f t wo (2 * L)) (nI u) 1 1 L ≤ x4 then x4 else mSh (mWf f t wo (2 * L)) (nI u) 0 0 L + mSh (mWf f t wo (2 * L)) (nI u) 1 1 L) [] (fun H locs hM => ?_) (fun J136 => ?_)
                · skip
                  refine lv_istore (lv' := [(4, .int (if mSh (mWf f t wo (2 * L)) (nI u) 0 0 L + mSh (mWf f t wo (2 * L)) (nI u) 1 1 L ≤ x4 then x4 else mSh (mWf f t wo (2 * L)) (nI u) 0 0 L + mSh (mWf f t wo (2 * L)) (nI u) 1 1 L)), (3, .int (if mSh (mWf f t wo (2 * L)) (nI u) 0 0 L + mSh (mWf f t wo (2 * L)) (nI u) 1 1 L ≤ x4 then x3 else nI u)), (7, .int ((mSh (mWf f t wo (2 * L)) (nI u) 0 0 L) + (mSh (mWf f t wo (2 * L)) (nI u) 1 1 L))), (2, .int (if x2 = -5 then (if ve = 0 then nI u else x2) else x2)), (6, .int ve), (0, .ref (gA g 46)), (1, .int x), (5, .int (nI u))]) hx hb dX12_shares_150 hl (by decide) rfl (fun ls hl => ?_)
                  refine lv_iinc (v := (nI u) + 1) (lv' := [(5, .int ((nI u) + 1)), (4, .int (if mSh (mWf f t wo (2 * L)) (nI u) 0 0 L + mSh (mWf f t wo (2 * L)) (nI u) 1 1 L ≤ x4 then x4 else mSh (mWf f t wo (2 * L)) (nI u) 0 0 L + mSh (mWf f t wo (2 * L)) (nI u) 1 1 L)), (3, .int (if mSh (mWf f t wo (2 * L)) (nI u) 0 0 L + mSh (mWf f t wo (2 * L)) (nI u) 1 1 L ≤ x4 then x3 else nI u)), (7, .int ((mSh (mWf f t wo (2 * L)) (nI u) 0 0 L) + (mSh (mWf f t wo (2 * L)) (nI u) 1 1 L))), (2, .int (if x2 = -5 then (if ve = 0 then nI u else x2) else x2)), (6, .int ve), (0, .ref (gA g 46)), (1, .int x)]) hx hb dX12_shares_152 hl (k := 7) rfl rfl (by decide) rfl (fun ls hl => ?_)
                  refine lv_goto (tgt := 26) hx hb dX12_shares_155 (by decide) ?_
                  have e9 : mShS (mWf f t wo (2 * L)) L (u + 1) = (if x2 = -5 then (if ve = 0 then nI u else x2) else x2, if mSh (mWf f t wo (2 * L)) (nI u) 0 0 L + mSh (mWf f t wo (2 * L)) (nI u) 1 1 L ≤ x4 then x3 else nI u, if mSh (mWf f t wo (2 * L)) (nI u) 0 0 L + mSh (mWf f t wo (2 * L)) (nI u) 1 1 L ≤ x4 then x4 else mSh (mWf f t wo (2 * L)) (nI u) 0 0 L + mSh (mWf f t wo (2 * L)) (nI u) 1 1 L) := by
                    show (fun v b z => (if z.1 = -5 then (if v = 0 then nI u else z.1) else z.1, if b ≤ z.2.2 then z.2.1 else nI u, if b ≤ z.2.2 then z.2.2 else b)) (mEnv (mWf f t wo (2 * L)) L (nI u)) (mBth (mWf f t wo (2 * L)) L (nI u)) (mShS (mWf f t wo (2 * L)) L u) = _
                    rw [← kd, ← e_ve]
                    rfl
                  exact ih (u + 1) (if x2 = -5 then (if ve = 0 then nI u else x2) else x2) (if mSh (mWf f t wo (2 * L)) (nI u) 0 0 L + mSh (mWf f t wo (2 * L)) (nI u) 1 1 L ≤ x4 then x3 else nI u) (if mSh (mWf f t wo (2 * L)) (nI u) 0 0 L + mSh (mWf f t wo (2 * L)) (nI u) 1 1 L ≤ x4 then x4 else mSh (mWf f t wo (2 * L)) (nI u) 0 0 L + mSh (mWf f t wo (2 * L)) (nI u) 1 1 L) (by omega) e9.symm _ _ hM _ ((by rw [← nI_1]; exact lv_sub hl [6, 7, 4, 2, 1, 0] rfl)) (by omega)
                refine lv_iload hx hb dX12_shares_136 (lv_at hl 1 rfl) ?_
                refine lv_iload hx hb dX12_shares_138 (lv_at hl 6 rfl) ?_
                refine lv_icmp_le (tgt := 148) hx hb dX12_shares_140 (by decide) (fun c_6 => ?_) (fun c_6 => ?_)
                · skip
                  refine lv_iload hx hb dX12_shares_148 (lv_at hl 6 rfl) ?_
                  exact J136 _ _ _ hM (by (first | rw [if_pos c_6] | rw [if_neg c_6] | skip))
                · skip
                  refine lv_iload hx hb dX12_shares_143 (lv_at hl 1 rfl) ?_
                  refine lv_goto (tgt := 150) hx hb dX12_shares_145 (by decide) ?_
                  exact J136 _ _ _ hM (by (first | rw [if_pos c_6] | rw [if_neg c_6] | skip))
              refine lv_iload hx hb dX12_shares_122 (lv_at hl 0 rfl) ?_
              refine lv_iload hx hb dX12_shares_124 (lv_at hl 6 rfl) ?_
              refine lv_icmp_le (tgt := 134) hx hb dX12_shares_126 (by decide) (fun c_7 => ?_) (fun c_7 => ?_)
              · skip
                refine lv_iload_n hx hb dX12_shares_134 rfl (lv_at hl 5 rfl) ?_
                exact J122 _ _ _ hM (by (first | rw [if_pos c_7] | rw [if_neg c_7] | skip))
              · skip
                refine lv_iload hx hb dX12_shares_129 (lv_at hl 7 rfl) ?_
                refine lv_goto (tgt := 135) hx hb dX12_shares_131 (by decide) ?_
                exact J122 _ _ _ hM (by (first | rw [if_pos c_7] | rw [if_neg c_7] | skip))
            refine lv_iload_n hx hb dX12_shares_85 rfl (lv_at hl 3 rfl) ?_
            refine lv_bipush (v := -5) hx hb dX12_shares_86 (by decide) ?_
            refine lv_icmp_ne (tgt := 101) hx hb dX12_shares_88 (by decide) (fun c_8 => ?_) (fun c_8 => ?_)
            · skip
              refine lv_iload_n hx hb dX12_shares_101 rfl (lv_at hl 3 rfl) ?_
              exact J85 _ _ _ hM (by (first | rw [if_pos c_8] | rw [if_neg c_8] | skip))
            · skip
              refine lv_iload hx hb dX12_shares_91 (lv_at hl 0 rfl) ?_
              refine lv_if_ne (tgt := 101) hx hb dX12_shares_93 (by decide) (fun c_9 => ?_) (fun c_9 => ?_)
              · skip
                refine lv_iload_n hx hb dX12_shares_101 rfl (lv_at hl 3 rfl) ?_
                exact J85 _ _ _ hM (by (first | rw [if_pos c_8] | rw [if_neg c_8] | skip); (first | rw [if_pos c_9] | rw [if_neg c_9] | skip))
              · skip
                refine lv_iload hx hb dX12_shares_96 (lv_at hl 6 rfl) ?_
                refine lv_goto (tgt := 102) hx hb dX12_shares_98 (by decide) ?_
                exact J85 _ _ _ hM (by (first | rw [if_pos c_8] | rw [if_neg c_8] | skip); (first | rw [if_pos c_9] | rw [if_neg c_9] | skip))
          refine lv_aload_n hx hb dX12_shares_40 rfl (lv_at hl 0 rfl) ?_
          refine lv_iload hx hb dX12_shares_41 (lv_at hl 5 rfl) ?_
          refine lv_iconst (v := 0) hx hb dX12_shares_43 (by decide) ?_
          refine lv_iconst (v := 0) hx hb dX12_shares_44 (by decide) ?_
          refine K_i (G_V (As := [.int (nI u), .int 0, .int 0]) (rest := []) X hM (c_X12_shareOf l g _ m0 m1 m2 m3 m4 m5 m6 m7 m8 m9 m10 m11 f L (mWf f t wo (2 * L)) (nI u) 0 0 (mup_r (X.2.ne (i := 46) (j := 51) (by decide) (by decide) (by decide)) (mup_r (X.2.ne (i := 46) (j := 50) (by decide) (by decide) (by decide)) (mup_r (X.2.ne (i := 46) (j := 53) (by decide) (by decide) (by decide)) h46))) (mup_r (X.2.ne (i := 47) (j := 51) (by decide) (by decide) (by decide)) (mup_r (X.2.ne (i := 47) (j := 50) (by decide) (by decide) (by decide)) (mup_r (X.2.ne (i := 47) (j := 53) (by decide) (by decide) (by decide)) h47))) (mup_r (X.2.ne (i := 53) (j := 51) (by decide) (by decide) (by decide)) (mup_r (X.2.ne (i := 53) (j := 50) (by decide) (by decide) (by decide)) (mup_s _ _ _))) h9 hL (by decide)) lk_X12_193 (mup_r (X.2.ne (i := 46) (j := 51) (by decide) (by decide) (by decide)) (mup_r (X.2.ne (i := 46) (j := 50) (by decide) (by decide) (by decide)) (mup_r (X.2.ne (i := 46) (j := 53) (by decide) (by decide) (by decide)) h46))) rfl rfl hl.1 rfl (Nat.le_of_ble_eq_true rfl) (by decide) dX12_shares_45 ⟨Nat.le_of_ble_eq_true rfl, Nat.le_of_ble_eq_true rfl⟩) hM (fun r M1 H locs hM hp => ?_)
          obtain ⟨rfl, rfl⟩ := hp
          refine lv_aload_n hx hb dX12_shares_48 rfl (lv_at hl 0 rfl) ?_
          refine lv_iload hx hb dX12_shares_49 (lv_at hl 5 rfl) ?_
          refine lv_iconst (v := 1) hx hb dX12_shares_51 (by decide) ?_
          refine lv_iconst (v := 0) hx hb dX12_shares_52 (by decide) ?_
          refine K_i (G_V (As := [.int (nI u), .int 1, .int 0]) (rest := [.int (mSh (mWf f t wo (2 * L)) (nI u) 0 0 L)]) X hM (c_X12_shareOf l g _ m0 m1 m2 m3 m4 m5 m6 m7 m8 m9 m10 m11 f L (mWf f t wo (2 * L)) (nI u) 1 0 (mup_r (X.2.ne (i := 46) (j := 51) (by decide) (by decide) (by decide)) (mup_r (X.2.ne (i := 46) (j := 50) (by decide) (by decide) (by decide)) (mup_r (X.2.ne (i := 46) (j := 53) (by decide) (by decide) (by decide)) h46))) (mup_r (X.2.ne (i := 47) (j := 51) (by decide) (by decide) (by decide)) (mup_r (X.2.ne (i := 47) (j := 50) (by decide) (by decide) (by decide)) (mup_r (X.2.ne (i := 47) (j := 53) (by decide) (by decide) (by decide)) h47))) (mup_r (X.2.ne (i := 53) (j := 51) (by decide) (by decide) (by decide)) (mup_r (X.2.ne (i := 53) (j := 50) (by decide) (by decide) (by decide)) (mup_s _ _ _))) h9 hL (by decide)) lk_X12_193 (mup_r (X.2.ne (i := 46) (j := 51) (by decide) (by decide) (by decide)) (mup_r (X.2.ne (i := 46) (j := 50) (by decide) (by decide) (by decide)) (mup_r (X.2.ne (i := 46) (j := 53) (by decide) (by decide) (by decide)) h46))) rfl rfl hl.1 rfl (Nat.le_of_ble_eq_true rfl) (by decide) dX12_shares_53 ⟨Nat.le_of_ble_eq_true rfl, Nat.le_of_ble_eq_true rfl⟩) hM (fun r M1 H locs hM hp => ?_)
          obtain ⟨rfl, rfl⟩ := hp
          refine lv_icmp_lt (tgt := 78) hx hb dX12_shares_56 (by decide) (fun c_10 => ?_) (fun c_10 => ?_)
          · skip
            refine lv_iconst (v := 1) hx hb dX12_shares_78 (by decide) ?_
            refine lv_goto (tgt := 83) hx hb dX12_shares_79 (by decide) ?_
            exact J40 _ _ _ hM (by unfold mEnv; (first | rw [if_pos c_10] | rw [if_neg c_10] | skip))
          · skip
            refine lv_aload_n hx hb dX12_shares_59 rfl (lv_at hl 0 rfl) ?_
            refine lv_iload hx hb dX12_shares_60 (lv_at hl 5 rfl) ?_
            refine lv_iconst (v := 1) hx hb dX12_shares_62 (by decide) ?_
            refine lv_iconst (v := 1) hx hb dX12_shares_63 (by decide) ?_
            refine K_i (G_V (As := [.int (nI u), .int 1, .int 1]) (rest := []) X hM (c_X12_shareOf l g _ m0 m1 m2 m3 m4 m5 m6 m7 m8 m9 m10 m11 f L (mWf f t wo (2 * L)) (nI u) 1 1 (mup_r (X.2.ne (i := 46) (j := 51) (by decide) (by decide) (by decide)) (mup_r (X.2.ne (i := 46) (j := 50) (by decide) (by decide) (by decide)) (mup_r (X.2.ne (i := 46) (j := 53) (by decide) (by decide) (by decide)) h46))) (mup_r (X.2.ne (i := 47) (j := 51) (by decide) (by decide) (by decide)) (mup_r (X.2.ne (i := 47) (j := 50) (by decide) (by decide) (by decide)) (mup_r (X.2.ne (i := 47) (j := 53) (by decide) (by decide) (by decide)) h47))) (mup_r (X.2.ne (i := 53) (j := 51) (by decide) (by decide) (by decide)) (mup_r (X.2.ne (i := 53) (j := 50) (by decide) (by decide) (by decide)) (mup_s _ _ _))) h9 hL (by decide)) lk_X12_193 (mup_r (X.2.ne (i := 46) (j := 51) (by decide) (by decide) (by decide)) (mup_r (X.2.ne (i := 46) (j := 50) (by decide) (by decide) (by decide)) (mup_r (X.2.ne (i := 46) (j := 53) (by decide) (by decide) (by decide)) h46))) rfl rfl hl.1 rfl (Nat.le_of_ble_eq_true rfl) (by decide) dX12_shares_64 ⟨Nat.le_of_ble_eq_true rfl, Nat.le_of_ble_eq_true rfl⟩) hM (fun r M1 H locs hM hp => ?_)
            obtain ⟨rfl, rfl⟩ := hp
            refine lv_aload_n hx hb dX12_shares_67 rfl (lv_at hl 0 rfl) ?_
            refine lv_iload hx hb dX12_shares_68 (lv_at hl 5 rfl) ?_
            refine lv_iconst (v := 0) hx hb dX12_shares_70 (by decide) ?_
            refine lv_iconst (v := 1) hx hb dX12_shares_71 (by decide) ?_
            refine K_i (G_V (As := [.int (nI u), .int 0, .int 1]) (rest := [.int (mSh (mWf f t wo (2 * L)) (nI u) 1 1 L)]) X hM (c_X12_shareOf l g _ m0 m1 m2 m3 m4 m5 m6 m7 m8 m9 m10 m11 f L (mWf f t wo (2 * L)) (nI u) 0 1 (mup_r (X.2.ne (i := 46) (j := 51) (by decide) (by decide) (by decide)) (mup_r (X.2.ne (i := 46) (j := 50) (by decide) (by decide) (by decide)) (mup_r (X.2.ne (i := 46) (j := 53) (by decide) (by decide) (by decide)) h46))) (mup_r (X.2.ne (i := 47) (j := 51) (by decide) (by decide) (by decide)) (mup_r (X.2.ne (i := 47) (j := 50) (by decide) (by decide) (by decide)) (mup_r (X.2.ne (i := 47) (j := 53) (by decide) (by decide) (by decide)) h47))) (mup_r (X.2.ne (i := 53) (j := 51) (by decide) (by decide) (by decide)) (mup_r (X.2.ne (i := 53) (j := 50) (by decide) (by decide) (by decide)) (mup_s _ _ _))) h9 hL (by decide)) lk_X12_193 (mup_r (X.2.ne (i := 46) (j := 51) (by decide) (by decide) (by decide)) (mup_r (X.2.ne (i := 46) (j := 50) (by decide) (by decide) (by decide)) (mup_r (X.2.ne (i := 46) (j := 53) (by decide) (by decide) (by decide)) h46))) rfl rfl hl.1 rfl (Nat.le_of_ble_eq_true rfl) (by decide) dX12_shares_72 ⟨Nat.le_of_ble_eq_true rfl, Nat.le_of_ble_eq_true rfl⟩) hM (fun r M1 H locs hM hp => ?_)
            obtain ⟨rfl, rfl⟩ := hp
            refine lv_icmp_ge (tgt := 82) hx hb dX12_shares_75 (by decide) (fun c_11 => ?_) (fun c_11 => ?_)
            · skip
              refine lv_iconst (v := 0) hx hb dX12_shares_82 (by decide) ?_
              exact J40 _ _ _ hM (by unfold mEnv; (first | rw [if_pos c_10] | rw [if_neg c_10] | skip); (first | rw [if_pos c_11] | rw [if_neg c_11] | skip))
            · skip
              refine lv_iconst (v := 1) hx hb dX12_shares_78 (by decide) ?_
              refine lv_goto (tgt := 83) hx hb dX12_shares_79 (by decide) ?_
              exact J40 _ _ _ hM (by unfold mEnv; (first | rw [if_pos c_10] | rw [if_neg c_10] | skip); (first | rw [if_pos c_11] | rw [if_neg c_11] | skip))
    exact L26 (2 ^ L + 1) 0 (-5) 0 (-1) (Nat.zero_le _) rfl _ _ hM _ (lv_sub hl [4, 5, 3, 2, 1, 0] rfl) (by first | exact Nat.lt_succ_self _ | omega)
  · skip
    refine lv_iconst (v := -1) hx hb dX12_shares_9 (by decide) ?_
    exact R_i X hr hk hM ⟨by_, tr, wo, (by unfold mShares; (first | rw [if_pos c_1] | rw [if_neg c_1] | skip)), (by rw [mup_id h53, mup_id h50, mup_id h51])⟩ dX12_shares_10
