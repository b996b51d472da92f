def skF (f : Nat → Int32) (a : Nat) : Nat → Int32 := upd (upd f 14 0) (224 + a) 0
theorem skF_cnt {f : Nat → Int32} {a : Nat} (ha : a < 5) : upd (upd (upd (upd f 14 0) (214 + a) 1) (219 + a) 0) (224 + a) 0 = cnt (skF f a) a 1 0 [] := by
  funext q
  show _ = upd (upd (upd (upd f 14 0) (224 + a) 0) (214 + a) 1) (219 + a) 0 q
  unfold upd
  by_cases c1 : q = 224 + a
  · subst c1
    rw [if_pos rfl, if_neg (by omega), if_neg (by omega), if_pos rfl]
  · rw [if_neg c1, if_neg c1]
def qRd (f : Nat → Int32) (en : Nat) : Nat → C9 → C9
  | 0, v => v
  | n + 1, v => if qZ v.2 = 0 then (if qHe f en v.2 = 59 then qRd f en n (qCl f en ((v.1.1, v.1.2), (qS v.2 + 1, qZ v.2, qL v.2))) else v) else v
def qRQ (f : Nat → Int32) (en : Nat) : C9 := qRd f en 9 (qCl f en ((1, 0), (0, 0, [])))
theorem qRd_z {f : Nat → Int32} {en : Nat} {v : C9} (h : ¬ qZ v.2 = 0) : ∀ n, qRd f en n v = v := fun n => by
  cases n with
  | zero => rfl
  | succ n => exact if_neg h
theorem qRd_o {f : Nat → Int32} {en : Nat} {v : C9} (h : ¬ qHe f en v.2 = 59) : ∀ n, qRd f en n v = v := fun n => by
  cases n with
  | zero => rfl
  | succ n =>
    show (if qZ v.2 = 0 then (if qHe f en v.2 = 59 then _ else v) else v) = v
    rw [if_neg h]
    split <;> rfl
theorem qRd_i {f : Nat → Int32} {en : Nat} {v : C9} (h0 : qZ v.2 = 0) (h : qHe f en v.2 = 59) {n : Nat} (hn : 0 < n) : qRd f en n v = qRd f en (n - 1) (qCl f en ((v.1.1, v.1.2), (qS v.2 + 1, qZ v.2, qL v.2))) := by
  obtain ⟨u, rfl⟩ : ∃ u, n = u + 1 := ⟨n - 1, by omega⟩
  show (if qZ v.2 = 0 then (if qHe f en v.2 = 59 then _ else v) else v) = _
  rw [if_pos h0, if_pos h]
  rfl
theorem VQ_0 (en : Nat) : VQ en ((0, 0, []) : Q9) := ⟨Nat.zero_le _, Nat.le_refl _, Or.inl rfl⟩
theorem qRd_ii {f : Nat → Int32} {en n : Nat} {v : C9} (h0 : qZ v.2 = 0) (h : qHe f en v.2 = 59) (hn : 0 < n) : qRd f en n v = qRd f en (n - 1) (qCl f en ((v.1.1, v.1.2), (qS v.2 + 1, qZ v.2, qL v.2))) := qRd_i h0 h hn
def mSkyC (f : Nat → Int32) (en a : Nat) : Nat → Int32 := cnt (skF f a) a (qRQ (skF f a) en).1.1 (qRQ (skF f a) en).1.2 (qL (qRQ (skF f a) en).2)
def mSky (f : Nat → Int32) (en a : Nat) : Int32 × (Nat → Int32) := if qZ (qRQ (skF f a) en).2 = 0 then (if nI (qS (qRQ (skF f a) en).2) = nI en then (nI a, upd (upd (mSkyC f en a) 10 (nI (a + 1))) 15 (nI a)) else (-10 - nI (qS (qRQ (skF f a) en).2), mSkyC f en a)) else (-10 - nI (qS (qRQ (skF f a) en).2), mSkyC f en a)

theorem lk_X12_130 : LkV RX12 130 yX12_clauseHere cX12_clauseHere 1 none 0 := lkV_of q_908 q_910 qs_10 q_7 q_911 ⟨by decide, by decide, by decide +kernel⟩ (by decide)
set_option maxHeartbeats 4000000 in
set_option maxRecDepth 100000 in
theorem c_X12_sky_f (l : Launch) (g : Gp) (M : Mem) (m0 m1 m2 m3 m4 m5 m6 m7 m8 m9 m10 m11 : Int32) (f : Nat → Int32) (h46 : M (gA g 46) = some (mdE g m0 m1 m2 m3 m4 m5 m6 m7 m8 m9 m10 m11)) (h47 : M (gA g 47) = some (aI g 929 f)) (h10 : f 10 = 5) : Met l yX12_sky (wsM yX12_sky cX12_sky 2 (some .int)) (rmD 27 0 0) (Pre g M [.ref (gA g 46)]) (Qi g (fun r M1 => (-4) = r ∧ M = M1)) 0 0 (gF g) := M_start (by decide +kernel) (Nat.le_of_ble_eq_true rfl) fun p e s m args below meth c ls X hr hk hnm hM hl => by
  have X : Cx g p m c cX12_sky 2 s args RX12 := X
  have hx := X.1.1
  have hb := X.1.2.1
  have hl : lv_has ls 2 [(0, .ref (gA g 46))] := hl
  refine lv_aload_n hx hb dX12_sky_0 rfl (lv_at hl 0 rfl) ?_
  refine r_get (T := TX12) (N := 20) (ci := 12) (v := .ref (gA g 47)) X hM iX12 rfl 1 (by decide) q_836 (Or.inl rfl) h46 rfl dX12_sky_1 ?_
  refine lv_bipush (v := 10) hx hb dX12_sky_4 (by decide) ?_
  refine r_iald (i := 10) X hM h47 (vp_in_nI (n := 10) (by decide) (by decide)) dX12_sky_6 ?_
  rw [show ((10 : Int32)).toNatClampNeg = 10 from by decide]
  refine lv_iconst (v := 5) hx hb dX12_sky_7 (by decide) ?_
  refine lv_icmp_ne (tgt := 14) hx hb dX12_sky_8 (by decide) (fun c_1 => ?_) (fun c_1 => ?_)
  · skip
    exact absurd h10 c_1
  · skip
    refine lv_bipush (v := -4) hx hb dX12_sky_11 (by decide) ?_
    exact R_i X hr hk hM ⟨rfl, rfl⟩ dX12_sky_13
set_option maxHeartbeats 4000000 in
set_option maxRecDepth 100000 in
theorem c_X12_sky (l : Launch) (g : Gp) (M : Mem) (m0 m1 m2 m3 m4 m5 m6 m7 m8 m9 m10 m11 : Int32) (a en : Nat) (f : Nat → Int32) (h46 : M (gA g 46) = some (mdE g m0 m1 m2 m3 m4 m5 m6 m7 m8 m9 m10 m11)) (h47 : M (gA g 47) = some (aI g 929 f)) (h10 : f 10 = nI a) (ha : a < 5) (h14 : f 14 = nI en) (hen : en ≤ 100) : Met l yX12_sky (wsM yX12_sky cX12_sky 2 (some .int)) (rmD 27 0 0) (Pre g M [.ref (gA g 46)]) (Qi g (fun r M1 => ((mSky f en a).1) = r ∧ mup (mup M (gA g 46) (mdE g m0 m1 m2 (nI a) (nI (qS (qRQ (skF f a) en).2)) (nI en) (qZ (qRQ (skF f a) en).2) 0 m8 m9 m10 m11)) (gA g 47) (aI g 929 ((mSky f en a).2)) = M1)) 0 0 (gF g) := M_start (by decide +kernel) (Nat.le_of_ble_eq_true rfl) fun p e s m args below meth c ls X hr hk hnm hM hl => by
  have X : Cx g p m c cX12_sky 2 s args RX12 := X
  have hx := X.1.1
  have hb := X.1.2.1
  have hl : lv_has ls 2 [(0, .ref (gA g 46))] := hl
  refine lv_aload_n hx hb dX12_sky_0 rfl (lv_at hl 0 rfl) ?_
  refine r_get (T := TX12) (N := 20) (ci := 12) (v := .ref (gA g 47)) X hM iX12 rfl 1 (by decide) q_836 (Or.inl rfl) h46 rfl dX12_sky_1 ?_
  refine lv_bipush (v := 10) hx hb dX12_sky_4 (by decide) ?_
  refine r_iald (i := 10) X hM h47 (vp_in_nI (n := 10) (by decide) (by decide)) dX12_sky_6 ?_
  rw [show ((10 : Int32)).toNatClampNeg = 10 from by decide]
  rw [h10]
  refine lv_iconst (v := 5) hx hb dX12_sky_7 (by decide) ?_
  refine lv_icmp_ne (tgt := 14) hx hb dX12_sky_8 (by decide) (fun c_1 => ?_) (fun c_1 => ?_)
  · skip
    refine lv_aload_n hx hb dX12_sky_14 rfl (lv_at hl 0 rfl) ?_
    refine lv_aload_n hx hb dX12_sky_15 rfl (lv_at hl 0 rfl) ?_
    refine r_get (T := TX12) (N := 20) (ci := 12) (v := .ref (gA g 47)) X hM iX12 rfl 1 (by decide) q_836 (Or.inl rfl) h46 rfl dX12_sky_16 ?_
    refine lv_bipush (v := 10) hx hb dX12_sky_19 (by decide) ?_
    refine r_iald (i := 10) X hM h47 (vp_in_nI (n := 10) (by decide) (by decide)) dX12_sky_21 ?_
    rw [show ((10 : Int32)).toNatClampNeg = 10 from by decide]
    rw [h10]
    refine r_put (T := TX12) (N := 20) (ci := 12) X hM iX12 tyX12 tyX12_ok nmX12 rfl 6 (by decide) q_841 rfl (Or.inl rfl) h46 rfl rfl (Nat.le_of_ble_eq_true rfl) dX12_sky_22 (fun H locs hM => ?_)
    have hM : MW g (mup M (gA g 46) (mdE g m0 m1 m2 (nI a) m4 m5 m6 m7 m8 m9 m10 m11)) H locs := hM
    refine lv_aload_n hx hb dX12_sky_25 rfl (lv_at hl 0 rfl) ?_
    refine lv_aload_n hx hb dX12_sky_26 rfl (lv_at hl 0 rfl) ?_
    refine r_get (T := TX12) (N := 20) (ci := 12) (v := .ref (gA g 47)) X hM iX12 rfl 1 (by decide) q_836 (Or.inl rfl) (mup_s _ _ _) rfl dX12_sky_27 ?_
    refine lv_bipush (v := 14) hx hb dX12_sky_30 (by decide) ?_
    refine r_iald (i := 14) X hM (mup_r (X.2.ne (i := 47) (j := 46) (by decide) (by decide) (by decide)) h47) (vp_in_nI (n := 14) (by decide) (by decide)) dX12_sky_32 ?_
    rw [show ((14 : Int32)).toNatClampNeg = 14 from by decide]
    rw [h14]
    refine r_put (T := TX12) (N := 20) (ci := 12) X hM iX12 tyX12 tyX12_ok nmX12 rfl 8 (by decide) q_843 rfl (Or.inl rfl) (mup_s _ _ _) rfl rfl (Nat.le_of_ble_eq_true rfl) dX12_sky_33 (fun H locs hM => ?_)
    rw [mup_i] at hM
    have hM : MW g (mup M (gA g 46) (mdE g m0 m1 m2 (nI a) m4 (nI en) m6 m7 m8 m9 m10 m11)) H locs := hM
    refine lv_aload_n hx hb dX12_sky_36 rfl (lv_at hl 0 rfl) ?_
    refine r_get (T := TX12) (N := 20) (ci := 12) (v := .ref (gA g 47)) X hM iX12 rfl 1 (by decide) q_836 (Or.inl rfl) (mup_s _ _ _) rfl dX12_sky_37 ?_
    refine lv_bipush (v := 14) hx hb dX12_sky_40 (by decide) ?_
    refine lv_iconst (v := 0) hx hb dX12_sky_42 (by decide) ?_
    refine r_iast (i := 14) (x := 0) X hM (mup_r (X.2.ne (i := 47) (j := 46) (by decide) (by decide) (by decide)) h47) (vp_in_nI (n := 14) (by decide) (by decide)) dX12_sky_43 (fun H locs hM => ?_)
    rw [show ((14 : Int32)).toNatClampNeg = 14 from by decide] at hM
    have hM : MW g (mup (mup M (gA g 46) (mdE g m0 m1 m2 (nI a) m4 (nI en) m6 m7 m8 m9 m10 m11)) (gA g 47) (aI g 929 (upd f 14 0))) H locs := hM
    refine lv_aload_n hx hb dX12_sky_44 rfl (lv_at hl 0 rfl) ?_
    refine r_get (T := TX12) (N := 20) (ci := 12) (v := .ref (gA g 47)) X hM iX12 rfl 1 (by decide) q_836 (Or.inl rfl) (mup_r (X.2.ne (i := 46) (j := 47) (by decide) (by decide) (by decide)) (mup_s _ _ _)) rfl dX12_sky_45 ?_
    refine lv_sipush (v := 214) hx hb dX12_sky_48 (by decide) ?_
    refine lv_aload_n hx hb dX12_sky_51 rfl (lv_at hl 0 rfl) ?_
    refine r_get (T := TX12) (N := 20) (ci := 12) (v := .int (nI a)) X hM iX12 rfl 6 (by decide) q_841 (Or.inl rfl) (mup_r (X.2.ne (i := 46) (j := 47) (by decide) (by decide) (by decide)) (mup_s _ _ _)) rfl dX12_sky_52 ?_
    refine lv_iadd hx hb dX12_sky_55 ?_
    rw [show (214 : Int32) + (nI a) = nI (214 + a) from nI_add 214 a]
    refine lv_iconst (v := 1) hx hb dX12_sky_56 (by decide) ?_
    refine r_iast (i := nI (214 + a)) (x := 1) X hM (mup_s _ _ _) (vp_in_nI (by omega) (by decide)) dX12_sky_57 (fun H locs hM => ?_)
    rw [nI_clamp (show 214 + a < 2147483648 by omega)] at hM
    rw [mup_i] at hM
    have hM : MW g (mup (mup M (gA g 46) (mdE g m0 m1 m2 (nI a) m4 (nI en) m6 m7 m8 m9 m10 m11)) (gA g 47) (aI g 929 (upd (upd f 14 0) (214 + a) 1))) H locs := hM
    refine lv_aload_n hx hb dX12_sky_58 rfl (lv_at hl 0 rfl) ?_
    refine r_get (T := TX12) (N := 20) (ci := 12) (v := .ref (gA g 47)) X hM iX12 rfl 1 (by decide) q_836 (Or.inl rfl) (mup_r (X.2.ne (i := 46) (j := 47) (by decide) (by decide) (by decide)) (mup_s _ _ _)) rfl dX12_sky_59 ?_
    refine lv_sipush (v := 219) hx hb dX12_sky_62 (by decide) ?_
    refine lv_aload_n hx hb dX12_sky_65 rfl (lv_at hl 0 rfl) ?_
    refine r_get (T := TX12) (N := 20) (ci := 12) (v := .int (nI a)) X hM iX12 rfl 6 (by decide) q_841 (Or.inl rfl) (mup_r (X.2.ne (i := 46) (j := 47) (by decide) (by decide) (by decide)) (mup_s _ _ _)) rfl dX12_sky_66 ?_
    refine lv_iadd hx hb dX12_sky_69 ?_
    rw [show (219 : Int32) + (nI a) = nI (219 + a) from nI_add 219 a]
    refine lv_iconst (v := 0) hx hb dX12_sky_70 (by decide) ?_
    refine r_iast (i := nI (219 + a)) (x := 0) X hM (mup_s _ _ _) (vp_in_nI (by omega) (by decide)) dX12_sky_71 (fun H locs hM => ?_)
    rw [nI_clamp (show 219 + a < 2147483648 by omega)] at hM
    rw [mup_i] at hM
    have hM : MW g (mup (mup M (gA g 46) (mdE g m0 m1 m2 (nI a) m4 (nI en) m6 m7 m8 m9 m10 m11)) (gA g 47) (aI g 929 (upd (upd (upd f 14 0) (214 + a) 1) (219 + a) 0))) H locs := hM
    refine lv_aload_n hx hb dX12_sky_72 rfl (lv_at hl 0 rfl) ?_
    refine r_get (T := TX12) (N := 20) (ci := 12) (v := .ref (gA g 47)) X hM iX12 rfl 1 (by decide) q_836 (Or.inl rfl) (mup_r (X.2.ne (i := 46) (j := 47) (by decide) (by decide) (by decide)) (mup_s _ _ _)) rfl dX12_sky_73 ?_
    refine lv_sipush (v := 224) hx hb dX12_sky_76 (by decide) ?_
    refine lv_aload_n hx hb dX12_sky_79 rfl (lv_at hl 0 rfl) ?_
    refine r_get (T := TX12) (N := 20) (ci := 12) (v := .int (nI a)) X hM iX12 rfl 6 (by decide) q_841 (Or.inl rfl) (mup_r (X.2.ne (i := 46) (j := 47) (by decide) (by decide) (by decide)) (mup_s _ _ _)) rfl dX12_sky_80 ?_
    refine lv_iadd hx hb dX12_sky_83 ?_
    rw [show (224 : Int32) + (nI a) = nI (224 + a) from nI_add 224 a]
    refine lv_iconst (v := 0) hx hb dX12_sky_84 (by decide) ?_
    refine r_iast (i := nI (224 + a)) (x := 0) X hM (mup_s _ _ _) (vp_in_nI (by omega) (by decide)) dX12_sky_85 (fun H locs hM => ?_)
    rw [nI_clamp (show 224 + a < 2147483648 by omega)] at hM
    rw [show upd (upd (upd (upd f 14 0) (214 + a) 1) (219 + a) 0) (224 + a) 0 = cnt (skF f a) a 1 0 [] from skF_cnt ha] at hM
    rw [mup_i] at hM
    have hM : MW g (mup (mup M (gA g 46) (mdE g m0 m1 m2 (nI a) m4 (nI en) m6 m7 m8 m9 m10 m11)) (gA g 47) (aI g 929 (cnt (skF f a) a 1 0 []))) H locs := hM
    refine lv_aload_n hx hb dX12_sky_86 rfl (lv_at hl 0 rfl) ?_
    refine lv_iconst (v := 0) hx hb dX12_sky_87 (by decide) ?_
    refine r_put (T := TX12) (N := 20) (ci := 12) X hM iX12 tyX12 tyX12_ok nmX12 rfl 7 (by decide) q_842 rfl (Or.inl rfl) (mup_r (X.2.ne (i := 46) (j := 47) (by decide) (by decide) (by decide)) (mup_s _ _ _)) rfl rfl (Nat.le_of_ble_eq_true rfl) dX12_sky_88 (fun H locs hM => ?_)
    rw [mup_w _ _ _ (X.2.ne (i := 47) (j := 46) (by decide) (by decide) (by decide)), mup_i] at hM
    have hM : MW g (mup (mup M (gA g 46) (mdE g m0 m1 m2 (nI a) 0 (nI en) m6 m7 m8 m9 m10 m11)) (gA g 47) (aI g 929 (cnt (skF f a) a 1 0 []))) H locs := hM
    refine lv_aload_n hx hb dX12_sky_91 rfl (lv_at hl 0 rfl) ?_
    refine lv_iconst (v := 0) hx hb dX12_sky_92 (by decide) ?_
    refine r_put (T := TX12) (N := 20) (ci := 12) X hM iX12 tyX12 tyX12_ok nmX12 rfl 9 (by decide) q_844 rfl (Or.inl rfl) (mup_r (X.2.ne (i := 46) (j := 47) (by decide) (by decide) (by decide)) (mup_s _ _ _)) rfl rfl (Nat.le_of_ble_eq_true rfl) dX12_sky_93 (fun H locs hM => ?_)
    rw [mup_w _ _ _ (X.2.ne (i := 47) (j := 46) (by decide) (by decide) (by decide)), mup_i] at hM
    have hM : MW g (mup (mup M (gA g 46) (mdE g m0 m1 m2 (nI a) 0 (nI en) 0 m7 m8 m9 m10 m11)) (gA g 47) (aI g 929 (cnt (skF f a) a 1 0 []))) H locs := hM
    refine lv_aload_n hx hb dX12_sky_96 rfl (lv_at hl 0 rfl) ?_
    refine lv_iconst (v := 0) hx hb dX12_sky_97 (by decide) ?_
    refine r_put (T := TX12) (N := 20) (ci := 12) X hM iX12 tyX12 tyX12_ok nmX12 rfl 10 (by decide) q_845 rfl (Or.inl rfl) (mup_r (X.2.ne (i := 46) (j := 47) (by decide) (by decide) (by decide)) (mup_s _ _ _)) rfl rfl (Nat.le_of_ble_eq_true rfl) dX12_sky_98 (fun H locs hM => ?_)
    rw [mup_w _ _ _ (X.2.ne (i := 47) (j := 46) (by decide) (by decide) (by decide)), mup_i] at hM
    have hM : MW g (mup (mup M (gA g 46) (mdE g m0 m1 m2 (nI a) 0 (nI en) 0 0 m8 m9 m10 m11)) (gA g 47) (aI g 929 (cnt (skF f a) a 1 0 []))) H locs := hM
    refine lv_iconst (v := 1) hx hb dX12_sky_101 (by decide) ?_
    refine lv_istore_n (lv' := [(1, .int 1), (0, .ref (gA g 46))]) hx hb dX12_sky_102 rfl hl (by decide) rfl (fun ls hl => ?_)
    refine lv_aload_n hx hb dX12_sky_103 rfl (lv_at hl 1 rfl) ?_
    refine K_v (G_V (As := []) (rest := []) X hM (c_X12_clauseHere l g _ m0 m1 m2 m8 m9 m10 m11 a en (skF f a) 1 0 ((0, 0, []) : Q9) (mup_r (X.2.ne (i := 46) (j := 47) (by decide) (by decide) (by decide)) (mup_s _ _ _)) (mup_s _ _ _) (VQ_0 en) hen ha upd_eq) lk_X12_130 (mup_r (X.2.ne (i := 46) (j := 47) (by decide) (by decide) (by decide)) (mup_s _ _ _)) rfl rfl hl.1 rfl (Nat.le_of_ble_eq_true rfl) (by decide) dX12_sky_104 ⟨Nat.le_of_ble_eq_true rfl, Nat.le_of_ble_eq_true rfl⟩) hM (fun M1 H locs hM hp => ?_)
    subst hp
    rw [mup_w _ _ _ (X.2.ne (i := 47) (j := 46) (by decide) (by decide) (by decide)), mup_i] at hM
    rw [mup_i] at hM
    have hM : MW g (mup (mup M (gA g 46) (mdE g m0 m1 m2 (nI a) (nI (qS ((qCl (skF f a) en ((1, 0), ((0, 0, []) : Q9))).2))) (nI en) (qZ ((qCl (skF f a) en ((1, 0), ((0, 0, []) : Q9))).2)) 0 m8 m9 m10 m11)) (gA g 47) (aI g 929 (cnt (skF f a) a (qCl (skF f a) en ((1, 0), ((0, 0, []) : Q9))).1.1 (qCl (skF f a) en ((1, 0), ((0, 0, []) : Q9))).1.2 (qL (qCl (skF f a) en ((1, 0), ((0, 0, []) : Q9))).2)))) H locs := hM
    have L107 : ∀ (fu : Nat) (i : Nat) (v : C9) (hVb : VQ en v.2) (hi : i ≤ 9) (kb : qRd (skF f a) en i v = qRQ (skF f a) en) (H : Heap) (locs : List Loc) (hM : MW g (mup (mup M (gA g 46) (mdE g m0 m1 m2 (nI a) (nI (qS v.2)) (nI en) (qZ v.2) 0 m8 m9 m10 m11)) (gA g 47) (aI g 929 (cnt (skF f a) a v.1.1 v.1.2 (qL v.2)))) H locs) (ls : Array Slot) (hl : lv_has ls 2 [(0, .ref (gA g 46)), (1, .int (nI (10 - i)))]), i < fu → W p l e (rmD 27 0 0) s m args below meth c H locs 0 0 (MQ below (Qi g (fun r M1 => ((mSky f en a).1) = r ∧ mup (mup M (gA g 46) (mdE g m0 m1 m2 (nI a) (nI (qS (qRQ (skF f a) en).2)) (nI en) (qZ (qRQ (skF f a) en).2) 0 m8 m9 m10 m11)) (gA g 47) (aI g 929 ((mSky f en a).2)) = M1)) args s 0 0 (gF g)) (F0 m 107 ls []) := by
      intro fu
      induction fu with
      | zero => intro i v hVb hi kb H locs hM ls hl hmu; exact absurd hmu (Nat.not_lt_zero _)
      | succ fu ih =>
        intro i v hVb hi kb H locs hM ls hl hmu
        refine lv_aload_n hx hb dX12_sky_107 rfl (lv_at hl 0 rfl) ?_
        refine r_get (T := TX12) (N := 20) (ci := 12) (v := .int (qZ v.2)) X hM iX12 rfl 9 (by decide) q_844 (Or.inl rfl) (mup_r (X.2.ne (i := 46) (j := 47) (by decide) (by decide) (by decide)) (mup_s _ _ _)) rfl dX12_sky_108 ?_
        refine lv_if_ne (tgt := 149) hx hb dX12_sky_111 (by decide) (fun c_2 => ?_) (fun c_2 => ?_)
        · skip
          refine lv_aload_n hx hb dX12_sky_149 rfl (lv_at hl 0 rfl) ?_
          refine r_get (T := TX12) (N := 20) (ci := 12) (v := .int (qZ v.2)) X hM iX12 rfl 9 (by decide) q_844 (Or.inl rfl) (mup_r (X.2.ne (i := 46) (j := 47) (by decide) (by decide) (by decide)) (mup_s _ _ _)) rfl dX12_sky_150 ?_
          refine lv_if_ne (tgt := 167) hx hb dX12_sky_153 (by decide) (fun c_3 => ?_) (fun c_3 => ?_)
          · skip
            refine lv_bipush (v := -10) hx hb dX12_sky_167 (by decide) ?_
            refine lv_aload_n hx hb dX12_sky_169 rfl (lv_at hl 0 rfl) ?_
            refine r_get (T := TX12) (N := 20) (ci := 12) (v := .int (nI (qS v.2))) X hM iX12 rfl 7 (by decide) q_842 (Or.inl rfl) (mup_r (X.2.ne (i := 46) (j := 47) (by decide) (by decide) (by decide)) (mup_s _ _ _)) rfl dX12_sky_170 ?_
            refine lv_isub hx hb dX12_sky_173 ?_
            have ev : v = qRQ (skF f a) en := by rw [← kb]; exact (qRd_z c_2 _).symm
            have e9 : mSky f en a = ((-10) - (nI (qS v.2)), cnt (skF f a) a v.1.1 v.1.2 (qL v.2)) := by unfold mSky mSkyC; rw [← ev]; (first | rw [if_pos c_3] | rw [if_neg c_3] | skip)
            exact R_i X hr hk hM ⟨(by rw [e9]), (by rw [← ev, e9])⟩ dX12_sky_174
          · skip
            exact absurd c_3 c_2
        · skip
          refine lv_iload_n hx hb dX12_sky_114 rfl (lv_at hl 1 rfl) ?_
          refine lv_bipush (v := 10) hx hb dX12_sky_115 (by decide) ?_
          refine lv_icmp_ge (tgt := 149) hx hb dX12_sky_117 (by decide) (fun c_4 => ?_) (fun c_4 => ?_)
          · skip
            have hi9 : i = 0 := by
              have := (nI_leI (a := 10) (b := 10 - i) (by omega) (by omega)).mp c_4
              omega
            refine lv_aload_n hx hb dX12_sky_149 rfl (lv_at hl 0 rfl) ?_
            refine r_get (T := TX12) (N := 20) (ci := 12) (v := .int (qZ v.2)) X hM iX12 rfl 9 (by decide) q_844 (Or.inl rfl) (mup_r (X.2.ne (i := 46) (j := 47) (by decide) (by decide) (by decide)) (mup_s _ _ _)) rfl dX12_sky_150 ?_
            refine lv_if_ne (tgt := 167) hx hb dX12_sky_153 (by decide) (fun c_5 => ?_) (fun c_5 => ?_)
            · skip
              exact absurd c_2 c_5
            · skip
              refine lv_aload_n hx hb dX12_sky_156 rfl (lv_at hl 0 rfl) ?_
              refine r_get (T := TX12) (N := 20) (ci := 12) (v := .int (nI (qS v.2))) X hM iX12 rfl 7 (by decide) q_842 (Or.inl rfl) (mup_r (X.2.ne (i := 46) (j := 47) (by decide) (by decide) (by decide)) (mup_s _ _ _)) rfl dX12_sky_157 ?_
              refine lv_aload_n hx hb dX12_sky_160 rfl (lv_at hl 0 rfl) ?_
              refine r_get (T := TX12) (N := 20) (ci := 12) (v := .int (nI en)) X hM iX12 rfl 8 (by decide) q_843 (Or.inl rfl) (mup_r (X.2.ne (i := 46) (j := 47) (by decide) (by decide) (by decide)) (mup_s _ _ _)) rfl dX12_sky_161 ?_
              refine lv_icmp_eq (tgt := 175) hx hb dX12_sky_164 (by decide) (fun c_6 => ?_) (fun c_6 => ?_)
              · skip
                refine lv_aload_n hx hb dX12_sky_175 rfl (lv_at hl 0 rfl) ?_
                refine r_get (T := TX12) (N := 20) (ci := 12) (v := .ref (gA g 47)) X hM iX12 rfl 1 (by decide) q_836 (Or.inl rfl) (mup_r (X.2.ne (i := 46) (j := 47) (by decide) (by decide) (by decide)) (mup_s _ _ _)) rfl dX12_sky_176 ?_
                refine lv_bipush (v := 10) hx hb dX12_sky_179 (by decide) ?_
                refine lv_dup2_11 hx hb dX12_sky_181 rfl rfl ?_
                refine r_iald (i := 10) X hM (mup_s _ _ _) (vp_in_nI (n := 10) (by decide) (by decide)) dX12_sky_182 ?_
                rw [show ((10 : Int32)).toNatClampNeg = 10 from by decide]
                rw [(cnt_lo (by omega)).trans ((show skF f a 10 = f 10 from by unfold skF; rw [upd_ne (by omega), upd_ne (by omega)]).trans h10)]
                refine lv_iconst (v := 1) hx hb dX12_sky_183 (by decide) ?_
                refine lv_iadd hx hb dX12_sky_184 ?_
                rw [show (nI a) + (1 : Int32) = nI (a + 1) from nI_add a 1]
                refine r_iast (i := 10) (x := nI (a + 1)) X hM (mup_s _ _ _) (vp_in_nI (n := 10) (by decide) (by decide)) dX12_sky_185 (fun H locs hM => ?_)
                rw [show ((10 : Int32)).toNatClampNeg = 10 from by decide] at hM
                rw [mup_i] at hM
                have hM : MW g (mup (mup M (gA g 46) (mdE g m0 m1 m2 (nI a) (nI (qS v.2)) (nI en) (qZ v.2) 0 m8 m9 m10 m11)) (gA g 47) (aI g 929 (upd (cnt (skF f a) a v.1.1 v.1.2 (qL v.2)) 10 (nI (a + 1))))) H locs := hM
                refine lv_aload_n hx hb dX12_sky_186 rfl (lv_at hl 0 rfl) ?_
                refine r_get (T := TX12) (N := 20) (ci := 12) (v := .ref (gA g 47)) X hM iX12 rfl 1 (by decide) q_836 (Or.inl rfl) (mup_r (X.2.ne (i := 46) (j := 47) (by decide) (by decide) (by decide)) (mup_s _ _ _)) rfl dX12_sky_187 ?_
                refine lv_bipush (v := 15) hx hb dX12_sky_190 (by decide) ?_
                refine lv_aload_n hx hb dX12_sky_192 rfl (lv_at hl 0 rfl) ?_
                refine r_get (T := TX12) (N := 20) (ci := 12) (v := .int (nI a)) X hM iX12 rfl 6 (by decide) q_841 (Or.inl rfl) (mup_r (X.2.ne (i := 46) (j := 47) (by decide) (by decide) (by decide)) (mup_s _ _ _)) rfl dX12_sky_193 ?_
                refine r_iast (i := 15) (x := nI a) X hM (mup_s _ _ _) (vp_in_nI (n := 15) (by decide) (by decide)) dX12_sky_196 (fun H locs hM => ?_)
                rw [show ((15 : Int32)).toNatClampNeg = 15 from by decide] at hM
                rw [mup_i] at hM
                have hM : MW g (mup (mup M (gA g 46) (mdE g m0 m1 m2 (nI a) (nI (qS v.2)) (nI en) (qZ v.2) 0 m8 m9 m10 m11)) (gA g 47) (aI g 929 (upd (upd (cnt (skF f a) a v.1.1 v.1.2 (qL v.2)) 10 (nI (a + 1))) 15 (nI a)))) H locs := hM
                refine lv_aload_n hx hb dX12_sky_197 rfl (lv_at hl 0 rfl) ?_
                refine r_get (T := TX12) (N := 20) (ci := 12) (v := .int (nI a)) X hM iX12 rfl 6 (by decide) q_841 (Or.inl rfl) (mup_r (X.2.ne (i := 46) (j := 47) (by decide) (by decide) (by decide)) (mup_s _ _ _)) rfl dX12_sky_198 ?_
                have ev : v = qRQ (skF f a) en := by rw [← kb]; rw [hi9]; rfl
                have e9 : mSky f en a = (nI a, upd (upd (cnt (skF f a) a v.1.1 v.1.2 (qL v.2)) 10 (nI (a + 1))) 15 (nI a)) := by unfold mSky mSkyC; rw [← ev]; (first | rw [if_pos c_5] | rw [if_neg c_5] | skip); (first | rw [if_pos c_6] | rw [if_neg c_6] | skip)
                exact R_i X hr hk hM ⟨(by rw [e9]), (by rw [← ev, e9])⟩ dX12_sky_201
              · skip
                refine lv_bipush (v := -10) hx hb dX12_sky_167 (by decide) ?_
                refine lv_aload_n hx hb dX12_sky_169 rfl (lv_at hl 0 rfl) ?_
                refine r_get (T := TX12) (N := 20) (ci := 12) (v := .int (nI (qS v.2))) X hM iX12 rfl 7 (by decide) q_842 (Or.inl rfl) (mup_r (X.2.ne (i := 46) (j := 47) (by decide) (by decide) (by decide)) (mup_s _ _ _)) rfl dX12_sky_170 ?_
                refine lv_isub hx hb dX12_sky_173 ?_
                have ev : v = qRQ (skF f a) en := by rw [← kb]; rw [hi9]; rfl
                have e9 : mSky f en a = ((-10) - (nI (qS v.2)), cnt (skF f a) a v.1.1 v.1.2 (qL v.2)) := by unfold mSky mSkyC; rw [← ev]; (first | rw [if_pos c_5] | rw [if_neg c_5] | skip); (first | rw [if_pos c_6] | rw [if_neg c_6] | skip)
                exact R_i X hr hk hM ⟨(by rw [e9]), (by rw [← ev, e9])⟩ dX12_sky_174
          · skip
            have hi0 : 0 < i := by
              rcases Nat.eq_zero_or_pos i with q | q
              · exact absurd (show (10 : Int32) ≤ nI (10 - i) from by rw [q]; decide) c_4
              · exact q
            refine lv_aload_n hx hb dX12_sky_120 rfl (lv_at hl 0 rfl) ?_
            refine K_i (G_V (As := []) (rest := []) X hM (c_X12_hereQ l g _ m0 m1 m2 0 m8 m9 m10 m11 a en (skF f a) v.1.1 v.1.2 v.2 (mup_r (X.2.ne (i := 46) (j := 47) (by decide) (by decide) (by decide)) (mup_s _ _ _)) (mup_s _ _ _) hVb hen ha upd_eq) lk_X12_62 (mup_r (X.2.ne (i := 46) (j := 47) (by decide) (by decide) (by decide)) (mup_s _ _ _)) rfl rfl hl.1 rfl (Nat.le_of_ble_eq_true rfl) (by decide) dX12_sky_121 ⟨Nat.le_of_ble_eq_true rfl, Nat.le_of_ble_eq_true rfl⟩) hM (fun r M1 H locs hM hp => ?_)
            obtain ⟨rfl, rfl⟩ := hp
            refine lv_bipush (v := 59) hx hb dX12_sky_124 (by decide) ?_
            refine lv_icmp_ne (tgt := 149) hx hb dX12_sky_126 (by decide) (fun c_7 => ?_) (fun c_7 => ?_)
            · skip
              refine lv_aload_n hx hb dX12_sky_149 rfl (lv_at hl 0 rfl) ?_
              refine r_get (T := TX12) (N := 20) (ci := 12) (v := .int (qZ v.2)) X hM iX12 rfl 9 (by decide) q_844 (Or.inl rfl) (mup_r (X.2.ne (i := 46) (j := 47) (by decide) (by decide) (by decide)) (mup_s _ _ _)) rfl dX12_sky_150 ?_
              refine lv_if_ne (tgt := 167) hx hb dX12_sky_153 (by decide) (fun c_8 => ?_) (fun c_8 => ?_)
              · skip
                exact absurd c_2 c_8
              · skip
                refine lv_aload_n hx hb dX12_sky_156 rfl (lv_at hl 0 rfl) ?_
                refine r_get (T := TX12) (N := 20) (ci := 12) (v := .int (nI (qS v.2))) X hM iX12 rfl 7 (by decide) q_842 (Or.inl rfl) (mup_r (X.2.ne (i := 46) (j := 47) (by decide) (by decide) (by decide)) (mup_s _ _ _)) rfl dX12_sky_157 ?_
                refine lv_aload_n hx hb dX12_sky_160 rfl (lv_at hl 0 rfl) ?_
                refine r_get (T := TX12) (N := 20) (ci := 12) (v := .int (nI en)) X hM iX12 rfl 8 (by decide) q_843 (Or.inl rfl) (mup_r (X.2.ne (i := 46) (j := 47) (by decide) (by decide) (by decide)) (mup_s _ _ _)) rfl dX12_sky_161 ?_
                refine lv_icmp_eq (tgt := 175) hx hb dX12_sky_164 (by decide) (fun c_9 => ?_) (fun c_9 => ?_)
                · skip
                  refine lv_aload_n hx hb dX12_sky_175 rfl (lv_at hl 0 rfl) ?_
                  refine r_get (T := TX12) (N := 20) (ci := 12) (v := .ref (gA g 47)) X hM iX12 rfl 1 (by decide) q_836 (Or.inl rfl) (mup_r (X.2.ne (i := 46) (j := 47) (by decide) (by decide) (by decide)) (mup_s _ _ _)) rfl dX12_sky_176 ?_
                  refine lv_bipush (v := 10) hx hb dX12_sky_179 (by decide) ?_
                  refine lv_dup2_11 hx hb dX12_sky_181 rfl rfl ?_
                  refine r_iald (i := 10) X hM (mup_s _ _ _) (vp_in_nI (n := 10) (by decide) (by decide)) dX12_sky_182 ?_
                  rw [show ((10 : Int32)).toNatClampNeg = 10 from by decide]
                  rw [(cnt_lo (by omega)).trans ((show skF f a 10 = f 10 from by unfold skF; rw [upd_ne (by omega), upd_ne (by omega)]).trans h10)]
                  refine lv_iconst (v := 1) hx hb dX12_sky_183 (by decide) ?_
                  refine lv_iadd hx hb dX12_sky_184 ?_
                  rw [show (nI a) + (1 : Int32) = nI (a + 1) from nI_add a 1]
                  refine r_iast (i := 10) (x := nI (a + 1)) X hM (mup_s _ _ _) (vp_in_nI (n := 10) (by decide) (by decide)) dX12_sky_185 (fun H locs hM => ?_)
                  rw [show ((10 : Int32)).toNatClampNeg = 10 from by decide] at hM
                  rw [mup_i] at hM
                  have hM : MW g (mup (mup M (gA g 46) (mdE g m0 m1 m2 (nI a) (nI (qS v.2)) (nI en) (qZ v.2) 0 m8 m9 m10 m11)) (gA g 47) (aI g 929 (upd (cnt (skF f a) a v.1.1 v.1.2 (qL v.2)) 10 (nI (a + 1))))) H locs := hM
                  refine lv_aload_n hx hb dX12_sky_186 rfl (lv_at hl 0 rfl) ?_
                  refine r_get (T := TX12) (N := 20) (ci := 12) (v := .ref (gA g 47)) X hM iX12 rfl 1 (by decide) q_836 (Or.inl rfl) (mup_r (X.2.ne (i := 46) (j := 47) (by decide) (by decide) (by decide)) (mup_s _ _ _)) rfl dX12_sky_187 ?_
                  refine lv_bipush (v := 15) hx hb dX12_sky_190 (by decide) ?_
                  refine lv_aload_n hx hb dX12_sky_192 rfl (lv_at hl 0 rfl) ?_
                  refine r_get (T := TX12) (N := 20) (ci := 12) (v := .int (nI a)) X hM iX12 rfl 6 (by decide) q_841 (Or.inl rfl) (mup_r (X.2.ne (i := 46) (j := 47) (by decide) (by decide) (by decide)) (mup_s _ _ _)) rfl dX12_sky_193 ?_
                  refine r_iast (i := 15) (x := nI a) X hM (mup_s _ _ _) (vp_in_nI (n := 15) (by decide) (by decide)) dX12_sky_196 (fun H locs hM => ?_)
                  rw [show ((15 : Int32)).toNatClampNeg = 15 from by decide] at hM
                  rw [mup_i] at hM
                  have hM : MW g (mup (mup M (gA g 46) (mdE g m0 m1 m2 (nI a) (nI (qS v.2)) (nI en) (qZ v.2) 0 m8 m9 m10 m11)) (gA g 47) (aI g 929 (upd (upd (cnt (skF f a) a v.1.1 v.1.2 (qL v.2)) 10 (nI (a + 1))) 15 (nI a)))) H locs := hM
                  refine lv_aload_n hx hb dX12_sky_197 rfl (lv_at hl 0 rfl) ?_
                  refine r_get (T := TX12) (N := 20) (ci := 12) (v := .int (nI a)) X hM iX12 rfl 6 (by decide) q_841 (Or.inl rfl) (mup_r (X.2.ne (i := 46) (j := 47) (by decide) (by decide) (by decide)) (mup_s _ _ _)) rfl dX12_sky_198 ?_
                  have ev : v = qRQ (skF f a) en := by rw [← kb]; exact (qRd_o c_7 _).symm
                  have e9 : mSky f en a = (nI a, upd (upd (cnt (skF f a) a v.1.1 v.1.2 (qL v.2)) 10 (nI (a + 1))) 15 (nI a)) := by unfold mSky mSkyC; rw [← ev]; (first | rw [if_pos c_8] | rw [if_neg c_8] | skip); (first | rw [if_pos c_9] | rw [if_neg c_9] | skip)
                  exact R_i X hr hk hM ⟨(by rw [e9]), (by rw [← ev, e9])⟩ dX12_sky_201
                · skip
                  refine lv_bipush (v := -10) hx hb dX12_sky_167 (by decide) ?_
                  refine lv_aload_n hx hb dX12_sky_169 rfl (lv_at hl 0 rfl) ?_
                  refine r_get (T := TX12) (N := 20) (ci := 12) (v := .int (nI (qS v.2))) X hM iX12 rfl 7 (by decide) q_842 (Or.inl rfl) (mup_r (X.2.ne (i := 46) (j := 47) (by decide) (by decide) (by decide)) (mup_s _ _ _)) rfl dX12_sky_170 ?_
                  refine lv_isub hx hb dX12_sky_173 ?_
                  have ev : v = qRQ (skF f a) en := by rw [← kb]; exact (qRd_o c_7 _).symm
                  have e9 : mSky f en a = ((-10) - (nI (qS v.2)), cnt (skF f a) a v.1.1 v.1.2 (qL v.2)) := by unfold mSky mSkyC; rw [← ev]; (first | rw [if_pos c_8] | rw [if_neg c_8] | skip); (first | rw [if_pos c_9] | rw [if_neg c_9] | skip)
                  exact R_i X hr hk hM ⟨(by rw [e9]), (by rw [← ev, e9])⟩ dX12_sky_174
            · skip
              refine lv_aload_n hx hb dX12_sky_129 rfl (lv_at hl 0 rfl) ?_
              refine lv_dup hx hb dX12_sky_130 rfl ?_
              refine r_get (T := TX12) (N := 20) (ci := 12) (v := .int (nI (qS v.2))) X hM iX12 rfl 7 (by decide) q_842 (Or.inl rfl) (mup_r (X.2.ne (i := 46) (j := 47) (by decide) (by decide) (by decide)) (mup_s _ _ _)) rfl dX12_sky_131 ?_
              refine lv_iconst (v := 1) hx hb dX12_sky_134 (by decide) ?_
              refine lv_iadd hx hb dX12_sky_135 ?_
              rw [show (nI (qS v.2)) + (1 : Int32) = nI ((qS v.2) + 1) from nI_add (qS v.2) 1]
              refine r_put (T := TX12) (N := 20) (ci := 12) X hM iX12 tyX12 tyX12_ok nmX12 rfl 7 (by decide) q_842 rfl (Or.inl rfl) (mup_r (X.2.ne (i := 46) (j := 47) (by decide) (by decide) (by decide)) (mup_s _ _ _)) rfl rfl (Nat.le_of_ble_eq_true rfl) dX12_sky_136 (fun H locs hM => ?_)
              rw [mup_w _ _ _ (X.2.ne (i := 47) (j := 46) (by decide) (by decide) (by decide)), mup_i] at hM
              have hM : MW g (mup (mup M (gA g 46) (mdE g m0 m1 m2 (nI a) (nI ((qS v.2) + 1)) (nI en) (qZ v.2) 0 m8 m9 m10 m11)) (gA g 47) (aI g 929 (cnt (skF f a) a v.1.1 v.1.2 (qL v.2)))) H locs := hM
              refine lv_aload_n hx hb dX12_sky_139 rfl (lv_at hl 0 rfl) ?_
              refine K_v (G_V (As := []) (rest := []) X hM (c_X12_clauseHere l g _ m0 m1 m2 m8 m9 m10 m11 a en (skF f a) v.1.1 v.1.2 (qS v.2 + 1, qZ v.2, qL v.2) (mup_r (X.2.ne (i := 46) (j := 47) (by decide) (by decide) (by decide)) (mup_s _ _ _)) (mup_s _ _ _) ⟨(mHe_lt (c_7) (by decide)), Nat.le_trans hVb.2.1 (Nat.le_succ _), hVb.2.2⟩ hen ha upd_eq) lk_X12_130 (mup_r (X.2.ne (i := 46) (j := 47) (by decide) (by decide) (by decide)) (mup_s _ _ _)) rfl rfl hl.1 rfl (Nat.le_of_ble_eq_true rfl) (by decide) dX12_sky_140 ⟨Nat.le_of_ble_eq_true rfl, Nat.le_of_ble_eq_true rfl⟩) hM (fun M1 H locs hM hp => ?_)
              subst hp
              rw [mup_w _ _ _ (X.2.ne (i := 47) (j := 46) (by decide) (by decide) (by decide)), mup_i] at hM
              rw [mup_i] at hM
              have hM : MW g (mup (mup M (gA g 46) (mdE g m0 m1 m2 (nI a) (nI (qS ((qCl (skF f a) en ((v.1.1, v.1.2), (qS v.2 + 1, qZ v.2, qL v.2))).2))) (nI en) (qZ ((qCl (skF f a) en ((v.1.1, v.1.2), (qS v.2 + 1, qZ v.2, qL v.2))).2)) 0 m8 m9 m10 m11)) (gA g 47) (aI g 929 (cnt (skF f a) a (qCl (skF f a) en ((v.1.1, v.1.2), (qS v.2 + 1, qZ v.2, qL v.2))).1.1 (qCl (skF f a) en ((v.1.1, v.1.2), (qS v.2 + 1, qZ v.2, qL v.2))).1.2 (qL (qCl (skF f a) en ((v.1.1, v.1.2), (qS v.2 + 1, qZ v.2, qL v.2))).2)))) H locs := hM
              refine lv_iinc (v := (nI (10 - i)) + 1) (lv' := [(1, .int ((nI (10 - i)) + 1)), (0, .ref (gA g 46))]) hx hb dX12_sky_143 hl (k := 1) rfl rfl (by decide) rfl (fun ls hl => ?_)
              rw [show (nI (10 - i)) + 1 = nI (10 - (i - 1)) from (nI_1 _).trans (congrArg nI (by omega))] at hl
              refine lv_goto (tgt := 107) hx hb dX12_sky_146 (by decide) ?_
              exact ih (i - 1) (qCl (skF f a) en ((v.1.1, v.1.2), (qS v.2 + 1, qZ v.2, qL v.2))) (qCl_good (w := ((v.1.1, v.1.2), (qS v.2 + 1, qZ v.2, qL v.2))) ⟨(mHe_lt (c_7) (by decide)), Nat.le_trans hVb.2.1 (Nat.le_succ _), hVb.2.2⟩ c_2).1 (by omega) (by rw [← kb, qRd_i c_2 c_7 hi0]) _ _ hM _ (lv_sub hl [1, 0] rfl) (by omega)
    exact L107 (9 + 1) 9 (qCl (skF f a) en ((1, 0), (0, 0, []))) (qCl_good (VQ_0 en) rfl).1 (Nat.le_refl _) rfl _ _ hM _ (lv_sub hl [1, 0] rfl) (by first | exact Nat.lt_succ_self _ | omega)
  · skip
    exact absurd c_1 (fun q_ => absurd ((nI_eq (b := 5) (by omega) (by omega)).mp q_) (by omega))
