def mEmi (f : Nat → Int32) (a n : Nat) (z x : Int32) : Nat → Int32 := if z = 0 then upd (upd f (229 + 140 * a + n) x) (224 + a) (nI (n + 1)) else f
def mFgW (f : Nat → Int32) (sp en : Nat) (z : Int32) : Int32 := if z = 0 then (if fIn (mHe f sp en) 48 57 = 0 then 1 else 0) else 1
theorem mFgW_01 (f : Nat → Int32) (sp en : Nat) (z : Int32) : mFgW f sp en z = 0 ∨ mFgW f sp en z = 1 := by
  unfold mFgW
  split
  · split
    · exact Or.inr rfl
    · exact Or.inl rfl
  · exact Or.inr rfl
def mFig (f : Nat → Int32) (sp en : Nat) (w : Int32) : Int32 × Nat := if w = 0 then (if fIn (mHe f sp en) 48 57 = 0 then (0, sp) else if fIn (mHe f (sp + 1) en) 48 57 = 0 then (10 * 0 + mHe f sp en - 48, sp + 1) else if 10 * 0 + mHe f sp en - 48 ≤ 0 then (10 * 0 + mHe f sp en - 48, sp + 1) else (10 * (10 * 0 + mHe f sp en - 48) + mHe f (sp + 1) en - 48, sp + 1 + 1)) else (0, sp)

set_option maxHeartbeats 4000000 in
set_option maxRecDepth 100000 in
theorem c_X12_emits (l : Launch) (g : Gp) (M : Mem) (m0 m1 m2 m4 m5 m6 m7 m8 m9 m10 m11 : Int32) (a n : Nat) (f : Nat → Int32) (x : Int32) (h46 : M (gA g 46) = some (mdE g m0 m1 m2 (nI a) m4 m5 m6 m7 m8 m9 m10 m11)) (h47 : M (gA g 47) = some (aI g 929 f)) (ha : a < 5) (hn : n ≤ 139) (hf : f (224 + a) = nI n) : Met l yX12_emits (wsM yX12_emits cX12_emits 2 none) (rmD 1 0 0) (Pre g M [.ref (gA g 46), .int x]) (Qv g (fun M1 => mup M (gA g 47) (aI g 929 (mEmi f a n m6 x)) = M1)) 0 0 (gF g) := M_start (by decide +kernel) (Nat.le_of_ble_eq_true rfl) fun p e s m args below meth c ls X hr hk hnm hM hl => by
  have X : Cx g p m c cX12_emits 2 s args RX12 := X
  have hx := X.1.1
  have hb := X.1.2.1
  have hl : lv_has ls 2 [(0, .ref (gA g 46)), (1, .int x)] := hl
  refine lv_aload_n hx hb dX12_emits_0 rfl (lv_at hl 0 rfl) ?_
  refine r_get (T := TX12) (N := 20) (ci := 12) (v := .int m6) X hM iX12 rfl 9 (by decide) q_844 (Or.inl rfl) h46 rfl dX12_emits_1 ?_
  refine lv_if_ne (tgt := 56) hx hb dX12_emits_4 (by decide) (fun c_1 => ?_) (fun c_1 => ?_)
  · skip
    exact R_v X hr hk hM (by unfold mEmi; rw [if_neg c_1]; exact mup_id h47) dX12_emits_56
  · skip
    refine lv_aload_n hx hb dX12_emits_7 rfl (lv_at hl 0 rfl) ?_
    refine r_get (T := TX12) (N := 20) (ci := 12) (v := .ref (gA g 47)) X hM iX12 rfl 1 (by decide) q_836 (Or.inl rfl) h46 rfl dX12_emits_8 ?_
    refine lv_sipush (v := 229) hx hb dX12_emits_11 (by decide) ?_
    refine lv_sipush (v := 140) hx hb dX12_emits_14 (by decide) ?_
    refine lv_aload_n hx hb dX12_emits_17 rfl (lv_at hl 0 rfl) ?_
    refine r_get (T := TX12) (N := 20) (ci := 12) (v := .int (nI a)) X hM iX12 rfl 6 (by decide) q_841 (Or.inl rfl) h46 rfl dX12_emits_18 ?_
    refine lv_imul hx hb dX12_emits_21 ?_
    rw [show (140 : Int32) * (nI a) = nI (140 * a) from nI_mul 140 a]
    refine lv_iadd hx hb dX12_emits_22 ?_
    rw [show (229 : Int32) + (nI (140 * a)) = nI (229 + (140 * a)) from nI_add 229 (140 * a)]
    refine lv_aload_n hx hb dX12_emits_23 rfl (lv_at hl 0 rfl) ?_
    refine r_get (T := TX12) (N := 20) (ci := 12) (v := .ref (gA g 47)) X hM iX12 rfl 1 (by decide) q_836 (Or.inl rfl) h46 rfl dX12_emits_24 ?_
    refine lv_sipush (v := 224) hx hb dX12_emits_27 (by decide) ?_
    refine lv_aload_n hx hb dX12_emits_30 rfl (lv_at hl 0 rfl) ?_
    refine r_get (T := TX12) (N := 20) (ci := 12) (v := .int (nI a)) X hM iX12 rfl 6 (by decide) q_841 (Or.inl rfl) h46 rfl dX12_emits_31 ?_
    refine lv_iadd hx hb dX12_emits_34 ?_
    rw [show (224 : Int32) + (nI a) = nI (224 + a) from nI_add 224 a]
    refine r_iald (i := nI (224 + a)) X hM h47 (vp_in_nI (by omega) (by decide)) dX12_emits_35 ?_
    rw [nI_clamp (show 224 + a < 2147483648 by omega)]
    rw [hf]
    refine lv_iadd hx hb dX12_emits_36 ?_
    rw [show (nI (229 + (140 * a))) + (nI n) = nI ((229 + (140 * a)) + n) from nI_add (229 + (140 * a)) n]
    refine lv_iload_n hx hb dX12_emits_37 rfl (lv_at hl 1 rfl) ?_
    refine r_iast (i := nI ((229 + (140 * a)) + n)) (x := x) X hM h47 (vp_in_nI (by omega) (by decide)) dX12_emits_38 (fun H locs hM => ?_)
    rw [nI_clamp (show (229 + (140 * a)) + n < 2147483648 by omega)] at hM
    have hM : MW g (mup M (gA g 47) (aI g 929 (upd f ((229 + (140 * a)) + n) x))) H locs := hM
    refine lv_aload_n hx hb dX12_emits_39 rfl (lv_at hl 0 rfl) ?_
    refine r_get (T := TX12) (N := 20) (ci := 12) (v := .ref (gA g 47)) X hM iX12 rfl 1 (by decide) q_836 (Or.inl rfl) (mup_r (X.2.ne (i := 46) (j := 47) (by decide) (by decide) (by decide)) h46) rfl dX12_emits_40 ?_
    refine lv_sipush (v := 224) hx hb dX12_emits_43 (by decide) ?_
    refine lv_aload_n hx hb dX12_emits_46 rfl (lv_at hl 0 rfl) ?_
    refine r_get (T := TX12) (N := 20) (ci := 12) (v := .int (nI a)) X hM iX12 rfl 6 (by decide) q_841 (Or.inl rfl) (mup_r (X.2.ne (i := 46) (j := 47) (by decide) (by decide) (by decide)) h46) rfl dX12_emits_47 ?_
    refine lv_iadd hx hb dX12_emits_50 ?_
    rw [show (224 : Int32) + (nI a) = nI (224 + a) from nI_add 224 a]
    refine lv_dup2_11 hx hb dX12_emits_51 rfl rfl ?_
    refine r_iald (i := nI (224 + a)) X hM (mup_s _ _ _) (vp_in_nI (by omega) (by decide)) dX12_emits_52 ?_
    rw [nI_clamp (show 224 + a < 2147483648 by omega)]
    rw [show upd f (229 + 140 * a + n) x (224 + a) = nI n from by rw [upd_ne (by omega)]; exact hf]
    refine lv_iconst (v := 1) hx hb dX12_emits_53 (by decide) ?_
    refine lv_iadd hx hb dX12_emits_54 ?_
    rw [show (nI n) + (1 : Int32) = nI (n + 1) from nI_add n 1]
    refine r_iast (i := nI (224 + a)) (x := nI (n + 1)) X hM (mup_s _ _ _) (vp_in_nI (by omega) (by decide)) dX12_emits_55 (fun H locs hM => ?_)
    rw [nI_clamp (show 224 + a < 2147483648 by omega)] at hM
    rw [mup_i] at hM
    have hM : MW g (mup M (gA g 47) (aI g 929 (upd (upd f ((229 + (140 * a)) + n) x) (224 + a) (nI (n + 1))))) H locs := hM
    exact R_v X hr hk hM (by unfold mEmi; rw [if_pos c_1]) dX12_emits_56
set_option maxHeartbeats 4000000 in
set_option maxRecDepth 100000 in
theorem c_X12_figures (l : Launch) (g : Gp) (M : Mem) (m0 m1 m2 m3 m6 m7 m8 m9 m10 m11 : Int32) (sp en : Nat) (f : Nat → Int32) (h46 : M (gA g 46) = some (mdE g m0 m1 m2 m3 (nI sp) (nI en) m6 m7 m8 m9 m10 m11)) (h47 : M (gA g 47) = some (aI g 929 f)) (hsp : sp ≤ 190) (hen : en ≤ 100) : Met l yX12_figures (wsM yX12_figures cX12_figures 3 (some .int)) (rmD 2 0 0) (Pre g M [.ref (gA g 46)]) (Qi g (fun r M1 => ((mFig f sp en (mFgW f sp en m6)).1) = r ∧ mup M (gA g 46) (mdE g m0 m1 m2 m3 (nI (mFig f sp en (mFgW f sp en m6)).2) (nI en) (mFgW f sp en m6) m7 m8 m9 m10 m11) = M1)) 0 0 (gF g) := M_start (by decide +kernel) (Nat.le_of_ble_eq_true rfl) fun p e s m args below meth c ls X hr hk hnm hM hl => by
  have X : Cx g p m c cX12_figures 3 s args RX12 := X
  have hx := X.1.1
  have hb := X.1.2.1
  have hl : lv_has ls 3 [(0, .ref (gA g 46))] := hl
  refine lv_aload_n hx hb dX12_figures_0 rfl (lv_at hl 0 rfl) ?_
  refine lv_aload_n hx hb dX12_figures_1 rfl (lv_at hl 0 rfl) ?_
  refine r_get (T := TX12) (N := 20) (ci := 12) (v := .int m6) X hM iX12 rfl 9 (by decide) q_844 (Or.inl rfl) h46 rfl dX12_figures_2 ?_
  refine l_joinM (ls := ls) hM 27 (mFgW f sp en m6) [.ref (gA g 46)] (fun H locs hM => ?_) (fun J5 => ?_)
  · skip
    refine lv_topi (fun zw e_zw => ?_)
    have hz9 : zw = 0 ∨ zw = 1 := by rw [e_zw]; exact mFgW_01 _ _ _ _
    refine r_put (T := TX12) (N := 20) (ci := 12) X hM iX12 tyX12 tyX12_ok nmX12 rfl 9 (by decide) q_844 rfl (Or.inl rfl) h46 (z01n hz9) (z01f hz9) (Nat.le_of_ble_eq_true rfl) dX12_figures_27 (fun H locs hM => ?_)
    have hM : MW g (mup M (gA g 46) (mdE g m0 m1 m2 m3 (nI sp) (nI en) zw m7 m8 m9 m10 m11)) H locs := hM
    refine lv_iconst (v := 0) hx hb dX12_figures_30 (by decide) ?_
    refine lv_istore_n (lv' := [(1, .int 0), (0, .ref (gA g 46))]) hx hb dX12_figures_31 rfl hl (by decide) rfl (fun ls hl => ?_)
    refine lv_iconst (v := 0) hx hb dX12_figures_32 (by decide) ?_
    refine lv_istore_n (lv' := [(2, .int 0), (1, .int 0), (0, .ref (gA g 46))]) hx hb dX12_figures_33 rfl hl (by decide) rfl (fun ls hl => ?_)
    refine lv_iload_n hx hb dX12_figures_34 rfl (lv_at hl 0 rfl) ?_
    refine lv_iconst (v := 2) hx hb dX12_figures_35 (by decide) ?_
    refine lv_icmp_ge (tgt := 97) hx hb dX12_figures_36 (by decide) (fun c_1 => ?_) (fun c_1 => ?_)
    · exact absurd c_1 (by decide)
    · skip
      refine lv_aload_n hx hb dX12_figures_39 rfl (lv_at hl 2 rfl) ?_
      refine r_get (T := TX12) (N := 20) (ci := 12) (v := .int zw) X hM iX12 rfl 9 (by decide) q_844 (Or.inl rfl) (mup_s _ _ _) rfl dX12_figures_40 ?_
      refine lv_if_ne (tgt := 97) hx hb dX12_figures_43 (by decide) (fun c_2 => ?_) (fun c_2 => ?_)
      · skip
        refine lv_iload_n hx hb dX12_figures_97 rfl (lv_at hl 1 rfl) ?_
        have e9 : mFig f sp en zw = (0, sp) := by unfold mFig; (first | rw [if_pos c_2] | rw [if_neg c_2] | skip); all_goals rfl
        exact R_i X hr hk hM ⟨(by rw [← e_zw, e9]), (by rw [← e_zw, e9])⟩ dX12_figures_98
      · skip
        refine lv_aload_n hx hb dX12_figures_46 rfl (lv_at hl 2 rfl) ?_
        refine K_i (G_V (As := []) (rest := []) X hM (c_X12_here l g _ m0 m1 m2 m3 zw m7 m8 m9 m10 m11 sp en f (mup_s _ _ _) (mup_r (X.2.ne (i := 47) (j := 46) (by decide) (by decide) (by decide)) h47) (by omega) hen) lk_X12_62 (mup_s _ _ _) rfl rfl hl.1 rfl (Nat.le_of_ble_eq_true rfl) (by decide) dX12_figures_47 ⟨Nat.le_of_ble_eq_true rfl, Nat.le_of_ble_eq_true rfl⟩) hM (fun r M1 H locs hM hp => ?_)
        obtain ⟨rfl, rfl⟩ := hp
        refine lv_bipush (v := 48) hx hb dX12_figures_50 (by decide) ?_
        refine lv_bipush (v := 57) hx hb dX12_figures_52 (by decide) ?_
        refine K_i (G_S (As := [.int (mHe f sp en), .int 48, .int 57]) (rest := []) X hM (c_X12_in l g _ (mHe f sp en) 48 57  ) lk_X12_41 rfl hl.1 rfl (Nat.le_of_ble_eq_true rfl) (by decide) dX12_figures_54 ⟨Nat.le_of_ble_eq_true rfl, Nat.le_of_ble_eq_true rfl⟩) hM (fun r M1 H locs hM hp => ?_)
        obtain ⟨rfl, rfl⟩ := hp
        refine lv_if_eq (tgt := 97) hx hb dX12_figures_57 (by decide) (fun c_3 => ?_) (fun c_3 => ?_)
        · skip
          refine lv_iload_n hx hb dX12_figures_97 rfl (lv_at hl 1 rfl) ?_
          have e9 : mFig f sp en zw = (0, sp) := by unfold mFig; (first | rw [if_pos c_2] | rw [if_neg c_2] | skip); (first | rw [if_pos c_3] | rw [if_neg c_3] | skip); all_goals rfl
          exact R_i X hr hk hM ⟨(by rw [← e_zw, e9]), (by rw [← e_zw, e9])⟩ dX12_figures_98
        · skip
          refine lv_iload_n hx hb dX12_figures_60 rfl (lv_at hl 0 rfl) ?_
          refine lv_if_eq (tgt := 68) hx hb dX12_figures_61 (by decide) (fun c_4 => ?_) (fun c_4 => ?_)
          · skip
            refine lv_bipush (v := 10) hx hb dX12_figures_68 (by decide) ?_
            refine lv_iload_n hx hb dX12_figures_70 rfl (lv_at hl 1 rfl) ?_
            refine lv_imul hx hb dX12_figures_71 ?_
            refine lv_aload_n hx hb dX12_figures_72 rfl (lv_at hl 2 rfl) ?_
            refine K_i (G_V (As := []) (rest := [.int (10 * 0)]) X hM (c_X12_here l g _ m0 m1 m2 m3 zw m7 m8 m9 m10 m11 sp en f (mup_s _ _ _) (mup_r (X.2.ne (i := 47) (j := 46) (by decide) (by decide) (by decide)) h47) (by omega) hen) lk_X12_62 (mup_s _ _ _) rfl rfl hl.1 rfl (Nat.le_of_ble_eq_true rfl) (by decide) dX12_figures_73 ⟨Nat.le_of_ble_eq_true rfl, Nat.le_of_ble_eq_true rfl⟩) hM (fun r M1 H locs hM hp => ?_)
            obtain ⟨rfl, rfl⟩ := hp
            refine lv_iadd hx hb dX12_figures_76 ?_
            refine lv_bipush (v := 48) hx hb dX12_figures_77 (by decide) ?_
            refine lv_isub hx hb dX12_figures_79 ?_
            refine lv_istore_n (lv' := [(1, .int (((10 * 0) + (mHe f sp en)) - 48)), (2, .int 0), (0, .ref (gA g 46))]) hx hb dX12_figures_80 rfl hl (by decide) rfl (fun ls hl => ?_)
            refine lv_aload_n hx hb dX12_figures_81 rfl (lv_at hl 2 rfl) ?_
            refine lv_dup hx hb dX12_figures_82 rfl ?_
            refine r_get (T := TX12) (N := 20) (ci := 12) (v := .int (nI sp)) X hM iX12 rfl 7 (by decide) q_842 (Or.inl rfl) (mup_s _ _ _) rfl dX12_figures_83 ?_
            refine lv_iconst (v := 1) hx hb dX12_figures_86 (by decide) ?_
            refine lv_iadd hx hb dX12_figures_87 ?_
            rw [show (nI sp) + (1 : Int32) = nI (sp + 1) from nI_add sp 1]
            refine r_put (T := TX12) (N := 20) (ci := 12) X hM iX12 tyX12 tyX12_ok nmX12 rfl 7 (by decide) q_842 rfl (Or.inl rfl) (mup_s _ _ _) rfl rfl (Nat.le_of_ble_eq_true rfl) dX12_figures_88 (fun H locs hM => ?_)
            rw [mup_i] at hM
            have hM : MW g (mup M (gA g 46) (mdE g m0 m1 m2 m3 (nI (sp + 1)) (nI en) zw m7 m8 m9 m10 m11)) H locs := hM
            refine lv_iinc (v := 1) (lv' := [(2, .int 1), (1, .int (((10 * 0) + (mHe f sp en)) - 48)), (0, .ref (gA g 46))]) hx hb dX12_figures_91 hl (k := 1) rfl rfl (by decide) rfl (fun ls hl => ?_)
            refine lv_goto (tgt := 34) hx hb dX12_figures_94 (by decide) ?_
            refine lv_iload_n hx hb dX12_figures_34 rfl (lv_at hl 0 rfl) ?_
            refine lv_iconst (v := 2) hx hb dX12_figures_35 (by decide) ?_
            refine lv_icmp_ge (tgt := 97) hx hb dX12_figures_36 (by decide) (fun c_5 => ?_) (fun c_5 => ?_)
            · exact absurd c_5 (by decide)
            · skip
              refine lv_aload_n hx hb dX12_figures_39 rfl (lv_at hl 2 rfl) ?_
              refine r_get (T := TX12) (N := 20) (ci := 12) (v := .int zw) X hM iX12 rfl 9 (by decide) q_844 (Or.inl rfl) (mup_s _ _ _) rfl dX12_figures_40 ?_
              refine lv_if_ne (tgt := 97) hx hb dX12_figures_43 (by decide) (fun c_6 => ?_) (fun c_6 => ?_)
              · skip
                exact absurd c_2 c_6
              · skip
                refine lv_aload_n hx hb dX12_figures_46 rfl (lv_at hl 2 rfl) ?_
                refine K_i (G_V (As := []) (rest := []) X hM (c_X12_here l g _ m0 m1 m2 m3 zw m7 m8 m9 m10 m11 (sp + 1) en f (mup_s _ _ _) (mup_r (X.2.ne (i := 47) (j := 46) (by decide) (by decide) (by decide)) h47) (by omega) hen) lk_X12_62 (mup_s _ _ _) rfl rfl hl.1 rfl (Nat.le_of_ble_eq_true rfl) (by decide) dX12_figures_47 ⟨Nat.le_of_ble_eq_true rfl, Nat.le_of_ble_eq_true rfl⟩) hM (fun r M1 H locs hM hp => ?_)
                obtain ⟨rfl, rfl⟩ := hp
                refine lv_bipush (v := 48) hx hb dX12_figures_50 (by decide) ?_
                refine lv_bipush (v := 57) hx hb dX12_figures_52 (by decide) ?_
                refine K_i (G_S (As := [.int (mHe f (sp + 1) en), .int 48, .int 57]) (rest := []) X hM (c_X12_in l g _ (mHe f (sp + 1) en) 48 57  ) lk_X12_41 rfl hl.1 rfl (Nat.le_of_ble_eq_true rfl) (by decide) dX12_figures_54 ⟨Nat.le_of_ble_eq_true rfl, Nat.le_of_ble_eq_true rfl⟩) hM (fun r M1 H locs hM hp => ?_)
                obtain ⟨rfl, rfl⟩ := hp
                refine lv_if_eq (tgt := 97) hx hb dX12_figures_57 (by decide) (fun c_7 => ?_) (fun c_7 => ?_)
                · skip
                  refine lv_iload_n hx hb dX12_figures_97 rfl (lv_at hl 1 rfl) ?_
                  have e9 : mFig f sp en zw = (((10 * 0) + (mHe f sp en)) - 48, sp + 1) := by unfold mFig; (first | rw [if_pos c_2] | rw [if_neg c_2] | skip); (first | rw [if_pos c_3] | rw [if_neg c_3] | skip); (first | rw [if_pos c_6] | rw [if_neg c_6] | skip); (first | rw [if_pos c_7] | rw [if_neg c_7] | skip); all_goals rfl
                  exact R_i X hr hk hM ⟨(by rw [← e_zw, e9]), (by rw [← e_zw, e9])⟩ dX12_figures_98
                · skip
                  refine lv_iload_n hx hb dX12_figures_60 rfl (lv_at hl 0 rfl) ?_
                  refine lv_if_eq (tgt := 68) hx hb dX12_figures_61 (by decide) (fun c_8 => ?_) (fun c_8 => ?_)
                  · exact absurd c_8 (by decide)
                  · skip
                    refine lv_iload_n hx hb dX12_figures_64 rfl (lv_at hl 1 rfl) ?_
                    refine lv_if_le (tgt := 97) hx hb dX12_figures_65 (by decide) (fun c_9 => ?_) (fun c_9 => ?_)
                    · skip
                      refine lv_iload_n hx hb dX12_figures_97 rfl (lv_at hl 1 rfl) ?_
                      have e9 : mFig f sp en zw = (((10 * 0) + (mHe f sp en)) - 48, sp + 1) := by unfold mFig; (first | rw [if_pos c_2] | rw [if_neg c_2] | skip); (first | rw [if_pos c_3] | rw [if_neg c_3] | skip); (first | rw [if_pos c_6] | rw [if_neg c_6] | skip); (first | rw [if_pos c_7] | rw [if_neg c_7] | skip); (first | rw [if_pos c_9] | rw [if_neg c_9] | skip); all_goals rfl
                      exact R_i X hr hk hM ⟨(by rw [← e_zw, e9]), (by rw [← e_zw, e9])⟩ dX12_figures_98
                    · skip
                      refine lv_bipush (v := 10) hx hb dX12_figures_68 (by decide) ?_
                      refine lv_iload_n hx hb dX12_figures_70 rfl (lv_at hl 1 rfl) ?_
                      refine lv_imul hx hb dX12_figures_71 ?_
                      refine lv_aload_n hx hb dX12_figures_72 rfl (lv_at hl 2 rfl) ?_
                      refine K_i (G_V (As := []) (rest := [.int (10 * (((10 * 0) + (mHe f sp en)) - 48))]) X hM (c_X12_here l g _ m0 m1 m2 m3 zw m7 m8 m9 m10 m11 (sp + 1) en f (mup_s _ _ _) (mup_r (X.2.ne (i := 47) (j := 46) (by decide) (by decide) (by decide)) h47) (by omega) hen) lk_X12_62 (mup_s _ _ _) rfl rfl hl.1 rfl (Nat.le_of_ble_eq_true rfl) (by decide) dX12_figures_73 ⟨Nat.le_of_ble_eq_true rfl, Nat.le_of_ble_eq_true rfl⟩) hM (fun r M1 H locs hM hp => ?_)
                      obtain ⟨rfl, rfl⟩ := hp
                      refine lv_iadd hx hb dX12_figures_76 ?_
                      refine lv_bipush (v := 48) hx hb dX12_figures_77 (by decide) ?_
                      refine lv_isub hx hb dX12_figures_79 ?_
                      refine lv_istore_n (lv' := [(1, .int (((10 * (((10 * 0) + (mHe f sp en)) - 48)) + (mHe f (sp + 1) en)) - 48)), (2, .int 1), (0, .ref (gA g 46))]) hx hb dX12_figures_80 rfl hl (by decide) rfl (fun ls hl => ?_)
                      refine lv_aload_n hx hb dX12_figures_81 rfl (lv_at hl 2 rfl) ?_
                      refine lv_dup hx hb dX12_figures_82 rfl ?_
                      refine r_get (T := TX12) (N := 20) (ci := 12) (v := .int (nI (sp + 1))) X hM iX12 rfl 7 (by decide) q_842 (Or.inl rfl) (mup_s _ _ _) rfl dX12_figures_83 ?_
                      refine lv_iconst (v := 1) hx hb dX12_figures_86 (by decide) ?_
                      refine lv_iadd hx hb dX12_figures_87 ?_
                      rw [show (nI (sp + 1)) + (1 : Int32) = nI ((sp + 1) + 1) from nI_add (sp + 1) 1]
                      refine r_put (T := TX12) (N := 20) (ci := 12) X hM iX12 tyX12 tyX12_ok nmX12 rfl 7 (by decide) q_842 rfl (Or.inl rfl) (mup_s _ _ _) rfl rfl (Nat.le_of_ble_eq_true rfl) dX12_figures_88 (fun H locs hM => ?_)
                      rw [mup_i] at hM
                      have hM : MW g (mup M (gA g 46) (mdE g m0 m1 m2 m3 (nI ((sp + 1) + 1)) (nI en) zw m7 m8 m9 m10 m11)) H locs := hM
                      refine lv_iinc (v := 2) (lv' := [(2, .int 2), (1, .int (((10 * (((10 * 0) + (mHe f sp en)) - 48)) + (mHe f (sp + 1) en)) - 48)), (0, .ref (gA g 46))]) hx hb dX12_figures_91 hl (k := 1) rfl rfl (by decide) rfl (fun ls hl => ?_)
                      refine lv_goto (tgt := 34) hx hb dX12_figures_94 (by decide) ?_
                      refine lv_iload_n hx hb dX12_figures_34 rfl (lv_at hl 0 rfl) ?_
                      refine lv_iconst (v := 2) hx hb dX12_figures_35 (by decide) ?_
                      refine lv_icmp_ge (tgt := 97) hx hb dX12_figures_36 (by decide) (fun c_10 => ?_) (fun c_10 => ?_)
                      · skip
                        refine lv_iload_n hx hb dX12_figures_97 rfl (lv_at hl 1 rfl) ?_
                        have e9 : mFig f sp en zw = (((10 * (((10 * 0) + (mHe f sp en)) - 48)) + (mHe f (sp + 1) en)) - 48, (sp + 1) + 1) := by unfold mFig; (first | rw [if_pos c_2] | rw [if_neg c_2] | skip); (first | rw [if_pos c_3] | rw [if_neg c_3] | skip); (first | rw [if_pos c_6] | rw [if_neg c_6] | skip); (first | rw [if_pos c_7] | rw [if_neg c_7] | skip); (first | rw [if_pos c_9] | rw [if_neg c_9] | skip); all_goals rfl
                        exact R_i X hr hk hM ⟨(by rw [← e_zw, e9]), (by rw [← e_zw, e9])⟩ dX12_figures_98
                      · exact absurd c_10 (by decide)
          · exact absurd c_4 (by decide)
  refine lv_if_ne (tgt := 22) hx hb dX12_figures_5 (by decide) (fun c_11 => ?_) (fun c_11 => ?_)
  · skip
    refine lv_iconst (v := 1) hx hb dX12_figures_22 (by decide) ?_
    refine lv_goto (tgt := 27) hx hb dX12_figures_23 (by decide) ?_
    exact J5 _ _ _ hM (by unfold mFgW; simp [*])
  · skip
    refine lv_aload_n hx hb dX12_figures_8 rfl (lv_at hl 0 rfl) ?_
    refine K_i (G_V (As := []) (rest := [.ref (gA g 46)]) X hM (c_X12_here l g _ m0 m1 m2 m3 m6 m7 m8 m9 m10 m11 sp en f h46 h47 (by omega) hen) lk_X12_62 h46 rfl rfl hl.1 rfl (Nat.le_of_ble_eq_true rfl) (by decide) dX12_figures_9 ⟨Nat.le_of_ble_eq_true rfl, Nat.le_of_ble_eq_true rfl⟩) hM (fun r M1 H locs hM hp => ?_)
    obtain ⟨rfl, rfl⟩ := hp
    refine lv_bipush (v := 48) hx hb dX12_figures_12 (by decide) ?_
    refine lv_bipush (v := 57) hx hb dX12_figures_14 (by decide) ?_
    refine K_i (G_S (As := [.int (mHe f sp en), .int 48, .int 57]) (rest := [.ref (gA g 46)]) X hM (c_X12_in l g _ (mHe f sp en) 48 57  ) lk_X12_41 rfl hl.1 rfl (Nat.le_of_ble_eq_true rfl) (by decide) dX12_figures_16 ⟨Nat.le_of_ble_eq_true rfl, Nat.le_of_ble_eq_true rfl⟩) hM (fun r M1 H locs hM hp => ?_)
    obtain ⟨rfl, rfl⟩ := hp
    refine lv_if_ne (tgt := 26) hx hb dX12_figures_19 (by decide) (fun c_12 => ?_) (fun c_12 => ?_)
    · skip
      refine lv_iconst (v := 0) hx hb dX12_figures_26 (by decide) ?_
      exact J5 _ _ _ hM (by unfold mFgW; simp [*])
    · skip
      refine lv_iconst (v := 1) hx hb dX12_figures_22 (by decide) ?_
      refine lv_goto (tgt := 27) hx hb dX12_figures_23 (by decide) ?_
      exact J5 _ _ _ hM (by unfold mFgW; simp [*])
