def mZ (f : Nat → Int32) (L : Nat) : Nat → (Nat → Int32)
  | 0 => f
  | i + 1 => upd (mZ f L i) (40 + 4 * L + i) 0
theorem mZ_n (f : Nat → Int32) (L b : Nat) (hb : b < 40) : ∀ i, mZ f L i b = f b := fun i => by
  induction i with
  | zero => rfl
  | succ i ih => show upd (mZ f L i) (40 + 4 * L + i) 0 b = f b; rw [upd_ne (by omega)]; exact ih
def mLiF (f : Nat → Int32) (L : Nat) (k v r h : Int32) : Nat → Int32 := upd (upd (upd (upd (upd f (16 + L) k) (22 + L) v) (28 + L) r) (34 + L) h) (3 + L) 0
def mLight (f : Nat → Int32) (L : Nat) (k v r h : Int32) : Int32 × (Nat → Int32) := if fIn k 0 6 = 0 then (-1, f) else if fIn v 0 9 = 0 then (-2, f) else if fIn r 1 30 = 0 then (-2, f) else if fIn h 0 29 = 0 then (-2, f) else if L = 6 then (-4, f) else (nI L, upd (mZ (mLiF f L k v r h) L 4) 9 (nI (L + 1)))

set_option maxHeartbeats 4000000 in
set_option maxRecDepth 100000 in
theorem c_X12_light (l : Launch) (g : Gp) (M : Mem) (m0 m1 m2 m3 m4 m5 m6 m7 m8 m9 m10 m11 : Int32) (f : Nat → Int32) (L : Nat) (kn v ro ph : Int32) (h46 : M (gA g 46) = some (mdE g m0 m1 m2 m3 m4 m5 m6 m7 m8 m9 m10 m11)) (h47 : M (gA g 47) = some (aI g 929 f)) (h9 : f 9 = nI L) (hL : L ≤ 6) : Met l yX12_light (wsM yX12_light cX12_light 7 (some .int)) (rmD 2 0 0) (Pre g M [.ref (gA g 46), .int kn, .int v, .int ro, .int ph]) (Qi g (fun r M1 => ((mLight f L kn v ro ph).1) = r ∧ mup M (gA g 47) (aI g 929 ((mLight f L kn v ro ph).2)) = M1)) 0 0 (gF g) := M_start (by decide +kernel) (Nat.le_of_ble_eq_true rfl) fun p e s m args below meth c ls X hr hk hnm hM hl => by
  have X : Cx g p m c cX12_light 7 s args RX12 := X
  have hx := X.1.1
  have hb := X.1.2.1
  have hl : lv_has ls 7 [(0, .ref (gA g 46)), (1, .int kn), (2, .int v), (3, .int ro), (4, .int ph)] := hl
  refine lv_iload_n hx hb dX12_light_0 rfl (lv_at hl 1 rfl) ?_
  refine lv_iconst (v := 0) hx hb dX12_light_1 (by decide) ?_
  refine lv_bipush (v := 6) hx hb dX12_light_2 (by decide) ?_
  refine K_i (G_S (As := [.int kn, .int 0, .int 6]) (rest := []) X hM (c_X12_in l g _ kn 0 6  ) lk_X12_41 rfl hl.1 rfl (Nat.le_of_ble_eq_true rfl) (by decide) dX12_light_4 ⟨Nat.le_of_ble_eq_true rfl, Nat.le_of_ble_eq_true rfl⟩) hM (fun r M1 H locs hM hp => ?_)
  obtain ⟨rfl, rfl⟩ := hp
  refine lv_if_ne (tgt := 12) hx hb dX12_light_7 (by decide) (fun c_1 => ?_) (fun c_1 => ?_)
  · skip
    refine lv_iload_n hx hb dX12_light_12 rfl (lv_at hl 2 rfl) ?_
    refine lv_iconst (v := 0) hx hb dX12_light_13 (by decide) ?_
    refine lv_bipush (v := 9) hx hb dX12_light_14 (by decide) ?_
    refine K_i (G_S (As := [.int v, .int 0, .int 9]) (rest := []) X hM (c_X12_in l g _ v 0 9  ) lk_X12_41 rfl hl.1 rfl (Nat.le_of_ble_eq_true rfl) (by decide) dX12_light_16 ⟨Nat.le_of_ble_eq_true rfl, Nat.le_of_ble_eq_true rfl⟩) hM (fun r M1 H locs hM hp => ?_)
    obtain ⟨rfl, rfl⟩ := hp
    refine lv_if_eq (tgt := 43) hx hb dX12_light_19 (by decide) (fun c_2 => ?_) (fun c_2 => ?_)
    · skip
      refine lv_bipush (v := -2) hx hb dX12_light_43 (by decide) ?_
      have e9 : mLight f L kn v ro ph = (-2, f) := by
        unfold mLight; (try rw [if_neg c_1]); (try rw [if_neg c_2]); (try rw [if_neg c_3]); (try rw [if_neg c_4]); (try rw [if_neg hq]); (first | rw [if_pos c_1] | rw [if_neg c_1] | skip); (first | rw [if_pos c_2] | rw [if_neg c_2] | skip); all_goals first | rfl | (simp only [k8, hz2])
      exact R_i X hr hk hM ⟨(by rw [e9]), (by rw [e9] <;> first | rfl | (dsimp only; done) | (dsimp only; simp only [mup_id h47]; done) | (simp only [mup_id h47]; done) | (rw [mup_id h47]) | (dsimp only; rw [mup_id h47]))⟩ dX12_light_45
    · skip
      refine lv_iload_n hx hb dX12_light_22 rfl (lv_at hl 3 rfl) ?_
      refine lv_iconst (v := 1) hx hb dX12_light_23 (by decide) ?_
      refine lv_bipush (v := 30) hx hb dX12_light_24 (by decide) ?_
      refine K_i (G_S (As := [.int ro, .int 1, .int 30]) (rest := []) X hM (c_X12_in l g _ ro 1 30  ) lk_X12_41 rfl hl.1 rfl (Nat.le_of_ble_eq_true rfl) (by decide) dX12_light_26 ⟨Nat.le_of_ble_eq_true rfl, Nat.le_of_ble_eq_true rfl⟩) hM (fun r M1 H locs hM hp => ?_)
      obtain ⟨rfl, rfl⟩ := hp
      refine lv_if_eq (tgt := 43) hx hb dX12_light_29 (by decide) (fun c_3 => ?_) (fun c_3 => ?_)
      · skip
        refine lv_bipush (v := -2) hx hb dX12_light_43 (by decide) ?_
        have e9 : mLight f L kn v ro ph = (-2, f) := by
          unfold mLight; (try rw [if_neg c_1]); (try rw [if_neg c_2]); (try rw [if_neg c_3]); (try rw [if_neg c_4]); (try rw [if_neg hq]); (first | rw [if_pos c_1] | rw [if_neg c_1] | skip); (first | rw [if_pos c_2] | rw [if_neg c_2] | skip); (first | rw [if_pos c_3] | rw [if_neg c_3] | skip); all_goals first | rfl | (simp only [k8, hz2])
        exact R_i X hr hk hM ⟨(by rw [e9]), (by rw [e9] <;> first | rfl | (dsimp only; done) | (dsimp only; simp only [mup_id h47]; done) | (simp only [mup_id h47]; done) | (rw [mup_id h47]) | (dsimp only; rw [mup_id h47]))⟩ dX12_light_45
      · skip
        refine lv_iload hx hb dX12_light_32 (lv_at hl 4 rfl) ?_
        refine lv_iconst (v := 0) hx hb dX12_light_34 (by decide) ?_
        refine lv_bipush (v := 29) hx hb dX12_light_35 (by decide) ?_
        refine K_i (G_S (As := [.int ph, .int 0, .int 29]) (rest := []) X hM (c_X12_in l g _ ph 0 29  ) lk_X12_41 rfl hl.1 rfl (Nat.le_of_ble_eq_true rfl) (by decide) dX12_light_37 ⟨Nat.le_of_ble_eq_true rfl, Nat.le_of_ble_eq_true rfl⟩) hM (fun r M1 H locs hM hp => ?_)
        obtain ⟨rfl, rfl⟩ := hp
        refine lv_if_ne (tgt := 46) hx hb dX12_light_40 (by decide) (fun c_4 => ?_) (fun c_4 => ?_)
        · skip
          refine lv_aload_n hx hb dX12_light_46 rfl (lv_at hl 0 rfl) ?_
          refine r_get (T := TX12) (N := 20) (ci := 12) (v := .ref (gA g 47)) X hM iX12 rfl 1 (by decide) q_836 (Or.inl rfl) h46 rfl dX12_light_47 ?_
          refine lv_bipush (v := 9) hx hb dX12_light_50 (by decide) ?_
          refine r_iald (i := 9) X hM h47 (vp_in_nI (n := 9) (by decide) (by decide)) dX12_light_52 ?_
          rw [show ((9 : Int32)).toNatClampNeg = 9 from by decide]
          rw [h9]
          refine lv_bipush (v := 6) hx hb dX12_light_53 (by decide) ?_
          refine lv_icmp_ne (tgt := 61) hx hb dX12_light_55 (by decide) (fun c_5 => ?_) (fun c_5 => ?_)
          · skip
            have hq : ¬ L = 6 := fun q => c_5 (by rw [q]; decide)
            refine lv_aload_n hx hb dX12_light_61 rfl (lv_at hl 0 rfl) ?_
            refine r_get (T := TX12) (N := 20) (ci := 12) (v := .ref (gA g 47)) X hM iX12 rfl 1 (by decide) q_836 (Or.inl rfl) h46 rfl dX12_light_62 ?_
            refine lv_bipush (v := 9) hx hb dX12_light_65 (by decide) ?_
            refine r_iald (i := 9) X hM h47 (vp_in_nI (n := 9) (by decide) (by decide)) dX12_light_67 ?_
            rw [show ((9 : Int32)).toNatClampNeg = 9 from by decide]
            rw [h9]
            refine lv_istore (lv' := [(5, .int (nI L)), (0, .ref (gA g 46)), (1, .int kn), (2, .int v), (3, .int ro), (4, .int ph)]) hx hb dX12_light_68 hl (by decide) rfl (fun ls hl => ?_)
            refine lv_aload_n hx hb dX12_light_70 rfl (lv_at hl 1 rfl) ?_
            refine r_get (T := TX12) (N := 20) (ci := 12) (v := .ref (gA g 47)) X hM iX12 rfl 1 (by decide) q_836 (Or.inl rfl) h46 rfl dX12_light_71 ?_
            refine lv_bipush (v := 16) hx hb dX12_light_74 (by decide) ?_
            refine lv_iload hx hb dX12_light_76 (lv_at hl 0 rfl) ?_
            refine lv_iadd hx hb dX12_light_78 ?_
            rw [show (16 : Int32) + (nI L) = nI (16 + L) from nI_add 16 L]
            refine lv_iload_n hx hb dX12_light_79 rfl (lv_at hl 2 rfl) ?_
            refine r_iast (i := nI (16 + L)) (x := kn) X hM h47 (vp_in_nI (by omega) (by decide)) dX12_light_80 (fun H locs hM => ?_)
            rw [nI_clamp (show 16 + L < 2147483648 by omega)] at hM
            have hM : MW g (mup M (gA g 47) (aI g 929 (upd f (16 + L) kn))) H locs := hM
            refine lv_aload_n hx hb dX12_light_81 rfl (lv_at hl 1 rfl) ?_
            refine r_get (T := TX12) (N := 20) (ci := 12) (v := .ref (gA g 47)) X hM iX12 rfl 1 (by decide) q_836 (Or.inl rfl) (mup_r (X.2.ne (i := 46) (j := 47) (by decide) (by decide) (by decide)) h46) rfl dX12_light_82 ?_
            refine lv_bipush (v := 22) hx hb dX12_light_85 (by decide) ?_
            refine lv_iload hx hb dX12_light_87 (lv_at hl 0 rfl) ?_
            refine lv_iadd hx hb dX12_light_89 ?_
            rw [show (22 : Int32) + (nI L) = nI (22 + L) from nI_add 22 L]
            refine lv_iload_n hx hb dX12_light_90 rfl (lv_at hl 3 rfl) ?_
            refine r_iast (i := nI (22 + L)) (x := v) X hM (mup_s _ _ _) (vp_in_nI (by omega) (by decide)) dX12_light_91 (fun H locs hM => ?_)
            rw [nI_clamp (show 22 + L < 2147483648 by omega)] at hM
            rw [mup_i] at hM
            have hM : MW g (mup M (gA g 47) (aI g 929 (upd (upd f (16 + L) kn) (22 + L) v))) H locs := hM
            refine lv_aload_n hx hb dX12_light_92 rfl (lv_at hl 1 rfl) ?_
            refine r_get (T := TX12) (N := 20) (ci := 12) (v := .ref (gA g 47)) X hM iX12 rfl 1 (by decide) q_836 (Or.inl rfl) (mup_r (X.2.ne (i := 46) (j := 47) (by decide) (by decide) (by decide)) h46) rfl dX12_light_93 ?_
            refine lv_bipush (v := 28) hx hb dX12_light_96 (by decide) ?_
            refine lv_iload hx hb dX12_light_98 (lv_at hl 0 rfl) ?_
            refine lv_iadd hx hb dX12_light_100 ?_
            rw [show (28 : Int32) + (nI L) = nI (28 + L) from nI_add 28 L]
            refine lv_iload_n hx hb dX12_light_101 rfl (lv_at hl 4 rfl) ?_
            refine r_iast (i := nI (28 + L)) (x := ro) X hM (mup_s _ _ _) (vp_in_nI (by omega) (by decide)) dX12_light_102 (fun H locs hM => ?_)
            rw [nI_clamp (show 28 + L < 2147483648 by omega)] at hM
            rw [mup_i] at hM
            have hM : MW g (mup M (gA g 47) (aI g 929 (upd (upd (upd f (16 + L) kn) (22 + L) v) (28 + L) ro))) H locs := hM
            refine lv_aload_n hx hb dX12_light_103 rfl (lv_at hl 1 rfl) ?_
            refine r_get (T := TX12) (N := 20) (ci := 12) (v := .ref (gA g 47)) X hM iX12 rfl 1 (by decide) q_836 (Or.inl rfl) (mup_r (X.2.ne (i := 46) (j := 47) (by decide) (by decide) (by decide)) h46) rfl dX12_light_104 ?_
            refine lv_bipush (v := 34) hx hb dX12_light_107 (by decide) ?_
            refine lv_iload hx hb dX12_light_109 (lv_at hl 0 rfl) ?_
            refine lv_iadd hx hb dX12_light_111 ?_
            rw [show (34 : Int32) + (nI L) = nI (34 + L) from nI_add 34 L]
            refine lv_iload hx hb dX12_light_112 (lv_at hl 5 rfl) ?_
            refine r_iast (i := nI (34 + L)) (x := ph) X hM (mup_s _ _ _) (vp_in_nI (by omega) (by decide)) dX12_light_114 (fun H locs hM => ?_)
            rw [nI_clamp (show 34 + L < 2147483648 by omega)] at hM
            rw [mup_i] at hM
            have hM : MW g (mup M (gA g 47) (aI g 929 (upd (upd (upd (upd f (16 + L) kn) (22 + L) v) (28 + L) ro) (34 + L) ph))) H locs := hM
            refine lv_aload_n hx hb dX12_light_115 rfl (lv_at hl 1 rfl) ?_
            refine r_get (T := TX12) (N := 20) (ci := 12) (v := .ref (gA g 47)) X hM iX12 rfl 1 (by decide) q_836 (Or.inl rfl) (mup_r (X.2.ne (i := 46) (j := 47) (by decide) (by decide) (by decide)) h46) rfl dX12_light_116 ?_
            refine lv_iconst (v := 3) hx hb dX12_light_119 (by decide) ?_
            refine lv_iload hx hb dX12_light_120 (lv_at hl 0 rfl) ?_
            refine lv_iadd hx hb dX12_light_122 ?_
            rw [show (3 : Int32) + (nI L) = nI (3 + L) from nI_add 3 L]
            refine lv_iconst (v := 0) hx hb dX12_light_123 (by decide) ?_
            refine r_iast (i := nI (3 + L)) (x := 0) X hM (mup_s _ _ _) (vp_in_nI (by omega) (by decide)) dX12_light_124 (fun H locs hM => ?_)
            rw [nI_clamp (show 3 + L < 2147483648 by omega)] at hM
            rw [mup_i] at hM
            have hM : MW g (mup M (gA g 47) (aI g 929 (upd (upd (upd (upd (upd f (16 + L) kn) (22 + L) v) (28 + L) ro) (34 + L) ph) (3 + L) 0))) H locs := hM
            refine lv_iconst (v := 0) hx hb dX12_light_125 (by decide) ?_
            refine lv_istore (lv' := [(6, .int 0), (5, .int (nI L)), (0, .ref (gA g 46)), (1, .int kn), (2, .int v), (3, .int ro), (4, .int ph)]) hx hb dX12_light_126 hl (by decide) rfl (fun ls hl => ?_)
            have L128 : ∀ (fu : Nat) (i : Nat) (x8 : Nat → Int32) (hi : i ≤ 4) (k8 : x8 = mZ (mLiF f L kn v ro ph) L i) (H : Heap) (locs : List Loc) (hM : MW g (mup M (gA g 47) (aI g 929 x8)) H locs) (ls : Array Slot) (hl : lv_has ls 7 [(0, .ref (gA g 46)), (5, .int (nI L)), (6, .int (nI i))]), 4 - i < fu → W p l e (rmD 2 0 0) s m args below meth c H locs 0 0 (MQ below (Qi g (fun r M1 => ((mLight f L kn v ro ph).1) = r ∧ mup M (gA g 47) (aI g 929 ((mLight f L kn v ro ph).2)) = M1)) args s 0 0 (gF g)) (F0 m 128 ls []) := by
              intro fu
              induction fu with
              | zero => intro i x8 hi k8 H locs hM ls hl hmu; exact absurd hmu (Nat.not_lt_zero _)
              | succ fu ih =>
                intro i x8 hi k8 H locs hM ls hl hmu
                refine lv_iload hx hb dX12_light_128 (lv_at hl 2 rfl) ?_
                refine lv_iconst (v := 4) hx hb dX12_light_130 (by decide) ?_
                refine lv_icmp_ge (tgt := 156) hx hb dX12_light_131 (by decide) (fun c_6 => ?_) (fun c_6 => ?_)
                · skip
                  have hz0 : nI 4 ≤ nI i := c_6
                  have hz1 : 4 ≤ i := (nI_leI (by omega) (by omega)).mp hz0
                  have hz2 : i = 4 := by omega
                  refine lv_aload_n hx hb dX12_light_156 rfl (lv_at hl 0 rfl) ?_
                  refine r_get (T := TX12) (N := 20) (ci := 12) (v := .ref (gA g 47)) X hM iX12 rfl 1 (by decide) q_836 (Or.inl rfl) (mup_r (X.2.ne (i := 46) (j := 47) (by decide) (by decide) (by decide)) h46) rfl dX12_light_157 ?_
                  refine lv_bipush (v := 9) hx hb dX12_light_160 (by decide) ?_
                  refine lv_dup2_11 hx hb dX12_light_162 rfl rfl ?_
                  refine r_iald (i := 9) X hM (mup_s _ _ _) (vp_in_nI (n := 9) (by decide) (by decide)) dX12_light_163 ?_
                  rw [show ((9 : Int32)).toNatClampNeg = 9 from by decide]
                  rw [show x8 9 = nI L from by rw [k8, mZ_n _ _ _ (by omega)]; unfold mLiF; rw [upd_ne (by omega), upd_ne (by omega), upd_ne (by omega), upd_ne (by omega), upd_ne (by omega)]; exact h9]
                  refine lv_iconst (v := 1) hx hb dX12_light_164 (by decide) ?_
                  refine lv_iadd hx hb dX12_light_165 ?_
                  rw [show (nI L) + (1 : Int32) = nI (L + 1) from nI_add L 1]
                  refine r_iast (i := 9) (x := nI (L + 1)) X hM (mup_s _ _ _) (vp_in_nI (n := 9) (by decide) (by decide)) dX12_light_166 (fun H locs hM => ?_)
                  rw [show ((9 : Int32)).toNatClampNeg = 9 from by decide] at hM
                  rw [mup_i] at hM
                  have hM : MW g (mup M (gA g 47) (aI g 929 (upd x8 9 (nI (L + 1))))) H locs := hM
                  refine lv_iload hx hb dX12_light_167 (lv_at hl 1 rfl) ?_
                  have e9 : mLight f L kn v ro ph = (nI L, upd x8 9 (nI (L + 1))) := by
                    unfold mLight; (try rw [if_neg c_1]); (try rw [if_neg c_2]); (try rw [if_neg c_3]); (try rw [if_neg c_4]); (try rw [if_neg hq]); (first | rw [if_pos c_6] | rw [if_neg c_6] | skip); all_goals first | rfl | (simp only [k8, hz2])
                  exact R_i X hr hk hM ⟨(by rw [e9]), (by rw [e9] <;> first | rfl | (dsimp only; done) | (dsimp only; simp only [mup_id h47]; done) | (simp only [mup_id h47]; done))⟩ dX12_light_169
                · skip
                  have hz1 : i < 4 := by
                    rcases Nat.lt_or_ge i 4 with q | q
                    · exact q
                    · exact absurd (show nI 4 ≤ nI i from (nI_leI (by omega) (by omega)).mpr q) c_6
                  refine lv_aload_n hx hb dX12_light_134 rfl (lv_at hl 0 rfl) ?_
                  refine r_get (T := TX12) (N := 20) (ci := 12) (v := .ref (gA g 47)) X hM iX12 rfl 1 (by decide) q_836 (Or.inl rfl) (mup_r (X.2.ne (i := 46) (j := 47) (by decide) (by decide) (by decide)) h46) rfl dX12_light_135 ?_
                  refine lv_bipush (v := 40) hx hb dX12_light_138 (by decide) ?_
                  refine lv_iconst (v := 4) hx hb dX12_light_140 (by decide) ?_
                  refine lv_iload hx hb dX12_light_141 (lv_at hl 1 rfl) ?_
                  refine lv_imul hx hb dX12_light_143 ?_
                  rw [show (4 : Int32) * (nI L) = nI (4 * L) from nI_mul 4 L]
                  refine lv_iadd hx hb dX12_light_144 ?_
                  rw [show (40 : Int32) + (nI (4 * L)) = nI (40 + (4 * L)) from nI_add 40 (4 * L)]
                  refine lv_iload hx hb dX12_light_145 (lv_at hl 2 rfl) ?_
                  refine lv_iadd hx hb dX12_light_147 ?_
                  rw [show (nI (40 + (4 * L))) + (nI i) = nI ((40 + (4 * L)) + i) from nI_add (40 + (4 * L)) i]
                  refine lv_iconst (v := 0) hx hb dX12_light_148 (by decide) ?_
                  refine r_iast (i := nI ((40 + (4 * L)) + i)) (x := 0) X hM (mup_s _ _ _) (vp_in_nI (by omega) (by decide)) dX12_light_149 (fun H locs hM => ?_)
                  rw [nI_clamp (show (40 + (4 * L)) + i < 2147483648 by omega)] at hM
                  rw [mup_i] at hM
                  have hM : MW g (mup M (gA g 47) (aI g 929 (upd x8 ((40 + (4 * L)) + i) 0))) H locs := hM
                  refine lv_iinc (v := (nI i) + 1) (lv' := [(6, .int ((nI i) + 1)), (0, .ref (gA g 46)), (5, .int (nI L))]) hx hb dX12_light_150 hl (k := 2) rfl rfl (by decide) rfl (fun ls hl => ?_)
                  refine lv_goto (tgt := 128) hx hb dX12_light_153 (by decide) ?_
                  exact ih (i + 1) (upd x8 ((40 + (4 * L)) + i) 0) (by omega) (by rw [k8]; rfl) _ _ hM _ ((by rw [← nI_1]; exact lv_sub hl [1, 2, 0] rfl)) (by omega)
            exact L128 (4 + 1) 0 (upd (upd (upd (upd (upd f (16 + L) kn) (22 + L) v) (28 + L) ro) (34 + L) ph) (3 + L) 0) (Nat.zero_le _) rfl _ _ hM _ (lv_sub hl [2, 1, 0] rfl) (by first | exact Nat.lt_succ_self _ | omega)
          · skip
            have hq : L = 6 := (nI_eq (b := 6) (by omega) (by omega)).mp c_5
            refine lv_bipush (v := -4) hx hb dX12_light_58 (by decide) ?_
            have e9 : mLight f L kn v ro ph = (-4, f) := by
              unfold mLight; (try rw [if_neg c_1]); (try rw [if_neg c_2]); (try rw [if_neg c_3]); (try rw [if_neg c_4]); (try rw [if_neg hq]); (first | rw [if_pos c_1] | rw [if_neg c_1] | skip); (first | rw [if_pos c_2] | rw [if_neg c_2] | skip); (first | rw [if_pos c_3] | rw [if_neg c_3] | skip); (first | rw [if_pos c_4] | rw [if_neg c_4] | skip); (first | rw [if_pos hq] | rw [if_neg hq] | skip); all_goals first | rfl | (simp only [k8, hz2])
            exact R_i X hr hk hM ⟨(by rw [e9]), (by rw [e9] <;> first | rfl | (dsimp only; done) | (dsimp only; simp only [mup_id h47]; done) | (simp only [mup_id h47]; done) | (rw [mup_id h47]) | (dsimp only; rw [mup_id h47]))⟩ dX12_light_60
        · skip
          refine lv_bipush (v := -2) hx hb dX12_light_43 (by decide) ?_
          have e9 : mLight f L kn v ro ph = (-2, f) := by
            unfold mLight; (try rw [if_neg c_1]); (try rw [if_neg c_2]); (try rw [if_neg c_3]); (try rw [if_neg c_4]); (try rw [if_neg hq]); (first | rw [if_pos c_1] | rw [if_neg c_1] | skip); (first | rw [if_pos c_2] | rw [if_neg c_2] | skip); (first | rw [if_pos c_3] | rw [if_neg c_3] | skip); (first | rw [if_pos c_4] | rw [if_neg c_4] | skip); all_goals first | rfl | (simp only [k8, hz2])
          exact R_i X hr hk hM ⟨(by rw [e9]), (by rw [e9] <;> first | rfl | (dsimp only; done) | (dsimp only; simp only [mup_id h47]; done) | (simp only [mup_id h47]; done) | (rw [mup_id h47]) | (dsimp only; rw [mup_id h47]))⟩ dX12_light_45
  · skip
    refine lv_iconst (v := -1) hx hb dX12_light_10 (by decide) ?_
    have e9 : mLight f L kn v ro ph = (-1, f) := by
      unfold mLight; (try rw [if_neg c_1]); (try rw [if_neg c_2]); (try rw [if_neg c_3]); (try rw [if_neg c_4]); (try rw [if_neg hq]); (first | rw [if_pos c_1] | rw [if_neg c_1] | skip); all_goals first | rfl | (simp only [k8, hz2])
    exact R_i X hr hk hM ⟨(by rw [e9]), (by rw [e9] <;> first | rfl | (dsimp only; done) | (dsimp only; simp only [mup_id h47]; done) | (simp only [mup_id h47]; done) | (rw [mup_id h47]) | (dsimp only; rw [mup_id h47]))⟩ dX12_light_11
