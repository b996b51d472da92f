def mSpl (f : Nat → Int32) (sp en : Nat) (z : Int32) (k : Nat) : Nat → Nat × Int32
  | 0 => (sp, z)
  | i + 1 => (mMuS f (mSpl f sp en z k i).1 en (mSpl f sp en z k i).2 (chS k i), mMuW f (mSpl f sp en z k i).1 en (mSpl f sp en z k i).2 (chS k i))
theorem mMuS_le (f : Nat → Int32) (sp en : Nat) (z x : Int32) : mMuS f sp en z x ≤ sp + 1 := by
  unfold mMuS
  split <;> omega
def mAmo (f : Nat → Int32) (sp en : Nat) (k : Nat) : Nat → Nat → Int32 × Nat
  | 0, _ => (-1, sp)
  | u + 1, i => if mHe f sp en = chS k i then (nI i, sp + 1) else mAmo f sp en k u (i + 1)
theorem mAmo_in {f : Nat → Int32} {sp en k i N : Nat} (h : mHe f sp en = chS k i) (hi : i < N) : mAmo f sp en k (N - i) i = (nI i, sp + 1) := by
  obtain ⟨u, hu⟩ : ∃ u, N - i = u + 1 := ⟨N - i - 1, by omega⟩
  rw [hu]
  exact if_pos h
theorem mAmo_nx {f : Nat → Int32} {sp en k i N : Nat} (h : ¬ mHe f sp en = chS k i) (hi : i < N) : mAmo f sp en k (N - i) i = mAmo f sp en k (N - (i + 1)) (i + 1) := by
  obtain ⟨u, hu⟩ : ∃ u, N - i = u + 1 := ⟨N - i - 1, by omega⟩
  rw [hu, show N - (i + 1) = u by omega]
  exact if_neg h

theorem lk_X12_66 : LkV RX12 66 yJ0_length_8abf5 cJ0_length_8abf5 1 (some .int) 0 := lkV_of q_925 q_242 q_243 q_8 q_244 ⟨by decide, by decide, by decide +kernel⟩ (by decide)
theorem lk_X12_71 : LkV RX12 71 yJ0_charAt_5068e cJ0_charAt_5068e 2 (some .char) 1 := lkV_of q_926 q_252 q_253 q_8 q_254 ⟨by decide, by decide, by decide +kernel⟩ (by decide)
theorem lk_X12_75 : LkV RX12 75 yX12_must cX12_must 2 none 1 := lkV_of q_927 q_929 qs_14 q_7 q_930 ⟨by decide, by decide, by decide +kernel⟩ (by decide)
set_option maxHeartbeats 4000000 in
set_option maxRecDepth 100000 in
theorem c_X12_spells (l : Launch) (g : Gp) (M : Mem) (m0 m1 m2 m3 m6 m7 m8 m9 m10 m11 : Int32) (sp en : Nat) (f : Nat → Int32) (k : Nat) (h46 : M (gA g 46) = some (mdE g m0 m1 m2 m3 (nI sp) (nI en) m6 m7 m8 m9 m10 m11)) (h47 : M (gA g 47) = some (aI g 929 f)) (hsp : sp ≤ 190) (hen : en ≤ 100) (hK : k < 10) : Met l yX12_spells (wsM yX12_spells cX12_spells 3 none) (rmD 5 0 0) (Pre g M [.ref (gA g 46), .ref (gK g k)]) (Qv g (fun M1 => mup M (gA g 46) (mdE g m0 m1 m2 m3 (nI (mSpl f sp en m6 k (lenS.getD k 0)).1) (nI en) ((mSpl f sp en m6 k (lenS.getD k 0)).2) m7 m8 m9 m10 m11) = M1)) 0 0 (gF g) := M_start (by decide +kernel) (Nat.le_of_ble_eq_true rfl) fun p e s m args below meth c ls X hr hk hnm hM hl => by
  have X : Cx g p m c cX12_spells 3 s args RX12 := X
  have hx := X.1.1
  have hb := X.1.2.1
  have hl : lv_has ls 3 [(0, .ref (gA g 46)), (1, .ref (gK g k))] := hl
  refine lv_iconst (v := 0) hx hb dX12_spells_0 (by decide) ?_
  refine lv_istore_n (lv' := [(2, .int 0), (0, .ref (gA g 46)), (1, .ref (gK g k))]) hx hb dX12_spells_1 rfl hl (by decide) rfl (fun ls hl => ?_)
  have L2 : ∀ (fu : Nat) (i tp : Nat) (zp : Int32) (hi : i ≤ lenS.getD k 0) (kt : (tp, zp) = mSpl f sp en m6 k i) (hb9 : tp ≤ sp + i) (H : Heap) (locs : List Loc) (hM : MW g (mup M (gA g 46) (mdE g m0 m1 m2 m3 (nI tp) (nI en) zp m7 m8 m9 m10 m11)) H locs) (ls : Array Slot) (hl : lv_has ls 3 [(0, .ref (gA g 46)), (1, .ref (gK g k)), (2, .int (nI i))]), lenS.getD k 0 - i < fu → W p l e (rmD 5 0 0) s m args below meth c H locs 0 0 (MQ below (Qv g (fun M1 => mup M (gA g 46) (mdE g m0 m1 m2 m3 (nI (mSpl f sp en m6 k (lenS.getD k 0)).1) (nI en) ((mSpl f sp en m6 k (lenS.getD k 0)).2) m7 m8 m9 m10 m11) = M1)) args s 0 0 (gF g)) (F0 m 2 ls []) := by
    intro fu
    induction fu with
    | zero => intro i tp zp hi kt hb9 H locs hM ls hl hmu; exact absurd hmu (Nat.not_lt_zero _)
    | succ fu ih =>
      intro i tp zp hi kt hb9 H locs hM ls hl hmu
      refine lv_iload_n hx hb dX12_spells_2 rfl (lv_at hl 2 rfl) ?_
      refine lv_aload_n hx hb dX12_spells_3 rfl (lv_at hl 1 rfl) ?_
      refine K_i (G_K (k := k) (As := []) (rest := [.int (nI i)]) X hM (c_J0_length_8abf5 l g _ k  hK) lk_X12_66 hK rfl rfl hl.1 rfl (Nat.le_of_ble_eq_true rfl) (by decide) dX12_spells_4 ⟨Nat.le_of_ble_eq_true rfl, Nat.le_of_ble_eq_true rfl⟩) hM (fun r M1 H locs hM hp => ?_)
      obtain ⟨rfl, rfl⟩ := hp
      refine lv_icmp_ge (tgt := 25) hx hb dX12_spells_7 (by decide) (fun c_1 => ?_) (fun c_1 => ?_)
      · skip
        have hz1 : lenS.getD k 0 ≤ i := (nI_leI (by have := lenS_le k hK; omega) (by have := lenS_le k hK; omega)).mp c_1
        have hz2 : i = lenS.getD k 0 := by omega
        exact R_v X hr hk hM (by rw [← hz2, ← kt]) dX12_spells_25
      · skip
        have hz1 : i < lenS.getD k 0 := by
          rcases Nat.lt_or_ge i (lenS.getD k 0) with q | q
          · exact q
          · exact absurd ((nI_leI (by have := lenS_le k hK; omega) (by have := lenS_le k hK; omega)).mpr q) c_1
        refine lv_aload_n hx hb dX12_spells_10 rfl (lv_at hl 0 rfl) ?_
        refine lv_aload_n hx hb dX12_spells_11 rfl (lv_at hl 1 rfl) ?_
        refine lv_iload_n hx hb dX12_spells_12 rfl (lv_at hl 2 rfl) ?_
        refine K_i (G_K (k := k) (As := [.int (nI i)]) (rest := [.ref (gA g 46)]) X hM (c_J0_charAt_5068e l g _ k i  hK hz1) lk_X12_71 hK rfl rfl hl.1 rfl (Nat.le_of_ble_eq_true rfl) (by decide) dX12_spells_13 ⟨Nat.le_of_ble_eq_true rfl, Nat.le_of_ble_eq_true rfl⟩) hM (fun r M1 H locs hM hp => ?_)
        obtain ⟨rfl, rfl⟩ := hp
        refine K_v (G_V (As := [.int (chS k i)]) (rest := []) X hM (c_X12_must l g _ m0 m1 m2 m3 zp m7 m8 m9 m10 m11 tp en f (chS k i) (mup_s _ _ _) (mup_r (X.2.ne (i := 47) (j := 46) (by decide) (by decide) (by decide)) h47) (by have := lenS_le k hK; omega) hen) lk_X12_75 (mup_s _ _ _) rfl rfl hl.1 rfl (Nat.le_of_ble_eq_true rfl) (by decide) dX12_spells_16 ⟨Nat.le_of_ble_eq_true rfl, Nat.le_of_ble_eq_true rfl⟩) hM (fun M1 H locs hM hp => ?_)
        subst hp
        rw [mup_i] at hM
        have hM : MW g (mup M (gA g 46) (mdE g m0 m1 m2 m3 (nI (mMuS f tp en zp (chS k i))) (nI en) (mMuW f tp en zp (chS k i)) m7 m8 m9 m10 m11)) H locs := hM
        refine lv_iinc (v := (nI i) + 1) (lv' := [(2, .int ((nI i) + 1)), (0, .ref (gA g 46)), (1, .ref (gK g k))]) hx hb dX12_spells_19 hl (k := 2) rfl rfl (by decide) rfl (fun ls hl => ?_)
        refine lv_goto (tgt := 2) hx hb dX12_spells_22 (by decide) ?_
        exact ih (i + 1) (mMuS f tp en zp (chS k i)) (mMuW f tp en zp (chS k i)) (by omega) (by rw [mSpl, ← kt]) (by have := mMuS_le f tp en zp (chS k i); omega) _ _ hM _ ((by rw [← nI_1]; exact lv_sub hl [1, 2, 0] rfl)) (by omega)
  exact L2 (lenS.getD k 0 + 1) 0 sp m6 (Nat.zero_le _) rfl (Nat.le_refl _) _ _ (by rw [mup_id h46]; exact hM) _ (lv_sub hl [1, 2, 0] rfl) (by first | exact Nat.lt_succ_self _ | omega)
set_option maxHeartbeats 4000000 in
set_option maxRecDepth 100000 in
theorem c_X12_among (l : Launch) (g : Gp) (M : Mem) (m0 m1 m2 m3 m6 m7 m8 m9 m10 m11 : Int32) (sp en : Nat) (f : Nat → Int32) (k : Nat) (h46 : M (gA g 46) = some (mdE g m0 m1 m2 m3 (nI sp) (nI en) m6 m7 m8 m9 m10 m11)) (h47 : M (gA g 47) = some (aI g 929 f)) (hsp : sp ≤ 190) (hen : en ≤ 100) (hK : k < 10) : Met l yX12_among (wsM yX12_among cX12_among 3 (some .int)) (rmD 5 0 0) (Pre g M [.ref (gA g 46), .ref (gK g k)]) (Qi g (fun r M1 => ((mAmo f sp en k (lenS.getD k 0) 0).1) = r ∧ mup M (gA g 46) (mdE g m0 m1 m2 m3 (nI (mAmo f sp en k (lenS.getD k 0) 0).2) (nI en) m6 m7 m8 m9 m10 m11) = M1)) 0 0 (gF g) := M_start (by decide +kernel) (Nat.le_of_ble_eq_true rfl) fun p e s m args below meth c ls X hr hk hnm hM hl => by
  have X : Cx g p m c cX12_among 3 s args RX12 := X
  have hx := X.1.1
  have hb := X.1.2.1
  have hl : lv_has ls 3 [(0, .ref (gA g 46)), (1, .ref (gK g k))] := hl
  refine lv_iconst (v := 0) hx hb dX12_among_0 (by decide) ?_
  refine lv_istore_n (lv' := [(2, .int 0), (0, .ref (gA g 46)), (1, .ref (gK g k))]) hx hb dX12_among_1 rfl hl (by decide) rfl (fun ls hl => ?_)
  have L2 : ∀ (fu : Nat) (i : Nat) (hi : i ≤ lenS.getD k 0) (kb : mAmo f sp en k (lenS.getD k 0 - i) i = mAmo f sp en k (lenS.getD k 0) 0) (H : Heap) (locs : List Loc) (hM : MW g (M) H locs) (ls : Array Slot) (hl : lv_has ls 3 [(0, .ref (gA g 46)), (1, .ref (gK g k)), (2, .int (nI i))]), lenS.getD k 0 - i < fu → W p l e (rmD 5 0 0) s m args below meth c H locs 0 0 (MQ below (Qi g (fun r M1 => ((mAmo f sp en k (lenS.getD k 0) 0).1) = r ∧ mup M (gA g 46) (mdE g m0 m1 m2 m3 (nI (mAmo f sp en k (lenS.getD k 0) 0).2) (nI en) m6 m7 m8 m9 m10 m11) = M1)) args s 0 0 (gF g)) (F0 m 2 ls []) := by
    intro fu
    induction fu with
    | zero => intro i hi kb H locs hM ls hl hmu; exact absurd hmu (Nat.not_lt_zero _)
    | succ fu ih =>
      intro i hi kb H locs hM ls hl hmu
      refine lv_iload_n hx hb dX12_among_2 rfl (lv_at hl 2 rfl) ?_
      refine lv_aload_n hx hb dX12_among_3 rfl (lv_at hl 1 rfl) ?_
      refine K_i (G_K (k := k) (As := []) (rest := [.int (nI i)]) X hM (c_J0_length_8abf5 l g _ k  hK) lk_X12_66 hK rfl rfl hl.1 rfl (Nat.le_of_ble_eq_true rfl) (by decide) dX12_among_4 ⟨Nat.le_of_ble_eq_true rfl, Nat.le_of_ble_eq_true rfl⟩) hM (fun r M1 H locs hM hp => ?_)
      obtain ⟨rfl, rfl⟩ := hp
      refine lv_icmp_ge (tgt := 40) hx hb dX12_among_7 (by decide) (fun c_1 => ?_) (fun c_1 => ?_)
      · skip
        have hz1 : lenS.getD k 0 ≤ i := (nI_leI (by have := lenS_le k hK; omega) (by have := lenS_le k hK; omega)).mp c_1
        have hz2 : i = lenS.getD k 0 := by omega
        refine lv_iconst (v := -1) hx hb dX12_among_40 (by decide) ?_
        have e9 : mAmo f sp en k (lenS.getD k 0) 0 = (-1, sp) := by rw [← kb, hz2, Nat.sub_self]; rfl
        exact R_i X hr hk hM ⟨(by rw [e9]), (by rw [e9]; exact mup_id h46)⟩ dX12_among_41
      · skip
        have hz1 : i < lenS.getD k 0 := by
          rcases Nat.lt_or_ge i (lenS.getD k 0) with q | q
          · exact q
          · exact absurd ((nI_leI (by have := lenS_le k hK; omega) (by have := lenS_le k hK; omega)).mpr q) c_1
        refine lv_aload_n hx hb dX12_among_10 rfl (lv_at hl 0 rfl) ?_
        refine K_i (G_V (As := []) (rest := []) X hM (c_X12_here l g _ m0 m1 m2 m3 m6 m7 m8 m9 m10 m11 sp en f h46 h47 (by omega) hen) lk_X12_62 h46 rfl rfl hl.1 rfl (Nat.le_of_ble_eq_true rfl) (by decide) dX12_among_11 ⟨Nat.le_of_ble_eq_true rfl, Nat.le_of_ble_eq_true rfl⟩) hM (fun r M1 H locs hM hp => ?_)
        obtain ⟨rfl, rfl⟩ := hp
        refine lv_aload_n hx hb dX12_among_14 rfl (lv_at hl 1 rfl) ?_
        refine lv_iload_n hx hb dX12_among_15 rfl (lv_at hl 2 rfl) ?_
        refine K_i (G_K (k := k) (As := [.int (nI i)]) (rest := [.int (mHe f sp en)]) X hM (c_J0_charAt_5068e l g _ k i  hK hz1) lk_X12_71 hK rfl rfl hl.1 rfl (Nat.le_of_ble_eq_true rfl) (by decide) dX12_among_16 ⟨Nat.le_of_ble_eq_true rfl, Nat.le_of_ble_eq_true rfl⟩) hM (fun r M1 H locs hM hp => ?_)
        obtain ⟨rfl, rfl⟩ := hp
        refine lv_icmp_ne (tgt := 34) hx hb dX12_among_19 (by decide) (fun c_2 => ?_) (fun c_2 => ?_)
        · skip
          refine lv_iinc (v := (nI i) + 1) (lv' := [(2, .int ((nI i) + 1)), (0, .ref (gA g 46)), (1, .ref (gK g k))]) hx hb dX12_among_34 hl (k := 2) rfl rfl (by decide) rfl (fun ls hl => ?_)
          refine lv_goto (tgt := 2) hx hb dX12_among_37 (by decide) ?_
          exact ih (i + 1) (by omega) (by rw [← kb, mAmo_nx c_2 hz1]) _ _ hM _ ((by rw [← nI_1]; exact lv_sub hl [1, 2, 0] rfl)) (by omega)
        · skip
          refine lv_aload_n hx hb dX12_among_22 rfl (lv_at hl 0 rfl) ?_
          refine lv_dup hx hb dX12_among_23 rfl ?_
          refine r_get (T := TX12) (N := 20) (ci := 12) (v := .int (nI sp)) X hM iX12 rfl 7 (by decide) q_842 (Or.inl rfl) h46 rfl dX12_among_24 ?_
          refine lv_iconst (v := 1) hx hb dX12_among_27 (by decide) ?_
          refine lv_iadd hx hb dX12_among_28 ?_
          rw [show (nI sp) + (1 : Int32) = nI (sp + 1) from nI_add sp 1]
          refine r_put (T := TX12) (N := 20) (ci := 12) X hM iX12 tyX12 tyX12_ok nmX12 rfl 7 (by decide) q_842 rfl (Or.inl rfl) h46 rfl rfl (Nat.le_of_ble_eq_true rfl) dX12_among_29 (fun H locs hM => ?_)
          have hM : MW g (mup M (gA g 46) (mdE g m0 m1 m2 m3 (nI (sp + 1)) (nI en) m6 m7 m8 m9 m10 m11)) H locs := hM
          refine lv_iload_n hx hb dX12_among_32 rfl (lv_at hl 2 rfl) ?_
          have e9 : mAmo f sp en k (lenS.getD k 0) 0 = (nI i, sp + 1) := by rw [← kb, mAmo_in c_2 hz1]
          exact R_i X hr hk hM ⟨(by rw [e9]), (by rw [e9])⟩ dX12_among_33
  exact L2 (lenS.getD k 0 + 1) 0 (Nat.zero_le _) rfl _ _ hM _ (lv_sub hl [1, 2, 0] rfl) (by first | exact Nat.lt_succ_self _ | omega)
