theorem nI_mul (a b : Nat) : nI a * nI b = nI (a * b) := (Int32.ofNat_mul a b).symm
/-- what the reference holds: -1 or a sky's number -/
def Hd (f : Nat → Int32) : Prop := f 15 = -1 ∨ ∃ a : Nat, a < 5 ∧ f 15 = nI a
def mTel (f : Nat → Int32) (w : Nat) (z : Int32) : Int32 := if f 15 = -1 then z else f (w + (f 15).toNatClampNeg)
def mCp (n : Nat) (f h : Nat → Int32) : Nat → Int32 := fun q => if q < n then f q else h q
theorem mCp_0 (f h : Nat → Int32) : mCp 0 f h = h := funext fun q => if_neg (Nat.not_lt_zero q)
theorem mCp_s (i : Nat) (f h : Nat → Int32) : upd (mCp i f h) i (f i) = mCp (i + 1) f h := by
  funext q
  unfold upd mCp
  by_cases k : q = i
  · subst k
    rw [if_pos rfl, if_pos (Nat.lt_succ_self _)]
  · rw [if_neg k]
    by_cases k2 : q < i
    · rw [if_pos k2, if_pos (by omega)]
    · rw [if_neg k2, if_neg (by omega)]
def mFeed (f : Nat → Int32) (x : Int32) : Int32 × (Nat → Int32) := if fIn x 0 127 = 0 then (-2, f) else if f 14 = 100 then (-4, f) else (f 14 + 1, upd (upd f (114 + (f 14).toNatClampNeg) x) 14 (f 14 + 1))
def mCld (cl x : Int32) : Int32 := if cl ≤ 0 then 0 else if iR x cl = cl - 1 then 1 else 0
def mTrn (f : Nat → Int32) (x : Int32) : Int32 := iR (x / (if mTel f 214 1 = 0 then 1 else mTel f 214 1)) 2

theorem lk_X12_41 : LkS RX12 41 yX12_in cX12_in 3 (some .boolean) 3 := lkS_of q_901 q_902 q_7 q_903 ⟨rfl, by decide, by decide, by decide +kernel⟩ (by decide)
theorem lk_X12_45 : LkV RX12 45 yX12_tellsOf cX12_tellsOf 3 (some .int) 2 := lkV_of q_995 q_997 qs_26 q_7 q_998 ⟨by decide, by decide, by decide +kernel⟩ (by decide)
set_option maxHeartbeats 4000000 in
set_option maxRecDepth 100000 in
theorem c_X12_in (l : Launch) (g : Gp) (M : Mem) (x a b : Int32) : Met l yX12_in (wsM yX12_in cX12_in 3 (some .boolean)) (rmD 1 0 0) (Pre g M [.int x, .int a, .int b]) (Qi g (fun r M1 => (fIn x a b) = r ∧ M = M1)) 0 0 (gF g) := M_start (by decide +kernel) (Nat.le_of_ble_eq_true rfl) fun p e s m args below meth c ls X hr hk hnm hM hl => by
  have X : Cx g p m c cX12_in 3 s args RX12 := X
  have hx := X.1.1
  have hb := X.1.2.1
  have hl : lv_has ls 3 [(0, .int x), (1, .int a), (2, .int b)] := hl
  refine lv_iload_n hx hb dX12_in_0 rfl (lv_at hl 0 rfl) ?_
  refine lv_iload_n hx hb dX12_in_1 rfl (lv_at hl 1 rfl) ?_
  refine lv_icmp_lt (tgt := 14) hx hb dX12_in_2 (by decide) (fun c_1 => ?_) (fun c_1 => ?_)
  · skip
    refine lv_iconst (v := 0) hx hb dX12_in_14 (by decide) ?_
    exact R_z X hr hk (Or.inl rfl) hM ⟨(by simp [fIn, *]), rfl⟩ dX12_in_15
  · skip
    refine lv_iload_n hx hb dX12_in_5 rfl (lv_at hl 0 rfl) ?_
    refine lv_iload_n hx hb dX12_in_6 rfl (lv_at hl 2 rfl) ?_
    refine lv_icmp_gt (tgt := 14) hx hb dX12_in_7 (by decide) (fun c_2 => ?_) (fun c_2 => ?_)
    · skip
      refine lv_iconst (v := 0) hx hb dX12_in_14 (by decide) ?_
      exact R_z X hr hk (Or.inl rfl) hM ⟨(by simp [fIn, *]), rfl⟩ dX12_in_15
    · skip
      refine lv_iconst (v := 1) hx hb dX12_in_10 (by decide) ?_
      refine lv_goto (tgt := 15) hx hb dX12_in_11 (by decide) ?_
      exact R_z X hr hk (Or.inr rfl) hM ⟨(by simp [fIn, *]), rfl⟩ dX12_in_15
set_option maxHeartbeats 4000000 in
set_option maxRecDepth 100000 in
theorem c_X12_isLight (l : Launch) (g : Gp) (M : Mem) (m0 m1 m2 m3 m4 m5 m6 m7 m8 m9 m10 m11 : Int32) (f : Nat → Int32) (x : Int32) (h46 : M (gA g 46) = some (mdE g m0 m1 m2 m3 m4 m5 m6 m7 m8 m9 m10 m11)) (h47 : M (gA g 47) = some (aI g 929 f)) : Met l yX12_isLight (wsM yX12_isLight cX12_isLight 2 (some .boolean)) (rmD 2 0 0) (Pre g M [.ref (gA g 46), .int x]) (Qi g (fun r M1 => (fIn x 0 (f 9 - 1)) = r ∧ M = M1)) 0 0 (gF g) := M_start (by decide +kernel) (Nat.le_of_ble_eq_true rfl) fun p e s m args below meth c ls X hr hk hnm hM hl => by
  have X : Cx g p m c cX12_isLight 2 s args RX12 := X
  have hx := X.1.1
  have hb := X.1.2.1
  have hl : lv_has ls 2 [(0, .ref (gA g 46)), (1, .int x)] := hl
  refine lv_iload_n hx hb dX12_isLight_0 rfl (lv_at hl 1 rfl) ?_
  refine lv_iconst (v := 0) hx hb dX12_isLight_1 (by decide) ?_
  refine lv_aload_n hx hb dX12_isLight_2 rfl (lv_at hl 0 rfl) ?_
  refine r_get (T := TX12) (N := 20) (ci := 12) (v := .ref (gA g 47)) X hM iX12 rfl 1 (by decide) q_836 (Or.inl rfl) h46 rfl dX12_isLight_3 ?_
  refine lv_bipush (v := 9) hx hb dX12_isLight_6 (by decide) ?_
  refine r_iald (i := 9) X hM h47 (vp_in_nI (n := 9) (by decide) (by decide)) dX12_isLight_8 ?_
  rw [show ((9 : Int32)).toNatClampNeg = 9 from by decide]
  refine lv_iconst (v := 1) hx hb dX12_isLight_9 (by decide) ?_
  refine lv_isub hx hb dX12_isLight_10 ?_
  refine K_i (G_S (As := [.int x, .int 0, .int ((f 9) - 1)]) (rest := []) X hM (c_X12_in l g _ x 0 ((f 9) - 1)  ) lk_X12_41 rfl hl.1 rfl (Nat.le_of_ble_eq_true rfl) (by decide) dX12_isLight_11 ⟨Nat.le_of_ble_eq_true rfl, Nat.le_of_ble_eq_true rfl⟩) hM (fun r M1 H locs hM hp => ?_)
  obtain ⟨rfl, rfl⟩ := hp
  exact R_z X hr hk (fIn_01 _ _ _) hM ⟨rfl, rfl⟩ dX12_isLight_14
set_option maxHeartbeats 4000000 in
set_option maxRecDepth 100000 in
theorem c_X12_tellsOf (l : Launch) (g : Gp) (M : Mem) (m0 m1 m2 m3 m4 m5 m6 m7 m8 m9 m10 m11 : Int32) (f : Nat → Int32) (w : Nat) (z : Int32) (h46 : M (gA g 46) = some (mdE g m0 m1 m2 m3 m4 m5 m6 m7 m8 m9 m10 m11)) (h47 : M (gA g 47) = some (aI g 929 f)) (hh : Hd f) (hw : w + 5 ≤ 929) : Met l yX12_tellsOf (wsM yX12_tellsOf cX12_tellsOf 3 (some .int)) (rmD 1 0 0) (Pre g M [.ref (gA g 46), .int (nI w), .int z]) (Qi g (fun r M1 => (mTel f w z) = r ∧ M = M1)) 0 0 (gF g) := M_start (by decide +kernel) (Nat.le_of_ble_eq_true rfl) fun p e s m args below meth c ls X hr hk hnm hM hl => by
  have X : Cx g p m c cX12_tellsOf 3 s args RX12 := X
  have hx := X.1.1
  have hb := X.1.2.1
  have hl : lv_has ls 3 [(0, .ref (gA g 46)), (1, .int (nI w)), (2, .int z)] := hl
  refine lv_aload_n hx hb dX12_tellsOf_0 rfl (lv_at hl 0 rfl) ?_
  refine r_get (T := TX12) (N := 20) (ci := 12) (v := .ref (gA g 47)) X hM iX12 rfl 1 (by decide) q_836 (Or.inl rfl) h46 rfl dX12_tellsOf_1 ?_
  refine lv_bipush (v := 15) hx hb dX12_tellsOf_4 (by decide) ?_
  refine r_iald (i := 15) X hM h47 (vp_in_nI (n := 15) (by decide) (by decide)) dX12_tellsOf_6 ?_
  rw [show ((15 : Int32)).toNatClampNeg = 15 from by decide]
  refine lv_iconst (v := -1) hx hb dX12_tellsOf_7 (by decide) ?_
  refine lv_icmp_ne (tgt := 15) hx hb dX12_tellsOf_8 (by decide) (fun c_1 => ?_) (fun c_1 => ?_)
  · skip
    obtain ⟨a9, ha9, ea9⟩ := hh.resolve_left c_1
    refine lv_aload_n hx hb dX12_tellsOf_15 rfl (lv_at hl 0 rfl) ?_
    refine r_get (T := TX12) (N := 20) (ci := 12) (v := .ref (gA g 47)) X hM iX12 rfl 1 (by decide) q_836 (Or.inl rfl) h46 rfl dX12_tellsOf_16 ?_
    refine lv_iload_n hx hb dX12_tellsOf_19 rfl (lv_at hl 1 rfl) ?_
    refine lv_aload_n hx hb dX12_tellsOf_20 rfl (lv_at hl 0 rfl) ?_
    refine r_get (T := TX12) (N := 20) (ci := 12) (v := .ref (gA g 47)) X hM iX12 rfl 1 (by decide) q_836 (Or.inl rfl) h46 rfl dX12_tellsOf_21 ?_
    refine lv_bipush (v := 15) hx hb dX12_tellsOf_24 (by decide) ?_
    refine r_iald (i := 15) X hM h47 (vp_in_nI (n := 15) (by decide) (by decide)) dX12_tellsOf_26 ?_
    rw [show ((15 : Int32)).toNatClampNeg = 15 from by decide]
    refine lv_iadd hx hb dX12_tellsOf_27 ?_
    refine r_iald (i := (nI w) + (f 15)) X hM h47 (by rw [ea9, nI_add]; exact vp_in_nI (by omega) (by decide)) dX12_tellsOf_28 ?_
    exact R_i X hr hk hM ⟨(by unfold mTel; first | rw [if_pos c_1] | (rw [if_neg c_1, ea9, nI_add, nI_clamp (by omega), nI_clamp (by omega)])), rfl⟩ dX12_tellsOf_29
  · skip
    refine lv_iload_n hx hb dX12_tellsOf_11 rfl (lv_at hl 2 rfl) ?_
    refine lv_goto (tgt := 29) hx hb dX12_tellsOf_12 (by decide) ?_
    exact R_i X hr hk hM ⟨(by unfold mTel; first | rw [if_pos c_1] | (rw [if_neg c_1, ea9, nI_add, nI_clamp (by omega), nI_clamp (by omega)])), rfl⟩ dX12_tellsOf_29
set_option maxHeartbeats 4000000 in
set_option maxRecDepth 100000 in
theorem c_X12_asItIs (l : Launch) (g : Gp) (M : Mem) (m0 m1 m2 m3 m4 m5 m6 m7 m8 m9 m10 m11 : Int32) (f : Nat → Int32) (h46 : M (gA g 46) = some (mdE g m0 m1 m2 m3 m4 m5 m6 m7 m8 m9 m10 m11)) (h47 : M (gA g 47) = some (aI g 929 f)) (hh : Hd f) : Met l yX12_asItIs (wsM yX12_asItIs cX12_asItIs 1 none) (rmD 2 0 0) (Pre g M [.ref (gA g 46)]) (Qv g (fun M1 => mup M (gA g 46) (mdE g m0 m1 (mTel f 219 0) m3 m4 m5 m6 m7 m8 m9 m10 m11) = M1)) 0 0 (gF g) := M_start (by decide +kernel) (Nat.le_of_ble_eq_true rfl) fun p e s m args below meth c ls X hr hk hnm hM hl => by
  have X : Cx g p m c cX12_asItIs 1 s args RX12 := X
  have hx := X.1.1
  have hb := X.1.2.1
  have hl : lv_has ls 1 [(0, .ref (gA g 46))] := hl
  refine lv_aload_n hx hb dX12_asItIs_0 rfl (lv_at hl 0 rfl) ?_
  refine lv_aload_n hx hb dX12_asItIs_1 rfl (lv_at hl 0 rfl) ?_
  refine lv_sipush (v := 219) hx hb dX12_asItIs_2 (by decide) ?_
  refine lv_iconst (v := 0) hx hb dX12_asItIs_5 (by decide) ?_
  refine K_i (G_V (As := [.int 219, .int 0]) (rest := [.ref (gA g 46)]) X hM (c_X12_tellsOf l g _ m0 m1 m2 m3 m4 m5 m6 m7 m8 m9 m10 m11 f 219 0 h46 h47 hh (by decide)) lk_X12_45 h46 rfl rfl hl.1 rfl (Nat.le_of_ble_eq_true rfl) (by decide) dX12_asItIs_6 ⟨Nat.le_of_ble_eq_true rfl, Nat.le_of_ble_eq_true rfl⟩) hM (fun r M1 H locs hM hp => ?_)
  obtain ⟨rfl, rfl⟩ := hp
  refine r_put (T := TX12) (N := 20) (ci := 12) X hM iX12 tyX12 tyX12_ok nmX12 rfl 5 (by decide) q_840 rfl (Or.inl rfl) h46 rfl rfl (Nat.le_of_ble_eq_true rfl) dX12_asItIs_9 (fun H locs hM => ?_)
  have hM : MW g (mup M (gA g 46) (mdE g m0 m1 (mTel f 219 0) m3 m4 m5 m6 m7 m8 m9 m10 m11)) H locs := hM
  exact R_v X hr hk hM rfl dX12_asItIs_12
set_option maxHeartbeats 4000000 in
set_option maxRecDepth 100000 in
theorem c_X12_keeps (l : Launch) (g : Gp) (M : Mem) (m0 m1 m2 m3 m4 m5 m6 m7 m8 m9 m10 m11 : Int32) (f : Nat → Int32) (fr : Nat → Int32) (h46 : M (gA g 46) = some (mdE g m0 m1 m2 m3 m4 m5 m6 m7 m8 m9 m10 m11)) (h47 : M (gA g 47) = some (aI g 929 f)) (h49 : M (gA g 49) = some (aI g 9 fr)) : Met l yX12_keeps (wsM yX12_keeps cX12_keeps 2 none) (rmD 1 0 0) (Pre g M [.ref (gA g 46)]) (Qv g (fun M1 => mup M (gA g 49) (aI g 9 (mCp 9 f fr)) = M1)) 0 0 (gF g) := M_start (by decide +kernel) (Nat.le_of_ble_eq_true rfl) fun p e s m args below meth c ls X hr hk hnm hM hl => by
  have X : Cx g p m c cX12_keeps 2 s args RX12 := X
  have hx := X.1.1
  have hb := X.1.2.1
  have hl : lv_has ls 2 [(0, .ref (gA g 46))] := hl
  refine lv_iconst (v := 0) hx hb dX12_keeps_0 (by decide) ?_
  refine lv_istore_n (lv' := [(1, .int 0), (0, .ref (gA g 46))]) hx hb dX12_keeps_1 rfl hl (by decide) rfl (fun ls hl => ?_)
  have L2 : ∀ (fu : Nat) (i : Nat) (hi : i ≤ 9) (H : Heap) (locs : List Loc) (hM : MW g (mup M (gA g 49) (aI g 9 (mCp i f fr))) H locs) (ls : Array Slot) (hl : lv_has ls 2 [(0, .ref (gA g 46)), (1, .int (nI i))]), 9 - i < fu → W p l e (rmD 1 0 0) s m args below meth c H locs 0 0 (MQ below (Qv g (fun M1 => mup M (gA g 49) (aI g 9 (mCp 9 f fr)) = M1)) args s 0 0 (gF g)) (F0 m 2 ls []) := by
    intro fu
    induction fu with
    | zero => intro i hi H locs hM ls hl hmu; exact absurd hmu (Nat.not_lt_zero _)
    | succ fu ih =>
      intro i hi H locs hM ls hl hmu
      refine lv_iload_n hx hb dX12_keeps_2 rfl (lv_at hl 1 rfl) ?_
      refine lv_bipush (v := 9) hx hb dX12_keeps_3 (by decide) ?_
      refine lv_icmp_ge (tgt := 26) hx hb dX12_keeps_5 (by decide) (fun c_1 => ?_) (fun c_1 => ?_)
      · skip
        have hz0 : nI 9 ≤ nI i := c_1
        have hz1 : 9 ≤ i := (nI_leI (by omega) (by omega)).mp hz0
        have hz2 : i = 9 := by omega
        exact R_v X hr hk hM (by rw [hz2]) dX12_keeps_26
      · skip
        have hz1 : i < 9 := by
          rcases Nat.lt_or_ge i 9 with q | q
          · exact q
          · exact absurd (show nI 9 ≤ nI i from (nI_leI (by omega) (by omega)).mpr q) c_1
        refine lv_aload_n hx hb dX12_keeps_8 rfl (lv_at hl 0 rfl) ?_
        refine r_get (T := TX12) (N := 20) (ci := 12) (v := .ref (gA g 49)) X hM iX12 rfl 3 (by decide) q_838 (Or.inl rfl) (mup_r (X.2.ne (i := 46) (j := 49) (by decide) (by decide) (by decide)) h46) rfl dX12_keeps_9 ?_
        refine lv_iload_n hx hb dX12_keeps_12 rfl (lv_at hl 1 rfl) ?_
        refine lv_aload_n hx hb dX12_keeps_13 rfl (lv_at hl 0 rfl) ?_
        refine r_get (T := TX12) (N := 20) (ci := 12) (v := .ref (gA g 47)) X hM iX12 rfl 1 (by decide) q_836 (Or.inl rfl) (mup_r (X.2.ne (i := 46) (j := 49) (by decide) (by decide) (by decide)) h46) rfl dX12_keeps_14 ?_
        refine lv_iload_n hx hb dX12_keeps_17 rfl (lv_at hl 1 rfl) ?_
        refine r_iald (i := nI i) X hM (mup_r (X.2.ne (i := 47) (j := 49) (by decide) (by decide) (by decide)) h47) (vp_in_nI (by omega) (by decide)) dX12_keeps_18 ?_
        rw [nI_clamp (show i < 2147483648 by omega)]
        refine r_iast (i := nI i) (x := f i) X hM (mup_s _ _ _) (vp_in_nI (by omega) (by decide)) dX12_keeps_19 (fun H locs hM => ?_)
        rw [nI_clamp (show i < 2147483648 by omega)] at hM
        rw [mup_i] at hM
        have hM : MW g (mup M (gA g 49) (aI g 9 (upd (mCp i f fr) i (f i)))) H locs := hM
        refine lv_iinc (v := (nI i) + 1) (lv' := [(1, .int ((nI i) + 1)), (0, .ref (gA g 46))]) hx hb dX12_keeps_20 hl (k := 1) rfl rfl (by decide) rfl (fun ls hl => ?_)
        refine lv_goto (tgt := 2) hx hb dX12_keeps_23 (by decide) ?_
        rw [mCp_s] at hM
        exact ih (i + 1) (by omega) _ _ hM _ ((by rw [← nI_1]; exact lv_sub hl [1, 0] rfl)) (by omega)
  exact L2 (9 + 1) 0 (Nat.zero_le _) _ _ (by rw [mCp_0, mup_id h49]; exact hM) _ (lv_sub hl [1, 0] rfl) (by first | exact Nat.lt_succ_self _ | omega)
set_option maxHeartbeats 4000000 in
set_option maxRecDepth 100000 in
theorem c_X12_goesBack (l : Launch) (g : Gp) (M : Mem) (m0 m1 m2 m3 m4 m5 m6 m7 m8 m9 m10 m11 : Int32) (f : Nat → Int32) (fr : Nat → Int32) (h46 : M (gA g 46) = some (mdE g m0 m1 m2 m3 m4 m5 m6 m7 m8 m9 m10 m11)) (h47 : M (gA g 47) = some (aI g 929 f)) (h49 : M (gA g 49) = some (aI g 9 fr)) : Met l yX12_goesBack (wsM yX12_goesBack cX12_goesBack 2 none) (rmD 1 0 0) (Pre g M [.ref (gA g 46)]) (Qv g (fun M1 => mup M (gA g 47) (aI g 929 (mCp 9 fr f)) = M1)) 0 0 (gF g) := M_start (by decide +kernel) (Nat.le_of_ble_eq_true rfl) fun p e s m args below meth c ls X hr hk hnm hM hl => by
  have X : Cx g p m c cX12_goesBack 2 s args RX12 := X
  have hx := X.1.1
  have hb := X.1.2.1
  have hl : lv_has ls 2 [(0, .ref (gA g 46))] := hl
  refine lv_iconst (v := 0) hx hb dX12_goesBack_0 (by decide) ?_
  refine lv_istore_n (lv' := [(1, .int 0), (0, .ref (gA g 46))]) hx hb dX12_goesBack_1 rfl hl (by decide) rfl (fun ls hl => ?_)
  have L2 : ∀ (fu : Nat) (i : Nat) (hi : i ≤ 9) (H : Heap) (locs : List Loc) (hM : MW g (mup M (gA g 47) (aI g 929 (mCp i fr f))) H locs) (ls : Array Slot) (hl : lv_has ls 2 [(0, .ref (gA g 46)), (1, .int (nI i))]), 9 - i < fu → W p l e (rmD 1 0 0) s m args below meth c H locs 0 0 (MQ below (Qv g (fun M1 => mup M (gA g 47) (aI g 929 (mCp 9 fr f)) = M1)) args s 0 0 (gF g)) (F0 m 2 ls []) := by
    intro fu
    induction fu with
    | zero => intro i hi H locs hM ls hl hmu; exact absurd hmu (Nat.not_lt_zero _)
    | succ fu ih =>
      intro i hi H locs hM ls hl hmu
      refine lv_iload_n hx hb dX12_goesBack_2 rfl (lv_at hl 1 rfl) ?_
      refine lv_bipush (v := 9) hx hb dX12_goesBack_3 (by decide) ?_
      refine lv_icmp_ge (tgt := 26) hx hb dX12_goesBack_5 (by decide) (fun c_1 => ?_) (fun c_1 => ?_)
      · skip
        have hz0 : nI 9 ≤ nI i := c_1
        have hz1 : 9 ≤ i := (nI_leI (by omega) (by omega)).mp hz0
        have hz2 : i = 9 := by omega
        exact R_v X hr hk hM (by rw [hz2]) dX12_goesBack_26
      · skip
        have hz1 : i < 9 := by
          rcases Nat.lt_or_ge i 9 with q | q
          · exact q
          · exact absurd (show nI 9 ≤ nI i from (nI_leI (by omega) (by omega)).mpr q) c_1
        refine lv_aload_n hx hb dX12_goesBack_8 rfl (lv_at hl 0 rfl) ?_
        refine r_get (T := TX12) (N := 20) (ci := 12) (v := .ref (gA g 47)) X hM iX12 rfl 1 (by decide) q_836 (Or.inl rfl) (mup_r (X.2.ne (i := 46) (j := 47) (by decide) (by decide) (by decide)) h46) rfl dX12_goesBack_9 ?_
        refine lv_iload_n hx hb dX12_goesBack_12 rfl (lv_at hl 1 rfl) ?_
        refine lv_aload_n hx hb dX12_goesBack_13 rfl (lv_at hl 0 rfl) ?_
        refine r_get (T := TX12) (N := 20) (ci := 12) (v := .ref (gA g 49)) X hM iX12 rfl 3 (by decide) q_838 (Or.inl rfl) (mup_r (X.2.ne (i := 46) (j := 47) (by decide) (by decide) (by decide)) h46) rfl dX12_goesBack_14 ?_
        refine lv_iload_n hx hb dX12_goesBack_17 rfl (lv_at hl 1 rfl) ?_
        refine r_iald (i := nI i) X hM (mup_r (X.2.ne (i := 49) (j := 47) (by decide) (by decide) (by decide)) h49) (vp_in_nI (by omega) (by decide)) dX12_goesBack_18 ?_
        rw [nI_clamp (show i < 2147483648 by omega)]
        refine r_iast (i := nI i) (x := fr i) X hM (mup_s _ _ _) (vp_in_nI (by omega) (by decide)) dX12_goesBack_19 (fun H locs hM => ?_)
        rw [nI_clamp (show i < 2147483648 by omega)] at hM
        rw [mup_i] at hM
        have hM : MW g (mup M (gA g 47) (aI g 929 (upd (mCp i fr f) i (fr i)))) H locs := hM
        refine lv_iinc (v := (nI i) + 1) (lv' := [(1, .int ((nI i) + 1)), (0, .ref (gA g 46))]) hx hb dX12_goesBack_20 hl (k := 1) rfl rfl (by decide) rfl (fun ls hl => ?_)
        refine lv_goto (tgt := 2) hx hb dX12_goesBack_23 (by decide) ?_
        rw [mCp_s] at hM
        exact ih (i + 1) (by omega) _ _ hM _ ((by rw [← nI_1]; exact lv_sub hl [1, 0] rfl)) (by omega)
  exact L2 (9 + 1) 0 (Nat.zero_le _) _ _ (by rw [mCp_0, mup_id h47]; exact hM) _ (lv_sub hl [1, 0] rfl) (by first | exact Nat.lt_succ_self _ | omega)
set_option maxHeartbeats 4000000 in
set_option maxRecDepth 100000 in
theorem c_X12_isClouded (l : Launch) (g : Gp) (M : Mem) (m0 m1 m2 m3 m4 m5 m6 m7 m8 m9 m10 m11 : Int32) (f : Nat → Int32) (x : Int32) (h46 : M (gA g 46) = some (mdE g m0 m1 m2 m3 m4 m5 m6 m7 m8 m9 m10 m11)) (h47 : M (gA g 47) = some (aI g 929 f)) : Met l yX12_isClouded (wsM yX12_isClouded cX12_isClouded 2 (some .boolean)) (rmD 1 0 0) (Pre g M [.ref (gA g 46), .int x]) (Qi g (fun r M1 => (mCld m2 x) = r ∧ M = M1)) 0 0 (gF g) := M_start (by decide +kernel) (Nat.le_of_ble_eq_true rfl) fun p e s m args below meth c ls X hr hk hnm hM hl => by
  have X : Cx g p m c cX12_isClouded 2 s args RX12 := X
  have hx := X.1.1
  have hb := X.1.2.1
  have hl : lv_has ls 2 [(0, .ref (gA g 46)), (1, .int x)] := hl
  refine lv_aload_n hx hb dX12_isClouded_0 rfl (lv_at hl 0 rfl) ?_
  refine r_get (T := TX12) (N := 20) (ci := 12) (v := .int m2) X hM iX12 rfl 5 (by decide) q_840 (Or.inl rfl) h46 rfl dX12_isClouded_1 ?_
  refine lv_if_le (tgt := 26) hx hb dX12_isClouded_4 (by decide) (fun c_1 => ?_) (fun c_1 => ?_)
  · skip
    refine lv_iconst (v := 0) hx hb dX12_isClouded_26 (by decide) ?_
    exact R_z X hr hk (Or.inl rfl) hM ⟨(by simp [mCld, *]), rfl⟩ dX12_isClouded_27
  · skip
    refine lv_iload_n hx hb dX12_isClouded_7 rfl (lv_at hl 1 rfl) ?_
    refine lv_aload_n hx hb dX12_isClouded_8 rfl (lv_at hl 0 rfl) ?_
    refine r_get (T := TX12) (N := 20) (ci := 12) (v := .int m2) X hM iX12 rfl 5 (by decide) q_840 (Or.inl rfl) h46 rfl dX12_isClouded_9 ?_
    refine l_irem hx hb dX12_isClouded_12 (fun hz => c_1 (by rw [hz]; decide)) ?_
    refine lv_aload_n hx hb dX12_isClouded_13 rfl (lv_at hl 0 rfl) ?_
    refine r_get (T := TX12) (N := 20) (ci := 12) (v := .int m2) X hM iX12 rfl 5 (by decide) q_840 (Or.inl rfl) h46 rfl dX12_isClouded_14 ?_
    refine lv_iconst (v := 1) hx hb dX12_isClouded_17 (by decide) ?_
    refine lv_isub hx hb dX12_isClouded_18 ?_
    refine lv_icmp_ne (tgt := 26) hx hb dX12_isClouded_19 (by decide) (fun c_2 => ?_) (fun c_2 => ?_)
    · skip
      refine lv_iconst (v := 0) hx hb dX12_isClouded_26 (by decide) ?_
      exact R_z X hr hk (Or.inl rfl) hM ⟨(by simp [mCld, *]), rfl⟩ dX12_isClouded_27
    · skip
      refine lv_iconst (v := 1) hx hb dX12_isClouded_22 (by decide) ?_
      refine lv_goto (tgt := 27) hx hb dX12_isClouded_23 (by decide) ?_
      exact R_z X hr hk (Or.inr rfl) hM ⟨(by simp [mCld, *]), rfl⟩ dX12_isClouded_27
set_option maxHeartbeats 4000000 in
set_option maxRecDepth 100000 in
theorem c_X12_turnOn (l : Launch) (g : Gp) (M : Mem) (m0 m1 m2 m3 m4 m5 m6 m7 m8 m9 m10 m11 : Int32) (f : Nat → Int32) (x : Int32) (h46 : M (gA g 46) = some (mdE g m0 m1 m2 m3 m4 m5 m6 m7 m8 m9 m10 m11)) (h47 : M (gA g 47) = some (aI g 929 f)) (hh : Hd f) : Met l yX12_turnOn (wsM yX12_turnOn cX12_turnOn 3 (some .int)) (rmD 2 0 0) (Pre g M [.ref (gA g 46), .int x]) (Qi g (fun r M1 => (mTrn f x) = r ∧ M = M1)) 0 0 (gF g) := M_start (by decide +kernel) (Nat.le_of_ble_eq_true rfl) fun p e s m args below meth c ls X hr hk hnm hM hl => by
  have X : Cx g p m c cX12_turnOn 3 s args RX12 := X
  have hx := X.1.1
  have hb := X.1.2.1
  have hl : lv_has ls 3 [(0, .ref (gA g 46)), (1, .int x)] := hl
  refine lv_aload_n hx hb dX12_turnOn_0 rfl (lv_at hl 0 rfl) ?_
  refine lv_sipush (v := 214) hx hb dX12_turnOn_1 (by decide) ?_
  refine lv_iconst (v := 1) hx hb dX12_turnOn_4 (by decide) ?_
  refine K_i (G_V (As := [.int 214, .int 1]) (rest := []) X hM (c_X12_tellsOf l g _ m0 m1 m2 m3 m4 m5 m6 m7 m8 m9 m10 m11 f 214 1 h46 h47 hh (by decide)) lk_X12_45 h46 rfl rfl hl.1 rfl (Nat.le_of_ble_eq_true rfl) (by decide) dX12_turnOn_5 ⟨Nat.le_of_ble_eq_true rfl, Nat.le_of_ble_eq_true rfl⟩) hM (fun r M1 H locs hM hp => ?_)
  obtain ⟨rfl, rfl⟩ := hp
  refine lv_istore_n (lv' := [(2, .int (mTel f 214 1)), (0, .ref (gA g 46)), (1, .int x)]) hx hb dX12_turnOn_8 rfl hl (by decide) rfl (fun ls hl => ?_)
  refine lv_iload_n hx hb dX12_turnOn_9 rfl (lv_at hl 2 rfl) ?_
  refine lv_iload_n hx hb dX12_turnOn_10 rfl (lv_at hl 0 rfl) ?_
  refine l_joinM (ls := ls) hM 19 (if mTel f 214 1 = 0 then 1 else mTel f 214 1) [.int x] (fun H locs hM => ?_) (fun J11 => ?_)
  · skip
    refine lv_topi (fun tz e_tz => ?_)
    refine lv_idiv hx hb dX12_turnOn_19 (by rw [e_tz]; split; decide; assumption) ?_
    refine lv_iconst (v := 2) hx hb dX12_turnOn_20 (by decide) ?_
    refine l_irem hx hb dX12_turnOn_21 (by decide) ?_
    exact R_i X hr hk hM ⟨(by rw [e_tz]; rfl), rfl⟩ dX12_turnOn_22
  refine lv_if_ne (tgt := 18) hx hb dX12_turnOn_11 (by decide) (fun c_1 => ?_) (fun c_1 => ?_)
  · skip
    refine lv_iload_n hx hb dX12_turnOn_18 rfl (lv_at hl 0 rfl) ?_
    exact J11 _ _ _ hM (by (first | rw [if_pos c_1] | rw [if_neg c_1] | skip); all_goals (first | rfl | simp [*]))
  · skip
    refine lv_iconst (v := 1) hx hb dX12_turnOn_14 (by decide) ?_
    refine lv_goto (tgt := 19) hx hb dX12_turnOn_15 (by decide) ?_
    exact J11 _ _ _ hM (by (first | rw [if_pos c_1] | rw [if_neg c_1] | skip); all_goals (first | rfl | simp [*]))
