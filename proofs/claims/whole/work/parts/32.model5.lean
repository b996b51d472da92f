def mNote (f : Nat → Int32) (L n1 : Nat) (x n u : Int32) : Int32 × (Nat → Int32) := if x = -1 then (0, upd f 11 0) else if fIsL L x = 0 then (-1, f) else if fIn n 0 60 = 0 then (-2, f) else if n1 = 6 then (-4, f) else (nI (n1 + 1), upd (upd (upd (upd f (64 + n1) x) (70 + n1) n) (76 + n1) (if u = 0 then 0 else 1)) 11 (nI (n1 + 1)))
def mPlan (f : Nat → Int32) (L n1 : Nat) (w x : Int32) : Int32 × (Nat → Int32) := if w = -1 then (0, upd f 12 0) else if fIn w 0 2 = 0 then (-1, f) else if w ≤ 0 then (if n1 = 8 then (-4, f) else (nI (n1 + 1), upd (upd (upd f (82 + n1) w) (90 + n1) x) 12 (nI (n1 + 1)))) else if fIsL L x = 0 then (-1, f) else if n1 = 8 then (-4, f) else (nI (n1 + 1), upd (upd (upd f (82 + n1) w) (90 + n1) x) 12 (nI (n1 + 1)))
def mBook (f : Nat → Int32) (n1 : Nat) (n ho : Int32) : Int32 × (Nat → Int32) := if n = -1 then (0, upd f 13 0) else if fIn ho 0 1 = 0 then (-1, f) else if fIn n 0 60 = 0 then (-2, f) else if n1 = 8 then (-4, f) else (nI (n1 + 1), upd (upd (upd f (98 + n1) n) (106 + n1) ho) 13 (nI (n1 + 1)))
def mCount (f : Nat → Int32) (ra_ w : Int32) : Int32 := if w = 6 then ra_ else if fIn w 0 5 = 0 then -1 else f (9 + w.toNatClampNeg)
def mLook (f : Nat → Int32) (n1 : Nat) : Nat → Nat → Int32
  | 0, _ => -5
  | u + 1, i => if n1 ≤ i then -5 else if mTrn f (f 0 + f (98 + i)) = f (106 + i) then mLook f n1 u (i + 1) else nI i

theorem lk_X12_151 : LkS RX12 151 yX12_isHouse cX12_isHouse 1 (some .boolean) 1 := lkS_of q_988 q_989 q_7 q_990 ⟨rfl, by decide, by decide, by decide +kernel⟩ (by decide)
set_option maxHeartbeats 4000000 in
set_option maxRecDepth 100000 in
theorem c_X12_note (l : Launch) (g : Gp) (M : Mem) (m0 m1 m2 m3 m4 m5 m6 m7 m8 m9 m10 m11 : Int32) (f : Nat → Int32) (L : Nat) (n1 : Nat) (x n u : Int32) (h46 : M (gA g 46) = some (mdE g m0 m1 m2 m3 m4 m5 m6 m7 m8 m9 m10 m11)) (h47 : M (gA g 47) = some (aI g 929 f)) (h9 : f 9 = nI L) (hL : L ≤ 6) (h11 : f 11 = nI n1) (hb9 : n1 ≤ 6) : Met l yX12_note (wsM yX12_note cX12_note 4 (some .int)) (rmD 3 0 0) (Pre g M [.ref (gA g 46), .int x, .int n, .int u]) (Qi g (fun r M1 => ((mNote f L n1 x n u).1) = r ∧ mup M (gA g 47) (aI g 929 ((mNote f L n1 x n u).2)) = M1)) 0 0 (gF g) := M_start (by decide +kernel) (Nat.le_of_ble_eq_true rfl) fun p e s m args below meth c ls X hr hk hnm hM hl => by
  have X : Cx g p m c cX12_note 4 s args RX12 := X
  have hx := X.1.1
  have hb := X.1.2.1
  have hl : lv_has ls 4 [(0, .ref (gA g 46)), (1, .int x), (2, .int n), (3, .int u)] := hl
  refine lv_iload_n hx hb dX12_note_0 rfl (lv_at hl 1 rfl) ?_
  refine lv_iconst (v := -1) hx hb dX12_note_1 (by decide) ?_
  refine lv_icmp_ne (tgt := 15) hx hb dX12_note_2 (by decide) (fun c_1 => ?_) (fun c_1 => ?_)
  · skip
    refine lv_aload_n hx hb dX12_note_15 rfl (lv_at hl 0 rfl) ?_
    refine lv_iload_n hx hb dX12_note_16 rfl (lv_at hl 1 rfl) ?_
    refine K_i (G_V (As := [.int x]) (rest := []) X hM (c_X12_isLightL l g _ m0 m1 m2 m3 m4 m5 m6 m7 m8 m9 m10 m11 f L x h46 h47 h9 hL) lk_X12_148 h46 rfl rfl hl.1 rfl (Nat.le_of_ble_eq_true rfl) (by decide) dX12_note_17 ⟨Nat.le_of_ble_eq_true rfl, Nat.le_of_ble_eq_true rfl⟩) hM (fun r M1 H locs hM hp => ?_)
    obtain ⟨rfl, rfl⟩ := hp
    refine lv_if_ne (tgt := 25) hx hb dX12_note_20 (by decide) (fun c_2 => ?_) (fun c_2 => ?_)
    · skip
      refine lv_iload_n hx hb dX12_note_25 rfl (lv_at hl 2 rfl) ?_
      refine lv_iconst (v := 0) hx hb dX12_note_26 (by decide) ?_
      refine lv_bipush (v := 60) hx hb dX12_note_27 (by decide) ?_
      refine K_i (G_S (As := [.int n, .int 0, .int 60]) (rest := []) X hM (c_X12_in l g _ n 0 60  ) lk_X12_41 rfl hl.1 rfl (Nat.le_of_ble_eq_true rfl) (by decide) dX12_note_29 ⟨Nat.le_of_ble_eq_true rfl, Nat.le_of_ble_eq_true rfl⟩) hM (fun r M1 H locs hM hp => ?_)
      obtain ⟨rfl, rfl⟩ := hp
      refine lv_if_ne (tgt := 38) hx hb dX12_note_32 (by decide) (fun c_3 => ?_) (fun c_3 => ?_)
      · skip
        refine lv_aload_n hx hb dX12_note_38 rfl (lv_at hl 0 rfl) ?_
        refine r_get (T := TX12) (N := 20) (ci := 12) (v := .ref (gA g 47)) X hM iX12 rfl 1 (by decide) q_836 (Or.inl rfl) h46 rfl dX12_note_39 ?_
        refine lv_bipush (v := 11) hx hb dX12_note_42 (by decide) ?_
        refine r_iald (i := 11) X hM h47 (vp_in_nI (n := 11) (by decide) (by decide)) dX12_note_44 ?_
        rw [show ((11 : Int32)).toNatClampNeg = 11 from by decide]
        rw [show f 11 = nI n1 from by exact h11]
        refine lv_bipush (v := 6) hx hb dX12_note_45 (by decide) ?_
        refine lv_icmp_ne (tgt := 53) hx hb dX12_note_47 (by decide) (fun c_4 => ?_) (fun c_4 => ?_)
        · skip
          have hq : ¬ n1 = 6 := fun q => c_4 (by rw [q]; decide)
          have hq9 : n1 < 6 := by omega
          refine lv_aload_n hx hb dX12_note_53 rfl (lv_at hl 0 rfl) ?_
          refine r_get (T := TX12) (N := 20) (ci := 12) (v := .ref (gA g 47)) X hM iX12 rfl 1 (by decide) q_836 (Or.inl rfl) h46 rfl dX12_note_54 ?_
          refine lv_bipush (v := 64) hx hb dX12_note_57 (by decide) ?_
          refine lv_aload_n hx hb dX12_note_59 rfl (lv_at hl 0 rfl) ?_
          refine r_get (T := TX12) (N := 20) (ci := 12) (v := .ref (gA g 47)) X hM iX12 rfl 1 (by decide) q_836 (Or.inl rfl) h46 rfl dX12_note_60 ?_
          refine lv_bipush (v := 11) hx hb dX12_note_63 (by decide) ?_
          refine r_iald (i := 11) X hM h47 (vp_in_nI (n := 11) (by decide) (by decide)) dX12_note_65 ?_
          rw [show ((11 : Int32)).toNatClampNeg = 11 from by decide]
          rw [show f 11 = nI n1 from by exact h11]
          refine lv_iadd hx hb dX12_note_66 ?_
          rw [show (64 : Int32) + (nI n1) = nI (64 + n1) from nI_add 64 n1]
          refine lv_iload_n hx hb dX12_note_67 rfl (lv_at hl 1 rfl) ?_
          refine r_iast (i := nI (64 + n1)) (x := x) X hM h47 (vp_in_nI (by omega) (by decide)) dX12_note_68 (fun H locs hM => ?_)
          rw [nI_clamp (show 64 + n1 < 2147483648 by omega)] at hM
          have hM : MW g (mup M (gA g 47) (aI g 929 (upd f (64 + n1) x))) H locs := hM
          refine lv_aload_n hx hb dX12_note_69 rfl (lv_at hl 0 rfl) ?_
          refine r_get (T := TX12) (N := 20) (ci := 12) (v := .ref (gA g 47)) X hM iX12 rfl 1 (by decide) q_836 (Or.inl rfl) (mup_r (X.2.ne (i := 46) (j := 47) (by decide) (by decide) (by decide)) h46) rfl dX12_note_70 ?_
          refine lv_bipush (v := 70) hx hb dX12_note_73 (by decide) ?_
          refine lv_aload_n hx hb dX12_note_75 rfl (lv_at hl 0 rfl) ?_
          refine r_get (T := TX12) (N := 20) (ci := 12) (v := .ref (gA g 47)) X hM iX12 rfl 1 (by decide) q_836 (Or.inl rfl) (mup_r (X.2.ne (i := 46) (j := 47) (by decide) (by decide) (by decide)) h46) rfl dX12_note_76 ?_
          refine lv_bipush (v := 11) hx hb dX12_note_79 (by decide) ?_
          refine r_iald (i := 11) X hM (mup_s _ _ _) (vp_in_nI (n := 11) (by decide) (by decide)) dX12_note_81 ?_
          rw [show ((11 : Int32)).toNatClampNeg = 11 from by decide]
          rw [show (upd f (64 + n1) x) 11 = nI n1 from by rw [upd_ne (by omega)]; exact h11]
          refine lv_iadd hx hb dX12_note_82 ?_
          rw [show (70 : Int32) + (nI n1) = nI (70 + n1) from nI_add 70 n1]
          refine lv_iload_n hx hb dX12_note_83 rfl (lv_at hl 2 rfl) ?_
          refine r_iast (i := nI (70 + n1)) (x := n) X hM (mup_s _ _ _) (vp_in_nI (by omega) (by decide)) dX12_note_84 (fun H locs hM => ?_)
          rw [nI_clamp (show 70 + n1 < 2147483648 by omega)] at hM
          rw [mup_i] at hM
          have hM : MW g (mup M (gA g 47) (aI g 929 (upd (upd f (64 + n1) x) (70 + n1) n))) H locs := hM
          refine lv_aload_n hx hb dX12_note_85 rfl (lv_at hl 0 rfl) ?_
          refine r_get (T := TX12) (N := 20) (ci := 12) (v := .ref (gA g 47)) X hM iX12 rfl 1 (by decide) q_836 (Or.inl rfl) (mup_r (X.2.ne (i := 46) (j := 47) (by decide) (by decide) (by decide)) h46) rfl dX12_note_86 ?_
          refine lv_bipush (v := 76) hx hb dX12_note_89 (by decide) ?_
          refine lv_aload_n hx hb dX12_note_91 rfl (lv_at hl 0 rfl) ?_
          refine r_get (T := TX12) (N := 20) (ci := 12) (v := .ref (gA g 47)) X hM iX12 rfl 1 (by decide) q_836 (Or.inl rfl) (mup_r (X.2.ne (i := 46) (j := 47) (by decide) (by decide) (by decide)) h46) rfl dX12_note_92 ?_
          refine lv_bipush (v := 11) hx hb dX12_note_95 (by decide) ?_
          refine r_iald (i := 11) X hM (mup_s _ _ _) (vp_in_nI (n := 11) (by decide) (by decide)) dX12_note_97 ?_
          rw [show ((11 : Int32)).toNatClampNeg = 11 from by decide]
          rw [show (upd (upd f (64 + n1) x) (70 + n1) n) 11 = nI n1 from by rw [upd_ne (by omega), upd_ne (by omega)]; exact h11]
          refine lv_iadd hx hb dX12_note_98 ?_
          rw [show (76 : Int32) + (nI n1) = nI (76 + n1) from nI_add 76 n1]
          refine lv_iload_n hx hb dX12_note_99 rfl (lv_at hl 3 rfl) ?_
          refine l_joinM (ls := ls) hM 108 (if u = 0 then 0 else 1) [.int (nI (76 + n1)), .ref (gA g 47)] (fun H locs hM => ?_) (fun J100 => ?_)
          · skip
            refine r_iast (i := nI (76 + n1)) (x := if u = 0 then 0 else 1) X hM (mup_s _ _ _) (vp_in_nI (by omega) (by decide)) dX12_note_108 (fun H locs hM => ?_)
            rw [nI_clamp (show 76 + n1 < 2147483648 by omega)] at hM
            rw [mup_i] at hM
            have hM : MW g (mup M (gA g 47) (aI g 929 (upd (upd (upd f (64 + n1) x) (70 + n1) n) (76 + n1) (if u = 0 then 0 else 1)))) H locs := hM
            refine lv_aload_n hx hb dX12_note_109 rfl (lv_at hl 0 rfl) ?_
            refine r_get (T := TX12) (N := 20) (ci := 12) (v := .ref (gA g 47)) X hM iX12 rfl 1 (by decide) q_836 (Or.inl rfl) (mup_r (X.2.ne (i := 46) (j := 47) (by decide) (by decide) (by decide)) h46) rfl dX12_note_110 ?_
            refine lv_bipush (v := 11) hx hb dX12_note_113 (by decide) ?_
            refine lv_dup2_11 hx hb dX12_note_115 rfl rfl ?_
            refine r_iald (i := 11) X hM (mup_s _ _ _) (vp_in_nI (n := 11) (by decide) (by decide)) dX12_note_116 ?_
            rw [show ((11 : Int32)).toNatClampNeg = 11 from by decide]
            rw [show (upd (upd (upd f (64 + n1) x) (70 + n1) n) (76 + n1) (if u = 0 then 0 else 1)) 11 = nI n1 from by rw [upd_ne (by omega), upd_ne (by omega), upd_ne (by omega)]; exact h11]
            refine lv_iconst (v := 1) hx hb dX12_note_117 (by decide) ?_
            refine lv_iadd hx hb dX12_note_118 ?_
            rw [show (nI n1) + (1 : Int32) = nI (n1 + 1) from nI_add n1 1]
            refine r_iast (i := 11) (x := nI (n1 + 1)) X hM (mup_s _ _ _) (vp_in_nI (n := 11) (by decide) (by decide)) dX12_note_119 (fun H locs hM => ?_)
            rw [show ((11 : Int32)).toNatClampNeg = 11 from by decide] at hM
            rw [mup_i] at hM
            have hM : MW g (mup M (gA g 47) (aI g 929 (upd (upd (upd (upd f (64 + n1) x) (70 + n1) n) (76 + n1) (if u = 0 then 0 else 1)) 11 (nI (n1 + 1))))) H locs := hM
            refine lv_aload_n hx hb dX12_note_120 rfl (lv_at hl 0 rfl) ?_
            refine r_get (T := TX12) (N := 20) (ci := 12) (v := .ref (gA g 47)) X hM iX12 rfl 1 (by decide) q_836 (Or.inl rfl) (mup_r (X.2.ne (i := 46) (j := 47) (by decide) (by decide) (by decide)) h46) rfl dX12_note_121 ?_
            refine lv_bipush (v := 11) hx hb dX12_note_124 (by decide) ?_
            refine r_iald (i := 11) X hM (mup_s _ _ _) (vp_in_nI (n := 11) (by decide) (by decide)) dX12_note_126 ?_
            rw [show ((11 : Int32)).toNatClampNeg = 11 from by decide]
            rw [show upd (upd (upd (upd f (64 + n1) x) (70 + n1) n) (76 + n1) (if u = 0 then 0 else 1)) 11 (nI (n1 + 1)) 11 = nI (n1 + 1) from upd_eq]
            have e9 : mNote f L n1 x n u = (nI (n1 + 1), upd (upd (upd (upd f (64 + n1) x) (70 + n1) n) (76 + n1) (if u = 0 then 0 else 1)) 11 (nI (n1 + 1))) := by
              unfold mNote; (first | rw [if_pos c_1] | rw [if_neg c_1] | skip); (first | rw [if_pos c_2] | rw [if_neg c_2] | skip); (first | rw [if_pos c_3] | rw [if_neg c_3] | skip); (first | rw [if_pos hq] | rw [if_neg hq] | skip); all_goals first | rfl | (simp only [if_true])
            exact R_i X hr hk hM ⟨(by rw [e9]), (by rw [e9] <;> first | rfl | (dsimp only; done) | (dsimp only; simp only [mup_id h47]; done) | (simp only [mup_id h47]; done))⟩ dX12_note_127
          refine lv_if_eq (tgt := 107) hx hb dX12_note_100 (by decide) (fun c_5 => ?_) (fun c_5 => ?_)
          · skip
            refine lv_iconst (v := 0) hx hb dX12_note_107 (by decide) ?_
            exact J100 _ _ _ hM (by (first | rw [if_pos c_5] | rw [if_neg c_5] | skip); all_goals (first | rfl | simp [*]))
          · skip
            refine lv_iconst (v := 1) hx hb dX12_note_103 (by decide) ?_
            refine lv_goto (tgt := 108) hx hb dX12_note_104 (by decide) ?_
            exact J100 _ _ _ hM (by (first | rw [if_pos c_5] | rw [if_neg c_5] | skip); all_goals (first | rfl | simp [*]))
        · skip
          have hq : n1 = 6 := (nI_eq (b := 6) (by omega) (by omega)).mp c_4
          refine lv_bipush (v := -4) hx hb dX12_note_50 (by decide) ?_
          have e9 : mNote f L n1 x n u = (-4, f) := by
            unfold mNote; (first | rw [if_pos c_1] | rw [if_neg c_1] | skip); (first | rw [if_pos c_2] | rw [if_neg c_2] | skip); (first | rw [if_pos c_3] | rw [if_neg c_3] | skip); (first | rw [if_pos hq] | rw [if_neg hq] | skip); all_goals first | rfl | (simp only [if_true])
          exact R_i X hr hk hM ⟨(by rw [e9]), (by rw [e9] <;> first | rfl | (dsimp only; done) | (dsimp only; simp only [mup_id h47]; done) | (simp only [mup_id h47]; done) | (rw [mup_id h47]) | (dsimp only; rw [mup_id h47]))⟩ dX12_note_52
      · skip
        refine lv_bipush (v := -2) hx hb dX12_note_35 (by decide) ?_
        have e9 : mNote f L n1 x n u = (-2, f) := by
          unfold mNote; (first | rw [if_pos c_1] | rw [if_neg c_1] | skip); (first | rw [if_pos c_2] | rw [if_neg c_2] | skip); (first | rw [if_pos c_3] | rw [if_neg c_3] | skip); all_goals first | rfl | (simp only [if_true])
        exact R_i X hr hk hM ⟨(by rw [e9]), (by rw [e9] <;> first | rfl | (dsimp only; done) | (dsimp only; simp only [mup_id h47]; done) | (simp only [mup_id h47]; done) | (rw [mup_id h47]) | (dsimp only; rw [mup_id h47]))⟩ dX12_note_37
    · skip
      refine lv_iconst (v := -1) hx hb dX12_note_23 (by decide) ?_
      have e9 : mNote f L n1 x n u = (-1, f) := by
        unfold mNote; (first | rw [if_pos c_1] | rw [if_neg c_1] | skip); (first | rw [if_pos c_2] | rw [if_neg c_2] | skip); all_goals first | rfl | (simp only [if_true])
      exact R_i X hr hk hM ⟨(by rw [e9]), (by rw [e9] <;> first | rfl | (dsimp only; done) | (dsimp only; simp only [mup_id h47]; done) | (simp only [mup_id h47]; done) | (rw [mup_id h47]) | (dsimp only; rw [mup_id h47]))⟩ dX12_note_24
  · skip
    refine lv_aload_n hx hb dX12_note_5 rfl (lv_at hl 0 rfl) ?_
    refine r_get (T := TX12) (N := 20) (ci := 12) (v := .ref (gA g 47)) X hM iX12 rfl 1 (by decide) q_836 (Or.inl rfl) h46 rfl dX12_note_6 ?_
    refine lv_bipush (v := 11) hx hb dX12_note_9 (by decide) ?_
    refine lv_iconst (v := 0) hx hb dX12_note_11 (by decide) ?_
    refine r_iast (i := 11) (x := 0) X hM h47 (vp_in_nI (n := 11) (by decide) (by decide)) dX12_note_12 (fun H locs hM => ?_)
    rw [show ((11 : Int32)).toNatClampNeg = 11 from by decide] at hM
    have hM : MW g (mup M (gA g 47) (aI g 929 (upd f 11 0))) H locs := hM
    refine lv_iconst (v := 0) hx hb dX12_note_13 (by decide) ?_
    have e9 : mNote f L n1 x n u = (0, upd f 11 0) := by
      unfold mNote; (first | rw [if_pos c_1] | rw [if_neg c_1] | skip); all_goals first | rfl | (simp only [if_true])
    exact R_i X hr hk hM ⟨(by rw [e9]), (by rw [e9] <;> first | rfl | (dsimp only; done) | (dsimp only; simp only [mup_id h47]; done) | (simp only [mup_id h47]; done))⟩ dX12_note_14
set_option maxHeartbeats 4000000 in
set_option maxRecDepth 100000 in
theorem c_X12_plan (l : Launch) (g : Gp) (M : Mem) (m0 m1 m2 m3 m4 m5 m6 m7 m8 m9 m10 m11 : Int32) (f : Nat → Int32) (L : Nat) (n1 : Nat) (w x : Int32) (h46 : M (gA g 46) = some (mdE g m0 m1 m2 m3 m4 m5 m6 m7 m8 m9 m10 m11)) (h47 : M (gA g 47) = some (aI g 929 f)) (h9 : f 9 = nI L) (hL : L ≤ 6) (h11 : f 12 = nI n1) (hb9 : n1 ≤ 8) : Met l yX12_plan (wsM yX12_plan cX12_plan 3 (some .int)) (rmD 3 0 0) (Pre g M [.ref (gA g 46), .int w, .int x]) (Qi g (fun r M1 => ((mPlan f L n1 w x).1) = r ∧ mup M (gA g 47) (aI g 929 ((mPlan f L n1 w x).2)) = M1)) 0 0 (gF g) := M_start (by decide +kernel) (Nat.le_of_ble_eq_true rfl) fun p e s m args below meth c ls X hr hk hnm hM hl => by
  have X : Cx g p m c cX12_plan 3 s args RX12 := X
  have hx := X.1.1
  have hb := X.1.2.1
  have hl : lv_has ls 3 [(0, .ref (gA g 46)), (1, .int w), (2, .int x)] := hl
  refine lv_iload_n hx hb dX12_plan_0 rfl (lv_at hl 1 rfl) ?_
  refine lv_iconst (v := -1) hx hb dX12_plan_1 (by decide) ?_
  refine lv_icmp_ne (tgt := 15) hx hb dX12_plan_2 (by decide) (fun c_1 => ?_) (fun c_1 => ?_)
  · skip
    refine lv_iload_n hx hb dX12_plan_15 rfl (lv_at hl 1 rfl) ?_
    refine lv_iconst (v := 0) hx hb dX12_plan_16 (by decide) ?_
    refine lv_iconst (v := 2) hx hb dX12_plan_17 (by decide) ?_
    refine K_i (G_S (As := [.int w, .int 0, .int 2]) (rest := []) X hM (c_X12_in l g _ w 0 2  ) lk_X12_41 rfl hl.1 rfl (Nat.le_of_ble_eq_true rfl) (by decide) dX12_plan_18 ⟨Nat.le_of_ble_eq_true rfl, Nat.le_of_ble_eq_true rfl⟩) hM (fun r M1 H locs hM hp => ?_)
    obtain ⟨rfl, rfl⟩ := hp
    refine lv_if_eq (tgt := 36) hx hb dX12_plan_21 (by decide) (fun c_2 => ?_) (fun c_2 => ?_)
    · skip
      refine lv_iconst (v := -1) hx hb dX12_plan_36 (by decide) ?_
      have e9 : mPlan f L n1 w x = (-1, f) := by
        unfold mPlan; (first | rw [if_pos c_1] | rw [if_neg c_1] | skip); (first | rw [if_pos c_2] | rw [if_neg c_2] | skip); all_goals first | rfl | (simp only [if_true])
      exact R_i X hr hk hM ⟨(by rw [e9]), (by rw [e9] <;> first | rfl | (dsimp only; done) | (dsimp only; simp only [mup_id h47]; done) | (simp only [mup_id h47]; done) | (rw [mup_id h47]) | (dsimp only; rw [mup_id h47]))⟩ dX12_plan_37
    · skip
      refine lv_iload_n hx hb dX12_plan_24 rfl (lv_at hl 1 rfl) ?_
      refine lv_if_le (tgt := 38) hx hb dX12_plan_25 (by decide) (fun c_3 => ?_) (fun c_3 => ?_)
      · skip
        refine lv_aload_n hx hb dX12_plan_38 rfl (lv_at hl 0 rfl) ?_
        refine r_get (T := TX12) (N := 20) (ci := 12) (v := .ref (gA g 47)) X hM iX12 rfl 1 (by decide) q_836 (Or.inl rfl) h46 rfl dX12_plan_39 ?_
        refine lv_bipush (v := 12) hx hb dX12_plan_42 (by decide) ?_
        refine r_iald (i := 12) X hM h47 (vp_in_nI (n := 12) (by decide) (by decide)) dX12_plan_44 ?_
        rw [show ((12 : Int32)).toNatClampNeg = 12 from by decide]
        rw [show f 12 = nI n1 from by exact h11]
        refine lv_bipush (v := 8) hx hb dX12_plan_45 (by decide) ?_
        refine lv_icmp_ne (tgt := 53) hx hb dX12_plan_47 (by decide) (fun c_4 => ?_) (fun c_4 => ?_)
        · skip
          have hq : ¬ n1 = 8 := fun q => c_4 (by rw [q]; decide)
          have hq9 : n1 < 8 := by omega
          refine lv_aload_n hx hb dX12_plan_53 rfl (lv_at hl 0 rfl) ?_
          refine r_get (T := TX12) (N := 20) (ci := 12) (v := .ref (gA g 47)) X hM iX12 rfl 1 (by decide) q_836 (Or.inl rfl) h46 rfl dX12_plan_54 ?_
          refine lv_bipush (v := 82) hx hb dX12_plan_57 (by decide) ?_
          refine lv_aload_n hx hb dX12_plan_59 rfl (lv_at hl 0 rfl) ?_
          refine r_get (T := TX12) (N := 20) (ci := 12) (v := .ref (gA g 47)) X hM iX12 rfl 1 (by decide) q_836 (Or.inl rfl) h46 rfl dX12_plan_60 ?_
          refine lv_bipush (v := 12) hx hb dX12_plan_63 (by decide) ?_
          refine r_iald (i := 12) X hM h47 (vp_in_nI (n := 12) (by decide) (by decide)) dX12_plan_65 ?_
          rw [show ((12 : Int32)).toNatClampNeg = 12 from by decide]
          rw [show f 12 = nI n1 from by exact h11]
          refine lv_iadd hx hb dX12_plan_66 ?_
          rw [show (82 : Int32) + (nI n1) = nI (82 + n1) from nI_add 82 n1]
          refine lv_iload_n hx hb dX12_plan_67 rfl (lv_at hl 1 rfl) ?_
          refine r_iast (i := nI (82 + n1)) (x := w) X hM h47 (vp_in_nI (by omega) (by decide)) dX12_plan_68 (fun H locs hM => ?_)
          rw [nI_clamp (show 82 + n1 < 2147483648 by omega)] at hM
          have hM : MW g (mup M (gA g 47) (aI g 929 (upd f (82 + n1) w))) H locs := hM
          refine lv_aload_n hx hb dX12_plan_69 rfl (lv_at hl 0 rfl) ?_
          refine r_get (T := TX12) (N := 20) (ci := 12) (v := .ref (gA g 47)) X hM iX12 rfl 1 (by decide) q_836 (Or.inl rfl) (mup_r (X.2.ne (i := 46) (j := 47) (by decide) (by decide) (by decide)) h46) rfl dX12_plan_70 ?_
          refine lv_bipush (v := 90) hx hb dX12_plan_73 (by decide) ?_
          refine lv_aload_n hx hb dX12_plan_75 rfl (lv_at hl 0 rfl) ?_
          refine r_get (T := TX12) (N := 20) (ci := 12) (v := .ref (gA g 47)) X hM iX12 rfl 1 (by decide) q_836 (Or.inl rfl) (mup_r (X.2.ne (i := 46) (j := 47) (by decide) (by decide) (by decide)) h46) rfl dX12_plan_76 ?_
          refine lv_bipush (v := 12) hx hb dX12_plan_79 (by decide) ?_
          refine r_iald (i := 12) X hM (mup_s _ _ _) (vp_in_nI (n := 12) (by decide) (by decide)) dX12_plan_81 ?_
          rw [show ((12 : Int32)).toNatClampNeg = 12 from by decide]
          rw [show (upd f (82 + n1) w) 12 = nI n1 from by rw [upd_ne (by omega)]; exact h11]
          refine lv_iadd hx hb dX12_plan_82 ?_
          rw [show (90 : Int32) + (nI n1) = nI (90 + n1) from nI_add 90 n1]
          refine lv_iload_n hx hb dX12_plan_83 rfl (lv_at hl 2 rfl) ?_
          refine r_iast (i := nI (90 + n1)) (x := x) X hM (mup_s _ _ _) (vp_in_nI (by omega) (by decide)) dX12_plan_84 (fun H locs hM => ?_)
          rw [nI_clamp (show 90 + n1 < 2147483648 by omega)] at hM
          rw [mup_i] at hM
          have hM : MW g (mup M (gA g 47) (aI g 929 (upd (upd f (82 + n1) w) (90 + n1) x))) H locs := hM
          refine lv_aload_n hx hb dX12_plan_85 rfl (lv_at hl 0 rfl) ?_
          refine r_get (T := TX12) (N := 20) (ci := 12) (v := .ref (gA g 47)) X hM iX12 rfl 1 (by decide) q_836 (Or.inl rfl) (mup_r (X.2.ne (i := 46) (j := 47) (by decide) (by decide) (by decide)) h46) rfl dX12_plan_86 ?_
          refine lv_bipush (v := 12) hx hb dX12_plan_89 (by decide) ?_
          refine lv_dup2_11 hx hb dX12_plan_91 rfl rfl ?_
          refine r_iald (i := 12) X hM (mup_s _ _ _) (vp_in_nI (n := 12) (by decide) (by decide)) dX12_plan_92 ?_
          rw [show ((12 : Int32)).toNatClampNeg = 12 from by decide]
          rw [show (upd (upd f (82 + n1) w) (90 + n1) x) 12 = nI n1 from by rw [upd_ne (by omega), upd_ne (by omega)]; exact h11]
          refine lv_iconst (v := 1) hx hb dX12_plan_93 (by decide) ?_
          refine lv_iadd hx hb dX12_plan_94 ?_
          rw [show (nI n1) + (1 : Int32) = nI (n1 + 1) from nI_add n1 1]
          refine r_iast (i := 12) (x := nI (n1 + 1)) X hM (mup_s _ _ _) (vp_in_nI (n := 12) (by decide) (by decide)) dX12_plan_95 (fun H locs hM => ?_)
          rw [show ((12 : Int32)).toNatClampNeg = 12 from by decide] at hM
          rw [mup_i] at hM
          have hM : MW g (mup M (gA g 47) (aI g 929 (upd (upd (upd f (82 + n1) w) (90 + n1) x) 12 (nI (n1 + 1))))) H locs := hM
          refine lv_aload_n hx hb dX12_plan_96 rfl (lv_at hl 0 rfl) ?_
          refine r_get (T := TX12) (N := 20) (ci := 12) (v := .ref (gA g 47)) X hM iX12 rfl 1 (by decide) q_836 (Or.inl rfl) (mup_r (X.2.ne (i := 46) (j := 47) (by decide) (by decide) (by decide)) h46) rfl dX12_plan_97 ?_
          refine lv_bipush (v := 12) hx hb dX12_plan_100 (by decide) ?_
          refine r_iald (i := 12) X hM (mup_s _ _ _) (vp_in_nI (n := 12) (by decide) (by decide)) dX12_plan_102 ?_
          rw [show ((12 : Int32)).toNatClampNeg = 12 from by decide]
          rw [show upd (upd (upd f (82 + n1) w) (90 + n1) x) 12 (nI (n1 + 1)) 12 = nI (n1 + 1) from upd_eq]
          have e9 : mPlan f L n1 w x = (nI (n1 + 1), upd (upd (upd f (82 + n1) w) (90 + n1) x) 12 (nI (n1 + 1))) := by
            unfold mPlan; (first | rw [if_pos c_1] | rw [if_neg c_1] | skip); (first | rw [if_pos c_2] | rw [if_neg c_2] | skip); (first | rw [if_pos c_3] | rw [if_neg c_3] | skip); (first | rw [if_pos hq] | rw [if_neg hq] | skip); all_goals first | rfl | (simp only [if_true])
          exact R_i X hr hk hM ⟨(by rw [e9]), (by rw [e9] <;> first | rfl | (dsimp only; done) | (dsimp only; simp only [mup_id h47]; done) | (simp only [mup_id h47]; done))⟩ dX12_plan_103
        · skip
          have hq : n1 = 8 := (nI_eq (b := 8) (by omega) (by omega)).mp c_4
          refine lv_bipush (v := -4) hx hb dX12_plan_50 (by decide) ?_
          have e9 : mPlan f L n1 w x = (-4, f) := by
            unfold mPlan; (first | rw [if_pos c_1] | rw [if_neg c_1] | skip); (first | rw [if_pos c_2] | rw [if_neg c_2] | skip); (first | rw [if_pos c_3] | rw [if_neg c_3] | skip); (first | rw [if_pos hq] | rw [if_neg hq] | skip); all_goals first | rfl | (simp only [if_true])
          exact R_i X hr hk hM ⟨(by rw [e9]), (by rw [e9] <;> first | rfl | (dsimp only; done) | (dsimp only; simp only [mup_id h47]; done) | (simp only [mup_id h47]; done) | (rw [mup_id h47]) | (dsimp only; rw [mup_id h47]))⟩ dX12_plan_52
      · skip
        refine lv_aload_n hx hb dX12_plan_28 rfl (lv_at hl 0 rfl) ?_
        refine lv_iload_n hx hb dX12_plan_29 rfl (lv_at hl 2 rfl) ?_
        refine K_i (G_V (As := [.int x]) (rest := []) X hM (c_X12_isLightL l g _ m0 m1 m2 m3 m4 m5 m6 m7 m8 m9 m10 m11 f L x h46 h47 h9 hL) lk_X12_148 h46 rfl rfl hl.1 rfl (Nat.le_of_ble_eq_true rfl) (by decide) dX12_plan_30 ⟨Nat.le_of_ble_eq_true rfl, Nat.le_of_ble_eq_true rfl⟩) hM (fun r M1 H locs hM hp => ?_)
        obtain ⟨rfl, rfl⟩ := hp
        refine lv_if_ne (tgt := 38) hx hb dX12_plan_33 (by decide) (fun c_5 => ?_) (fun c_5 => ?_)
        · skip
          refine lv_aload_n hx hb dX12_plan_38 rfl (lv_at hl 0 rfl) ?_
          refine r_get (T := TX12) (N := 20) (ci := 12) (v := .ref (gA g 47)) X hM iX12 rfl 1 (by decide) q_836 (Or.inl rfl) h46 rfl dX12_plan_39 ?_
          refine lv_bipush (v := 12) hx hb dX12_plan_42 (by decide) ?_
          refine r_iald (i := 12) X hM h47 (vp_in_nI (n := 12) (by decide) (by decide)) dX12_plan_44 ?_
          rw [show ((12 : Int32)).toNatClampNeg = 12 from by decide]
          rw [show f 12 = nI n1 from by exact h11]
          refine lv_bipush (v := 8) hx hb dX12_plan_45 (by decide) ?_
          refine lv_icmp_ne (tgt := 53) hx hb dX12_plan_47 (by decide) (fun c_6 => ?_) (fun c_6 => ?_)
          · skip
            have hq : ¬ n1 = 8 := fun q => c_6 (by rw [q]; decide)
            have hq9 : n1 < 8 := by omega
            refine lv_aload_n hx hb dX12_plan_53 rfl (lv_at hl 0 rfl) ?_
            refine r_get (T := TX12) (N := 20) (ci := 12) (v := .ref (gA g 47)) X hM iX12 rfl 1 (by decide) q_836 (Or.inl rfl) h46 rfl dX12_plan_54 ?_
            refine lv_bipush (v := 82) hx hb dX12_plan_57 (by decide) ?_
            refine lv_aload_n hx hb dX12_plan_59 rfl (lv_at hl 0 rfl) ?_
            refine r_get (T := TX12) (N := 20) (ci := 12) (v := .ref (gA g 47)) X hM iX12 rfl 1 (by decide) q_836 (Or.inl rfl) h46 rfl dX12_plan_60 ?_
            refine lv_bipush (v := 12) hx hb dX12_plan_63 (by decide) ?_
            refine r_iald (i := 12) X hM h47 (vp_in_nI (n := 12) (by decide) (by decide)) dX12_plan_65 ?_
            rw [show ((12 : Int32)).toNatClampNeg = 12 from by decide]
            rw [show f 12 = nI n1 from by exact h11]
            refine lv_iadd hx hb dX12_plan_66 ?_
            rw [show (82 : Int32) + (nI n1) = nI (82 + n1) from nI_add 82 n1]
            refine lv_iload_n hx hb dX12_plan_67 rfl (lv_at hl 1 rfl) ?_
            refine r_iast (i := nI (82 + n1)) (x := w) X hM h47 (vp_in_nI (by omega) (by decide)) dX12_plan_68 (fun H locs hM => ?_)
            rw [nI_clamp (show 82 + n1 < 2147483648 by omega)] at hM
            have hM : MW g (mup M (gA g 47) (aI g 929 (upd f (82 + n1) w))) H locs := hM
            refine lv_aload_n hx hb dX12_plan_69 rfl (lv_at hl 0 rfl) ?_
            refine r_get (T := TX12) (N := 20) (ci := 12) (v := .ref (gA g 47)) X hM iX12 rfl 1 (by decide) q_836 (Or.inl rfl) (mup_r (X.2.ne (i := 46) (j := 47) (by decide) (by decide) (by decide)) h46) rfl dX12_plan_70 ?_
            refine lv_bipush (v := 90) hx hb dX12_plan_73 (by decide) ?_
            refine lv_aload_n hx hb dX12_plan_75 rfl (lv_at hl 0 rfl) ?_
            refine r_get (T := TX12) (N := 20) (ci := 12) (v := .ref (gA g 47)) X hM iX12 rfl 1 (by decide) q_836 (Or.inl rfl) (mup_r (X.2.ne (i := 46) (j := 47) (by decide) (by decide) (by decide)) h46) rfl dX12_plan_76 ?_
            refine lv_bipush (v := 12) hx hb dX12_plan_79 (by decide) ?_
            refine r_iald (i := 12) X hM (mup_s _ _ _) (vp_in_nI (n := 12) (by decide) (by decide)) dX12_plan_81 ?_
            rw [show ((12 : Int32)).toNatClampNeg = 12 from by decide]
            rw [show (upd f (82 + n1) w) 12 = nI n1 from by rw [upd_ne (by omega)]; exact h11]
            refine lv_iadd hx hb dX12_plan_82 ?_
            rw [show (90 : Int32) + (nI n1) = nI (90 + n1) from nI_add 90 n1]
            refine lv_iload_n hx hb dX12_plan_83 rfl (lv_at hl 2 rfl) ?_
            refine r_iast (i := nI (90 + n1)) (x := x) X hM (mup_s _ _ _) (vp_in_nI (by omega) (by decide)) dX12_plan_84 (fun H locs hM => ?_)
            rw [nI_clamp (show 90 + n1 < 2147483648 by omega)] at hM
            rw [mup_i] at hM
            have hM : MW g (mup M (gA g 47) (aI g 929 (upd (upd f (82 + n1) w) (90 + n1) x))) H locs := hM
            refine lv_aload_n hx hb dX12_plan_85 rfl (lv_at hl 0 rfl) ?_
            refine r_get (T := TX12) (N := 20) (ci := 12) (v := .ref (gA g 47)) X hM iX12 rfl 1 (by decide) q_836 (Or.inl rfl) (mup_r (X.2.ne (i := 46) (j := 47) (by decide) (by decide) (by decide)) h46) rfl dX12_plan_86 ?_
            refine lv_bipush (v := 12) hx hb dX12_plan_89 (by decide) ?_
            refine lv_dup2_11 hx hb dX12_plan_91 rfl rfl ?_
            refine r_iald (i := 12) X hM (mup_s _ _ _) (vp_in_nI (n := 12) (by decide) (by decide)) dX12_plan_92 ?_
            rw [show ((12 : Int32)).toNatClampNeg = 12 from by decide]
            rw [show (upd (upd f (82 + n1) w) (90 + n1) x) 12 = nI n1 from by rw [upd_ne (by omega), upd_ne (by omega)]; exact h11]
            refine lv_iconst (v := 1) hx hb dX12_plan_93 (by decide) ?_
            refine lv_iadd hx hb dX12_plan_94 ?_
            rw [show (nI n1) + (1 : Int32) = nI (n1 + 1) from nI_add n1 1]
            refine r_iast (i := 12) (x := nI (n1 + 1)) X hM (mup_s _ _ _) (vp_in_nI (n := 12) (by decide) (by decide)) dX12_plan_95 (fun H locs hM => ?_)
            rw [show ((12 : Int32)).toNatClampNeg = 12 from by decide] at hM
            rw [mup_i] at hM
            have hM : MW g (mup M (gA g 47) (aI g 929 (upd (upd (upd f (82 + n1) w) (90 + n1) x) 12 (nI (n1 + 1))))) H locs := hM
            refine lv_aload_n hx hb dX12_plan_96 rfl (lv_at hl 0 rfl) ?_
            refine r_get (T := TX12) (N := 20) (ci := 12) (v := .ref (gA g 47)) X hM iX12 rfl 1 (by decide) q_836 (Or.inl rfl) (mup_r (X.2.ne (i := 46) (j := 47) (by decide) (by decide) (by decide)) h46) rfl dX12_plan_97 ?_
            refine lv_bipush (v := 12) hx hb dX12_plan_100 (by decide) ?_
            refine r_iald (i := 12) X hM (mup_s _ _ _) (vp_in_nI (n := 12) (by decide) (by decide)) dX12_plan_102 ?_
            rw [show ((12 : Int32)).toNatClampNeg = 12 from by decide]
            rw [show upd (upd (upd f (82 + n1) w) (90 + n1) x) 12 (nI (n1 + 1)) 12 = nI (n1 + 1) from upd_eq]
            have e9 : mPlan f L n1 w x = (nI (n1 + 1), upd (upd (upd f (82 + n1) w) (90 + n1) x) 12 (nI (n1 + 1))) := by
              unfold mPlan; (first | rw [if_pos c_1] | rw [if_neg c_1] | skip); (first | rw [if_pos c_2] | rw [if_neg c_2] | skip); (first | rw [if_pos c_3] | rw [if_neg c_3] | skip); (first | rw [if_pos c_5] | rw [if_neg c_5] | skip); (first | rw [if_pos hq] | rw [if_neg hq] | skip); all_goals first | rfl | (simp only [if_true])
            exact R_i X hr hk hM ⟨(by rw [e9]), (by rw [e9] <;> first | rfl | (dsimp only; done) | (dsimp only; simp only [mup_id h47]; done) | (simp only [mup_id h47]; done))⟩ dX12_plan_103
          · skip
            have hq : n1 = 8 := (nI_eq (b := 8) (by omega) (by omega)).mp c_6
            refine lv_bipush (v := -4) hx hb dX12_plan_50 (by decide) ?_
            have e9 : mPlan f L n1 w x = (-4, f) := by
              unfold mPlan; (first | rw [if_pos c_1] | rw [if_neg c_1] | skip); (first | rw [if_pos c_2] | rw [if_neg c_2] | skip); (first | rw [if_pos c_3] | rw [if_neg c_3] | skip); (first | rw [if_pos c_5] | rw [if_neg c_5] | skip); (first | rw [if_pos hq] | rw [if_neg hq] | skip); all_goals first | rfl | (simp only [if_true])
            exact R_i X hr hk hM ⟨(by rw [e9]), (by rw [e9] <;> first | rfl | (dsimp only; done) | (dsimp only; simp only [mup_id h47]; done) | (simp only [mup_id h47]; done) | (rw [mup_id h47]) | (dsimp only; rw [mup_id h47]))⟩ dX12_plan_52
        · skip
          refine lv_iconst (v := -1) hx hb dX12_plan_36 (by decide) ?_
          have e9 : mPlan f L n1 w x = (-1, f) := by
            unfold mPlan; (first | rw [if_pos c_1] | rw [if_neg c_1] | skip); (first | rw [if_pos c_2] | rw [if_neg c_2] | skip); (first | rw [if_pos c_3] | rw [if_neg c_3] | skip); (first | rw [if_pos c_5] | rw [if_neg c_5] | skip); all_goals first | rfl | (simp only [if_true])
          exact R_i X hr hk hM ⟨(by rw [e9]), (by rw [e9] <;> first | rfl | (dsimp only; done) | (dsimp only; simp only [mup_id h47]; done) | (simp only [mup_id h47]; done) | (rw [mup_id h47]) | (dsimp only; rw [mup_id h47]))⟩ dX12_plan_37
  · skip
    refine lv_aload_n hx hb dX12_plan_5 rfl (lv_at hl 0 rfl) ?_
    refine r_get (T := TX12) (N := 20) (ci := 12) (v := .ref (gA g 47)) X hM iX12 rfl 1 (by decide) q_836 (Or.inl rfl) h46 rfl dX12_plan_6 ?_
    refine lv_bipush (v := 12) hx hb dX12_plan_9 (by decide) ?_
    refine lv_iconst (v := 0) hx hb dX12_plan_11 (by decide) ?_
    refine r_iast (i := 12) (x := 0) X hM h47 (vp_in_nI (n := 12) (by decide) (by decide)) dX12_plan_12 (fun H locs hM => ?_)
    rw [show ((12 : Int32)).toNatClampNeg = 12 from by decide] at hM
    have hM : MW g (mup M (gA g 47) (aI g 929 (upd f 12 0))) H locs := hM
    refine lv_iconst (v := 0) hx hb dX12_plan_13 (by decide) ?_
    have e9 : mPlan f L n1 w x = (0, upd f 12 0) := by
      unfold mPlan; (first | rw [if_pos c_1] | rw [if_neg c_1] | skip); all_goals first | rfl | (simp only [if_true])
    exact R_i X hr hk hM ⟨(by rw [e9]), (by rw [e9] <;> first | rfl | (dsimp only; done) | (dsimp only; simp only [mup_id h47]; done) | (simp only [mup_id h47]; done))⟩ dX12_plan_14
set_option maxHeartbeats 4000000 in
set_option maxRecDepth 100000 in
theorem c_X12_book (l : Launch) (g : Gp) (M : Mem) (m0 m1 m2 m3 m4 m5 m6 m7 m8 m9 m10 m11 : Int32) (f : Nat → Int32) (n1 : Nat) (n ho : Int32) (h46 : M (gA g 46) = some (mdE g m0 m1 m2 m3 m4 m5 m6 m7 m8 m9 m10 m11)) (h47 : M (gA g 47) = some (aI g 929 f)) (h11 : f 13 = nI n1) (hb9 : n1 ≤ 8) : Met l yX12_book (wsM yX12_book cX12_book 3 (some .int)) (rmD 3 0 0) (Pre g M [.ref (gA g 46), .int n, .int ho]) (Qi g (fun r M1 => ((mBook f n1 n ho).1) = r ∧ mup M (gA g 47) (aI g 929 ((mBook f n1 n ho).2)) = M1)) 0 0 (gF g) := M_start (by decide +kernel) (Nat.le_of_ble_eq_true rfl) fun p e s m args below meth c ls X hr hk hnm hM hl => by
  have X : Cx g p m c cX12_book 3 s args RX12 := X
  have hx := X.1.1
  have hb := X.1.2.1
  have hl : lv_has ls 3 [(0, .ref (gA g 46)), (1, .int n), (2, .int ho)] := hl
  refine lv_iload_n hx hb dX12_book_0 rfl (lv_at hl 1 rfl) ?_
  refine lv_iconst (v := -1) hx hb dX12_book_1 (by decide) ?_
  refine lv_icmp_ne (tgt := 15) hx hb dX12_book_2 (by decide) (fun c_1 => ?_) (fun c_1 => ?_)
  · skip
    refine lv_iload_n hx hb dX12_book_15 rfl (lv_at hl 2 rfl) ?_
    refine K_i (G_S (As := [.int ho]) (rest := []) X hM (c_X12_isHouse l g _ ho  ) lk_X12_151 rfl hl.1 rfl (Nat.le_of_ble_eq_true rfl) (by decide) dX12_book_16 ⟨Nat.le_of_ble_eq_true rfl, Nat.le_of_ble_eq_true rfl⟩) hM (fun r M1 H locs hM hp => ?_)
    obtain ⟨rfl, rfl⟩ := hp
    refine lv_if_ne (tgt := 24) hx hb dX12_book_19 (by decide) (fun c_2 => ?_) (fun c_2 => ?_)
    · skip
      refine lv_iload_n hx hb dX12_book_24 rfl (lv_at hl 1 rfl) ?_
      refine lv_iconst (v := 0) hx hb dX12_book_25 (by decide) ?_
      refine lv_bipush (v := 60) hx hb dX12_book_26 (by decide) ?_
      refine K_i (G_S (As := [.int n, .int 0, .int 60]) (rest := []) X hM (c_X12_in l g _ n 0 60  ) lk_X12_41 rfl hl.1 rfl (Nat.le_of_ble_eq_true rfl) (by decide) dX12_book_28 ⟨Nat.le_of_ble_eq_true rfl, Nat.le_of_ble_eq_true rfl⟩) hM (fun r M1 H locs hM hp => ?_)
      obtain ⟨rfl, rfl⟩ := hp
      refine lv_if_ne (tgt := 37) hx hb dX12_book_31 (by decide) (fun c_3 => ?_) (fun c_3 => ?_)
      · skip
        refine lv_aload_n hx hb dX12_book_37 rfl (lv_at hl 0 rfl) ?_
        refine r_get (T := TX12) (N := 20) (ci := 12) (v := .ref (gA g 47)) X hM iX12 rfl 1 (by decide) q_836 (Or.inl rfl) h46 rfl dX12_book_38 ?_
        refine lv_bipush (v := 13) hx hb dX12_book_41 (by decide) ?_
        refine r_iald (i := 13) X hM h47 (vp_in_nI (n := 13) (by decide) (by decide)) dX12_book_43 ?_
        rw [show ((13 : Int32)).toNatClampNeg = 13 from by decide]
        rw [show f 13 = nI n1 from by exact h11]
        refine lv_bipush (v := 8) hx hb dX12_book_44 (by decide) ?_
        refine lv_icmp_ne (tgt := 52) hx hb dX12_book_46 (by decide) (fun c_4 => ?_) (fun c_4 => ?_)
        · skip
          have hq : ¬ n1 = 8 := fun q => c_4 (by rw [q]; decide)
          have hq9 : n1 < 8 := by omega
          refine lv_aload_n hx hb dX12_book_52 rfl (lv_at hl 0 rfl) ?_
          refine r_get (T := TX12) (N := 20) (ci := 12) (v := .ref (gA g 47)) X hM iX12 rfl 1 (by decide) q_836 (Or.inl rfl) h46 rfl dX12_book_53 ?_
          refine lv_bipush (v := 98) hx hb dX12_book_56 (by decide) ?_
          refine lv_aload_n hx hb dX12_book_58 rfl (lv_at hl 0 rfl) ?_
          refine r_get (T := TX12) (N := 20) (ci := 12) (v := .ref (gA g 47)) X hM iX12 rfl 1 (by decide) q_836 (Or.inl rfl) h46 rfl dX12_book_59 ?_
          refine lv_bipush (v := 13) hx hb dX12_book_62 (by decide) ?_
          refine r_iald (i := 13) X hM h47 (vp_in_nI (n := 13) (by decide) (by decide)) dX12_book_64 ?_
          rw [show ((13 : Int32)).toNatClampNeg = 13 from by decide]
          rw [show f 13 = nI n1 from by exact h11]
          refine lv_iadd hx hb dX12_book_65 ?_
          rw [show (98 : Int32) + (nI n1) = nI (98 + n1) from nI_add 98 n1]
          refine lv_iload_n hx hb dX12_book_66 rfl (lv_at hl 1 rfl) ?_
          refine r_iast (i := nI (98 + n1)) (x := n) X hM h47 (vp_in_nI (by omega) (by decide)) dX12_book_67 (fun H locs hM => ?_)
          rw [nI_clamp (show 98 + n1 < 2147483648 by omega)] at hM
          have hM : MW g (mup M (gA g 47) (aI g 929 (upd f (98 + n1) n))) H locs := hM
          refine lv_aload_n hx hb dX12_book_68 rfl (lv_at hl 0 rfl) ?_
          refine r_get (T := TX12) (N := 20) (ci := 12) (v := .ref (gA g 47)) X hM iX12 rfl 1 (by decide) q_836 (Or.inl rfl) (mup_r (X.2.ne (i := 46) (j := 47) (by decide) (by decide) (by decide)) h46) rfl dX12_book_69 ?_
          refine lv_bipush (v := 106) hx hb dX12_book_72 (by decide) ?_
          refine lv_aload_n hx hb dX12_book_74 rfl (lv_at hl 0 rfl) ?_
          refine r_get (T := TX12) (N := 20) (ci := 12) (v := .ref (gA g 47)) X hM iX12 rfl 1 (by decide) q_836 (Or.inl rfl) (mup_r (X.2.ne (i := 46) (j := 47) (by decide) (by decide) (by decide)) h46) rfl dX12_book_75 ?_
          refine lv_bipush (v := 13) hx hb dX12_book_78 (by decide) ?_
          refine r_iald (i := 13) X hM (mup_s _ _ _) (vp_in_nI (n := 13) (by decide) (by decide)) dX12_book_80 ?_
          rw [show ((13 : Int32)).toNatClampNeg = 13 from by decide]
          rw [show (upd f (98 + n1) n) 13 = nI n1 from by rw [upd_ne (by omega)]; exact h11]
          refine lv_iadd hx hb dX12_book_81 ?_
          rw [show (106 : Int32) + (nI n1) = nI (106 + n1) from nI_add 106 n1]
          refine lv_iload_n hx hb dX12_book_82 rfl (lv_at hl 2 rfl) ?_
          refine r_iast (i := nI (106 + n1)) (x := ho) X hM (mup_s _ _ _) (vp_in_nI (by omega) (by decide)) dX12_book_83 (fun H locs hM => ?_)
          rw [nI_clamp (show 106 + n1 < 2147483648 by omega)] at hM
          rw [mup_i] at hM
          have hM : MW g (mup M (gA g 47) (aI g 929 (upd (upd f (98 + n1) n) (106 + n1) ho))) H locs := hM
          refine lv_aload_n hx hb dX12_book_84 rfl (lv_at hl 0 rfl) ?_
          refine r_get (T := TX12) (N := 20) (ci := 12) (v := .ref (gA g 47)) X hM iX12 rfl 1 (by decide) q_836 (Or.inl rfl) (mup_r (X.2.ne (i := 46) (j := 47) (by decide) (by decide) (by decide)) h46) rfl dX12_book_85 ?_
          refine lv_bipush (v := 13) hx hb dX12_book_88 (by decide) ?_
          refine lv_dup2_11 hx hb dX12_book_90 rfl rfl ?_
          refine r_iald (i := 13) X hM (mup_s _ _ _) (vp_in_nI (n := 13) (by decide) (by decide)) dX12_book_91 ?_
          rw [show ((13 : Int32)).toNatClampNeg = 13 from by decide]
          rw [show (upd (upd f (98 + n1) n) (106 + n1) ho) 13 = nI n1 from by rw [upd_ne (by omega), upd_ne (by omega)]; exact h11]
          refine lv_iconst (v := 1) hx hb dX12_book_92 (by decide) ?_
          refine lv_iadd hx hb dX12_book_93 ?_
          rw [show (nI n1) + (1 : Int32) = nI (n1 + 1) from nI_add n1 1]
          refine r_iast (i := 13) (x := nI (n1 + 1)) X hM (mup_s _ _ _) (vp_in_nI (n := 13) (by decide) (by decide)) dX12_book_94 (fun H locs hM => ?_)
          rw [show ((13 : Int32)).toNatClampNeg = 13 from by decide] at hM
          rw [mup_i] at hM
          have hM : MW g (mup M (gA g 47) (aI g 929 (upd (upd (upd f (98 + n1) n) (106 + n1) ho) 13 (nI (n1 + 1))))) H locs := hM
          refine lv_aload_n hx hb dX12_book_95 rfl (lv_at hl 0 rfl) ?_
          refine r_get (T := TX12) (N := 20) (ci := 12) (v := .ref (gA g 47)) X hM iX12 rfl 1 (by decide) q_836 (Or.inl rfl) (mup_r (X.2.ne (i := 46) (j := 47) (by decide) (by decide) (by decide)) h46) rfl dX12_book_96 ?_
          refine lv_bipush (v := 13) hx hb dX12_book_99 (by decide) ?_
          refine r_iald (i := 13) X hM (mup_s _ _ _) (vp_in_nI (n := 13) (by decide) (by decide)) dX12_book_101 ?_
          rw [show ((13 : Int32)).toNatClampNeg = 13 from by decide]
          rw [show upd (upd (upd f (98 + n1) n) (106 + n1) ho) 13 (nI (n1 + 1)) 13 = nI (n1 + 1) from upd_eq]
          have e9 : mBook f n1 n ho = (nI (n1 + 1), upd (upd (upd f (98 + n1) n) (106 + n1) ho) 13 (nI (n1 + 1))) := by
            unfold mBook; (first | rw [if_pos c_1] | rw [if_neg c_1] | skip); (first | rw [if_pos c_2] | rw [if_neg c_2] | skip); (first | rw [if_pos c_3] | rw [if_neg c_3] | skip); (first | rw [if_pos hq] | rw [if_neg hq] | skip); all_goals first | rfl | (simp only [if_true])
          exact R_i X hr hk hM ⟨(by rw [e9]), (by rw [e9] <;> first | rfl | (dsimp only; done) | (dsimp only; simp only [mup_id h47]; done) | (simp only [mup_id h47]; done))⟩ dX12_book_102
        · skip
          have hq : n1 = 8 := (nI_eq (b := 8) (by omega) (by omega)).mp c_4
          refine lv_bipush (v := -4) hx hb dX12_book_49 (by decide) ?_
          have e9 : mBook f n1 n ho = (-4, f) := by
            unfold mBook; (first | rw [if_pos c_1] | rw [if_neg c_1] | skip); (first | rw [if_pos c_2] | rw [if_neg c_2] | skip); (first | rw [if_pos c_3] | rw [if_neg c_3] | skip); (first | rw [if_pos hq] | rw [if_neg hq] | skip); all_goals first | rfl | (simp only [if_true])
          exact R_i X hr hk hM ⟨(by rw [e9]), (by rw [e9] <;> first | rfl | (dsimp only; done) | (dsimp only; simp only [mup_id h47]; done) | (simp only [mup_id h47]; done) | (rw [mup_id h47]) | (dsimp only; rw [mup_id h47]))⟩ dX12_book_51
      · skip
        refine lv_bipush (v := -2) hx hb dX12_book_34 (by decide) ?_
        have e9 : mBook f n1 n ho = (-2, f) := by
          unfold mBook; (first | rw [if_pos c_1] | rw [if_neg c_1] | skip); (first | rw [if_pos c_2] | rw [if_neg c_2] | skip); (first | rw [if_pos c_3] | rw [if_neg c_3] | skip); all_goals first | rfl | (simp only [if_true])
        exact R_i X hr hk hM ⟨(by rw [e9]), (by rw [e9] <;> first | rfl | (dsimp only; done) | (dsimp only; simp only [mup_id h47]; done) | (simp only [mup_id h47]; done) | (rw [mup_id h47]) | (dsimp only; rw [mup_id h47]))⟩ dX12_book_36
    · skip
      refine lv_iconst (v := -1) hx hb dX12_book_22 (by decide) ?_
      have e9 : mBook f n1 n ho = (-1, f) := by
        unfold mBook; (first | rw [if_pos c_1] | rw [if_neg c_1] | skip); (first | rw [if_pos c_2] | rw [if_neg c_2] | skip); all_goals first | rfl | (simp only [if_true])
      exact R_i X hr hk hM ⟨(by rw [e9]), (by rw [e9] <;> first | rfl | (dsimp only; done) | (dsimp only; simp only [mup_id h47]; done) | (simp only [mup_id h47]; done) | (rw [mup_id h47]) | (dsimp only; rw [mup_id h47]))⟩ dX12_book_23
  · skip
    refine lv_aload_n hx hb dX12_book_5 rfl (lv_at hl 0 rfl) ?_
    refine r_get (T := TX12) (N := 20) (ci := 12) (v := .ref (gA g 47)) X hM iX12 rfl 1 (by decide) q_836 (Or.inl rfl) h46 rfl dX12_book_6 ?_
    refine lv_bipush (v := 13) hx hb dX12_book_9 (by decide) ?_
    refine lv_iconst (v := 0) hx hb dX12_book_11 (by decide) ?_
    refine r_iast (i := 13) (x := 0) X hM h47 (vp_in_nI (n := 13) (by decide) (by decide)) dX12_book_12 (fun H locs hM => ?_)
    rw [show ((13 : Int32)).toNatClampNeg = 13 from by decide] at hM
    have hM : MW g (mup M (gA g 47) (aI g 929 (upd f 13 0))) H locs := hM
    refine lv_iconst (v := 0) hx hb dX12_book_13 (by decide) ?_
    have e9 : mBook f n1 n ho = (0, upd f 13 0) := by
      unfold mBook; (first | rw [if_pos c_1] | rw [if_neg c_1] | skip); all_goals first | rfl | (simp only [if_true])
    exact R_i X hr hk hM ⟨(by rw [e9]), (by rw [e9] <;> first | rfl | (dsimp only; done) | (dsimp only; simp only [mup_id h47]; done) | (simp only [mup_id h47]; done))⟩ dX12_book_14
set_option maxHeartbeats 4000000 in
set_option maxRecDepth 100000 in
theorem c_X12_count (l : Launch) (g : Gp) (M : Mem) (m0 m1 m2 m3 m4 m5 m6 m7 m8 m9 m10 m11 : Int32) (f : Nat → Int32) (w : Int32) (h46 : M (gA g 46) = some (mdE g m0 m1 m2 m3 m4 m5 m6 m7 m8 m9 m10 m11)) (h47 : M (gA g 47) = some (aI g 929 f)) : Met l yX12_count (wsM yX12_count cX12_count 2 (some .int)) (rmD 2 0 0) (Pre g M [.ref (gA g 46), .int w]) (Qi g (fun r M1 => (mCount f m8 w) = r ∧ M = M1)) 0 0 (gF g) := M_start (by decide +kernel) (Nat.le_of_ble_eq_true rfl) fun p e s m args below meth c ls X hr hk hnm hM hl => by
  have X : Cx g p m c cX12_count 2 s args RX12 := X
  have hx := X.1.1
  have hb := X.1.2.1
  have hl : lv_has ls 2 [(0, .ref (gA g 46)), (1, .int w)] := hl
  refine lv_iload_n hx hb dX12_count_0 rfl (lv_at hl 1 rfl) ?_
  refine lv_bipush (v := 6) hx hb dX12_count_1 (by decide) ?_
  refine lv_icmp_ne (tgt := 13) hx hb dX12_count_3 (by decide) (fun c_1 => ?_) (fun c_1 => ?_)
  · skip
    refine lv_iload_n hx hb dX12_count_13 rfl (lv_at hl 1 rfl) ?_
    refine lv_iconst (v := 0) hx hb dX12_count_14 (by decide) ?_
    refine lv_iconst (v := 5) hx hb dX12_count_15 (by decide) ?_
    refine K_i (G_S (As := [.int w, .int 0, .int 5]) (rest := []) X hM (c_X12_in l g _ w 0 5  ) lk_X12_41 rfl hl.1 rfl (Nat.le_of_ble_eq_true rfl) (by decide) dX12_count_16 ⟨Nat.le_of_ble_eq_true rfl, Nat.le_of_ble_eq_true rfl⟩) hM (fun r M1 H locs hM hp => ?_)
    obtain ⟨rfl, rfl⟩ := hp
    refine lv_if_eq (tgt := 34) hx hb dX12_count_19 (by decide) (fun c_2 => ?_) (fun c_2 => ?_)
    · skip
      refine lv_iconst (v := -1) hx hb dX12_count_34 (by decide) ?_
      exact R_i X hr hk hM ⟨(by unfold mCount; (try simp only [hcj]); (first | rw [if_pos c_1] | rw [if_neg c_1] | skip); (first | rw [if_pos c_2] | rw [if_neg c_2] | skip); all_goals (first | rfl | (simp [*]))), rfl⟩ dX12_count_35
    · skip
      obtain ⟨q, hq, rfl⟩ := fIn_k (K := 5) (by decide) c_2
      have hcj : (nI q).toNatClampNeg = q := nI_clamp (by omega)
      refine lv_aload_n hx hb dX12_count_22 rfl (lv_at hl 0 rfl) ?_
      refine r_get (T := TX12) (N := 20) (ci := 12) (v := .ref (gA g 47)) X hM iX12 rfl 1 (by decide) q_836 (Or.inl rfl) h46 rfl dX12_count_23 ?_
      refine lv_bipush (v := 9) hx hb dX12_count_26 (by decide) ?_
      refine lv_iload_n hx hb dX12_count_28 rfl (lv_at hl 1 rfl) ?_
      refine lv_iadd hx hb dX12_count_29 ?_
      rw [show (9 : Int32) + (nI q) = nI (9 + q) from nI_add 9 q]
      refine r_iald (i := nI (9 + q)) X hM h47 (vp_in_nI (by omega) (by decide)) dX12_count_30 ?_
      rw [nI_clamp (show 9 + q < 2147483648 by omega)]
      refine lv_goto (tgt := 35) hx hb dX12_count_31 (by decide) ?_
      exact R_i X hr hk hM ⟨(by unfold mCount; (try simp only [hcj]); (first | rw [if_pos c_1] | rw [if_neg c_1] | skip); (first | rw [if_pos c_2] | rw [if_neg c_2] | skip); all_goals (first | rfl | (simp [*]))), rfl⟩ dX12_count_35
  · skip
    refine lv_aload_n hx hb dX12_count_6 rfl (lv_at hl 0 rfl) ?_
    refine r_get (T := TX12) (N := 20) (ci := 12) (v := .int m8) X hM iX12 rfl 16 (by decide) q_851 (Or.inl rfl) h46 rfl dX12_count_7 ?_
    refine lv_goto (tgt := 35) hx hb dX12_count_10 (by decide) ?_
    exact R_i X hr hk hM ⟨(by unfold mCount; (try simp only [hcj]); (first | rw [if_pos c_1] | rw [if_neg c_1] | skip); all_goals (first | rfl | (simp [*]))), rfl⟩ dX12_count_35
