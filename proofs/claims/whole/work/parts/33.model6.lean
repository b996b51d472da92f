def mUnd (kd k : Int32) : Int32 := if k = 0 then 1 else if k = kd then 1 else if k ≤ 0 then 0 else if 4 ≤ k then 0 else if kd = k + 3 then 1 else 0
def mAs (f : Nat → Int32) (L : Nat) (x k : Int32) : Int32 := if fIsL L x = 0 then -1 else if fIn k 0 6 = 0 then -1 else if mUnd (f (16 + x.toNatClampNeg)) k = 0 then -6 else f (22 + x.toNatClampNeg)
/-- a count that is at most n -/
def Cn (n : Nat) (x : Int32) : Prop := ∃ r : Nat, r ≤ n ∧ x = nI r
theorem Cn.s {n : Nat} {x : Int32} (h : Cn n x) : Cn (n + 1) (x + 1) := by
  obtain ⟨r, h1, rfl⟩ := h
  exact ⟨r + 1, by omega, nI_1 r⟩
theorem Cn.w {n k : Nat} {x : Int32} (h : Cn n x) (hk : n ≤ k) : Cn k x := by
  obtain ⟨r, h1, e⟩ := h
  exact ⟨r, by omega, e⟩
theorem tlN_in {n : Nat} {x y : Int32} {f : Nat → Int32} (h : Cn n x) (hn : n < 1000) (hx : ¬ (20 : Int32) ≤ x) : (tlN (x, f) y).2 = upd f x.toNatClampNeg y := by
  obtain ⟨r, h1, rfl⟩ := h
  show fPut 20 f (nI r) y = _
  rw [fPut, if_neg (nI_pos (by omega)), if_neg (show ¬ nI 20 ≤ nI r from hx)]
theorem tlN_out {n : Nat} {x y : Int32} {f : Nat → Int32} (h : Cn n x) (hn : n < 1000) (hx : (20 : Int32) ≤ x) : (tlN (x, f) y).2 = f := by
  obtain ⟨r, h1, rfl⟩ := h
  show fPut 20 f (nI r) y = _
  rw [fPut, if_neg (nI_pos (by omega)), if_pos (show nI 20 ≤ nI r from hx)]
theorem Cn.inr {n : Nat} {x : Int32} (h : Cn n x) (hn : n < 1000) (hx : ¬ (20 : Int32) ≤ x) : vp_in x 20 := by
  obtain ⟨r, h1, rfl⟩ := h
  refine vp_in_nI ?_ (by decide)
  rcases Nat.lt_or_ge r 20 with q | q
  · exact q
  · exact absurd (nI_le q (by omega)) hx
theorem und_k : ∀ kd : Nat, kd ≤ 6 → (mUnd (nI kd) 1 = 0 ↔ ¬ (kd = 1 ∨ kd = 4)) ∧ (mUnd (nI kd) 2 = 0 ↔ ¬ (kd = 2 ∨ kd = 5)) ∧ (mUnd (nI kd) 3 = 0 ↔ ¬ (kd = 3 ∨ kd = 6)) := by
  intro kd h
  rcases (show kd = 0 ∨ kd = 1 ∨ kd = 2 ∨ kd = 3 ∨ kd = 4 ∨ kd = 5 ∨ kd = 6 by omega) with rfl | rfl | rfl | rfl | rfl | rfl | rfl <;> decide
theorem und_01 (kd k : Int32) : mUnd kd k = 0 ∨ mUnd kd k = 1 := by
  unfold mUnd
  repeat' split
  all_goals first | exact Or.inl rfl | exact Or.inr rfl

theorem lk_X12_229 : LkS RX12 229 yX12_isUnder cX12_isUnder 2 (some .boolean) 2 := lkS_of q_1169 q_1170 q_7 q_1171 ⟨rfl, by decide, by decide, by decide +kernel⟩ (by decide)
set_option maxHeartbeats 4000000 in
set_option maxRecDepth 100000 in
theorem c_X12_isUnder (l : Launch) (g : Gp) (M : Mem) (kd k : Int32) : Met l yX12_isUnder (wsM yX12_isUnder cX12_isUnder 2 (some .boolean)) (rmD 1 0 0) (Pre g M [.int kd, .int k]) (Qi g (fun r M1 => (mUnd kd k) = r ∧ M = M1)) 0 0 (gF g) := M_start (by decide +kernel) (Nat.le_of_ble_eq_true rfl) fun p e s m args below meth c ls X hr hk hnm hM hl => by
  have X : Cx g p m c cX12_isUnder 2 s args RX12 := X
  have hx := X.1.1
  have hb := X.1.2.1
  have hl : lv_has ls 2 [(0, .int kd), (1, .int k)] := hl
  refine lv_iload_n hx hb dX12_isUnder_0 rfl (lv_at hl 1 rfl) ?_
  refine lv_if_eq (tgt := 25) hx hb dX12_isUnder_1 (by decide) (fun c_1 => ?_) (fun c_1 => ?_)
  · skip
    refine lv_iconst (v := 1) hx hb dX12_isUnder_25 (by decide) ?_
    refine lv_goto (tgt := 30) hx hb dX12_isUnder_26 (by decide) ?_
    exact R_z X hr hk (Or.inr rfl) hM ⟨(by unfold mUnd; (first | rw [if_pos c_1] | rw [if_neg c_1] | skip); all_goals (first | rfl | simp [*])), rfl⟩ dX12_isUnder_30
  · skip
    refine lv_iload_n hx hb dX12_isUnder_4 rfl (lv_at hl 1 rfl) ?_
    refine lv_iload_n hx hb dX12_isUnder_5 rfl (lv_at hl 0 rfl) ?_
    refine lv_icmp_eq (tgt := 25) hx hb dX12_isUnder_6 (by decide) (fun c_2 => ?_) (fun c_2 => ?_)
    · skip
      refine lv_iconst (v := 1) hx hb dX12_isUnder_25 (by decide) ?_
      refine lv_goto (tgt := 30) hx hb dX12_isUnder_26 (by decide) ?_
      exact R_z X hr hk (Or.inr rfl) hM ⟨(by unfold mUnd; (first | rw [if_pos c_1] | rw [if_neg c_1] | skip); (first | rw [if_pos c_2] | rw [if_neg c_2] | skip); all_goals (first | rfl | simp [*])), rfl⟩ dX12_isUnder_30
    · skip
      refine lv_iload_n hx hb dX12_isUnder_9 rfl (lv_at hl 1 rfl) ?_
      refine lv_if_le (tgt := 29) hx hb dX12_isUnder_10 (by decide) (fun c_3 => ?_) (fun c_3 => ?_)
      · skip
        refine lv_iconst (v := 0) hx hb dX12_isUnder_29 (by decide) ?_
        exact R_z X hr hk (Or.inl rfl) hM ⟨(by unfold mUnd; (first | rw [if_pos c_1] | rw [if_neg c_1] | skip); (first | rw [if_pos c_2] | rw [if_neg c_2] | skip); (first | rw [if_pos c_3] | rw [if_neg c_3] | skip); all_goals (first | rfl | simp [*])), rfl⟩ dX12_isUnder_30
      · skip
        refine lv_iload_n hx hb dX12_isUnder_13 rfl (lv_at hl 1 rfl) ?_
        refine lv_iconst (v := 4) hx hb dX12_isUnder_14 (by decide) ?_
        refine lv_icmp_ge (tgt := 29) hx hb dX12_isUnder_15 (by decide) (fun c_4 => ?_) (fun c_4 => ?_)
        · skip
          refine lv_iconst (v := 0) hx hb dX12_isUnder_29 (by decide) ?_
          exact R_z X hr hk (Or.inl rfl) hM ⟨(by unfold mUnd; (first | rw [if_pos c_1] | rw [if_neg c_1] | skip); (first | rw [if_pos c_2] | rw [if_neg c_2] | skip); (first | rw [if_pos c_3] | rw [if_neg c_3] | skip); (first | rw [if_pos c_4] | rw [if_neg c_4] | skip); all_goals (first | rfl | simp [*])), rfl⟩ dX12_isUnder_30
        · skip
          refine lv_iload_n hx hb dX12_isUnder_18 rfl (lv_at hl 0 rfl) ?_
          refine lv_iload_n hx hb dX12_isUnder_19 rfl (lv_at hl 1 rfl) ?_
          refine lv_iconst (v := 3) hx hb dX12_isUnder_20 (by decide) ?_
          refine lv_iadd hx hb dX12_isUnder_21 ?_
          refine lv_icmp_ne (tgt := 29) hx hb dX12_isUnder_22 (by decide) (fun c_5 => ?_) (fun c_5 => ?_)
          · skip
            refine lv_iconst (v := 0) hx hb dX12_isUnder_29 (by decide) ?_
            exact R_z X hr hk (Or.inl rfl) hM ⟨(by unfold mUnd; (first | rw [if_pos c_1] | rw [if_neg c_1] | skip); (first | rw [if_pos c_2] | rw [if_neg c_2] | skip); (first | rw [if_pos c_3] | rw [if_neg c_3] | skip); (first | rw [if_pos c_4] | rw [if_neg c_4] | skip); (first | rw [if_pos c_5] | rw [if_neg c_5] | skip); all_goals (first | rfl | simp [*])), rfl⟩ dX12_isUnder_30
          · skip
            refine lv_iconst (v := 1) hx hb dX12_isUnder_25 (by decide) ?_
            refine lv_goto (tgt := 30) hx hb dX12_isUnder_26 (by decide) ?_
            exact R_z X hr hk (Or.inr rfl) hM ⟨(by unfold mUnd; (first | rw [if_pos c_1] | rw [if_neg c_1] | skip); (first | rw [if_pos c_2] | rw [if_neg c_2] | skip); (first | rw [if_pos c_3] | rw [if_neg c_3] | skip); (first | rw [if_pos c_4] | rw [if_neg c_4] | skip); (first | rw [if_pos c_5] | rw [if_neg c_5] | skip); all_goals (first | rfl | simp [*])), rfl⟩ dX12_isUnder_30
set_option maxHeartbeats 4000000 in
set_option maxRecDepth 100000 in
theorem c_X12_as (l : Launch) (g : Gp) (M : Mem) (m0 m1 m2 m3 m4 m5 m6 m7 m8 m9 m10 m11 : Int32) (f : Nat → Int32) (L : Nat) (x k : Int32) (h46 : M (gA g 46) = some (mdE g m0 m1 m2 m3 m4 m5 m6 m7 m8 m9 m10 m11)) (h47 : M (gA g 47) = some (aI g 929 f)) (h9 : f 9 = nI L) (hL : L ≤ 6) : Met l yX12_as (wsM yX12_as cX12_as 3 (some .int)) (rmD 3 0 0) (Pre g M [.ref (gA g 46), .int x, .int k]) (Qi g (fun r M1 => (mAs f L x k) = r ∧ M = M1)) 0 0 (gF g) := M_start (by decide +kernel) (Nat.le_of_ble_eq_true rfl) fun p e s m args below meth c ls X hr hk hnm hM hl => by
  have X : Cx g p m c cX12_as 3 s args RX12 := X
  have hx := X.1.1
  have hb := X.1.2.1
  have hl : lv_has ls 3 [(0, .ref (gA g 46)), (1, .int x), (2, .int k)] := hl
  refine lv_aload_n hx hb dX12_as_0 rfl (lv_at hl 0 rfl) ?_
  refine lv_iload_n hx hb dX12_as_1 rfl (lv_at hl 1 rfl) ?_
  refine K_i (G_V (As := [.int x]) (rest := []) X hM (c_X12_isLightL l g _ m0 m1 m2 m3 m4 m5 m6 m7 m8 m9 m10 m11 f L x h46 h47 h9 hL) lk_X12_148 h46 rfl rfl hl.1 rfl (Nat.le_of_ble_eq_true rfl) (by decide) dX12_as_2 ⟨Nat.le_of_ble_eq_true rfl, Nat.le_of_ble_eq_true rfl⟩) hM (fun r M1 H locs hM hp => ?_)
  obtain ⟨rfl, rfl⟩ := hp
  refine lv_if_eq (tgt := 18) hx hb dX12_as_5 (by decide) (fun c_1 => ?_) (fun c_1 => ?_)
  · skip
    refine lv_iconst (v := -1) hx hb dX12_as_18 (by decide) ?_
    exact R_i X hr hk hM ⟨(by unfold mAs; (try simp only [hcj]); (first | rw [if_pos c_1] | rw [if_neg c_1] | skip); all_goals (first | rfl | (simp [*]))), rfl⟩ dX12_as_19
  · skip
    obtain ⟨j, hj, rfl⟩ := fIsL_k hL c_1
    have hcj : (nI j).toNatClampNeg = j := nI_clamp (by omega)
    refine lv_iload_n hx hb dX12_as_8 rfl (lv_at hl 2 rfl) ?_
    refine lv_iconst (v := 0) hx hb dX12_as_9 (by decide) ?_
    refine lv_bipush (v := 6) hx hb dX12_as_10 (by decide) ?_
    refine K_i (G_S (As := [.int k, .int 0, .int 6]) (rest := []) X hM (c_X12_in l g _ k 0 6  ) lk_X12_41 rfl hl.1 rfl (Nat.le_of_ble_eq_true rfl) (by decide) dX12_as_12 ⟨Nat.le_of_ble_eq_true rfl, Nat.le_of_ble_eq_true rfl⟩) hM (fun r M1 H locs hM hp => ?_)
    obtain ⟨rfl, rfl⟩ := hp
    refine lv_if_ne (tgt := 20) hx hb dX12_as_15 (by decide) (fun c_2 => ?_) (fun c_2 => ?_)
    · skip
      refine lv_aload_n hx hb dX12_as_20 rfl (lv_at hl 0 rfl) ?_
      refine r_get (T := TX12) (N := 20) (ci := 12) (v := .ref (gA g 47)) X hM iX12 rfl 1 (by decide) q_836 (Or.inl rfl) h46 rfl dX12_as_21 ?_
      refine lv_bipush (v := 16) hx hb dX12_as_24 (by decide) ?_
      refine lv_iload_n hx hb dX12_as_26 rfl (lv_at hl 1 rfl) ?_
      refine lv_iadd hx hb dX12_as_27 ?_
      rw [show (16 : Int32) + (nI j) = nI (16 + j) from nI_add 16 j]
      refine r_iald (i := nI (16 + j)) X hM h47 (vp_in_nI (by omega) (by decide)) dX12_as_28 ?_
      rw [nI_clamp (show 16 + j < 2147483648 by omega)]
      refine lv_iload_n hx hb dX12_as_29 rfl (lv_at hl 2 rfl) ?_
      refine K_i (G_S (As := [.int (f (16 + j)), .int k]) (rest := []) X hM (c_X12_isUnder l g _ (f (16 + j)) k  ) lk_X12_229 rfl hl.1 rfl (Nat.le_of_ble_eq_true rfl) (by decide) dX12_as_30 ⟨Nat.le_of_ble_eq_true rfl, Nat.le_of_ble_eq_true rfl⟩) hM (fun r M1 H locs hM hp => ?_)
      obtain ⟨rfl, rfl⟩ := hp
      refine lv_if_eq (tgt := 48) hx hb dX12_as_33 (by decide) (fun c_3 => ?_) (fun c_3 => ?_)
      · skip
        refine lv_bipush (v := -6) hx hb dX12_as_48 (by decide) ?_
        exact R_i X hr hk hM ⟨(by unfold mAs; (try simp only [hcj]); (first | rw [if_pos c_1] | rw [if_neg c_1] | skip); (first | rw [if_pos c_2] | rw [if_neg c_2] | skip); (first | rw [if_pos c_3] | rw [if_neg c_3] | skip); all_goals (first | rfl | (simp [*]))), rfl⟩ dX12_as_50
      · skip
        refine lv_aload_n hx hb dX12_as_36 rfl (lv_at hl 0 rfl) ?_
        refine r_get (T := TX12) (N := 20) (ci := 12) (v := .ref (gA g 47)) X hM iX12 rfl 1 (by decide) q_836 (Or.inl rfl) h46 rfl dX12_as_37 ?_
        refine lv_bipush (v := 22) hx hb dX12_as_40 (by decide) ?_
        refine lv_iload_n hx hb dX12_as_42 rfl (lv_at hl 1 rfl) ?_
        refine lv_iadd hx hb dX12_as_43 ?_
        rw [show (22 : Int32) + (nI j) = nI (22 + j) from nI_add 22 j]
        refine r_iald (i := nI (22 + j)) X hM h47 (vp_in_nI (by omega) (by decide)) dX12_as_44 ?_
        rw [nI_clamp (show 22 + j < 2147483648 by omega)]
        refine lv_goto (tgt := 50) hx hb dX12_as_45 (by decide) ?_
        exact R_i X hr hk hM ⟨(by unfold mAs; (try simp only [hcj]); (first | rw [if_pos c_1] | rw [if_neg c_1] | skip); (first | rw [if_pos c_2] | rw [if_neg c_2] | skip); (first | rw [if_pos c_3] | rw [if_neg c_3] | skip); all_goals (first | rfl | (simp [*]))), rfl⟩ dX12_as_50
    · skip
      refine lv_iconst (v := -1) hx hb dX12_as_18 (by decide) ?_
      exact R_i X hr hk hM ⟨(by unfold mAs; (try simp only [hcj]); (first | rw [if_pos c_1] | rw [if_neg c_1] | skip); (first | rw [if_pos c_2] | rw [if_neg c_2] | skip); all_goals (first | rfl | (simp [*]))), rfl⟩ dX12_as_19
set_option maxHeartbeats 4000000 in
set_option maxRecDepth 100000 in
theorem c_X12_ranBody (l : Launch) (g : Gp) (M : Mem) (m0 m1 m2 m3 m4 m5 m6 m7 m8 m9 m10 m11 : Int32) (bo : Nat → Int32) (n : Nat) (x : Int32) (h46 : M (gA g 46) = some (mdE g m0 m1 m2 m3 m4 m5 m6 m7 m8 m9 m10 m11)) (h54 : M (gA g 54) = some (aI g 20 bo)) (hC : Cn n m8) (hn : n ≤ 900) : Met l yX12_ranBody (wsM yX12_ranBody cX12_ranBody 2 none) (rmD 1 0 0) (Pre g M [.ref (gA g 46), .int x]) (Qv g (fun M1 => mup (mup M (gA g 54) (aI g 20 ((tlN (m8, bo) x).2))) (gA g 46) (mdE g m0 m1 m2 m3 m4 m5 m6 m7 (m8 + 1) m9 m10 m11) = M1)) 0 0 (gF g) := M_start (by decide +kernel) (Nat.le_of_ble_eq_true rfl) fun p e s m args below meth c ls X hr hk hnm hM hl => by
  have X : Cx g p m c cX12_ranBody 2 s args RX12 := X
  have hx := X.1.1
  have hb := X.1.2.1
  have hl : lv_has ls 2 [(0, .ref (gA g 46)), (1, .int x)] := hl
  refine lv_aload_n hx hb dX12_ranBody_0 rfl (lv_at hl 0 rfl) ?_
  refine r_get (T := TX12) (N := 20) (ci := 12) (v := .int m8) X hM iX12 rfl 16 (by decide) q_851 (Or.inl rfl) h46 rfl dX12_ranBody_1 ?_
  refine lv_bipush (v := 20) hx hb dX12_ranBody_4 (by decide) ?_
  refine lv_icmp_ge (tgt := 19) hx hb dX12_ranBody_6 (by decide) (fun c_1 => ?_) (fun c_1 => ?_)
  · skip
    refine lv_aload_n hx hb dX12_ranBody_19 rfl (lv_at hl 0 rfl) ?_
    refine lv_dup hx hb dX12_ranBody_20 rfl ?_
    refine r_get (T := TX12) (N := 20) (ci := 12) (v := .int m8) X hM iX12 rfl 16 (by decide) q_851 (Or.inl rfl) h46 rfl dX12_ranBody_21 ?_
    refine lv_iconst (v := 1) hx hb dX12_ranBody_24 (by decide) ?_
    refine lv_iadd hx hb dX12_ranBody_25 ?_
    refine r_put (T := TX12) (N := 20) (ci := 12) X hM iX12 tyX12 tyX12_ok nmX12 rfl 16 (by decide) q_851 rfl (Or.inl rfl) h46 rfl rfl (Nat.le_of_ble_eq_true rfl) dX12_ranBody_26 (fun H locs hM => ?_)
    have hM : MW g (mup M (gA g 46) (mdE g m0 m1 m2 m3 m4 m5 m6 m7 (m8 + 1) m9 m10 m11)) H locs := hM
    exact R_v X hr hk hM (by rw [tlN_out hC (by omega) c_1, mup_id h54]) dX12_ranBody_29
  · skip
    refine lv_aload_n hx hb dX12_ranBody_9 rfl (lv_at hl 0 rfl) ?_
    refine r_get (T := TX12) (N := 20) (ci := 12) (v := .ref (gA g 54)) X hM iX12 rfl 15 (by decide) q_850 (Or.inl rfl) h46 rfl dX12_ranBody_10 ?_
    refine lv_aload_n hx hb dX12_ranBody_13 rfl (lv_at hl 0 rfl) ?_
    refine r_get (T := TX12) (N := 20) (ci := 12) (v := .int m8) X hM iX12 rfl 16 (by decide) q_851 (Or.inl rfl) h46 rfl dX12_ranBody_14 ?_
    refine lv_iload_n hx hb dX12_ranBody_17 rfl (lv_at hl 1 rfl) ?_
    refine r_iast (i := m8) (x := x) X hM h54 (hC.inr (by omega) c_1) dX12_ranBody_18 (fun H locs hM => ?_)
    have hM : MW g (mup M (gA g 54) (aI g 20 (upd bo m8.toNatClampNeg x))) H locs := hM
    refine lv_aload_n hx hb dX12_ranBody_19 rfl (lv_at hl 0 rfl) ?_
    refine lv_dup hx hb dX12_ranBody_20 rfl ?_
    refine r_get (T := TX12) (N := 20) (ci := 12) (v := .int m8) X hM iX12 rfl 16 (by decide) q_851 (Or.inl rfl) (mup_r (X.2.ne (i := 46) (j := 54) (by decide) (by decide) (by decide)) h46) rfl dX12_ranBody_21 ?_
    refine lv_iconst (v := 1) hx hb dX12_ranBody_24 (by decide) ?_
    refine lv_iadd hx hb dX12_ranBody_25 ?_
    refine r_put (T := TX12) (N := 20) (ci := 12) X hM iX12 tyX12 tyX12_ok nmX12 rfl 16 (by decide) q_851 rfl (Or.inl rfl) (mup_r (X.2.ne (i := 46) (j := 54) (by decide) (by decide) (by decide)) h46) rfl rfl (Nat.le_of_ble_eq_true rfl) dX12_ranBody_26 (fun H locs hM => ?_)
    have hM : MW g (mup (mup M (gA g 54) (aI g 20 (upd bo m8.toNatClampNeg x))) (gA g 46) (mdE g m0 m1 m2 m3 m4 m5 m6 m7 (m8 + 1) m9 m10 m11)) H locs := hM
    exact R_v X hr hk hM (by rw [tlN_in hC (by omega) c_1]) dX12_ranBody_29
