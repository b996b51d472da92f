def mOdU (f : Nat → Int32) (L t k h : Nat) (qq : Int32) : Nat → Nat
  | 0 => 0
  | i + 1 => mOdU f L t k h qq i + (if mGoN f L (nI i) t k (1 + h) - f (1 + h) < qq then 0 else 1)
def mOddR (u b : Nat) (pt : Int32) : Int64 := (if pt = 0 then lN u else lN b) / lN (Nat.gcd u b)
def mOdds (f : Nat → Int32) (L t : Nat) (ho n qq pt : Int32) : Int64 := if fIn ho 0 1 = 0 then -9223372036854775808 else if fIn n 0 60 = 0 then -9223372036854775808 else if fIn qq 0 9999 = 0 then -9223372036854775808 else if fIn pt 0 1 = 0 then -9223372036854775808 else mOddR (mOdU f L t n.toNatClampNeg ho.toNatClampNeg qq 13) 13 pt
def mMeU (f : Nat → Int32) (L t h : Nat) : Nat → Nat
  | 0 => 0
  | i + 1 => mMeU f L t h i + (mHas f L (mCl f) (t + i) (nI h)).toNatClampNeg
def mMean (f : Nat → Int32) (L t : Nat) (ho pt : Int32) : Int64 := if fIn ho 0 1 = 0 then -9223372036854775808 else if fIn pt 0 1 = 0 then -9223372036854775808 else mOddR (mMeU f L t ho.toNatClampNeg 28) 28 pt
/-- what nights have is not much -/
def MuchOk (f : Nat → Int32) (L : Nat) : Prop := ∀ cl t h, h ≤ 1 → t < 20000 → ∃ u : Nat, u ≤ 400000 ∧ mHas f L cl t (nI h) = nI u
def mGb (f : Nat → Int32) (L : Nat) (cl : Int32) (t : Nat) (w x : Int32) : Nat → Int32 := if w = 0 then mGo f L cl t else upd f (3 + x.toNatClampNeg) (if w = 1 then 1 else 0)
def mDn (f : Nat → Int32) (L : Nat) (cl : Int32) (t : Nat) : Nat → (Nat → Int32) × Nat
  | 0 => (f, t)
  | k + 1 => (mGb (mDn f L cl t k).1 L cl (mDn f L cl t k).2 (f (82 + k)) (f (90 + k)), if f (82 + k) = 0 then (mDn f L cl t k).2 + 1 else (mDn f L cl t k).2)
/-- what is planned hides lights that there are -/
def PlanOk (f : Nat → Int32) (np : Nat) : Prop := ∀ k, k < np → ¬ f (82 + k) = 0 → ∃ j : Nat, j < 6 ∧ f (90 + k) = nI j
theorem mDn_ok {f : Nat → Int32} {L : Nat} (hO : MOk f L) (cl : Int32) {t np : Nat} (h0 : f 0 = nI t) (ht : t < 10000) (hn : np ≤ 8) (hP : PlanOk f np) : ∀ i, i ≤ np → (mDn f L cl t i).1 0 = nI (mDn f L cl t i).2 ∧ (mDn f L cl t i).2 ≤ t + i ∧ (∀ q, 9 ≤ q → (mDn f L cl t i).1 q = f q) ∧ MOk (mDn f L cl t i).1 L := fun i => by
  induction i with
  | zero => exact fun _ => ⟨h0, Nat.le_refl _, fun _ _ => rfl, hO⟩
  | succ i ih =>
    intro hi
    obtain ⟨h1, h2, h3, h4⟩ := ih (by omega)
    by_cases c : f (82 + i) = 0
    · have e1 : (mDn f L cl t (i + 1)).1 = mGo (mDn f L cl t i).1 L cl (mDn f L cl t i).2 := by show mGb _ _ _ _ _ _ = _; unfold mGb; rw [if_pos c]
      have e2 : (mDn f L cl t (i + 1)).2 = (mDn f L cl t i).2 + 1 := if_pos c
      have h5 : ∀ q, 9 ≤ q → (mDn f L cl t (i + 1)).1 q = f q := fun q hq => by
        rw [e1, mGo_hi L cl (mTrn_th h4.2.2.2 (by omega)).2 (by omega)]
        exact h3 q hq
      exact ⟨by rw [e1, e2]; exact mGo_0 _ _ _ _, by omega, h5, hO.lo h5⟩
    · obtain ⟨j, hj, ej⟩ := hP i (by omega) c
      have e1 : (mDn f L cl t (i + 1)).1 = upd (mDn f L cl t i).1 (3 + j) (if f (82 + i) = 1 then 1 else 0) := by show mGb _ _ _ _ _ _ = _; unfold mGb; rw [if_neg c, ej, nI_clamp (by omega)]
      have e2 : (mDn f L cl t (i + 1)).2 = (mDn f L cl t i).2 := if_neg c
      have h5 : ∀ q, 9 ≤ q → (mDn f L cl t (i + 1)).1 q = f q := fun q hq => by
        rw [e1, upd_ne (by omega)]
        exact h3 q hq
      exact ⟨by rw [e1, e2, upd_ne (by omega)]; exact h1, by omega, h5, hO.lo h5⟩
def mDone (f : Nat → Int32) (L t np : Nat) (w : Int32) : Int32 := if fIn w 0 1 = 0 then -1 else (mDn f L (mCl f) t np).1 (1 + w.toNatClampNeg)

theorem lk_X12_207 : LkS RX12 207 yX12_lowest cX12_lowest 11 (some .long) 3 := lkS_of q_1133 q_1134 q_7 q_1135 ⟨rfl, by decide, by decide, by decide +kernel⟩ (by decide)
theorem lk_X12_213 : LkV RX12 213 yX12_goesBy cX12_goesBy 3 none 2 := lkV_of q_1149 q_1151 qs_42 q_7 q_1152 ⟨by decide, by decide, by decide +kernel⟩ (by decide)
set_option maxHeartbeats 4000000 in
set_option maxRecDepth 100000 in
theorem c_X12_odds (l : Launch) (g : Gp) (M : Mem) (m0 m1 m2 m3 m4 m5 m6 m7 m8 m9 m10 m11 : Int32) (f : Nat → Int32) (L : Nat) (t : Nat) (ho n qq pt : Int32) (fr : Nat → Int32) (by_ tr : Nat → Int32) (h46 : M (gA g 46) = some (mdE g m0 m1 m2 m3 m4 m5 m6 m7 m8 m9 m10 m11)) (h47 : M (gA g 47) = some (aI g 929 f)) (h50 : M (gA g 50) = some (aI g 6 by_)) (h51 : M (gA g 51) = some (aZ g 64 tr)) (h49 : M (gA g 49) = some (aI g 9 fr)) (hO : MOk f L) (h0 : f 0 = nI t) (ht : t < 10000) : Met l yX12_odds (wsM yX12_odds cX12_odds 7 (some .long)) (rmD 7 0 0) (Pre g M [.ref (gA g 46), .int ho, .int n, .int qq, .int pt]) (Ql g (fun r M1 => ∃ (y2 : Int32) (y3 : Nat → Int32) (y0 : Nat → Int32) (y1 : Nat → Int32), (mOdds f L t ho n qq pt) = r ∧ mup (mup (mup (mup M (gA g 46) (mdE g m0 m1 y2 m3 m4 m5 m6 m7 m8 m9 m10 m11)) (gA g 49) (aI g 9 y3)) (gA g 50) (aI g 6 y0)) (gA g 51) (aZ g 64 y1) = M1)) 0 0 (gF g) := M_start (by decide +kernel) (Nat.le_of_ble_eq_true rfl) fun p e s m args below meth c ls X hr hk hnm hM hl => by
  have X : Cx g p m c cX12_odds 7 s args RX12 := X
  have hx := X.1.1
  have hb := X.1.2.1
  have hl : lv_has ls 7 [(0, .ref (gA g 46)), (1, .int ho), (2, .int n), (3, .int qq), (4, .int pt)] := hl
  obtain ⟨h9, hL, hR, hS⟩ := id hO
  refine lv_iload_n hx hb dX12_odds_0 rfl (lv_at hl 1 rfl) ?_
  refine K_i (G_S (As := [.int ho]) (rest := []) X hM (c_X12_isHouse l g _ ho  ) lk_X12_151 rfl hl.1 rfl (Nat.le_of_ble_eq_true rfl) (by decide) dX12_odds_1 ⟨Nat.le_of_ble_eq_true rfl, Nat.le_of_ble_eq_true rfl⟩) hM (fun r M1 H locs hM hp => ?_)
  obtain ⟨rfl, rfl⟩ := hp
  refine lv_if_eq (tgt := 38) hx hb dX12_odds_4 (by decide) (fun c_1 => ?_) (fun c_1 => ?_)
  · skip
    refine lv_ldc2 (v := -9223372036854775808) hx hb X.1.2.2.2.1 (X.1.2.2.2.2 _ q_1131) dX12_odds_38 ?_
    exact R_l X hr hk hM ⟨m2, fr, by_, tr, (by unfold mOdds; (first | rw [if_pos c_1] | rw [if_neg c_1] | skip)), (by rw [mup_id h46, mup_id h49, mup_id h50, mup_id h51])⟩ dX12_odds_41
  · skip
    obtain ⟨h, bh, rfl⟩ := fIn_k (K := 1) (by decide) c_1
    have hch : (nI h).toNatClampNeg = h := nI_clamp (by omega)
    refine lv_iload_n hx hb dX12_odds_7 rfl (lv_at hl 2 rfl) ?_
    refine lv_iconst (v := 0) hx hb dX12_odds_8 (by decide) ?_
    refine lv_bipush (v := 60) hx hb dX12_odds_9 (by decide) ?_
    refine K_i (G_S (As := [.int n, .int 0, .int 60]) (rest := []) X hM (c_X12_in l g _ n 0 60  ) lk_X12_41 rfl hl.1 rfl (Nat.le_of_ble_eq_true rfl) (by decide) dX12_odds_11 ⟨Nat.le_of_ble_eq_true rfl, Nat.le_of_ble_eq_true rfl⟩) hM (fun r M1 H locs hM hp => ?_)
    obtain ⟨rfl, rfl⟩ := hp
    refine lv_if_eq (tgt := 38) hx hb dX12_odds_14 (by decide) (fun c_2 => ?_) (fun c_2 => ?_)
    · skip
      refine lv_ldc2 (v := -9223372036854775808) hx hb X.1.2.2.2.1 (X.1.2.2.2.2 _ q_1131) dX12_odds_38 ?_
      exact R_l X hr hk hM ⟨m2, fr, by_, tr, (by unfold mOdds; (first | rw [if_pos c_1] | rw [if_neg c_1] | skip); (first | rw [if_pos c_2] | rw [if_neg c_2] | skip)), (by rw [mup_id h46, mup_id h49, mup_id h50, mup_id h51])⟩ dX12_odds_41
    · skip
      obtain ⟨k, bk, rfl⟩ := fIn_k (K := 60) (by decide) c_2
      have hcq : (nI k).toNatClampNeg = k := nI_clamp (by omega)
      refine lv_iload_n hx hb dX12_odds_17 rfl (lv_at hl 3 rfl) ?_
      refine lv_iconst (v := 0) hx hb dX12_odds_18 (by decide) ?_
      refine lv_sipush (v := 9999) hx hb dX12_odds_19 (by decide) ?_
      refine K_i (G_S (As := [.int qq, .int 0, .int 9999]) (rest := []) X hM (c_X12_in l g _ qq 0 9999  ) lk_X12_41 rfl hl.1 rfl (Nat.le_of_ble_eq_true rfl) (by decide) dX12_odds_22 ⟨Nat.le_of_ble_eq_true rfl, Nat.le_of_ble_eq_true rfl⟩) hM (fun r M1 H locs hM hp => ?_)
      obtain ⟨rfl, rfl⟩ := hp
      refine lv_if_eq (tgt := 38) hx hb dX12_odds_25 (by decide) (fun c_3 => ?_) (fun c_3 => ?_)
      · skip
        refine lv_ldc2 (v := -9223372036854775808) hx hb X.1.2.2.2.1 (X.1.2.2.2.2 _ q_1131) dX12_odds_38 ?_
        exact R_l X hr hk hM ⟨m2, fr, by_, tr, (by unfold mOdds; (first | rw [if_pos c_1] | rw [if_neg c_1] | skip); (first | rw [if_pos c_2] | rw [if_neg c_2] | skip); (first | rw [if_pos c_3] | rw [if_neg c_3] | skip)), (by rw [mup_id h46, mup_id h49, mup_id h50, mup_id h51])⟩ dX12_odds_41
      · skip
        refine lv_iload hx hb dX12_odds_28 (lv_at hl 4 rfl) ?_
        refine lv_iconst (v := 0) hx hb dX12_odds_30 (by decide) ?_
        refine lv_iconst (v := 1) hx hb dX12_odds_31 (by decide) ?_
        refine K_i (G_S (As := [.int pt, .int 0, .int 1]) (rest := []) X hM (c_X12_in l g _ pt 0 1  ) lk_X12_41 rfl hl.1 rfl (Nat.le_of_ble_eq_true rfl) (by decide) dX12_odds_32 ⟨Nat.le_of_ble_eq_true rfl, Nat.le_of_ble_eq_true rfl⟩) hM (fun r M1 H locs hM hp => ?_)
        obtain ⟨rfl, rfl⟩ := hp
        refine lv_if_ne (tgt := 42) hx hb dX12_odds_35 (by decide) (fun c_4 => ?_) (fun c_4 => ?_)
        · skip
          refine lv_lconst (v := 0) hx hb dX12_odds_42 (by decide) ?_
          refine lv_lstore (lv' := [(5, .long 0), (0, .ref (gA g 46)), (1, .int (nI h)), (2, .int (nI k)), (3, .int qq), (4, .int pt)]) hx hb dX12_odds_43 hl (by decide) rfl (fun ls hl => ?_)
          refine lv_aload_n hx hb dX12_odds_45 rfl (lv_at hl 1 rfl) ?_
          refine lv_iconst (v := 0) hx hb dX12_odds_46 (by decide) ?_
          refine r_put (T := TX12) (N := 20) (ci := 12) X hM iX12 tyX12 tyX12_ok nmX12 rfl 5 (by decide) q_840 rfl (Or.inl rfl) h46 rfl rfl (Nat.le_of_ble_eq_true rfl) dX12_odds_47 (fun H locs hM => ?_)
          have hM : MW g (mup M (gA g 46) (mdE g m0 m1 0 m3 m4 m5 m6 m7 m8 m9 m10 m11)) H locs := hM
          have L50 : ∀ (fu : Nat) (i U : Nat) (fr1 b0 b1 : Nat → Int32) (hi : i ≤ 13) (kU : U = mOdU f L t k h qq i) (hU : U ≤ i) (H : Heap) (locs : List Loc) (hM : MW g (mup (mup (mup (mup (mup M (gA g 46) (mdE g m0 m1 (nI i) m3 m4 m5 m6 m7 m8 m9 m10 m11)) (gA g 49) (aI g 9 fr1)) (gA g 50) (aI g 6 b0)) (gA g 51) (aZ g 64 b1)) (gA g 47) (aI g 929 f)) H locs) (ls : Array Slot) (hl : lv_has ls 7 [(0, .ref (gA g 46)), (1, .int (nI h)), (2, .int (nI k)), (3, .int qq), (4, .int pt), (5, .long (lN U))]), 13 - i < fu → W p l e (rmD 7 0 0) s m args below meth c H locs 0 0 (MQ below (Ql g (fun r M1 => ∃ (y2 : Int32) (y3 : Nat → Int32) (y0 : Nat → Int32) (y1 : Nat → Int32), (mOdds f L t (nI h) (nI k) qq pt) = r ∧ mup (mup (mup (mup M (gA g 46) (mdE g m0 m1 y2 m3 m4 m5 m6 m7 m8 m9 m10 m11)) (gA g 49) (aI g 9 y3)) (gA g 50) (aI g 6 y0)) (gA g 51) (aZ g 64 y1) = M1)) args s 0 0 (gF g)) (F0 m 50 ls []) := by
            intro fu
            induction fu with
            | zero => intro i U fr1 b0 b1 hi kU hU H locs hM ls hl hmu; exact absurd hmu (Nat.not_lt_zero _)
            | succ fu ih =>
              intro i U fr1 b0 b1 hi kU hU H locs hM ls hl hmu
              refine lv_aload_n hx hb dX12_odds_50 rfl (lv_at hl 0 rfl) ?_
              refine r_get (T := TX12) (N := 20) (ci := 12) (v := .int (nI i)) X hM iX12 rfl 5 (by decide) q_840 (Or.inl rfl) (mup_r (X.2.ne (i := 46) (j := 47) (by decide) (by decide) (by decide)) (mup_r (X.2.ne (i := 46) (j := 51) (by decide) (by decide) (by decide)) (mup_r (X.2.ne (i := 46) (j := 50) (by decide) (by decide) (by decide)) (mup_r (X.2.ne (i := 46) (j := 49) (by decide) (by decide) (by decide)) (mup_s _ _ _))))) rfl dX12_odds_51 ?_
              refine lv_bipush (v := 12) hx hb dX12_odds_54 (by decide) ?_
              refine lv_icmp_gt (tgt := 116) hx hb dX12_odds_56 (by decide) (fun c_5 => ?_) (fun c_5 => ?_)
              · skip
                have hz1 : i = 13 := by
                  rcases Nat.lt_or_ge 12 i with q_ | q_
                  · omega
                  · exact absurd (show nI i ≤ nI 12 from (nI_leI (by omega) (by omega)).mpr q_) (Int32.not_le.mpr (show nI 12 < nI i from c_5))
                refine lv_lload hx hb dX12_odds_116 (lv_at hl 5 rfl) ?_
                refine lv_ldc2 (v := 13) hx hb X.1.2.2.2.1 (X.1.2.2.2.2 _ q_1132) dX12_odds_118 ?_
                refine lv_iload hx hb dX12_odds_121 (lv_at hl 4 rfl) ?_
                refine K_l (G_S (As := [.long (lN U), .long 13, .int pt]) (rest := []) X hM (c_X12_lowest l g _ U 13 pt  (by omega) (by decide) (by decide)) lk_X12_207 rfl hl.1 rfl (Nat.le_of_ble_eq_true rfl) (by decide) dX12_odds_123 ⟨Nat.le_of_ble_eq_true rfl, Nat.le_of_ble_eq_true rfl⟩) hM (fun r M1 H locs hM hp => ?_)
                obtain ⟨rfl, rfl⟩ := hp
                exact R_l X hr hk hM ⟨_, _, _, _, (by unfold mOdds; simp only [hch, hcq]; rw [if_neg c_1, if_neg c_2, if_neg c_3, if_neg c_4, ← hz1, ← kU]; rfl), (by rw [mup_id (a := gA g 47) (mup_r (X.2.ne (i := 47) (j := 51) (by decide) (by decide) (by decide)) (mup_r (X.2.ne (i := 47) (j := 50) (by decide) (by decide) (by decide)) (mup_r (X.2.ne (i := 47) (j := 49) (by decide) (by decide) (by decide)) (mup_r (X.2.ne (i := 47) (j := 46) (by decide) (by decide) (by decide)) h47))))])⟩ dX12_odds_126
              · skip
                have hz1 : i < 13 := by
                  rcases Nat.lt_or_ge 12 i with q_ | q_
                  · exact absurd (show nI 12 < nI i from (nI_ltI (by omega) (by omega)).mpr q_) c_5
                  · omega
                refine lv_aload_n hx hb dX12_odds_59 rfl (lv_at hl 0 rfl) ?_
                refine K_v (G_V (As := []) (rest := []) X hM (c_X12_keeps l g _ m0 m1 (nI i) m3 m4 m5 m6 m7 m8 m9 m10 m11 f fr1 (mup_r (X.2.ne (i := 46) (j := 47) (by decide) (by decide) (by decide)) (mup_r (X.2.ne (i := 46) (j := 51) (by decide) (by decide) (by decide)) (mup_r (X.2.ne (i := 46) (j := 50) (by decide) (by decide) (by decide)) (mup_r (X.2.ne (i := 46) (j := 49) (by decide) (by decide) (by decide)) (mup_s _ _ _))))) (mup_s _ _ _) (mup_r (X.2.ne (i := 49) (j := 47) (by decide) (by decide) (by decide)) (mup_r (X.2.ne (i := 49) (j := 51) (by decide) (by decide) (by decide)) (mup_r (X.2.ne (i := 49) (j := 50) (by decide) (by decide) (by decide)) (mup_s _ _ _)))) ) lk_X12_175 (mup_r (X.2.ne (i := 46) (j := 47) (by decide) (by decide) (by decide)) (mup_r (X.2.ne (i := 46) (j := 51) (by decide) (by decide) (by decide)) (mup_r (X.2.ne (i := 46) (j := 50) (by decide) (by decide) (by decide)) (mup_r (X.2.ne (i := 46) (j := 49) (by decide) (by decide) (by decide)) (mup_s _ _ _))))) rfl rfl hl.1 rfl (Nat.le_of_ble_eq_true rfl) (by decide) dX12_odds_60 ⟨Nat.le_of_ble_eq_true rfl, Nat.le_of_ble_eq_true rfl⟩) hM (fun M1 H locs hM hp => ?_)
                subst hp
                rw [mup_w _ _ _ (X.2.ne (i := 47) (j := 49) (by decide) (by decide) (by decide)), mup_w _ _ _ (X.2.ne (i := 51) (j := 49) (by decide) (by decide) (by decide)), mup_w _ _ _ (X.2.ne (i := 50) (j := 49) (by decide) (by decide) (by decide)), mup_i] at hM
                have hM : MW g (mup (mup (mup (mup (mup M (gA g 46) (mdE g m0 m1 (nI i) m3 m4 m5 m6 m7 m8 m9 m10 m11)) (gA g 49) (aI g 9 (mCp 9 f fr1))) (gA g 50) (aI g 6 b0)) (gA g 51) (aZ g 64 b1)) (gA g 47) (aI g 929 f)) H locs := hM
                refine lv_aload_n hx hb dX12_odds_63 rfl (lv_at hl 0 rfl) ?_
                refine lv_iload_n hx hb dX12_odds_64 rfl (lv_at hl 2 rfl) ?_
                refine K_v (G_V (As := [.int (nI k)]) (rest := []) X hM (c_X12_goesOn l g _ m0 m1 (nI i) m3 m4 m5 m6 m7 m8 m9 m10 m11 f L t b0 b1 k (mup_r (X.2.ne (i := 46) (j := 47) (by decide) (by decide) (by decide)) (mup_r (X.2.ne (i := 46) (j := 51) (by decide) (by decide) (by decide)) (mup_r (X.2.ne (i := 46) (j := 50) (by decide) (by decide) (by decide)) (mup_r (X.2.ne (i := 46) (j := 49) (by decide) (by decide) (by decide)) (mup_s _ _ _))))) (mup_s _ _ _) (mup_r (X.2.ne (i := 50) (j := 47) (by decide) (by decide) (by decide)) (mup_r (X.2.ne (i := 50) (j := 51) (by decide) (by decide) (by decide)) (mup_s _ _ _))) (mup_r (X.2.ne (i := 51) (j := 47) (by decide) (by decide) (by decide)) (mup_s _ _ _)) hO h0 (by omega) bk) lk_X12_178 (mup_r (X.2.ne (i := 46) (j := 47) (by decide) (by decide) (by decide)) (mup_r (X.2.ne (i := 46) (j := 51) (by decide) (by decide) (by decide)) (mup_r (X.2.ne (i := 46) (j := 50) (by decide) (by decide) (by decide)) (mup_r (X.2.ne (i := 46) (j := 49) (by decide) (by decide) (by decide)) (mup_s _ _ _))))) rfl rfl hl.1 rfl (Nat.le_of_ble_eq_true rfl) (by decide) dX12_odds_65 ⟨Nat.le_of_ble_eq_true rfl, Nat.le_of_ble_eq_true rfl⟩) hM (fun M1 H locs hM hp => ?_)
                obtain ⟨y0_6, y1_7, rfl⟩ := hp
                rw [mup_w _ _ _ (X.2.ne (i := 47) (j := 50) (by decide) (by decide) (by decide)), mup_w _ _ _ (X.2.ne (i := 51) (j := 50) (by decide) (by decide) (by decide)), mup_i] at hM
                rw [mup_w _ _ _ (X.2.ne (i := 47) (j := 51) (by decide) (by decide) (by decide)), mup_i] at hM
                rw [mup_i] at hM
                have hM : MW g (mup (mup (mup (mup (mup M (gA g 46) (mdE g m0 m1 (nI i) m3 m4 m5 m6 m7 m8 m9 m10 m11)) (gA g 49) (aI g 9 (mCp 9 f fr1))) (gA g 50) (aI g 6 y0_6)) (gA g 51) (aZ g 64 y1_7)) (gA g 47) (aI g 929 (mGoN f L (nI i) t k))) H locs := hM
                refine lv_lload hx hb dX12_odds_68 (lv_at hl 5 rfl) ?_
                refine lv_aload_n hx hb dX12_odds_70 rfl (lv_at hl 0 rfl) ?_
                refine r_get (T := TX12) (N := 20) (ci := 12) (v := .ref (gA g 47)) X hM iX12 rfl 1 (by decide) q_836 (Or.inl rfl) (mup_r (X.2.ne (i := 46) (j := 47) (by decide) (by decide) (by decide)) (mup_r (X.2.ne (i := 46) (j := 51) (by decide) (by decide) (by decide)) (mup_r (X.2.ne (i := 46) (j := 50) (by decide) (by decide) (by decide)) (mup_r (X.2.ne (i := 46) (j := 49) (by decide) (by decide) (by decide)) (mup_s _ _ _))))) rfl dX12_odds_71 ?_
                refine lv_iconst (v := 1) hx hb dX12_odds_74 (by decide) ?_
                refine lv_iload_n hx hb dX12_odds_75 rfl (lv_at hl 1 rfl) ?_
                refine lv_iadd hx hb dX12_odds_76 ?_
                rw [show (1 : Int32) + (nI h) = nI (1 + h) from nI_add 1 h]
                refine r_iald (i := nI (1 + h)) X hM (mup_s _ _ _) (vp_in_nI (by omega) (by decide)) dX12_odds_77 ?_
                rw [nI_clamp (show 1 + h < 2147483648 by omega)]
                refine lv_aload_n hx hb dX12_odds_78 rfl (lv_at hl 0 rfl) ?_
                refine r_get (T := TX12) (N := 20) (ci := 12) (v := .ref (gA g 49)) X hM iX12 rfl 3 (by decide) q_838 (Or.inl rfl) (mup_r (X.2.ne (i := 46) (j := 47) (by decide) (by decide) (by decide)) (mup_r (X.2.ne (i := 46) (j := 51) (by decide) (by decide) (by decide)) (mup_r (X.2.ne (i := 46) (j := 50) (by decide) (by decide) (by decide)) (mup_r (X.2.ne (i := 46) (j := 49) (by decide) (by decide) (by decide)) (mup_s _ _ _))))) rfl dX12_odds_79 ?_
                refine lv_iconst (v := 1) hx hb dX12_odds_82 (by decide) ?_
                refine lv_iload_n hx hb dX12_odds_83 rfl (lv_at hl 1 rfl) ?_
                refine lv_iadd hx hb dX12_odds_84 ?_
                rw [show (1 : Int32) + (nI h) = nI (1 + h) from nI_add 1 h]
                refine r_iald (i := nI (1 + h)) X hM (mup_r (X.2.ne (i := 49) (j := 47) (by decide) (by decide) (by decide)) (mup_r (X.2.ne (i := 49) (j := 51) (by decide) (by decide) (by decide)) (mup_r (X.2.ne (i := 49) (j := 50) (by decide) (by decide) (by decide)) (mup_s _ _ _)))) (vp_in_nI (by omega) (by decide)) dX12_odds_85 ?_
                rw [nI_clamp (show 1 + h < 2147483648 by omega)]
                rw [show mCp 9 f fr1 (1 + h) = f (1 + h) from if_pos (by omega)]
                refine lv_isub hx hb dX12_odds_86 ?_
                refine lv_iload_n hx hb dX12_odds_87 rfl (lv_at hl 3 rfl) ?_
                refine lv_icmp_lt (tgt := 95) hx hb dX12_odds_88 (by decide) (fun c_8 => ?_) (fun c_8 => ?_)
                · skip
                  refine lv_lconst (v := 0) hx hb dX12_odds_95 (by decide) ?_
                  refine lv_ladd hx hb dX12_odds_96 ?_
                  rw [show (lN U) + 0 = lN (U + 0) from lN_add U 0]
                  refine lv_lstore (lv' := [(5, .long (lN (U + 0))), (0, .ref (gA g 46)), (1, .int (nI h)), (2, .int (nI k)), (3, .int qq), (4, .int pt)]) hx hb dX12_odds_97 hl (by decide) rfl (fun ls hl => ?_)
                  refine lv_aload_n hx hb dX12_odds_99 rfl (lv_at hl 1 rfl) ?_
                  refine K_v (G_V (As := []) (rest := []) X hM (c_X12_goesBack l g _ m0 m1 (nI i) m3 m4 m5 m6 m7 m8 m9 m10 m11 (mGoN f L (nI i) t k) (mCp 9 f fr1) (mup_r (X.2.ne (i := 46) (j := 47) (by decide) (by decide) (by decide)) (mup_r (X.2.ne (i := 46) (j := 51) (by decide) (by decide) (by decide)) (mup_r (X.2.ne (i := 46) (j := 50) (by decide) (by decide) (by decide)) (mup_r (X.2.ne (i := 46) (j := 49) (by decide) (by decide) (by decide)) (mup_s _ _ _))))) (mup_s _ _ _) (mup_r (X.2.ne (i := 49) (j := 47) (by decide) (by decide) (by decide)) (mup_r (X.2.ne (i := 49) (j := 51) (by decide) (by decide) (by decide)) (mup_r (X.2.ne (i := 49) (j := 50) (by decide) (by decide) (by decide)) (mup_s _ _ _)))) ) lk_X12_184 (mup_r (X.2.ne (i := 46) (j := 47) (by decide) (by decide) (by decide)) (mup_r (X.2.ne (i := 46) (j := 51) (by decide) (by decide) (by decide)) (mup_r (X.2.ne (i := 46) (j := 50) (by decide) (by decide) (by decide)) (mup_r (X.2.ne (i := 46) (j := 49) (by decide) (by decide) (by decide)) (mup_s _ _ _))))) rfl rfl hl.1 rfl (Nat.le_of_ble_eq_true rfl) (by decide) dX12_odds_100 ⟨Nat.le_of_ble_eq_true rfl, Nat.le_of_ble_eq_true rfl⟩) hM (fun M1 H locs hM hp => ?_)
                  subst hp
                  rw [mup_i] at hM
                  have hM : MW g (mup (mup (mup (mup (mup M (gA g 46) (mdE g m0 m1 (nI i) m3 m4 m5 m6 m7 m8 m9 m10 m11)) (gA g 49) (aI g 9 (mCp 9 f fr1))) (gA g 50) (aI g 6 y0_6)) (gA g 51) (aZ g 64 y1_7)) (gA g 47) (aI g 929 (mCp 9 (mCp 9 f fr1) (mGoN f L (nI i) t k)))) H locs := hM
                  refine lv_aload_n hx hb dX12_odds_103 rfl (lv_at hl 1 rfl) ?_
                  refine lv_dup hx hb dX12_odds_104 rfl ?_
                  refine r_get (T := TX12) (N := 20) (ci := 12) (v := .int (nI i)) X hM iX12 rfl 5 (by decide) q_840 (Or.inl rfl) (mup_r (X.2.ne (i := 46) (j := 47) (by decide) (by decide) (by decide)) (mup_r (X.2.ne (i := 46) (j := 51) (by decide) (by decide) (by decide)) (mup_r (X.2.ne (i := 46) (j := 50) (by decide) (by decide) (by decide)) (mup_r (X.2.ne (i := 46) (j := 49) (by decide) (by decide) (by decide)) (mup_s _ _ _))))) rfl dX12_odds_105 ?_
                  refine lv_iconst (v := 1) hx hb dX12_odds_108 (by decide) ?_
                  refine lv_iadd hx hb dX12_odds_109 ?_
                  rw [show (nI i) + (1 : Int32) = nI (i + 1) from nI_add i 1]
                  refine r_put (T := TX12) (N := 20) (ci := 12) X hM iX12 tyX12 tyX12_ok nmX12 rfl 5 (by decide) q_840 rfl (Or.inl rfl) (mup_r (X.2.ne (i := 46) (j := 47) (by decide) (by decide) (by decide)) (mup_r (X.2.ne (i := 46) (j := 51) (by decide) (by decide) (by decide)) (mup_r (X.2.ne (i := 46) (j := 50) (by decide) (by decide) (by decide)) (mup_r (X.2.ne (i := 46) (j := 49) (by decide) (by decide) (by decide)) (mup_s _ _ _))))) rfl rfl (Nat.le_of_ble_eq_true rfl) dX12_odds_110 (fun H locs hM => ?_)
                  rw [mup_w _ _ _ (X.2.ne (i := 47) (j := 46) (by decide) (by decide) (by decide)), mup_w _ _ _ (X.2.ne (i := 51) (j := 46) (by decide) (by decide) (by decide)), mup_w _ _ _ (X.2.ne (i := 50) (j := 46) (by decide) (by decide) (by decide)), mup_w _ _ _ (X.2.ne (i := 49) (j := 46) (by decide) (by decide) (by decide)), mup_i] at hM
                  have hM : MW g (mup (mup (mup (mup (mup M (gA g 46) (mdE g m0 m1 (nI (i + 1)) m3 m4 m5 m6 m7 m8 m9 m10 m11)) (gA g 49) (aI g 9 (mCp 9 f fr1))) (gA g 50) (aI g 6 y0_6)) (gA g 51) (aZ g 64 y1_7)) (gA g 47) (aI g 929 (mCp 9 (mCp 9 f fr1) (mGoN f L (nI i) t k)))) H locs := hM
                  refine lv_goto (tgt := 50) hx hb dX12_odds_113 (by decide) ?_
                  rw [mCp_back (fun q9 hq9 => (mGoN_ok hO _ h0 (by omega) k (by omega)).2.1 q9 (by omega))] at hM
                  exact ih (i + 1) (U + 0) (mCp 9 f fr1) y0_6 y1_7 (by omega) (by rw [kU, mOdU]; first | rw [if_pos c_8] | rw [if_neg c_8]) (by omega) _ _ hM _ (lv_sub hl [1, 2, 3, 4, 5, 0] rfl) (by omega)
                · skip
                  refine lv_lconst (v := 1) hx hb dX12_odds_91 (by decide) ?_
                  refine lv_goto (tgt := 96) hx hb dX12_odds_92 (by decide) ?_
                  refine lv_ladd hx hb dX12_odds_96 ?_
                  rw [show (lN U) + 1 = lN (U + 1) from lN_1 U]
                  refine lv_lstore (lv' := [(5, .long (lN (U + 1))), (0, .ref (gA g 46)), (1, .int (nI h)), (2, .int (nI k)), (3, .int qq), (4, .int pt)]) hx hb dX12_odds_97 hl (by decide) rfl (fun ls hl => ?_)
                  refine lv_aload_n hx hb dX12_odds_99 rfl (lv_at hl 1 rfl) ?_
                  refine K_v (G_V (As := []) (rest := []) X hM (c_X12_goesBack l g _ m0 m1 (nI i) m3 m4 m5 m6 m7 m8 m9 m10 m11 (mGoN f L (nI i) t k) (mCp 9 f fr1) (mup_r (X.2.ne (i := 46) (j := 47) (by decide) (by decide) (by decide)) (mup_r (X.2.ne (i := 46) (j := 51) (by decide) (by decide) (by decide)) (mup_r (X.2.ne (i := 46) (j := 50) (by decide) (by decide) (by decide)) (mup_r (X.2.ne (i := 46) (j := 49) (by decide) (by decide) (by decide)) (mup_s _ _ _))))) (mup_s _ _ _) (mup_r (X.2.ne (i := 49) (j := 47) (by decide) (by decide) (by decide)) (mup_r (X.2.ne (i := 49) (j := 51) (by decide) (by decide) (by decide)) (mup_r (X.2.ne (i := 49) (j := 50) (by decide) (by decide) (by decide)) (mup_s _ _ _)))) ) lk_X12_184 (mup_r (X.2.ne (i := 46) (j := 47) (by decide) (by decide) (by decide)) (mup_r (X.2.ne (i := 46) (j := 51) (by decide) (by decide) (by decide)) (mup_r (X.2.ne (i := 46) (j := 50) (by decide) (by decide) (by decide)) (mup_r (X.2.ne (i := 46) (j := 49) (by decide) (by decide) (by decide)) (mup_s _ _ _))))) rfl rfl hl.1 rfl (Nat.le_of_ble_eq_true rfl) (by decide) dX12_odds_100 ⟨Nat.le_of_ble_eq_true rfl, Nat.le_of_ble_eq_true rfl⟩) hM (fun M1 H locs hM hp => ?_)
                  subst hp
                  rw [mup_i] at hM
                  have hM : MW g (mup (mup (mup (mup (mup M (gA g 46) (mdE g m0 m1 (nI i) m3 m4 m5 m6 m7 m8 m9 m10 m11)) (gA g 49) (aI g 9 (mCp 9 f fr1))) (gA g 50) (aI g 6 y0_6)) (gA g 51) (aZ g 64 y1_7)) (gA g 47) (aI g 929 (mCp 9 (mCp 9 f fr1) (mGoN f L (nI i) t k)))) H locs := hM
                  refine lv_aload_n hx hb dX12_odds_103 rfl (lv_at hl 1 rfl) ?_
                  refine lv_dup hx hb dX12_odds_104 rfl ?_
                  refine r_get (T := TX12) (N := 20) (ci := 12) (v := .int (nI i)) X hM iX12 rfl 5 (by decide) q_840 (Or.inl rfl) (mup_r (X.2.ne (i := 46) (j := 47) (by decide) (by decide) (by decide)) (mup_r (X.2.ne (i := 46) (j := 51) (by decide) (by decide) (by decide)) (mup_r (X.2.ne (i := 46) (j := 50) (by decide) (by decide) (by decide)) (mup_r (X.2.ne (i := 46) (j := 49) (by decide) (by decide) (by decide)) (mup_s _ _ _))))) rfl dX12_odds_105 ?_
                  refine lv_iconst (v := 1) hx hb dX12_odds_108 (by decide) ?_
                  refine lv_iadd hx hb dX12_odds_109 ?_
                  rw [show (nI i) + (1 : Int32) = nI (i + 1) from nI_add i 1]
                  refine r_put (T := TX12) (N := 20) (ci := 12) X hM iX12 tyX12 tyX12_ok nmX12 rfl 5 (by decide) q_840 rfl (Or.inl rfl) (mup_r (X.2.ne (i := 46) (j := 47) (by decide) (by decide) (by decide)) (mup_r (X.2.ne (i := 46) (j := 51) (by decide) (by decide) (by decide)) (mup_r (X.2.ne (i := 46) (j := 50) (by decide) (by decide) (by decide)) (mup_r (X.2.ne (i := 46) (j := 49) (by decide) (by decide) (by decide)) (mup_s _ _ _))))) rfl rfl (Nat.le_of_ble_eq_true rfl) dX12_odds_110 (fun H locs hM => ?_)
                  rw [mup_w _ _ _ (X.2.ne (i := 47) (j := 46) (by decide) (by decide) (by decide)), mup_w _ _ _ (X.2.ne (i := 51) (j := 46) (by decide) (by decide) (by decide)), mup_w _ _ _ (X.2.ne (i := 50) (j := 46) (by decide) (by decide) (by decide)), mup_w _ _ _ (X.2.ne (i := 49) (j := 46) (by decide) (by decide) (by decide)), mup_i] at hM
                  have hM : MW g (mup (mup (mup (mup (mup M (gA g 46) (mdE g m0 m1 (nI (i + 1)) m3 m4 m5 m6 m7 m8 m9 m10 m11)) (gA g 49) (aI g 9 (mCp 9 f fr1))) (gA g 50) (aI g 6 y0_6)) (gA g 51) (aZ g 64 y1_7)) (gA g 47) (aI g 929 (mCp 9 (mCp 9 f fr1) (mGoN f L (nI i) t k)))) H locs := hM
                  refine lv_goto (tgt := 50) hx hb dX12_odds_113 (by decide) ?_
                  rw [mCp_back (fun q9 hq9 => (mGoN_ok hO _ h0 (by omega) k (by omega)).2.1 q9 (by omega))] at hM
                  exact ih (i + 1) (U + 1) (mCp 9 f fr1) y0_6 y1_7 (by omega) (by rw [kU, mOdU]; first | rw [if_pos c_8] | rw [if_neg c_8]) (by omega) _ _ hM _ (lv_sub hl [1, 2, 3, 4, 5, 0] rfl) (by omega)
          exact L50 (13 + 1) 0 0 fr by_ tr (Nat.zero_le _) rfl (Nat.le_refl _) _ _ (by show MW g (mup (mup (mup (mup (mup M (gA g 46) (mdE g m0 m1 0 m3 m4 m5 m6 m7 m8 m9 m10 m11)) (gA g 49) (aI g 9 fr)) (gA g 50) (aI g 6 by_)) (gA g 51) (aZ g 64 tr)) (gA g 47) (aI g 929 f)) _ _; rw [mup_id (a := gA g 49) (mup_r (X.2.ne (i := 49) (j := 46) (by decide) (by decide) (by decide)) h49), mup_id (a := gA g 50) (mup_r (X.2.ne (i := 50) (j := 46) (by decide) (by decide) (by decide)) h50), mup_id (a := gA g 51) (mup_r (X.2.ne (i := 51) (j := 46) (by decide) (by decide) (by decide)) h51), mup_id (a := gA g 47) (mup_r (X.2.ne (i := 47) (j := 46) (by decide) (by decide) (by decide)) h47)]; exact hM) _ (lv_sub hl [1, 2, 3, 4, 5, 0] rfl) (by first | exact Nat.lt_succ_self _ | omega)
        · skip
          refine lv_ldc2 (v := -9223372036854775808) hx hb X.1.2.2.2.1 (X.1.2.2.2.2 _ q_1131) dX12_odds_38 ?_
          exact R_l X hr hk hM ⟨m2, fr, by_, tr, (by unfold mOdds; (first | rw [if_pos c_1] | rw [if_neg c_1] | skip); (first | rw [if_pos c_2] | rw [if_neg c_2] | skip); (first | rw [if_pos c_3] | rw [if_neg c_3] | skip); (first | rw [if_pos c_4] | rw [if_neg c_4] | skip)), (by rw [mup_id h46, mup_id h49, mup_id h50, mup_id h51])⟩ dX12_odds_41
set_option maxHeartbeats 4000000 in
set_option maxRecDepth 100000 in
theorem c_X12_mean (l : Launch) (g : Gp) (M : Mem) (m0 m1 m2 m3 m4 m5 m6 m7 m8 m9 m10 m11 : Int32) (f : Nat → Int32) (L : Nat) (t : Nat) (ho pt : Int32) (by_ tr : Nat → Int32) (h46 : M (gA g 46) = some (mdE g m0 m1 m2 m3 m4 m5 m6 m7 m8 m9 m10 m11)) (h47 : M (gA g 47) = some (aI g 929 f)) (h50 : M (gA g 50) = some (aI g 6 by_)) (h51 : M (gA g 51) = some (aZ g 64 tr)) (hO : MOk f L) (h0 : f 0 = nI t) (ht : t < 10000) (hB : MuchOk f L) : Met l yX12_mean (wsM yX12_mean cX12_mean 6 (some .long)) (rmD 5 0 0) (Pre g M [.ref (gA g 46), .int ho, .int pt]) (Ql g (fun r M1 => ∃ (y2 : Int32) (y0 : Nat → Int32) (y1 : Nat → Int32), (mMean f L t ho pt) = r ∧ mup (mup (mup M (gA g 46) (mdE g m0 m1 y2 m3 m4 m5 m6 m7 m8 m9 m10 m11)) (gA g 50) (aI g 6 y0)) (gA g 51) (aZ g 64 y1) = M1)) 0 0 (gF g) := M_start (by decide +kernel) (Nat.le_of_ble_eq_true rfl) fun p e s m args below meth c ls X hr hk hnm hM hl => by
  have X : Cx g p m c cX12_mean 6 s args RX12 := X
  have hx := X.1.1
  have hb := X.1.2.1
  have hl : lv_has ls 6 [(0, .ref (gA g 46)), (1, .int ho), (2, .int pt)] := hl
  obtain ⟨h9, hL, hR, hS⟩ := id hO
  refine lv_iload_n hx hb dX12_mean_0 rfl (lv_at hl 1 rfl) ?_
  refine K_i (G_S (As := [.int ho]) (rest := []) X hM (c_X12_isHouse l g _ ho  ) lk_X12_151 rfl hl.1 rfl (Nat.le_of_ble_eq_true rfl) (by decide) dX12_mean_1 ⟨Nat.le_of_ble_eq_true rfl, Nat.le_of_ble_eq_true rfl⟩) hM (fun r M1 H locs hM hp => ?_)
  obtain ⟨rfl, rfl⟩ := hp
  refine lv_if_eq (tgt := 16) hx hb dX12_mean_4 (by decide) (fun c_1 => ?_) (fun c_1 => ?_)
  · skip
    refine lv_ldc2 (v := -9223372036854775808) hx hb X.1.2.2.2.1 (X.1.2.2.2.2 _ q_1131) dX12_mean_16 ?_
    exact R_l X hr hk hM ⟨m2, by_, tr, (by unfold mMean; (first | rw [if_pos c_1] | rw [if_neg c_1] | skip)), (by rw [mup_id h46, mup_id h50, mup_id h51])⟩ dX12_mean_19
  · skip
    obtain ⟨h, bh, rfl⟩ := fIn_k (K := 1) (by decide) c_1
    have hch : (nI h).toNatClampNeg = h := nI_clamp (by omega)
    refine lv_iload_n hx hb dX12_mean_7 rfl (lv_at hl 2 rfl) ?_
    refine lv_iconst (v := 0) hx hb dX12_mean_8 (by decide) ?_
    refine lv_iconst (v := 1) hx hb dX12_mean_9 (by decide) ?_
    refine K_i (G_S (As := [.int pt, .int 0, .int 1]) (rest := []) X hM (c_X12_in l g _ pt 0 1  ) lk_X12_41 rfl hl.1 rfl (Nat.le_of_ble_eq_true rfl) (by decide) dX12_mean_10 ⟨Nat.le_of_ble_eq_true rfl, Nat.le_of_ble_eq_true rfl⟩) hM (fun r M1 H locs hM hp => ?_)
    obtain ⟨rfl, rfl⟩ := hp
    refine lv_if_ne (tgt := 20) hx hb dX12_mean_13 (by decide) (fun c_2 => ?_) (fun c_2 => ?_)
    · skip
      refine lv_aload_n hx hb dX12_mean_20 rfl (lv_at hl 0 rfl) ?_
      refine K_v (G_V (As := []) (rest := []) X hM (c_X12_asItIs l g _ m0 m1 m2 m3 m4 m5 m6 m7 m8 m9 m10 m11 f h46 h47 hS.hd) lk_X12_155 h46 rfl rfl hl.1 rfl (Nat.le_of_ble_eq_true rfl) (by decide) dX12_mean_21 ⟨Nat.le_of_ble_eq_true rfl, Nat.le_of_ble_eq_true rfl⟩) hM (fun M1 H locs hM hp => ?_)
      subst hp
      have hM : MW g (mup M (gA g 46) (mdE g m0 m1 (mTel f 219 0) m3 m4 m5 m6 m7 m8 m9 m10 m11)) H locs := hM
      refine lv_lconst (v := 0) hx hb dX12_mean_24 (by decide) ?_
      refine lv_lstore_n (lv' := [(3, .long 0), (0, .ref (gA g 46)), (1, .int (nI h)), (2, .int pt)]) hx hb dX12_mean_25 rfl hl (by decide) rfl (fun ls hl => ?_)
      refine lv_iconst (v := 0) hx hb dX12_mean_26 (by decide) ?_
      refine lv_istore (lv' := [(5, .int 0), (3, .long 0), (0, .ref (gA g 46)), (1, .int (nI h)), (2, .int pt)]) hx hb dX12_mean_27 hl (by decide) rfl (fun ls hl => ?_)
      have L29 : ∀ (fu : Nat) (i U : Nat) (b0 b1 : Nat → Int32) (hi : i ≤ 28) (kU : U = mMeU f L t h i) (hU : U ≤ 400000 * i) (H : Heap) (locs : List Loc) (hM : MW g (mup (mup (mup M (gA g 46) (mdE g m0 m1 (mCl f) m3 m4 m5 m6 m7 m8 m9 m10 m11)) (gA g 50) (aI g 6 b0)) (gA g 51) (aZ g 64 b1)) H locs) (ls : Array Slot) (hl : lv_has ls 6 [(0, .ref (gA g 46)), (1, .int (nI h)), (2, .int pt), (3, .long (lN U)), (5, .int (nI i))]), 28 - i < fu → W p l e (rmD 5 0 0) s m args below meth c H locs 0 0 (MQ below (Ql g (fun r M1 => ∃ (y2 : Int32) (y0 : Nat → Int32) (y1 : Nat → Int32), (mMean f L t (nI h) pt) = r ∧ mup (mup (mup M (gA g 46) (mdE g m0 m1 y2 m3 m4 m5 m6 m7 m8 m9 m10 m11)) (gA g 50) (aI g 6 y0)) (gA g 51) (aZ g 64 y1) = M1)) args s 0 0 (gF g)) (F0 m 29 ls []) := by
        intro fu
        induction fu with
        | zero => intro i U b0 b1 hi kU hU H locs hM ls hl hmu; exact absurd hmu (Nat.not_lt_zero _)
        | succ fu ih =>
          intro i U b0 b1 hi kU hU H locs hM ls hl hmu
          refine lv_iload hx hb dX12_mean_29 (lv_at hl 4 rfl) ?_
          refine lv_bipush (v := 28) hx hb dX12_mean_31 (by decide) ?_
          refine lv_icmp_ge (tgt := 60) hx hb dX12_mean_33 (by decide) (fun c_3 => ?_) (fun c_3 => ?_)
          · skip
            have hz1 : i = 28 := by
              have := (nI_leI (a := 28) (b := i) (by omega) (by omega)).mp c_3
              omega
            refine lv_lload_n hx hb dX12_mean_60 rfl (lv_at hl 3 rfl) ?_
            refine lv_ldc2 (v := 28) hx hb X.1.2.2.2.1 (X.1.2.2.2.2 _ q_1140) dX12_mean_61 ?_
            refine lv_iload_n hx hb dX12_mean_64 rfl (lv_at hl 2 rfl) ?_
            refine K_l (G_S (As := [.long (lN U), .long 28, .int pt]) (rest := []) X hM (c_X12_lowest l g _ U 28 pt  (by omega) (by decide) (by decide)) lk_X12_207 rfl hl.1 rfl (Nat.le_of_ble_eq_true rfl) (by decide) dX12_mean_65 ⟨Nat.le_of_ble_eq_true rfl, Nat.le_of_ble_eq_true rfl⟩) hM (fun r M1 H locs hM hp => ?_)
            obtain ⟨rfl, rfl⟩ := hp
            exact R_l X hr hk hM ⟨_, _, _, (by unfold mMean; simp only [hch]; rw [if_neg c_1, if_neg c_2, ← hz1, ← kU]; rfl), rfl⟩ dX12_mean_68
          · skip
            have hz1 : i < 28 := by
              rcases Nat.lt_or_ge i 28 with q_ | q_
              · exact q_
              · exact absurd (show nI 28 ≤ nI i from (nI_leI (by omega) (by omega)).mpr q_) c_3
            obtain ⟨v, bv, ev⟩ := hB (mCl f) (t + i) h bh (by omega)
            have ecv : (mHas f L (mCl f) (t + i) (nI h)).toNatClampNeg = v := by rw [ev]; exact nI_clamp (by omega)
            refine lv_lload_n hx hb dX12_mean_36 rfl (lv_at hl 3 rfl) ?_
            refine lv_aload_n hx hb dX12_mean_37 rfl (lv_at hl 0 rfl) ?_
            refine lv_aload_n hx hb dX12_mean_38 rfl (lv_at hl 0 rfl) ?_
            refine r_get (T := TX12) (N := 20) (ci := 12) (v := .ref (gA g 47)) X hM iX12 rfl 1 (by decide) q_836 (Or.inl rfl) (mup_r (X.2.ne (i := 46) (j := 51) (by decide) (by decide) (by decide)) (mup_r (X.2.ne (i := 46) (j := 50) (by decide) (by decide) (by decide)) (mup_s _ _ _))) rfl dX12_mean_39 ?_
            refine lv_iconst (v := 0) hx hb dX12_mean_42 (by decide) ?_
            refine r_iald (i := 0) X hM (mup_r (X.2.ne (i := 47) (j := 51) (by decide) (by decide) (by decide)) (mup_r (X.2.ne (i := 47) (j := 50) (by decide) (by decide) (by decide)) (mup_r (X.2.ne (i := 47) (j := 46) (by decide) (by decide) (by decide)) h47))) (vp_in_nI (n := 0) (by decide) (by decide)) dX12_mean_43 ?_
            rw [show ((0 : Int32)).toNatClampNeg = 0 from by decide]
            rw [h0]
            refine lv_iload hx hb dX12_mean_44 (lv_at hl 4 rfl) ?_
            refine lv_iadd hx hb dX12_mean_46 ?_
            rw [show (nI t) + (nI i) = nI (t + i) from nI_add t i]
            refine lv_iload_n hx hb dX12_mean_47 rfl (lv_at hl 1 rfl) ?_
            refine K_i (G_V (As := [.int (nI (t + i)), .int (nI h)]) (rest := [.long (lN U)]) X hM (c_X12_hasOn l g _ m0 m1 (mCl f) m3 m4 m5 m6 m7 m8 m9 m10 m11 f L (t + i) (nI h) b0 b1 (mup_r (X.2.ne (i := 46) (j := 51) (by decide) (by decide) (by decide)) (mup_r (X.2.ne (i := 46) (j := 50) (by decide) (by decide) (by decide)) (mup_s _ _ _))) (mup_r (X.2.ne (i := 47) (j := 51) (by decide) (by decide) (by decide)) (mup_r (X.2.ne (i := 47) (j := 50) (by decide) (by decide) (by decide)) (mup_r (X.2.ne (i := 47) (j := 46) (by decide) (by decide) (by decide)) h47))) (mup_r (X.2.ne (i := 50) (j := 51) (by decide) (by decide) (by decide)) (mup_s _ _ _)) (mup_s _ _ _) hO (by omega)) lk_X12_165 (mup_r (X.2.ne (i := 46) (j := 51) (by decide) (by decide) (by decide)) (mup_r (X.2.ne (i := 46) (j := 50) (by decide) (by decide) (by decide)) (mup_s _ _ _))) rfl rfl hl.1 rfl (Nat.le_of_ble_eq_true rfl) (by decide) dX12_mean_48 ⟨Nat.le_of_ble_eq_true rfl, Nat.le_of_ble_eq_true rfl⟩) hM (fun r M1 H locs hM hp => ?_)
            obtain ⟨y0_4, y1_5, rfl, rfl⟩ := hp
            rw [mup_w _ _ _ (X.2.ne (i := 51) (j := 50) (by decide) (by decide) (by decide)), mup_i] at hM
            rw [mup_i] at hM
            have hM : MW g (mup (mup (mup M (gA g 46) (mdE g m0 m1 (mCl f) m3 m4 m5 m6 m7 m8 m9 m10 m11)) (gA g 50) (aI g 6 y0_4)) (gA g 51) (aZ g 64 y1_5)) H locs := hM
            rw [show mHas f L (mCl f) (t + i) (nI h) = nI v from ev]
            refine lv_i2l (v := (nI v).toInt64) hx hb dX12_mean_51 rfl ?_
            rw [show (nI v).toInt64 = lN v from nI_l (by omega)]
            refine lv_ladd hx hb dX12_mean_52 ?_
            rw [show (lN U) + (lN v) = lN (U + v) from lN_add U v]
            refine lv_lstore_n (lv' := [(3, .long (lN (U + v))), (0, .ref (gA g 46)), (1, .int (nI h)), (2, .int pt), (5, .int (nI i))]) hx hb dX12_mean_53 rfl hl (by decide) rfl (fun ls hl => ?_)
            refine lv_iinc (v := (nI i) + 1) (lv' := [(5, .int ((nI i) + 1)), (3, .long (lN (U + v))), (0, .ref (gA g 46)), (1, .int (nI h)), (2, .int pt)]) hx hb dX12_mean_54 hl (k := 4) rfl rfl (by decide) rfl (fun ls hl => ?_)
            refine lv_goto (tgt := 29) hx hb dX12_mean_57 (by decide) ?_
            exact ih (i + 1) (U + v) y0_4 y1_5 (by omega) (by rw [kU, mMeU, ecv]) (by omega) _ _ hM _ ((by rw [← nI_1]; exact lv_sub hl [2, 3, 4, 1, 0] rfl)) (by omega)
      exact L29 (28 + 1) 0 0 by_ tr (Nat.zero_le _) rfl (Nat.zero_le _) _ _ (by show MW g (mup (mup (mup M (gA g 46) (mdE g m0 m1 (mCl f) m3 m4 m5 m6 m7 m8 m9 m10 m11)) (gA g 50) (aI g 6 by_)) (gA g 51) (aZ g 64 tr)) _ _; rw [mup_id (a := gA g 50) (mup_r (X.2.ne (i := 50) (j := 46) (by decide) (by decide) (by decide)) h50), mup_id (a := gA g 51) (mup_r (X.2.ne (i := 51) (j := 46) (by decide) (by decide) (by decide)) h51)]; exact hM) _ (lv_sub hl [2, 3, 4, 1, 0] rfl) (by first | exact Nat.lt_succ_self _ | omega)
    · skip
      refine lv_ldc2 (v := -9223372036854775808) hx hb X.1.2.2.2.1 (X.1.2.2.2.2 _ q_1131) dX12_mean_16 ?_
      exact R_l X hr hk hM ⟨m2, by_, tr, (by unfold mMean; (first | rw [if_pos c_1] | rw [if_neg c_1] | skip); (first | rw [if_pos c_2] | rw [if_neg c_2] | skip)), (by rw [mup_id h46, mup_id h50, mup_id h51])⟩ dX12_mean_19
set_option maxHeartbeats 4000000 in
set_option maxRecDepth 100000 in
theorem c_X12_goesBy (l : Launch) (g : Gp) (M : Mem) (m0 m1 m2 m3 m4 m5 m6 m7 m8 m9 m10 m11 : Int32) (f : Nat → Int32) (L : Nat) (t : Nat) (w x : Int32) (by_ tr : Nat → Int32) (h46 : M (gA g 46) = some (mdE g m0 m1 m2 m3 m4 m5 m6 m7 m8 m9 m10 m11)) (h47 : M (gA g 47) = some (aI g 929 f)) (h50 : M (gA g 50) = some (aI g 6 by_)) (h51 : M (gA g 51) = some (aZ g 64 tr)) (hO : MOk f L) (h0 : f 0 = nI t) (ht : t < 20000) (hx6 : ¬ w = 0 → ∃ j : Nat, j < 6 ∧ x = nI j) : Met l yX12_goesBy (wsM yX12_goesBy cX12_goesBy 3 none) (rmD 6 0 0) (Pre g M [.ref (gA g 46), .int w, .int x]) (Qv g (fun M1 => ∃ (y0 : Nat → Int32) (y1 : Nat → Int32), mup (mup (mup M (gA g 50) (aI g 6 y0)) (gA g 51) (aZ g 64 y1)) (gA g 47) (aI g 929 (mGb f L m2 t w x)) = M1)) 0 0 (gF g) := M_start (by decide +kernel) (Nat.le_of_ble_eq_true rfl) fun p e s m args below meth c ls X hr hk hnm hM hl => by
  have X : Cx g p m c cX12_goesBy 3 s args RX12 := X
  have hx := X.1.1
  have hb := X.1.2.1
  have hl : lv_has ls 3 [(0, .ref (gA g 46)), (1, .int w), (2, .int x)] := hl
  refine lv_iload_n hx hb dX12_goesBy_0 rfl (lv_at hl 1 rfl) ?_
  refine lv_if_ne (tgt := 11) hx hb dX12_goesBy_1 (by decide) (fun c_1 => ?_) (fun c_1 => ?_)
  · skip
    obtain ⟨j, hj, rfl⟩ := hx6 c_1
    refine lv_aload_n hx hb dX12_goesBy_11 rfl (lv_at hl 0 rfl) ?_
    refine r_get (T := TX12) (N := 20) (ci := 12) (v := .ref (gA g 47)) X hM iX12 rfl 1 (by decide) q_836 (Or.inl rfl) h46 rfl dX12_goesBy_12 ?_
    refine lv_iconst (v := 3) hx hb dX12_goesBy_15 (by decide) ?_
    refine lv_iload_n hx hb dX12_goesBy_16 rfl (lv_at hl 2 rfl) ?_
    refine lv_iadd hx hb dX12_goesBy_17 ?_
    rw [show (3 : Int32) + (nI j) = nI (3 + j) from nI_add 3 j]
    refine l_joinM (ls := ls) hM 28 (if w = 1 then 1 else 0) [.int (nI (3 + j)), .ref (gA g 47)] (fun H locs hM => ?_) (fun J18 => ?_)
    · skip
      refine r_iast (i := nI (3 + j)) (x := if w = 1 then 1 else 0) X hM h47 (vp_in_nI (by omega) (by decide)) dX12_goesBy_28 (fun H locs hM => ?_)
      rw [nI_clamp (show 3 + j < 2147483648 by omega)] at hM
      have hM : MW g (mup M (gA g 47) (aI g 929 (upd f (3 + j) (if w = 1 then 1 else 0)))) H locs := hM
      exact R_v X hr hk hM ⟨by_, tr, (by rw [mup_id h50, mup_id h51]; unfold mGb; rw [if_neg c_1, nI_clamp (by omega)])⟩ dX12_goesBy_29
    refine lv_iload_n hx hb dX12_goesBy_18 rfl (lv_at hl 1 rfl) ?_
    refine lv_iconst (v := 1) hx hb dX12_goesBy_19 (by decide) ?_
    refine lv_icmp_ne (tgt := 27) hx hb dX12_goesBy_20 (by decide) (fun c_2 => ?_) (fun c_2 => ?_)
    · skip
      refine lv_iconst (v := 0) hx hb dX12_goesBy_27 (by decide) ?_
      exact J18 _ _ _ hM (by (first | rw [if_pos c_2] | rw [if_neg c_2] | skip); all_goals (first | rfl | simp [*]))
    · skip
      refine lv_iconst (v := 1) hx hb dX12_goesBy_23 (by decide) ?_
      refine lv_goto (tgt := 28) hx hb dX12_goesBy_24 (by decide) ?_
      exact J18 _ _ _ hM (by (first | rw [if_pos c_2] | rw [if_neg c_2] | skip); all_goals (first | rfl | simp [*]))
  · skip
    refine lv_aload_n hx hb dX12_goesBy_4 rfl (lv_at hl 0 rfl) ?_
    refine K_v (G_V (As := []) (rest := []) X hM (c_X12_goes l g _ m0 m1 m2 m3 m4 m5 m6 m7 m8 m9 m10 m11 f L t by_ tr h46 h47 h50 h51 hO h0 ht) lk_X12_168 h46 rfl rfl hl.1 rfl (Nat.le_of_ble_eq_true rfl) (by decide) dX12_goesBy_5 ⟨Nat.le_of_ble_eq_true rfl, Nat.le_of_ble_eq_true rfl⟩) hM (fun M1 H locs hM hp => ?_)
    obtain ⟨y0_3, y1_4, rfl⟩ := hp
    have hM : MW g (mup (mup (mup M (gA g 50) (aI g 6 y0_3)) (gA g 51) (aZ g 64 y1_4)) (gA g 47) (aI g 929 (mGo f L m2 t))) H locs := hM
    refine lv_goto (tgt := 29) hx hb dX12_goesBy_8 (by decide) ?_
    exact R_v X hr hk hM ⟨_, _, (by unfold mGb; rw [if_pos c_1])⟩ dX12_goesBy_29
set_option maxHeartbeats 4000000 in
set_option maxRecDepth 100000 in
theorem c_X12_done (l : Launch) (g : Gp) (M : Mem) (m0 m1 m2 m3 m4 m5 m6 m7 m8 m9 m10 m11 : Int32) (f : Nat → Int32) (L : Nat) (t : Nat) (np : Nat) (w : Int32) (fr : Nat → Int32) (by_ tr : Nat → Int32) (h46 : M (gA g 46) = some (mdE g m0 m1 m2 m3 m4 m5 m6 m7 m8 m9 m10 m11)) (h47 : M (gA g 47) = some (aI g 929 f)) (h50 : M (gA g 50) = some (aI g 6 by_)) (h51 : M (gA g 51) = some (aZ g 64 tr)) (h49 : M (gA g 49) = some (aI g 9 fr)) (hO : MOk f L) (h0 : f 0 = nI t) (ht : t < 10000) (h12 : f 12 = nI np) (hnp : np ≤ 8) (hP : PlanOk f np) : Met l yX12_done (wsM yX12_done cX12_done 3 (some .int)) (rmD 7 0 0) (Pre g M [.ref (gA g 46), .int w]) (Qi g (fun r M1 => ∃ (y2 : Int32) (y3 : Nat → Int32) (y0 : Nat → Int32) (y1 : Nat → Int32), (mDone f L t np w) = r ∧ mup (mup (mup (mup M (gA g 46) (mdE g m0 m1 y2 m3 m4 m5 m6 m7 m8 m9 m10 m11)) (gA g 49) (aI g 9 y3)) (gA g 50) (aI g 6 y0)) (gA g 51) (aZ g 64 y1) = M1)) 0 0 (gF g) := M_start (by decide +kernel) (Nat.le_of_ble_eq_true rfl) fun p e s m args below meth c ls X hr hk hnm hM hl => by
  have X : Cx g p m c cX12_done 3 s args RX12 := X
  have hx := X.1.1
  have hb := X.1.2.1
  have hl : lv_has ls 3 [(0, .ref (gA g 46)), (1, .int w)] := hl
  obtain ⟨h9, hL, hR, hS⟩ := id hO
  refine lv_iload_n hx hb dX12_done_0 rfl (lv_at hl 1 rfl) ?_
  refine lv_iconst (v := 0) hx hb dX12_done_1 (by decide) ?_
  refine lv_iconst (v := 1) hx hb dX12_done_2 (by decide) ?_
  refine K_i (G_S (As := [.int w, .int 0, .int 1]) (rest := []) X hM (c_X12_in l g _ w 0 1  ) lk_X12_41 rfl hl.1 rfl (Nat.le_of_ble_eq_true rfl) (by decide) dX12_done_3 ⟨Nat.le_of_ble_eq_true rfl, Nat.le_of_ble_eq_true rfl⟩) hM (fun r M1 H locs hM hp => ?_)
  obtain ⟨rfl, rfl⟩ := hp
  refine lv_if_ne (tgt := 11) hx hb dX12_done_6 (by decide) (fun c_1 => ?_) (fun c_1 => ?_)
  · skip
    obtain ⟨h, bh, rfl⟩ := fIn_k (K := 1) (by decide) c_1
    have hch : (nI h).toNatClampNeg = h := nI_clamp (by omega)
    refine lv_aload_n hx hb dX12_done_11 rfl (lv_at hl 0 rfl) ?_
    refine K_v (G_V (As := []) (rest := []) X hM (c_X12_asItIs l g _ m0 m1 m2 m3 m4 m5 m6 m7 m8 m9 m10 m11 f h46 h47 hS.hd) lk_X12_155 h46 rfl rfl hl.1 rfl (Nat.le_of_ble_eq_true rfl) (by decide) dX12_done_12 ⟨Nat.le_of_ble_eq_true rfl, Nat.le_of_ble_eq_true rfl⟩) hM (fun M1 H locs hM hp => ?_)
    subst hp
    have hM : MW g (mup M (gA g 46) (mdE g m0 m1 (mTel f 219 0) m3 m4 m5 m6 m7 m8 m9 m10 m11)) H locs := hM
    refine lv_aload_n hx hb dX12_done_15 rfl (lv_at hl 0 rfl) ?_
    refine K_v (G_V (As := []) (rest := []) X hM (c_X12_keeps l g _ m0 m1 (mTel f 219 0) m3 m4 m5 m6 m7 m8 m9 m10 m11 f fr (mup_s _ _ _) (mup_r (X.2.ne (i := 47) (j := 46) (by decide) (by decide) (by decide)) h47) (mup_r (X.2.ne (i := 49) (j := 46) (by decide) (by decide) (by decide)) h49) ) lk_X12_175 (mup_s _ _ _) rfl rfl hl.1 rfl (Nat.le_of_ble_eq_true rfl) (by decide) dX12_done_16 ⟨Nat.le_of_ble_eq_true rfl, Nat.le_of_ble_eq_true rfl⟩) hM (fun M1 H locs hM hp => ?_)
    subst hp
    have hM : MW g (mup (mup M (gA g 46) (mdE g m0 m1 (mTel f 219 0) m3 m4 m5 m6 m7 m8 m9 m10 m11)) (gA g 49) (aI g 9 (mCp 9 f fr))) H locs := hM
    refine lv_iconst (v := 0) hx hb dX12_done_19 (by decide) ?_
    refine lv_istore_n (lv' := [(2, .int 0), (0, .ref (gA g 46)), (1, .int (nI h))]) hx hb dX12_done_20 rfl hl (by decide) rfl (fun ls hl => ?_)
    have L21 : ∀ (fu : Nat) (i : Nat) (b0 b1 : Nat → Int32) (hi : i ≤ np) (H : Heap) (locs : List Loc) (hM : MW g (mup (mup (mup (mup (mup M (gA g 46) (mdE g m0 m1 (mCl f) m3 m4 m5 m6 m7 m8 m9 m10 m11)) (gA g 49) (aI g 9 (mCp 9 f fr))) (gA g 50) (aI g 6 b0)) (gA g 51) (aZ g 64 b1)) (gA g 47) (aI g 929 ((mDn f L (mCl f) t i).1))) H locs) (ls : Array Slot) (hl : lv_has ls 3 [(0, .ref (gA g 46)), (1, .int (nI h)), (2, .int (nI i))]), np - i < fu → W p l e (rmD 7 0 0) s m args below meth c H locs 0 0 (MQ below (Qi g (fun r M1 => ∃ (y2 : Int32) (y3 : Nat → Int32) (y0 : Nat → Int32) (y1 : Nat → Int32), (mDone f L t np (nI h)) = r ∧ mup (mup (mup (mup M (gA g 46) (mdE g m0 m1 y2 m3 m4 m5 m6 m7 m8 m9 m10 m11)) (gA g 49) (aI g 9 y3)) (gA g 50) (aI g 6 y0)) (gA g 51) (aZ g 64 y1) = M1)) args s 0 0 (gF g)) (F0 m 21 ls []) := by
      intro fu
      induction fu with
      | zero => intro i b0 b1 hi H locs hM ls hl hmu; exact absurd hmu (Nat.not_lt_zero _)
      | succ fu ih =>
        intro i b0 b1 hi H locs hM ls hl hmu
        refine lv_iload_n hx hb dX12_done_21 rfl (lv_at hl 2 rfl) ?_
        refine lv_aload_n hx hb dX12_done_22 rfl (lv_at hl 0 rfl) ?_
        refine r_get (T := TX12) (N := 20) (ci := 12) (v := .ref (gA g 47)) X hM iX12 rfl 1 (by decide) q_836 (Or.inl rfl) (mup_r (X.2.ne (i := 46) (j := 47) (by decide) (by decide) (by decide)) (mup_r (X.2.ne (i := 46) (j := 51) (by decide) (by decide) (by decide)) (mup_r (X.2.ne (i := 46) (j := 50) (by decide) (by decide) (by decide)) (mup_r (X.2.ne (i := 46) (j := 49) (by decide) (by decide) (by decide)) (mup_s _ _ _))))) rfl dX12_done_23 ?_
        refine lv_bipush (v := 12) hx hb dX12_done_26 (by decide) ?_
        refine r_iald (i := 12) X hM (mup_s _ _ _) (vp_in_nI (n := 12) (by decide) (by decide)) dX12_done_28 ?_
        rw [show ((12 : Int32)).toNatClampNeg = 12 from by decide]
        rw [((mDn_ok hO (mCl f) h0 ht hnp hP i (by omega)).2.2.1 12 (by omega)).trans h12]
        refine lv_icmp_ge (tgt := 60) hx hb dX12_done_29 (by decide) (fun c_2 => ?_) (fun c_2 => ?_)
        · skip
          have hz1 : np ≤ i := (nI_leI (by omega) (by omega)).mp c_2
          have hz2 : i = np := by omega
          refine lv_aload_n hx hb dX12_done_60 rfl (lv_at hl 0 rfl) ?_
          refine r_get (T := TX12) (N := 20) (ci := 12) (v := .ref (gA g 47)) X hM iX12 rfl 1 (by decide) q_836 (Or.inl rfl) (mup_r (X.2.ne (i := 46) (j := 47) (by decide) (by decide) (by decide)) (mup_r (X.2.ne (i := 46) (j := 51) (by decide) (by decide) (by decide)) (mup_r (X.2.ne (i := 46) (j := 50) (by decide) (by decide) (by decide)) (mup_r (X.2.ne (i := 46) (j := 49) (by decide) (by decide) (by decide)) (mup_s _ _ _))))) rfl dX12_done_61 ?_
          refine lv_iconst (v := 1) hx hb dX12_done_64 (by decide) ?_
          refine lv_iload_n hx hb dX12_done_65 rfl (lv_at hl 1 rfl) ?_
          refine lv_iadd hx hb dX12_done_66 ?_
          rw [show (1 : Int32) + (nI h) = nI (1 + h) from nI_add 1 h]
          refine r_iald (i := nI (1 + h)) X hM (mup_s _ _ _) (vp_in_nI (by omega) (by decide)) dX12_done_67 ?_
          rw [nI_clamp (show 1 + h < 2147483648 by omega)]
          refine lv_istore_n (lv' := [(2, .int (((mDn f L (mCl f) t i).1) (1 + h))), (0, .ref (gA g 46)), (1, .int (nI h))]) hx hb dX12_done_68 rfl hl (by decide) rfl (fun ls hl => ?_)
          refine lv_aload_n hx hb dX12_done_69 rfl (lv_at hl 1 rfl) ?_
          refine K_v (G_V (As := []) (rest := []) X hM (c_X12_goesBack l g _ m0 m1 (mCl f) m3 m4 m5 m6 m7 m8 m9 m10 m11 ((mDn f L (mCl f) t i).1) (mCp 9 f fr) (mup_r (X.2.ne (i := 46) (j := 47) (by decide) (by decide) (by decide)) (mup_r (X.2.ne (i := 46) (j := 51) (by decide) (by decide) (by decide)) (mup_r (X.2.ne (i := 46) (j := 50) (by decide) (by decide) (by decide)) (mup_r (X.2.ne (i := 46) (j := 49) (by decide) (by decide) (by decide)) (mup_s _ _ _))))) (mup_s _ _ _) (mup_r (X.2.ne (i := 49) (j := 47) (by decide) (by decide) (by decide)) (mup_r (X.2.ne (i := 49) (j := 51) (by decide) (by decide) (by decide)) (mup_r (X.2.ne (i := 49) (j := 50) (by decide) (by decide) (by decide)) (mup_s _ _ _)))) ) lk_X12_184 (mup_r (X.2.ne (i := 46) (j := 47) (by decide) (by decide) (by decide)) (mup_r (X.2.ne (i := 46) (j := 51) (by decide) (by decide) (by decide)) (mup_r (X.2.ne (i := 46) (j := 50) (by decide) (by decide) (by decide)) (mup_r (X.2.ne (i := 46) (j := 49) (by decide) (by decide) (by decide)) (mup_s _ _ _))))) rfl rfl hl.1 rfl (Nat.le_of_ble_eq_true rfl) (by decide) dX12_done_70 ⟨Nat.le_of_ble_eq_true rfl, Nat.le_of_ble_eq_true rfl⟩) hM (fun M1 H locs hM hp => ?_)
          subst hp
          rw [mup_i] at hM
          have hM : MW g (mup (mup (mup (mup (mup M (gA g 46) (mdE g m0 m1 (mCl f) m3 m4 m5 m6 m7 m8 m9 m10 m11)) (gA g 49) (aI g 9 (mCp 9 f fr))) (gA g 50) (aI g 6 b0)) (gA g 51) (aZ g 64 b1)) (gA g 47) (aI g 929 (mCp 9 (mCp 9 f fr) ((mDn f L (mCl f) t i).1)))) H locs := hM
          refine lv_iload_n hx hb dX12_done_73 rfl (lv_at hl 0 rfl) ?_
          exact R_i X hr hk hM ⟨_, _, _, _, (by unfold mDone; simp only [hch]; rw [if_neg c_1, ← hz2]), (by rw [mCp_back (fun q9 hq9 => (mDn_ok hO _ h0 ht hnp hP i (by omega)).2.2.1 q9 (by omega))]; rw [mup_id (a := gA g 47) (mup_r (X.2.ne (i := 47) (j := 51) (by decide) (by decide) (by decide)) (mup_r (X.2.ne (i := 47) (j := 50) (by decide) (by decide) (by decide)) (mup_r (X.2.ne (i := 47) (j := 49) (by decide) (by decide) (by decide)) (mup_r (X.2.ne (i := 47) (j := 46) (by decide) (by decide) (by decide)) h47))))])⟩ dX12_done_74
        · skip
          have hz1 : i < np := by
            rcases Nat.lt_or_ge i (np) with q | q
            · exact q
            · exact absurd ((nI_leI (by omega) (by omega)).mpr q) c_2
          refine lv_aload_n hx hb dX12_done_32 rfl (lv_at hl 0 rfl) ?_
          refine lv_aload_n hx hb dX12_done_33 rfl (lv_at hl 0 rfl) ?_
          refine r_get (T := TX12) (N := 20) (ci := 12) (v := .ref (gA g 47)) X hM iX12 rfl 1 (by decide) q_836 (Or.inl rfl) (mup_r (X.2.ne (i := 46) (j := 47) (by decide) (by decide) (by decide)) (mup_r (X.2.ne (i := 46) (j := 51) (by decide) (by decide) (by decide)) (mup_r (X.2.ne (i := 46) (j := 50) (by decide) (by decide) (by decide)) (mup_r (X.2.ne (i := 46) (j := 49) (by decide) (by decide) (by decide)) (mup_s _ _ _))))) rfl dX12_done_34 ?_
          refine lv_bipush (v := 82) hx hb dX12_done_37 (by decide) ?_
          refine lv_iload_n hx hb dX12_done_39 rfl (lv_at hl 2 rfl) ?_
          refine lv_iadd hx hb dX12_done_40 ?_
          rw [show (82 : Int32) + (nI i) = nI (82 + i) from nI_add 82 i]
          refine r_iald (i := nI (82 + i)) X hM (mup_s _ _ _) (vp_in_nI (by omega) (by decide)) dX12_done_41 ?_
          rw [nI_clamp (show 82 + i < 2147483648 by omega)]
          rw [(mDn_ok hO (mCl f) h0 ht hnp hP i (by omega)).2.2.1 _ (by omega)]
          refine lv_aload_n hx hb dX12_done_42 rfl (lv_at hl 0 rfl) ?_
          refine r_get (T := TX12) (N := 20) (ci := 12) (v := .ref (gA g 47)) X hM iX12 rfl 1 (by decide) q_836 (Or.inl rfl) (mup_r (X.2.ne (i := 46) (j := 47) (by decide) (by decide) (by decide)) (mup_r (X.2.ne (i := 46) (j := 51) (by decide) (by decide) (by decide)) (mup_r (X.2.ne (i := 46) (j := 50) (by decide) (by decide) (by decide)) (mup_r (X.2.ne (i := 46) (j := 49) (by decide) (by decide) (by decide)) (mup_s _ _ _))))) rfl dX12_done_43 ?_
          refine lv_bipush (v := 90) hx hb dX12_done_46 (by decide) ?_
          refine lv_iload_n hx hb dX12_done_48 rfl (lv_at hl 2 rfl) ?_
          refine lv_iadd hx hb dX12_done_49 ?_
          rw [show (90 : Int32) + (nI i) = nI (90 + i) from nI_add 90 i]
          refine r_iald (i := nI (90 + i)) X hM (mup_s _ _ _) (vp_in_nI (by omega) (by decide)) dX12_done_50 ?_
          rw [nI_clamp (show 90 + i < 2147483648 by omega)]
          rw [(mDn_ok hO (mCl f) h0 ht hnp hP i (by omega)).2.2.1 _ (by omega)]
          refine K_v (G_V (As := [.int (f (82 + i)), .int (f (90 + i))]) (rest := []) X hM (c_X12_goesBy l g _ m0 m1 (mCl f) m3 m4 m5 m6 m7 m8 m9 m10 m11 ((mDn f L (mCl f) t i).1) L ((mDn f L (mCl f) t i).2) (f (82 + i)) (f (90 + i)) b0 b1 (mup_r (X.2.ne (i := 46) (j := 47) (by decide) (by decide) (by decide)) (mup_r (X.2.ne (i := 46) (j := 51) (by decide) (by decide) (by decide)) (mup_r (X.2.ne (i := 46) (j := 50) (by decide) (by decide) (by decide)) (mup_r (X.2.ne (i := 46) (j := 49) (by decide) (by decide) (by decide)) (mup_s _ _ _))))) (mup_s _ _ _) (mup_r (X.2.ne (i := 50) (j := 47) (by decide) (by decide) (by decide)) (mup_r (X.2.ne (i := 50) (j := 51) (by decide) (by decide) (by decide)) (mup_s _ _ _))) (mup_r (X.2.ne (i := 51) (j := 47) (by decide) (by decide) (by decide)) (mup_s _ _ _)) (mDn_ok hO (mCl f) h0 ht hnp hP i (by omega)).2.2.2 (mDn_ok hO (mCl f) h0 ht hnp hP i (by omega)).1 (by have := (mDn_ok hO (mCl f) h0 ht hnp hP i (by omega)).2.1; omega) (fun q9 => hP i hz1 q9)) lk_X12_213 (mup_r (X.2.ne (i := 46) (j := 47) (by decide) (by decide) (by decide)) (mup_r (X.2.ne (i := 46) (j := 51) (by decide) (by decide) (by decide)) (mup_r (X.2.ne (i := 46) (j := 50) (by decide) (by decide) (by decide)) (mup_r (X.2.ne (i := 46) (j := 49) (by decide) (by decide) (by decide)) (mup_s _ _ _))))) rfl rfl hl.1 rfl (Nat.le_of_ble_eq_true rfl) (by decide) dX12_done_51 ⟨Nat.le_of_ble_eq_true rfl, Nat.le_of_ble_eq_true rfl⟩) hM (fun M1 H locs hM hp => ?_)
          obtain ⟨y0_3, y1_4, rfl⟩ := hp
          rw [mup_w _ _ _ (X.2.ne (i := 47) (j := 50) (by decide) (by decide) (by decide)), mup_w _ _ _ (X.2.ne (i := 51) (j := 50) (by decide) (by decide) (by decide)), mup_i] at hM
          rw [mup_w _ _ _ (X.2.ne (i := 47) (j := 51) (by decide) (by decide) (by decide)), mup_i] at hM
          rw [mup_i] at hM
          have hM : MW g (mup (mup (mup (mup (mup M (gA g 46) (mdE g m0 m1 (mCl f) m3 m4 m5 m6 m7 m8 m9 m10 m11)) (gA g 49) (aI g 9 (mCp 9 f fr))) (gA g 50) (aI g 6 y0_3)) (gA g 51) (aZ g 64 y1_4)) (gA g 47) (aI g 929 (mGb ((mDn f L (mCl f) t i).1) L (mCl f) ((mDn f L (mCl f) t i).2) (f (82 + i)) (f (90 + i))))) H locs := hM
          refine lv_iinc (v := (nI i) + 1) (lv' := [(2, .int ((nI i) + 1)), (0, .ref (gA g 46)), (1, .int (nI h))]) hx hb dX12_done_54 hl (k := 2) rfl rfl (by decide) rfl (fun ls hl => ?_)
          refine lv_goto (tgt := 21) hx hb dX12_done_57 (by decide) ?_
          exact ih (i + 1) y0_3 y1_4 (by omega) _ _ hM _ ((by rw [← nI_1]; exact lv_sub hl [1, 2, 0] rfl)) (by omega)
    exact L21 (np + 1) 0 by_ tr (Nat.zero_le _) _ _ (by show MW g (mup (mup (mup (mup (mup M (gA g 46) (mdE g m0 m1 (mCl f) m3 m4 m5 m6 m7 m8 m9 m10 m11)) (gA g 49) (aI g 9 (mCp 9 f fr))) (gA g 50) (aI g 6 by_)) (gA g 51) (aZ g 64 tr)) (gA g 47) (aI g 929 f)) _ _; rw [mup_id (a := gA g 50) (mup_r (X.2.ne (i := 50) (j := 49) (by decide) (by decide) (by decide)) (mup_r (X.2.ne (i := 50) (j := 46) (by decide) (by decide) (by decide)) h50)), mup_id (a := gA g 51) (mup_r (X.2.ne (i := 51) (j := 49) (by decide) (by decide) (by decide)) (mup_r (X.2.ne (i := 51) (j := 46) (by decide) (by decide) (by decide)) h51)), mup_id (a := gA g 47) (mup_r (X.2.ne (i := 47) (j := 49) (by decide) (by decide) (by decide)) (mup_r (X.2.ne (i := 47) (j := 46) (by decide) (by decide) (by decide)) h47))]; exact hM) _ (lv_sub hl [1, 2, 0] rfl) (by first | exact Nat.lt_succ_self _ | omega)
  · skip
    refine lv_iconst (v := -1) hx hb dX12_done_9 (by decide) ?_
    exact R_i X hr hk hM ⟨m2, fr, by_, tr, (by unfold mDone; (first | rw [if_pos c_1] | rw [if_neg c_1] | skip)), (by rw [mup_id h46, mup_id h49, mup_id h50, mup_id h51])⟩ dX12_done_10
