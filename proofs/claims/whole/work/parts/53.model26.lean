def qMc (f : Nat → Int32) (en : Nat) (kd : Int32) (k : Nat) (q : Q9) : Q9 := qEm (qSo f en (qFac f en 5) (qMu f en (qFg f en (qSp f en q k)) 32)) (kd - fgI f en (qSp f en q k))
def qWd (f : Nat → Int32) (en : Nat) (q : Q9) : Q9 := if qHe f en (qMu f en q 100) = 101 then qMc f en (-10) 6 (qMu f en q 100) else qMc f en (-200) 9 (qMu f en q 100)
/-- turn, cloud, reading -/
abbrev C9 : Type := (Int32 × Int32) × Q9
def qTu (f : Nat → Int32) (en k : Nat) (q : Q9) (tu : Int32) : Int32 := if qZ (qFg f en (qSp f en q k)) = 0 then fgI f en (qSp f en q k) else tu
def qCl (f : Nat → Int32) (en : Nat) (w : C9) : C9 := if qHe f en w.2 = 99 then ((w.1.1, qTu f en 5 w.2 w.1.2), qFg f en (qSp f en w.2 5)) else if qHe f en w.2 = 100 then (w.1, qWd f en w.2) else if qHe f en w.2 = 116 then ((qTu f en 4 w.2 w.1.1, w.1.2), qFg f en (qSp f en w.2 4)) else (w.1, (qS w.2, 1, qL w.2))
theorem qMc_mid {f : Nat → Int32} {en : Nat} {k : Nat} (hk : k < 10) {q : Q9} (hq : VQ en q) : VQ en (qSo f en (qFac f en 5) (qMu f en (qFg f en (qSp f en q k)) 32)) ∧ LQ q (qSo f en (qFac f en 5) (qMu f en (qFg f en (qSp f en q k)) 32)) := by
  have a1 := qSp_V (f := f) hq hk
  have a2 := qFg_V (f := f) a1.1
  have a3 := qMu_V (f := f) (x := 32) a2.1 (by decide)
  have a4 := qSo_good (f := f) (qFac_good (f := f) 5) _ a3.1
  exact ⟨a4.1, LQ.tr a1.2 (LQ.tr a2.2 (LQ.tr a3.2 a4.2))⟩
theorem qMc_good {f : Nat → Int32} {en : Nat} {kd : Int32} {k : Nat} (hk : k < 10) {p q : Q9} (hp : VQ en p) (hq : VQ en q) (h1 : qS q = qS p + 1) (h2 : (qL q).length = (qL p).length) : VQ en (qMc f en kd k q) ∧ LQ p (qMc f en kd k q) := by
  have a := qMc_mid (f := f) hk hq
  have b1 := a.2.1
  have b2 := a.2.2
  exact qEm_V hp a.1 (by omega) (by omega)
theorem qMu_at {f : Nat → Int32} {en : Nat} {q : Q9} {x : Int32} (hz : qZ q = 0) (h : qHe f en q = x) : qMu f en q x = (qS q + 1, 0, qL q) := by
  have e : mMuW f (qS q) en (qZ q) x = 0 := by
    unfold mMuW
    rw [if_pos hz]
    exact if_pos h
  unfold qMu mMuS
  rw [e, if_pos rfl]
theorem qWd_good {f : Nat → Int32} {en : Nat} {q : Q9} (h : VQ en q) (hz : qZ q = 0) (hd : qHe f en q = 100) : VQ en (qWd f en q) ∧ LQ q (qWd f en q) := by
  have e := qMu_at hz hd
  have v := (qMu_V (f := f) (x := 100) h (by decide)).1
  unfold qWd
  split
  · exact qMc_good (by decide) h v (by rw [e]; rfl) (by rw [e]; rfl)
  · exact qMc_good (by decide) h v (by rw [e]; rfl) (by rw [e]; rfl)
theorem qCl_good {f : Nat → Int32} {en : Nat} {w : C9} (h : VQ en w.2) (hz : qZ w.2 = 0) : VQ en (qCl f en w).2 ∧ LQ w.2 (qCl f en w).2 := by
  unfold qCl
  split
  · have a1 := qSp_V (f := f) (k := 5) h (by decide)
    have a2 := qFg_V (f := f) a1.1
    exact ⟨a2.1, LQ.tr a1.2 a2.2⟩
  · split
    · exact qWd_good h hz (by assumption)
    · split
      · have a1 := qSp_V (f := f) (k := 4) h (by decide)
        have a2 := qFg_V (f := f) a1.1
        exact ⟨a2.1, LQ.tr a1.2 a2.2⟩
      · exact ⟨h.z (Or.inr rfl), LQ.rfl' _⟩
theorem mEmL_up {f : Nat → Int32} {a b : Nat} {x : Int32} (hb : b < 224) : ∀ L : List Int32, mEmL (upd f b x) a L = upd (mEmL f a L) b x := fun L => by
  induction L with
  | nil => rfl
  | cons y r ih =>
    show upd (upd (mEmL (upd f b x) a r) (229 + 140 * a + r.length) y) (224 + a) (nI (r.length + 1)) = upd (upd (upd (mEmL f a r) (229 + 140 * a + r.length) y) (224 + a) (nI (r.length + 1))) b x
    rw [ih]
    funext q
    unfold upd
    by_cases c1 : q = b
    · subst c1
      rw [if_neg (by omega), if_neg (by omega), if_pos rfl, if_pos rfl]
    · rw [if_neg c1, if_neg c1]
theorem cnt_tu {f : Nat → Int32} {a : Nat} {tu cl x : Int32} (L : List Int32) (ha : a < 5) : upd (cnt f a tu cl L) (214 + a) x = cnt f a x cl L := by
  unfold cnt
  rw [← mEmL_up (by omega)]
  congr 1
  funext q
  unfold mTC upd
  by_cases c1 : q = 214 + a
  · subst c1
    rw [if_pos rfl, if_neg (by omega), if_pos rfl]
  · rw [if_neg c1, if_neg c1, if_neg c1]
theorem cnt_cl {f : Nat → Int32} {a : Nat} {tu cl x : Int32} (L : List Int32) (ha : a < 5) : upd (cnt f a tu cl L) (219 + a) x = cnt f a tu x L := by
  unfold cnt
  rw [← mEmL_up (by omega)]
  congr 1
  exact upd_upd _ _ _ _
section TELLS
variable {f : Nat → Int32} {a : Nat} {tu cl : Int32} {q : Q9} {en : Nat}
theorem mThW_q (hen : en ≤ 100) (k : Nat) : mThW (cnt f a tu cl (qL q)) (qS q) en (qZ q) k = qZ (qFg f en (qSp f en q k)) := by
  unfold mThW mThS
  rw [mSpl_c hen, mFgW_c hen]
  rfl
theorem mThN_q (hen : en ≤ 100) (k : Nat) : mThN (cnt f a tu cl (qL q)) (qS q) en (qZ q) k = (fgI f en (qSp f en q k), qS (qFg f en (qSp f en q k))) := by
  unfold mThN mThW mThS
  rw [mSpl_c hen, mFgW_c hen, mFig_c hen]
  rfl
theorem qLk (k : Nat) : qL (qFg f en (qSp f en q k)) = qL q := rfl
theorem mThF_T (hen : en ≤ 100) (ha : a < 5) (k : Nat) : mThF (cnt f a tu cl (qL q)) 214 a (qS q) en (qZ q) k = cnt f a (qTu f en k q tu) cl (qL (qFg f en (qSp f en q k))) := by
  unfold mThF
  rw [mThW_q hen, mThN_q hen, qLk]
  unfold qTu
  by_cases c : qZ (qFg f en (qSp f en q k)) = 0
  · rw [if_pos c, if_pos c]
    exact cnt_tu _ ha
  · rw [if_neg c, if_neg c]
theorem mThF_C (hen : en ≤ 100) (ha : a < 5) (k : Nat) : mThF (cnt f a tu cl (qL q)) 219 a (qS q) en (qZ q) k = cnt f a tu (qTu f en k q cl) (qL (qFg f en (qSp f en q k))) := by
  unfold mThF
  rw [mThW_q hen, mThN_q hen, qLk]
  unfold qTu
  by_cases c : qZ (qFg f en (qSp f en q k)) = 0
  · rw [if_pos c, if_pos c]
    exact cnt_cl _ ha
  · rw [if_neg c, if_neg c]
end TELLS

theorem lk_X12_114 : LkV RX12 114 yX12_much cX12_much 4 none 2 := lkV_of q_941 q_943 qs_17 q_7 q_944 ⟨by decide, by decide, by decide +kernel⟩ (by decide)
theorem lk_X12_122 : LkV RX12 122 yX12_tellsHere cX12_tellsHere 4 none 2 := lkV_of q_917 q_919 qs_12 q_7 q_920 ⟨by decide, by decide, by decide +kernel⟩ (by decide)
theorem lk_X12_127 : LkV RX12 127 yX12_wordOfD cX12_wordOfD 1 none 0 := lkV_of q_936 q_938 qs_16 q_7 q_939 ⟨by decide, by decide, by decide +kernel⟩ (by decide)
theorem c_X12_tellsT (l : Launch) (g : Gp) (M : Mem) (m0 m1 m2 m7 m8 m9 m10 m11 : Int32) (a en : Nat) (f : Nat → Int32) (tu cl : Int32) (q : Q9) (k : Nat) (h46 : M (gA g 46) = some (mdE g m0 m1 m2 (nI a) (nI (qS q)) (nI en) (qZ q) m7 m8 m9 m10 m11)) (h47 : M (gA g 47) = some (aI g 929 (cnt f a tu cl (qL q)))) (hV : VQ en q) (hen : en ≤ 100) (ha : a < 5) (hf : f (224 + a) = nI 0) (hK : k < 10) : Met l yX12_tellsHere (wsM yX12_tellsHere cX12_tellsHere 4 none) (rmD 6 0 0) (Pre g M [.ref (gA g 46), .int (nI 214), .ref (gK g k)]) (Qv g (fun M1 => mup (mup M (gA g 46) (mdE g m0 m1 m2 (nI a) (nI (qS (qFg f en (qSp f en q k)))) (nI en) (qZ (qFg f en (qSp f en q k))) m7 m8 m9 m10 m11)) (gA g 47) (aI g 929 (cnt f a (qTu f en k q tu) cl (qL (qFg f en (qSp f en q k))))) = M1)) 0 0 (gF g) := by
  have hq1 := hV.1
  have h := c_X12_tellsHere l g M m0 m1 m2 (qZ q) m7 m8 m9 m10 m11 a (qS q) en (cnt f a tu cl (qL q)) 214 k h46 h47 (by omega) hen hK ha (by omega)
  rw [mThW_q hen, mThN_q hen, mThF_T hen ha] at h
  exact h
theorem c_X12_tellsC (l : Launch) (g : Gp) (M : Mem) (m0 m1 m2 m7 m8 m9 m10 m11 : Int32) (a en : Nat) (f : Nat → Int32) (tu cl : Int32) (q : Q9) (k : Nat) (h46 : M (gA g 46) = some (mdE g m0 m1 m2 (nI a) (nI (qS q)) (nI en) (qZ q) m7 m8 m9 m10 m11)) (h47 : M (gA g 47) = some (aI g 929 (cnt f a tu cl (qL q)))) (hV : VQ en q) (hen : en ≤ 100) (ha : a < 5) (hf : f (224 + a) = nI 0) (hK : k < 10) : Met l yX12_tellsHere (wsM yX12_tellsHere cX12_tellsHere 4 none) (rmD 6 0 0) (Pre g M [.ref (gA g 46), .int (nI 219), .ref (gK g k)]) (Qv g (fun M1 => mup (mup M (gA g 46) (mdE g m0 m1 m2 (nI a) (nI (qS (qFg f en (qSp f en q k)))) (nI en) (qZ (qFg f en (qSp f en q k))) m7 m8 m9 m10 m11)) (gA g 47) (aI g 929 (cnt f a tu (qTu f en k q cl) (qL (qFg f en (qSp f en q k))))) = M1)) 0 0 (gF g) := by
  have hq1 := hV.1
  have h := c_X12_tellsHere l g M m0 m1 m2 (qZ q) m7 m8 m9 m10 m11 a (qS q) en (cnt f a tu cl (qL q)) 219 k h46 h47 (by omega) hen hK ha (by omega)
  rw [mThW_q hen, mThN_q hen, mThF_C hen ha] at h
  exact h
set_option maxHeartbeats 4000000 in
set_option maxRecDepth 100000 in
theorem c_X12_much (l : Launch) (g : Gp) (M : Mem) (m0 m1 m2 m8 m9 m10 m11 : Int32) (a en : Nat) (f : Nat → Int32) (tu cl : Int32) (q : Q9) (kd : Int32) (k : Nat) (h46 : M (gA g 46) = some (mdE g m0 m1 m2 (nI a) (nI (qS q)) (nI en) (qZ q) 0 m8 m9 m10 m11)) (h47 : M (gA g 47) = some (aI g 929 (cnt f a tu cl (qL q)))) (hV : VQ en q) (hen : en ≤ 100) (ha : a < 5) (hf : f (224 + a) = nI 0) (hK : k < 10) : Met l yX12_much (wsM yX12_much cX12_much 4 none) (rmD 24 0 0) (Pre g M [.ref (gA g 46), .int kd, .ref (gK g k)]) (Qv g (fun M1 => mup (mup M (gA g 46) (mdE g m0 m1 m2 (nI a) (nI (qS (qMc f en kd k q))) (nI en) (qZ (qMc f en kd k q)) 0 m8 m9 m10 m11)) (gA g 47) (aI g 929 (cnt f a tu cl (qL (qMc f en kd k q)))) = M1)) 0 0 (gF g) := M_start (by decide +kernel) (Nat.le_of_ble_eq_true rfl) fun p e s m args below meth c ls X hr hk hnm hM hl => by
  have X : Cx g p m c cX12_much 4 s args RX12 := X
  have hx := X.1.1
  have hb := X.1.2.1
  have hl : lv_has ls 4 [(0, .ref (gA g 46)), (1, .int kd), (2, .ref (gK g k))] := hl
  refine lv_aload_n hx hb dX12_much_0 rfl (lv_at hl 0 rfl) ?_
  refine lv_aload_n hx hb dX12_much_1 rfl (lv_at hl 2 rfl) ?_
  refine K_v (G_V (As := [.ref (gK g k)]) (rest := []) X hM (c_X12_spellsQ l g _ m0 m1 m2 0 m8 m9 m10 m11 a en f tu cl q k h46 h47 hV hen ha hf hK) lk_X12_108 h46 rfl rfl hl.1 rfl (Nat.le_of_ble_eq_true rfl) (by decide) dX12_much_2 ⟨Nat.le_of_ble_eq_true rfl, Nat.le_of_ble_eq_true rfl⟩) hM (fun M1 H locs hM hp => ?_)
  subst hp
  have hM : MW g (mup (mup M (gA g 46) (mdE g m0 m1 m2 (nI a) (nI (qS (qSp f en q k))) (nI en) (qZ (qSp f en q k)) 0 m8 m9 m10 m11)) (gA g 47) (aI g 929 (cnt f a tu cl (qL (qSp f en q k))))) H locs := hM
  obtain ⟨qn_1, e_qn_1⟩ : ∃ z : Q9, z = qSp f en q k := ⟨_, rfl⟩
  have hM : MW g (mup (mup M (gA g 46) (mdE g m0 m1 m2 (nI a) (nI (qS qn_1)) (nI en) (qZ qn_1) 0 m8 m9 m10 m11)) (gA g 47) (aI g 929 (cnt f a tu cl (qL qn_1)))) H locs := by rw [e_qn_1]; exact hM
  have V_qn_1 : VQ en qn_1 ∧ LQ q qn_1 := by rw [e_qn_1]; exact (qSp_V (hV) hK)
  refine lv_aload_n hx hb dX12_much_5 rfl (lv_at hl 0 rfl) ?_
  refine K_i (G_V (As := []) (rest := []) X hM (c_X12_figuresQ l g _ m0 m1 m2 0 m8 m9 m10 m11 a en f tu cl qn_1 (mup_r (X.2.ne (i := 46) (j := 47) (by decide) (by decide) (by decide)) (mup_s _ _ _)) (mup_s _ _ _) V_qn_1.1 hen ha hf) lk_X12_102 (mup_r (X.2.ne (i := 46) (j := 47) (by decide) (by decide) (by decide)) (mup_s _ _ _)) rfl rfl hl.1 rfl (Nat.le_of_ble_eq_true rfl) (by decide) dX12_much_6 ⟨Nat.le_of_ble_eq_true rfl, Nat.le_of_ble_eq_true rfl⟩) hM (fun r M1 H locs hM hp => ?_)
  obtain ⟨rfl, rfl⟩ := hp
  rw [mup_w _ _ _ (X.2.ne (i := 47) (j := 46) (by decide) (by decide) (by decide)), mup_i] at hM
  rw [mup_i] at hM
  have hM : MW g (mup (mup M (gA g 46) (mdE g m0 m1 m2 (nI a) (nI (qS (qFg f en qn_1))) (nI en) (qZ (qFg f en qn_1)) 0 m8 m9 m10 m11)) (gA g 47) (aI g 929 (cnt f a tu cl (qL (qFg f en qn_1))))) H locs := hM
  obtain ⟨qn_2, e_qn_2⟩ : ∃ z : Q9, z = qFg f en qn_1 := ⟨_, rfl⟩
  have hM : MW g (mup (mup M (gA g 46) (mdE g m0 m1 m2 (nI a) (nI (qS qn_2)) (nI en) (qZ qn_2) 0 m8 m9 m10 m11)) (gA g 47) (aI g 929 (cnt f a tu cl (qL qn_2)))) H locs := by rw [e_qn_2]; exact hM
  have V_qn_2 : VQ en qn_2 ∧ LQ qn_1 qn_2 := by rw [e_qn_2]; exact (qFg_V (V_qn_1.1))
  refine lv_istore_n (lv' := [(3, .int (fgI f en qn_1)), (0, .ref (gA g 46)), (1, .int kd), (2, .ref (gK g k))]) hx hb dX12_much_9 rfl hl (by decide) rfl (fun ls hl => ?_)
  refine lv_aload_n hx hb dX12_much_10 rfl (lv_at hl 1 rfl) ?_
  refine lv_bipush (v := 32) hx hb dX12_much_11 (by decide) ?_
  refine K_v (G_V (As := [.int 32]) (rest := []) X hM (c_X12_mustQ l g _ m0 m1 m2 0 m8 m9 m10 m11 a en f tu cl qn_2 32 (mup_r (X.2.ne (i := 46) (j := 47) (by decide) (by decide) (by decide)) (mup_s _ _ _)) (mup_s _ _ _) V_qn_2.1 hen ha hf) lk_X12_75 (mup_r (X.2.ne (i := 46) (j := 47) (by decide) (by decide) (by decide)) (mup_s _ _ _)) rfl rfl hl.1 rfl (Nat.le_of_ble_eq_true rfl) (by decide) dX12_much_13 ⟨Nat.le_of_ble_eq_true rfl, Nat.le_of_ble_eq_true rfl⟩) hM (fun M1 H locs hM hp => ?_)
  subst hp
  rw [mup_w _ _ _ (X.2.ne (i := 47) (j := 46) (by decide) (by decide) (by decide)), mup_i] at hM
  rw [mup_i] at hM
  have hM : MW g (mup (mup M (gA g 46) (mdE g m0 m1 m2 (nI a) (nI (qS (qMu f en qn_2 32))) (nI en) (qZ (qMu f en qn_2 32)) 0 m8 m9 m10 m11)) (gA g 47) (aI g 929 (cnt f a tu cl (qL (qMu f en qn_2 32))))) H locs := hM
  obtain ⟨qn_3, e_qn_3⟩ : ∃ z : Q9, z = qMu f en qn_2 32 := ⟨_, rfl⟩
  have hM : MW g (mup (mup M (gA g 46) (mdE g m0 m1 m2 (nI a) (nI (qS qn_3)) (nI en) (qZ qn_3) 0 m8 m9 m10 m11)) (gA g 47) (aI g 929 (cnt f a tu cl (qL qn_3)))) H locs := by rw [e_qn_3]; exact hM
  have V_qn_3 : VQ en qn_3 ∧ LQ qn_2 qn_3 := by rw [e_qn_3]; exact (qMu_V (V_qn_2.1) (by decide))
  refine lv_aload_n hx hb dX12_much_16 rfl (lv_at hl 1 rfl) ?_
  refine K_v (G_V (As := []) (rest := []) X hM (c_X12_some_5 l g _ m0 m1 m2 m8 m9 m10 m11 a en f tu cl qn_3 (mup_r (X.2.ne (i := 46) (j := 47) (by decide) (by decide) (by decide)) (mup_s _ _ _)) (mup_s _ _ _) V_qn_3.1 hen ha hf) lk_X12_91 (mup_r (X.2.ne (i := 46) (j := 47) (by decide) (by decide) (by decide)) (mup_s _ _ _)) rfl rfl hl.1 rfl (Nat.le_of_ble_eq_true rfl) (by decide) dX12_much_17 ⟨Nat.le_of_ble_eq_true rfl, Nat.le_of_ble_eq_true rfl⟩) hM (fun M1 H locs hM hp => ?_)
  subst hp
  rw [mup_w _ _ _ (X.2.ne (i := 47) (j := 46) (by decide) (by decide) (by decide)), mup_i] at hM
  rw [mup_i] at hM
  have hM : MW g (mup (mup M (gA g 46) (mdE g m0 m1 m2 (nI a) (nI (qS (qSo f en (qFac f en 5) qn_3))) (nI en) (qZ (qSo f en (qFac f en 5) qn_3)) 0 m8 m9 m10 m11)) (gA g 47) (aI g 929 (cnt f a tu cl (qL (qSo f en (qFac f en 5) qn_3))))) H locs := hM
  obtain ⟨qn_4, e_qn_4⟩ : ∃ z : Q9, z = qSo f en (qFac f en 5) qn_3 := ⟨_, rfl⟩
  have hM : MW g (mup (mup M (gA g 46) (mdE g m0 m1 m2 (nI a) (nI (qS qn_4)) (nI en) (qZ qn_4) 0 m8 m9 m10 m11)) (gA g 47) (aI g 929 (cnt f a tu cl (qL qn_4)))) H locs := by rw [e_qn_4]; exact hM
  have V_qn_4 : VQ en qn_4 ∧ LQ qn_3 qn_4 := by rw [e_qn_4]; exact (qSo_good (qFac_good 5) _ (V_qn_3.1))
  refine lv_aload_n hx hb dX12_much_20 rfl (lv_at hl 1 rfl) ?_
  refine lv_iload_n hx hb dX12_much_21 rfl (lv_at hl 2 rfl) ?_
  refine lv_iload_n hx hb dX12_much_22 rfl (lv_at hl 0 rfl) ?_
  refine lv_isub hx hb dX12_much_23 ?_
  refine K_v (G_V (As := [.int (kd - (fgI f en qn_1))]) (rest := []) X hM (c_X12_emitsQ l g _ m0 m1 m2 0 m8 m9 m10 m11 a en f tu cl qn_4 (kd - (fgI f en qn_1)) (mup_r (X.2.ne (i := 46) (j := 47) (by decide) (by decide) (by decide)) (mup_s _ _ _)) (mup_s _ _ _) V_qn_4.1 hen ha hf (by have h9 := V_qn_4.1; have h8 := h9.1; have h7 := h9.2.1; omega)) lk_X12_88 (mup_r (X.2.ne (i := 46) (j := 47) (by decide) (by decide) (by decide)) (mup_s _ _ _)) rfl rfl hl.1 rfl (Nat.le_of_ble_eq_true rfl) (by decide) dX12_much_24 ⟨Nat.le_of_ble_eq_true rfl, Nat.le_of_ble_eq_true rfl⟩) hM (fun M1 H locs hM hp => ?_)
  subst hp
  rw [mup_w _ _ _ (X.2.ne (i := 47) (j := 46) (by decide) (by decide) (by decide)), mup_i] at hM
  rw [mup_i] at hM
  have hM : MW g (mup (mup M (gA g 46) (mdE g m0 m1 m2 (nI a) (nI (qS (qEm qn_4 (kd - (fgI f en qn_1))))) (nI en) (qZ (qEm qn_4 (kd - (fgI f en qn_1)))) 0 m8 m9 m10 m11)) (gA g 47) (aI g 929 (cnt f a tu cl (qL (qEm qn_4 (kd - (fgI f en qn_1))))))) H locs := hM
  obtain ⟨qn_5, e_qn_5⟩ : ∃ z : Q9, z = qEm qn_4 (kd - (fgI f en qn_1)) := ⟨_, rfl⟩
  have hM : MW g (mup (mup M (gA g 46) (mdE g m0 m1 m2 (nI a) (nI (qS qn_5)) (nI en) (qZ qn_5) 0 m8 m9 m10 m11)) (gA g 47) (aI g 929 (cnt f a tu cl (qL qn_5)))) H locs := by rw [e_qn_5]; exact hM
  have e9 : qMc f en kd k q = qn_5 := by unfold qMc; (try rw [← e_qn_1]); (try rw [← e_qn_2]); (try rw [← e_qn_3]); (try rw [← e_qn_4]); (try rw [← e_qn_5]); first | done | rfl
  exact R_v X hr hk hM (by rw [e9] <;> rfl) dX12_much_27
set_option maxHeartbeats 4000000 in
set_option maxRecDepth 100000 in
theorem c_X12_wordOfD (l : Launch) (g : Gp) (M : Mem) (m0 m1 m2 m8 m9 m10 m11 : Int32) (a en : Nat) (f : Nat → Int32) (tu cl : Int32) (q : Q9) (h46 : M (gA g 46) = some (mdE g m0 m1 m2 (nI a) (nI (qS q)) (nI en) (qZ q) 0 m8 m9 m10 m11)) (h47 : M (gA g 47) = some (aI g 929 (cnt f a tu cl (qL q)))) (hV : VQ en q) (hen : en ≤ 100) (ha : a < 5) (hf : f (224 + a) = nI 0) : Met l yX12_wordOfD (wsM yX12_wordOfD cX12_wordOfD 1 none) (rmD 25 0 0) (Pre g M [.ref (gA g 46)]) (Qv g (fun M1 => mup (mup M (gA g 46) (mdE g m0 m1 m2 (nI a) (nI (qS (qWd f en q))) (nI en) (qZ (qWd f en q)) 0 m8 m9 m10 m11)) (gA g 47) (aI g 929 (cnt f a tu cl (qL (qWd f en q)))) = M1)) 0 0 (gF g) := M_start (by decide +kernel) (Nat.le_of_ble_eq_true rfl) fun p e s m args below meth c ls X hr hk hnm hM hl => by
  have X : Cx g p m c cX12_wordOfD 1 s args RX12 := X
  have hx := X.1.1
  have hb := X.1.2.1
  have hl : lv_has ls 1 [(0, .ref (gA g 46))] := hl
  refine lv_aload_n hx hb dX12_wordOfD_0 rfl (lv_at hl 0 rfl) ?_
  refine lv_bipush (v := 100) hx hb dX12_wordOfD_1 (by decide) ?_
  refine K_v (G_V (As := [.int 100]) (rest := []) X hM (c_X12_mustQ l g _ m0 m1 m2 0 m8 m9 m10 m11 a en f tu cl q 100 h46 h47 hV hen ha hf) lk_X12_75 h46 rfl rfl hl.1 rfl (Nat.le_of_ble_eq_true rfl) (by decide) dX12_wordOfD_3 ⟨Nat.le_of_ble_eq_true rfl, Nat.le_of_ble_eq_true rfl⟩) hM (fun M1 H locs hM hp => ?_)
  subst hp
  have hM : MW g (mup (mup M (gA g 46) (mdE g m0 m1 m2 (nI a) (nI (qS (qMu f en q 100))) (nI en) (qZ (qMu f en q 100)) 0 m8 m9 m10 m11)) (gA g 47) (aI g 929 (cnt f a tu cl (qL (qMu f en q 100))))) H locs := hM
  obtain ⟨qn_1, e_qn_1⟩ : ∃ z : Q9, z = qMu f en q 100 := ⟨_, rfl⟩
  have hM : MW g (mup (mup M (gA g 46) (mdE g m0 m1 m2 (nI a) (nI (qS qn_1)) (nI en) (qZ qn_1) 0 m8 m9 m10 m11)) (gA g 47) (aI g 929 (cnt f a tu cl (qL qn_1)))) H locs := by rw [e_qn_1]; exact hM
  have V_qn_1 : VQ en qn_1 ∧ LQ q qn_1 := by rw [e_qn_1]; exact (qMu_V (hV) (by decide))
  refine lv_aload_n hx hb dX12_wordOfD_6 rfl (lv_at hl 0 rfl) ?_
  refine K_i (G_V (As := []) (rest := []) X hM (c_X12_hereQ l g _ m0 m1 m2 0 m8 m9 m10 m11 a en f tu cl qn_1 (mup_r (X.2.ne (i := 46) (j := 47) (by decide) (by decide) (by decide)) (mup_s _ _ _)) (mup_s _ _ _) V_qn_1.1 hen ha hf) lk_X12_62 (mup_r (X.2.ne (i := 46) (j := 47) (by decide) (by decide) (by decide)) (mup_s _ _ _)) rfl rfl hl.1 rfl (Nat.le_of_ble_eq_true rfl) (by decide) dX12_wordOfD_7 ⟨Nat.le_of_ble_eq_true rfl, Nat.le_of_ble_eq_true rfl⟩) hM (fun r M1 H locs hM hp => ?_)
  obtain ⟨rfl, rfl⟩ := hp
  refine lv_bipush (v := 101) hx hb dX12_wordOfD_10 (by decide) ?_
  refine lv_icmp_ne (tgt := 26) hx hb dX12_wordOfD_12 (by decide) (fun c_2 => ?_) (fun c_2 => ?_)
  · skip
    refine lv_aload_n hx hb dX12_wordOfD_26 rfl (lv_at hl 0 rfl) ?_
    refine lv_sipush (v := -200) hx hb dX12_wordOfD_27 (by decide) ?_
    refine va_ldcS hx hb X.1.2.2.2.1 (X.2.2.2.2.2.2.1 9 _ rfl) dX12_wordOfD_30 ?_
    refine K_v (G_V (As := [.int (-200), .ref (gK g 9)]) (rest := []) X hM (c_X12_much l g _ m0 m1 m2 m8 m9 m10 m11 a en f tu cl qn_1 (-200) 9 (mup_r (X.2.ne (i := 46) (j := 47) (by decide) (by decide) (by decide)) (mup_s _ _ _)) (mup_s _ _ _) V_qn_1.1 hen ha hf (by decide)) lk_X12_114 (mup_r (X.2.ne (i := 46) (j := 47) (by decide) (by decide) (by decide)) (mup_s _ _ _)) rfl rfl hl.1 rfl (Nat.le_of_ble_eq_true rfl) (by decide) dX12_wordOfD_32 ⟨Nat.le_of_ble_eq_true rfl, Nat.le_of_ble_eq_true rfl⟩) hM (fun M1 H locs hM hp => ?_)
    subst hp
    rw [mup_w _ _ _ (X.2.ne (i := 47) (j := 46) (by decide) (by decide) (by decide)), mup_i] at hM
    rw [mup_i] at hM
    have hM : MW g (mup (mup M (gA g 46) (mdE g m0 m1 m2 (nI a) (nI (qS (qMc f en (-200) 9 qn_1))) (nI en) (qZ (qMc f en (-200) 9 qn_1)) 0 m8 m9 m10 m11)) (gA g 47) (aI g 929 (cnt f a tu cl (qL (qMc f en (-200) 9 qn_1))))) H locs := hM
    obtain ⟨qn_3, e_qn_3⟩ : ∃ z : Q9, z = qMc f en (-200) 9 qn_1 := ⟨_, rfl⟩
    have hM : MW g (mup (mup M (gA g 46) (mdE g m0 m1 m2 (nI a) (nI (qS qn_3)) (nI en) (qZ qn_3) 0 m8 m9 m10 m11)) (gA g 47) (aI g 929 (cnt f a tu cl (qL qn_3)))) H locs := by rw [e_qn_3]; exact hM
    have e9 : qWd f en q = qn_3 := by unfold qWd; (try rw [← e_qn_1]); (try rw [← e_qn_3]); (first | rw [if_pos c_2] | rw [if_neg c_2] | skip); (try rw [← e_qn_1]); (try rw [← e_qn_3]); first | done | rfl
    exact R_v X hr hk hM (by rw [e9] <;> rfl) dX12_wordOfD_35
  · skip
    refine lv_aload_n hx hb dX12_wordOfD_15 rfl (lv_at hl 0 rfl) ?_
    refine lv_bipush (v := -10) hx hb dX12_wordOfD_16 (by decide) ?_
    refine va_ldcS hx hb X.1.2.2.2.1 (X.2.2.2.2.2.2.1 6 _ rfl) dX12_wordOfD_18 ?_
    refine K_v (G_V (As := [.int (-10), .ref (gK g 6)]) (rest := []) X hM (c_X12_much l g _ m0 m1 m2 m8 m9 m10 m11 a en f tu cl qn_1 (-10) 6 (mup_r (X.2.ne (i := 46) (j := 47) (by decide) (by decide) (by decide)) (mup_s _ _ _)) (mup_s _ _ _) V_qn_1.1 hen ha hf (by decide)) lk_X12_114 (mup_r (X.2.ne (i := 46) (j := 47) (by decide) (by decide) (by decide)) (mup_s _ _ _)) rfl rfl hl.1 rfl (Nat.le_of_ble_eq_true rfl) (by decide) dX12_wordOfD_20 ⟨Nat.le_of_ble_eq_true rfl, Nat.le_of_ble_eq_true rfl⟩) hM (fun M1 H locs hM hp => ?_)
    subst hp
    rw [mup_w _ _ _ (X.2.ne (i := 47) (j := 46) (by decide) (by decide) (by decide)), mup_i] at hM
    rw [mup_i] at hM
    have hM : MW g (mup (mup M (gA g 46) (mdE g m0 m1 m2 (nI a) (nI (qS (qMc f en (-10) 6 qn_1))) (nI en) (qZ (qMc f en (-10) 6 qn_1)) 0 m8 m9 m10 m11)) (gA g 47) (aI g 929 (cnt f a tu cl (qL (qMc f en (-10) 6 qn_1))))) H locs := hM
    obtain ⟨qn_4, e_qn_4⟩ : ∃ z : Q9, z = qMc f en (-10) 6 qn_1 := ⟨_, rfl⟩
    have hM : MW g (mup (mup M (gA g 46) (mdE g m0 m1 m2 (nI a) (nI (qS qn_4)) (nI en) (qZ qn_4) 0 m8 m9 m10 m11)) (gA g 47) (aI g 929 (cnt f a tu cl (qL qn_4)))) H locs := by rw [e_qn_4]; exact hM
    refine lv_goto (tgt := 35) hx hb dX12_wordOfD_23 (by decide) ?_
    have e9 : qWd f en q = qn_4 := by unfold qWd; (try rw [← e_qn_1]); (try rw [← e_qn_4]); (first | rw [if_pos c_2] | rw [if_neg c_2] | skip); (try rw [← e_qn_1]); (try rw [← e_qn_4]); first | done | rfl
    exact R_v X hr hk hM (by rw [e9] <;> rfl) dX12_wordOfD_35
set_option maxHeartbeats 4000000 in
set_option maxRecDepth 100000 in
theorem c_X12_clauseHere (l : Launch) (g : Gp) (M : Mem) (m0 m1 m2 m8 m9 m10 m11 : Int32) (a en : Nat) (f : Nat → Int32) (tu cl : Int32) (q : Q9) (h46 : M (gA g 46) = some (mdE g m0 m1 m2 (nI a) (nI (qS q)) (nI en) (qZ q) 0 m8 m9 m10 m11)) (h47 : M (gA g 47) = some (aI g 929 (cnt f a tu cl (qL q)))) (hV : VQ en q) (hen : en ≤ 100) (ha : a < 5) (hf : f (224 + a) = nI 0) : Met l yX12_clauseHere (wsM yX12_clauseHere cX12_clauseHere 1 none) (rmD 26 0 0) (Pre g M [.ref (gA g 46)]) (Qv g (fun M1 => mup (mup M (gA g 46) (mdE g m0 m1 m2 (nI a) (nI (qS ((qCl f en ((tu, cl), q)).2))) (nI en) (qZ ((qCl f en ((tu, cl), q)).2)) 0 m8 m9 m10 m11)) (gA g 47) (aI g 929 (cnt f a (qCl f en ((tu, cl), q)).1.1 (qCl f en ((tu, cl), q)).1.2 (qL (qCl f en ((tu, cl), q)).2))) = M1)) 0 0 (gF g) := M_start (by decide +kernel) (Nat.le_of_ble_eq_true rfl) fun p e s m args below meth c ls X hr hk hnm hM hl => by
  have X : Cx g p m c cX12_clauseHere 1 s args RX12 := X
  have hx := X.1.1
  have hb := X.1.2.1
  have hl : lv_has ls 1 [(0, .ref (gA g 46))] := hl
  refine lv_aload_n hx hb dX12_clauseHere_0 rfl (lv_at hl 0 rfl) ?_
  refine K_i (G_V (As := []) (rest := []) X hM (c_X12_hereQ l g _ m0 m1 m2 0 m8 m9 m10 m11 a en f tu cl q h46 h47 hV hen ha hf) lk_X12_62 h46 rfl rfl hl.1 rfl (Nat.le_of_ble_eq_true rfl) (by decide) dX12_clauseHere_1 ⟨Nat.le_of_ble_eq_true rfl, Nat.le_of_ble_eq_true rfl⟩) hM (fun r M1 H locs hM hp => ?_)
  obtain ⟨rfl, rfl⟩ := hp
  by_cases w_1 : qHe f en q = 99
  · skip
    refine lv_lookup (off := 48) (tgt := 52) hx hb dX12_clauseHere_4 (by decide) (by rw [w_1]; decide) (by decide) ?_
    refine lv_aload_n hx hb dX12_clauseHere_52 rfl (lv_at hl 0 rfl) ?_
    refine lv_sipush (v := 219) hx hb dX12_clauseHere_53 (by decide) ?_
    refine va_ldcS hx hb X.1.2.2.2.1 (X.2.2.2.2.2.2.1 5 _ rfl) dX12_clauseHere_56 ?_
    refine K_v (G_V (As := [.int 219, .ref (gK g 5)]) (rest := []) X hM (c_X12_tellsC l g _ m0 m1 m2 0 m8 m9 m10 m11 a en f tu cl q 5 h46 h47 hV hen ha hf (by decide)) lk_X12_122 h46 rfl rfl hl.1 rfl (Nat.le_of_ble_eq_true rfl) (by decide) dX12_clauseHere_58 ⟨Nat.le_of_ble_eq_true rfl, Nat.le_of_ble_eq_true rfl⟩) hM (fun M1 H locs hM hp => ?_)
    subst hp
    have hM : MW g (mup (mup M (gA g 46) (mdE g m0 m1 m2 (nI a) (nI (qS (qFg f en (qSp f en q 5)))) (nI en) (qZ (qFg f en (qSp f en q 5))) 0 m8 m9 m10 m11)) (gA g 47) (aI g 929 (cnt f a tu (qTu f en 5 q cl) (qL (qFg f en (qSp f en q 5)))))) H locs := hM
    refine lv_goto (tgt := 76) hx hb dX12_clauseHere_61 (by decide) ?_
    have e9 : qCl f en ((tu, cl), q) = ((tu, (qTu f en 5 q cl)), qFg f en (qSp f en q 5)) := by unfold qCl; dsimp only; (first | rw [if_pos w_1] | rw [if_neg w_1] | skip)
    exact R_v X hr hk hM (by rw [e9]) dX12_clauseHere_76
  by_cases w_2 : qHe f en q = 100
  · skip
    refine lv_lookup (off := 60) (tgt := 64) hx hb dX12_clauseHere_4 (by decide) (by rw [w_2]; decide) (by decide) ?_
    refine lv_aload_n hx hb dX12_clauseHere_64 rfl (lv_at hl 0 rfl) ?_
    refine K_v (G_V (As := []) (rest := []) X hM (c_X12_wordOfD l g _ m0 m1 m2 m8 m9 m10 m11 a en f tu cl q h46 h47 hV hen ha hf) lk_X12_127 h46 rfl rfl hl.1 rfl (Nat.le_of_ble_eq_true rfl) (by decide) dX12_clauseHere_65 ⟨Nat.le_of_ble_eq_true rfl, Nat.le_of_ble_eq_true rfl⟩) hM (fun M1 H locs hM hp => ?_)
    subst hp
    have hM : MW g (mup (mup M (gA g 46) (mdE g m0 m1 m2 (nI a) (nI (qS (qWd f en q))) (nI en) (qZ (qWd f en q)) 0 m8 m9 m10 m11)) (gA g 47) (aI g 929 (cnt f a tu cl (qL (qWd f en q))))) H locs := hM
    refine lv_goto (tgt := 76) hx hb dX12_clauseHere_68 (by decide) ?_
    have e9 : qCl f en ((tu, cl), q) = ((tu, cl), qWd f en q) := by unfold qCl; dsimp only; (first | rw [if_pos w_1] | rw [if_neg w_1] | skip); (first | rw [if_pos w_2] | rw [if_neg w_2] | skip)
    exact R_v X hr hk hM (by rw [e9]) dX12_clauseHere_76
  by_cases w_3 : qHe f en q = 116
  · skip
    refine lv_lookup (off := 36) (tgt := 40) hx hb dX12_clauseHere_4 (by decide) (by rw [w_3]; decide) (by decide) ?_
    refine lv_aload_n hx hb dX12_clauseHere_40 rfl (lv_at hl 0 rfl) ?_
    refine lv_sipush (v := 214) hx hb dX12_clauseHere_41 (by decide) ?_
    refine va_ldcS hx hb X.1.2.2.2.1 (X.2.2.2.2.2.2.1 4 _ rfl) dX12_clauseHere_44 ?_
    refine K_v (G_V (As := [.int 214, .ref (gK g 4)]) (rest := []) X hM (c_X12_tellsT l g _ m0 m1 m2 0 m8 m9 m10 m11 a en f tu cl q 4 h46 h47 hV hen ha hf (by decide)) lk_X12_122 h46 rfl rfl hl.1 rfl (Nat.le_of_ble_eq_true rfl) (by decide) dX12_clauseHere_46 ⟨Nat.le_of_ble_eq_true rfl, Nat.le_of_ble_eq_true rfl⟩) hM (fun M1 H locs hM hp => ?_)
    subst hp
    have hM : MW g (mup (mup M (gA g 46) (mdE g m0 m1 m2 (nI a) (nI (qS (qFg f en (qSp f en q 4)))) (nI en) (qZ (qFg f en (qSp f en q 4))) 0 m8 m9 m10 m11)) (gA g 47) (aI g 929 (cnt f a (qTu f en 4 q tu) cl (qL (qFg f en (qSp f en q 4)))))) H locs := hM
    refine lv_goto (tgt := 76) hx hb dX12_clauseHere_49 (by decide) ?_
    have e9 : qCl f en ((tu, cl), q) = (((qTu f en 4 q tu), cl), qFg f en (qSp f en q 4)) := by unfold qCl; dsimp only; (first | rw [if_pos w_1] | rw [if_neg w_1] | skip); (first | rw [if_pos w_2] | rw [if_neg w_2] | skip); (first | rw [if_pos w_3] | rw [if_neg w_3] | skip)
    exact R_v X hr hk hM (by rw [e9]) dX12_clauseHere_76
  refine lv_lookup (off := 67) (tgt := 71) hx hb dX12_clauseHere_4 (by decide) (by have z0 := i32ne w_1 (by decide : ((99 : Int32)).toInt = 99); have z1 := i32ne w_2 (by decide : ((100 : Int32)).toInt = 100); have z2 := i32ne w_3 (by decide : ((116 : Int32)).toInt = 116); simp only [Op.lookupswitch.offset]; rw [if_neg (Ne.symm z0), if_neg (Ne.symm z1), if_neg (Ne.symm z2)]) (by decide) ?_
  refine lv_aload_n hx hb dX12_clauseHere_71 rfl (lv_at hl 0 rfl) ?_
  refine lv_iconst (v := 1) hx hb dX12_clauseHere_72 (by decide) ?_
  refine r_put (T := TX12) (N := 20) (ci := 12) X hM iX12 tyX12 tyX12_ok nmX12 rfl 9 (by decide) q_844 rfl (Or.inl rfl) h46 rfl rfl (Nat.le_of_ble_eq_true rfl) dX12_clauseHere_73 (fun H locs hM => ?_)
  have hM : MW g (mup M (gA g 46) (mdE g m0 m1 m2 (nI a) (nI (qS q)) (nI en) 1 0 m8 m9 m10 m11)) H locs := hM
  have e9 : qCl f en ((tu, cl), q) = ((tu, cl), (qS q, 1, qL q)) := by unfold qCl; dsimp only; (first | rw [if_pos w_1] | rw [if_neg w_1] | skip); (first | rw [if_pos w_2] | rw [if_neg w_2] | skip); (first | rw [if_pos w_3] | rw [if_neg w_3] | skip)
  exact R_v X hr hk hM (by rw [e9]; exact mup_id (mup_r (ne_kind h47 h46 Sum.inl_ne_inr) h47)) dX12_clauseHere_76
