/-! The two readers: clauses, skies. -/
section CLS
variable {f tf : Nat → Int32} {en : Nat} {T C : Int32}
theorem wrong_so {q : Q9} (h : ¬ qZ q = 0) : qSo f en (qFac f en 5) q = q := by
  have e1 : qFac f en 5 q = q := by rw [qFac_s, if_neg h]
  have e2 : qEv f en (qFac f en 5) q = q := by unfold qEv; rw [e1, qLp_z h]
  unfold qSo
  rw [e2, qLp_z h]
theorem spl_bad {sp k : Nat} {z : Int32} (hz : ¬ z = 0) : ∀ i, (mSpl f sp en z k i).1 = sp ∧ ¬ (mSpl f sp en z k i).2 = 0 := fun i => by
  induction i with
  | zero => exact ⟨rfl, hz⟩
  | succ i ih =>
    have e : mMuW f (mSpl f sp en z k i).1 en (mSpl f sp en z k i).2 (chS k i) = 1 := if_neg ih.2
    rw [mSpl]
    unfold mMuS
    rw [e, if_neg (by decide)]
    exact ⟨ih.1, (show ¬ (1 : Int32) = 0 by decide)⟩
theorem spl_b1 {sp k : Nat} (h : ¬ mHe f sp en = chS k 0) : ∀ i, (mSpl f sp en 0 k (i + 1)).1 = sp ∧ ¬ (mSpl f sp en 0 k (i + 1)).2 = 0 := fun i => by
  induction i with
  | zero =>
    have e : mMuW f sp en 0 (chS k 0) = 1 := by unfold mMuW; rw [if_pos rfl, if_neg h]
    have e2 : mSpl f sp en 0 k (0 + 1) = (mMuS f sp en 0 (chS k 0), mMuW f sp en 0 (chS k 0)) := rfl
    rw [e2]
    unfold mMuS
    rw [e, if_neg (by decide)]
    exact ⟨rfl, (show ¬ (1 : Int32) = 0 by decide)⟩
  | succ i ih =>
    have e : mMuW f (mSpl f sp en 0 k (i + 1)).1 en (mSpl f sp en 0 k (i + 1)).2 (chS k (i + 1)) = 1 := if_neg ih.2
    rw [mSpl]
    unfold mMuS
    rw [e, if_neg (by decide)]
    exact ⟨ih.1, (show ¬ (1 : Int32) = 0 by decide)⟩
theorem mc_bad {q : Q9} {kd : Int32} {k : Nat} (hz : qZ q = 0) (h : ¬ mHe f (qS q) en = chS k 0) (hl : ∃ u, lenS.getD k 0 = u + 1) : ¬ qZ (qMc f en kd k q) = 0 ∧ qS (qMc f en kd k q) = qS q := by
  obtain ⟨u, hu⟩ := hl
  have s1 := spl_b1 (f := f) (en := en) h u
  have e1 : qSp f en q k = ((mSpl f (qS q) en 0 k (u + 1)).1, (mSpl f (qS q) en 0 k (u + 1)).2, qL q) := by unfold qSp; rw [hu, hz]
  obtain ⟨r, hr⟩ : ∃ r, r = qSp f en q k := ⟨_, rfl⟩
  have z1 : ¬ qZ r = 0 := by rw [hr, e1]; exact s1.2
  have p1 : qS r = qS q := by rw [hr, e1]; exact s1.1
  unfold qMc
  rw [← hr, qFg_z z1]
  have e2 : qMu f en (qS r, 1, qL r) 32 = (qS r, 1, qL r) := by
    have : mMuW f (qS r) en 1 32 = 1 := if_neg (by decide)
    show (mMuS f (qS r) en 1 32, mMuW f (qS r) en 1 32, qL r) = _
    unfold mMuS
    rw [this, if_neg (by decide)]
  rw [e2, wrong_so (q := (qS r, 1, qL r)) (show ¬ (1 : Int32) = 0 by decide)]
  exact ⟨(show ¬ (1 : Int32) = 0 by decide), p1⟩
/-- dear or dim, behind its d, in the class -/
def muC (tc : Int32) (tf : Nat → Int32) (k : Nat) (t : Int32) (ra : R1) (sa : S1) : R1 × S1 := ((eitG tc tf (facN tc tf 5) (rTake tc tf (rNum tc tf (rWd tc tf k ra (lenS.getD k 0))).2 32) sa).1, sAdd (eitG tc tf (facN tc tf 5) (rTake tc tf (rNum tc tf (rWd tc tf k ra (lenS.getD k 0))).2 32) sa).2 t 0 (rNum tc tf (rWd tc tf k ra (lenS.getD k 0))).1)
theorem much_tie (hT : TP f en tf) {q p : Q9} {ra : R1} {sa : S1} (hV : VQ en q) (hp : VQ en p) (hp1 : qS q = qS p + 1) (hp2 : (qL q).length = (qL p).length) (h : RR f en T C q ra sa) {k k' : Nat} (hk' : k' < 10) (hl : lenS.getD k 0 = lenS.getD k' 0) (hc : ∀ i, i < lenS.getD k' 0 → chS k i = chS k' i) {t kd : Int32} (hs : ∀ n : Nat, n ≤ 99 → StpEq t 0 (nI n) (kd - nI n)) : RR f en T C (qMc f en kd k' q) (muC (nI en) tf k t ra sa).1 (muC (nI en) tf k t ra sa).2 := by
  have good := (qMc_good (f := f) (kd := kd) hk' hp hV hp1 hp2).1
  have a1 := qSp_V (f := f) hV hk'
  have w := word_tie hT hV h hk' hl hc
  obtain ⟨n1, n2, v, v1, v2⟩ := num_tie hT a1.1 w
  have a2 := qFg_V (f := f) a1.1
  have m := take_tie hT a2.1 n2 (x := 32) (by decide)
  have a3 := qMu_V (f := f) (x := 32) a2.1 (by decide)
  have e := eit_tie hT (qFac_good (f := f) 5) (fac_tie hT 5) _ _ _ a3.1 m
  unfold qMc at good ⊢
  unfold muC
  dsimp only
  rw [n1]
  rw [v2] at good ⊢
  exact emit_tie hT e (fun _ => hs v v1) good
def tuO (x : Int32) : Int32 := if x = 0 then 1 else x
def RC (f : Nat → Int32) (en : Nat) (v : C9) (ra : R1) (sa : S1) : Prop := VQ en v.2 ∧ RR f en (tuO v.1.1) v.1.2 v.2 ra sa ∧ (∃ n : Nat, n ≤ 99 ∧ v.1.1 = nI n) ∧ (∃ n : Nat, n ≤ 99 ∧ v.1.2 = nI n) ∧ (qZ v.2 = 0 → okL (qL v.2) ∧ tpL (qL v.2) = 0)
theorem tell_c (hT : TP f en tf) {v : C9} {ra : R1} {sa : S1} (hz : qZ v.2 = 0) (h : RC f en v ra sa) {k k' : Nat} (hk' : k' < 10) (hl : lenS.getD k 0 = lenS.getD k' 0) (hc : ∀ i, i < lenS.getD k' 0 → chS k i = chS k' i) : RC f en ((v.1.1, qTu f en k' v.2 v.1.2), qFg f en (qSp f en v.2 k')) (((rNum (nI en) tf (rWd (nI en) tf k ra (lenS.getD k 0))).2, ((zZ sa, zT sa, (rNum (nI en) tf (rWd (nI en) tf k ra (lenS.getD k 0))).1), sa.2)) : R1 × S1).1 (((rNum (nI en) tf (rWd (nI en) tf k ra (lenS.getD k 0))).2, ((zZ sa, zT sa, (rNum (nI en) tf (rWd (nI en) tf k ra (lenS.getD k 0))).1), sa.2)) : R1 × S1).2 := by
  show RC f en ((v.1.1, qTu f en k' v.2 v.1.2), qFg f en (qSp f en v.2 k')) (rNum (nI en) tf (rWd (nI en) tf k ra (lenS.getD k 0))).2 ((zZ sa, zT sa, (rNum (nI en) tf (rWd (nI en) tf k ra (lenS.getD k 0))).1), sa.2)
  obtain ⟨hV, hR, hn1, hn2, hk⟩ := h
  have a1 := qSp_V (f := f) hV hk'
  have a2 := qFg_V (f := f) a1.1
  have w := word_tie hT hV hR hk' hl hc
  obtain ⟨t2, t3, n, t4, t5⟩ := num_tie hT a1.1 w
  refine ⟨a2.1, ?_, hn1, ?_, fun _ => hk hz⟩
  · rcases t3 with ⟨r1, r2, r3, r4, r5⟩ | r
    · refine Or.inl ⟨r1, r2, r3, r4, ?_⟩
      show (rNum (nI en) tf (rWd (nI en) tf k ra (lenS.getD k 0))).1 = qTu f en k' v.2 v.1.2
      unfold qTu
      rw [if_pos r1, t2]
    · exact Or.inr r
  · show ∃ n : Nat, n ≤ 99 ∧ qTu f en k' v.2 v.1.2 = nI n
    unfold qTu
    split
    · exact ⟨n, t4, t5⟩
    · exact hn2
theorem tell_t (hT : TP f en tf) {v : C9} {ra : R1} {sa : S1} (hz : qZ v.2 = 0) (h : RC f en v ra sa) {k k' : Nat} (hk' : k' < 10) (hl : lenS.getD k 0 = lenS.getD k' 0) (hc : ∀ i, i < lenS.getD k' 0 → chS k i = chS k' i) : RC f en ((qTu f en k' v.2 v.1.1, v.1.2), qFg f en (qSp f en v.2 k')) (((rNum (nI en) tf (rWd (nI en) tf k ra (lenS.getD k 0))).2, ((zZ sa, (if (rNum (nI en) tf (rWd (nI en) tf k ra (lenS.getD k 0))).1 < 1 then 1 else (rNum (nI en) tf (rWd (nI en) tf k ra (lenS.getD k 0))).1), zC sa), sa.2)) : R1 × S1).1 (((rNum (nI en) tf (rWd (nI en) tf k ra (lenS.getD k 0))).2, ((zZ sa, (if (rNum (nI en) tf (rWd (nI en) tf k ra (lenS.getD k 0))).1 < 1 then 1 else (rNum (nI en) tf (rWd (nI en) tf k ra (lenS.getD k 0))).1), zC sa), sa.2)) : R1 × S1).2 := by
  show RC f en ((qTu f en k' v.2 v.1.1, v.1.2), qFg f en (qSp f en v.2 k')) (rNum (nI en) tf (rWd (nI en) tf k ra (lenS.getD k 0))).2 ((zZ sa, (if (rNum (nI en) tf (rWd (nI en) tf k ra (lenS.getD k 0))).1 < 1 then 1 else (rNum (nI en) tf (rWd (nI en) tf k ra (lenS.getD k 0))).1), zC sa), sa.2)
  obtain ⟨hV, hR, hn1, hn2, hk⟩ := h
  have a1 := qSp_V (f := f) hV hk'
  have a2 := qFg_V (f := f) a1.1
  have w := word_tie hT hV hR hk' hl hc
  obtain ⟨t2, t3, n, t4, t5⟩ := num_tie hT a1.1 w
  refine ⟨a2.1, ?_, ?_, hn2, fun _ => hk hz⟩
  · rcases t3 with ⟨r1, r2, r3, r4, r5⟩ | r
    · refine Or.inl ⟨r1, r2, r3, ?_, r5⟩
      show (if (rNum (nI en) tf (rWd (nI en) tf k ra (lenS.getD k 0))).1 < 1 then 1 else (rNum (nI en) tf (rWd (nI en) tf k ra (lenS.getD k 0))).1) = tuO (qTu f en k' v.2 v.1.1)
      unfold qTu tuO
      rw [if_pos r1, t2, t5]
      rcases Nat.eq_zero_or_pos n with z | z
      · subst z; decide
      · rw [if_neg (show ¬ nI n < 1 from nI_nlt z (by omega)), if_neg (nI_ne0 z (by omega))]
    · exact Or.inr r
  · show ∃ n : Nat, n ≤ 99 ∧ qTu f en k' v.2 v.1.1 = nI n
    unfold qTu
    split
    · exact ⟨n, t4, t5⟩
    · exact hn1
theorem qEm_z (q : Q9) (x : Int32) : qZ (qEm q x) = qZ q := rfl
theorem qEm_l (q : Q9) (x : Int32) : qL (qEm q x) = if qZ q = 0 then x :: qL q else qL q := rfl
theorem qMu_l (q : Q9) (x : Int32) : qL (qMu f en q x) = qL q := rfl
theorem qFg_l (q : Q9) : qL (qFg f en q) = qL q := rfl
theorem qSp_l (q : Q9) (k : Nat) : qL (qSp f en q k) = qL q := rfl
theorem w15 : ∀ i, i < lenS.getD 5 0 → chS 1 i = chS 5 i := by decide
theorem w04 : ∀ i, i < lenS.getD 4 0 → chS 0 i = chS 4 i := by decide
theorem w36 : ∀ i, i < lenS.getD 6 0 → chS 3 i = chS 6 i := by decide
theorem w29 : ∀ i, i < lenS.getD 9 0 → chS 2 i = chS 9 i := by decide
theorem clN_99 {tc : Int32} {ra : R1} {sa : S1} (h : pN ra = 99) : clN tc tf ra sa = ((rNum tc tf (rWd tc tf 1 ra (lenS.getD 1 0))).2, ((zZ sa, zT sa, (rNum tc tf (rWd tc tf 1 ra (lenS.getD 1 0))).1), sa.2)) := if_pos h
theorem clN_100 {tc : Int32} {ra : R1} {sa : S1} (h : pN ra = 100) : clN tc tf ra sa = if pN (rGo tc tf ra (pP ra + 1)) = 105 then muC tc tf 2 7 (rGo tc tf ra (pP ra + 1)) sa else muC tc tf 3 6 (rGo tc tf ra (pP ra + 1)) sa := by
  unfold clN muC
  rw [if_neg (show ¬ pN ra = 99 by rw [h]; decide), if_pos h]
theorem clN_116 {tc : Int32} {ra : R1} {sa : S1} (h : pN ra = 116) : clN tc tf ra sa = ((rNum tc tf (rWd tc tf 0 ra (lenS.getD 0 0))).2, ((zZ sa, (if (rNum tc tf (rWd tc tf 0 ra (lenS.getD 0 0))).1 < 1 then 1 else (rNum tc tf (rWd tc tf 0 ra (lenS.getD 0 0))).1), zC sa), sa.2)) := by
  unfold clN
  rw [if_neg (show ¬ pN ra = 99 by rw [h]; decide), if_neg (show ¬ pN ra = 100 by rw [h]; decide), if_pos h]
theorem clN_no {tc : Int32} {ra : R1} {sa : S1} (h1 : ¬ pN ra = 99) (h2 : ¬ pN ra = 100) (h3 : ¬ pN ra = 116) : clN tc tf ra sa = (rFail ra, sa) := by
  unfold clN
  rw [if_neg h1, if_neg h2, if_neg h3]
theorem qCl_99 {v : C9} (h : qHe f en v.2 = 99) : qCl f en v = ((v.1.1, qTu f en 5 v.2 v.1.2), qFg f en (qSp f en v.2 5)) := if_pos h
theorem qCl_100 {v : C9} (h : qHe f en v.2 = 100) : qCl f en v = (v.1, qWd f en v.2) := by
  unfold qCl
  rw [if_neg (show ¬ qHe f en v.2 = 99 by rw [h]; decide), if_pos h]
theorem qCl_116 {v : C9} (h : qHe f en v.2 = 116) : qCl f en v = ((qTu f en 4 v.2 v.1.1, v.1.2), qFg f en (qSp f en v.2 4)) := by
  unfold qCl
  rw [if_neg (show ¬ qHe f en v.2 = 99 by rw [h]; decide), if_neg (show ¬ qHe f en v.2 = 100 by rw [h]; decide), if_pos h]
theorem qCl_no {v : C9} (h1 : ¬ qHe f en v.2 = 99) (h2 : ¬ qHe f en v.2 = 100) (h3 : ¬ qHe f en v.2 = 116) : qCl f en v = (v.1, (qS v.2, 1, qL v.2)) := by
  unfold qCl
  rw [if_neg h1, if_neg h2, if_neg h3]
theorem qWd_at {q : Q9} (hz : qZ q = 0) (h : qHe f en q = 100) : qWd f en q = if mHe f (qS q + 1) en = 101 then qMc f en (-10) 6 (qS q + 1, 0, qL q) else qMc f en (-200) 9 (qS q + 1, 0, qL q) := by
  unfold qWd
  rw [qMu_at hz h, show qHe f en (qS q + 1, 0, qL q) = mHe f (qS q + 1) en from rfl]
theorem pk_mc (hT : TP f en tf) {p q : Q9} (V1 : VQ en q) (o1 : okL (qL q)) (o2 : tpL (qL q) = 0) (kd : Int32) (k : Nat) (hk9 : k < 10) (hs : ∀ n : Nat, n ≤ 99 → okS (kd - nI n) 1 ∧ tpN (kd - nI n) 1 = 0) (z : qZ (qMc f en kd k q) = 0) : okL (qL (qMc f en kd k q)) ∧ tpL (qL (qMc f en kd k q)) = 0 := by
  have a1 := qSp_V (f := f) V1 hk9
  have a2 := qFg_V (f := f) a1.1
  have a3 := qMu_V (f := f) (x := 32) a2.1 (by decide)
  obtain ⟨n, n1, n2⟩ := fgI_v hT a1.1
  have eL : qL (qMu f en (qFg f en (qSp f en q k)) 32) = qL q := by rw [qMu_l, qFg_l, qSp_l]
  unfold qMc at z ⊢
  rw [n2] at z ⊢
  obtain ⟨r, hr⟩ : ∃ r, r = qMu f en (qFg f en (qSp f en q k)) 32 := ⟨_, rfl⟩
  rw [← hr] at a3 eL z ⊢
  rw [qEm_z] at z
  have z0 : qZ r = 0 := by
    by_cases y : qZ r = 0
    · exact y
    · rw [wrong_so y] at z; exact absurd z y
  obtain ⟨q1, q2⟩ := pk_so hT (qFac_good (f := f) 5) (pk_fac hT 5) r a3.1 z0 (by rw [eL]; exact o1) (by rw [eL, o2]; decide) z
  obtain ⟨u, hu⟩ : ∃ u, u = qSo f en (qFac f en 5) r := ⟨_, rfl⟩
  rw [← hu] at z q1 q2 ⊢
  rw [eL, o2] at q2
  rw [qEm_l, if_pos z]
  obtain ⟨s1, s2⟩ := hs n n1
  exact ⟨⟨by rw [q2]; exact s1, q1⟩, by show tpN (kd - nI n) (tpL (qL u)) = 0; rw [q2]; exact s2⟩
theorem cls_tie (hT : TP f en tf) {v : C9} {ra : R1} {sa : S1} (hz : qZ v.2 = 0) (h : RC f en v ra sa) : RC f en (qCl f en v) (clN (nI en) tf ra sa).1 (clN (nI en) tf ra sa).2 := by
  obtain ⟨hV, hR, hn1, hn2, hk⟩ := id h
  have hq : qS v.2 ≤ 100 := Nat.le_trans hV.1 hT.1
  obtain ⟨o1, o2⟩ := hk hz
  rcases id hR with ⟨-, h2, h3, h4, h5⟩ | ⟨h1, -⟩
  · have hp : pN ra = mHe f (qS v.2) en := by rw [h2]; rfl
    by_cases c1 : mHe f (qS v.2) en = 99
    · rw [qCl_99 (show qHe f en v.2 = 99 from c1), clN_99 (hp.trans c1)]
      exact tell_c hT hz h (k := 1) (k' := 5) (by decide) rfl w15
    by_cases c2 : mHe f (qS v.2) en = 100
    · have lt := mHe_lt c2 (by decide)
      have V1 : VQ en ((qS v.2 + 1, 0, qL v.2) : Q9) := ⟨lt, Nat.le_trans hV.2.1 (Nat.le_succ _), Or.inl rfl⟩
      have R1' : RR f en (tuO v.1.1) v.1.2 (qS v.2 + 1, 0, qL v.2) (rGo (nI en) tf ra (pP ra + 1)) sa := by
        rw [h2, go_1 hT (by omega)]
        exact Or.inl ⟨rfl, rfl, h3, h4, h5⟩
      have p2 : pN (rGo (nI en) tf ra (pP ra + 1)) = mHe f (qS v.2 + 1) en := by rw [h2, go_1 hT (by omega)]; rfl
      have good := (qWd_good (f := f) hV hz (show qHe f en v.2 = 100 from c2)).1
      have dear := much_tie hT (p := v.2) V1 hV rfl rfl R1' (k := 3) (k' := 6) (by decide) rfl w36 (t := 6) (kd := -10) (fun n hn => Or.inr (Or.inr (Or.inr (Or.inl ⟨n, hn, rfl, rfl, rfl⟩))))
      have dim := much_tie hT (p := v.2) V1 hV rfl rfl R1' (k := 2) (k' := 9) (by decide) rfl w29 (t := 7) (kd := -200) (fun n hn => Or.inr (Or.inr (Or.inr (Or.inr (Or.inl ⟨n, hn, rfl, rfl, rfl⟩)))))
      have pk6 := pk_mc (p := v.2) hT V1 o1 o2 (-10) 6 (by decide) (fun n hn => (okS_d hn).1)
      have pk9 := pk_mc (p := v.2) hT V1 o1 o2 (-200) 9 (by decide) (fun n hn => (okS_d hn).2)
      have b6 := mc_bad (f := f) (en := en) (q := (qS v.2 + 1, 0, qL v.2)) (kd := -10) (k := 6) rfl
      have b9 := mc_bad (f := f) (en := en) (q := (qS v.2 + 1, 0, qL v.2)) (kd := -200) (k := 9) rfl
      rw [qCl_100 (show qHe f en v.2 = 100 from c2), clN_100 (hp.trans c2), p2]
      rw [qWd_at hz (show qHe f en v.2 = 100 from c2)] at good ⊢
      obtain ⟨M6, h6⟩ : ∃ z, z = qMc f en (-10) 6 (qS v.2 + 1, 0, qL v.2) := ⟨_, rfl⟩
      obtain ⟨M9, h9⟩ : ∃ z, z = qMc f en (-200) 9 (qS v.2 + 1, 0, qL v.2) := ⟨_, rfl⟩
      rw [← h6] at dear pk6 b6
      rw [← h9] at dim pk9 b9
      rw [← h6, ← h9] at good ⊢
      by_cases c3 : mHe f (qS v.2 + 1) en = 105
      · have c4 : ¬ mHe f (qS v.2 + 1) en = 101 := by rw [c3]; decide
        rw [if_pos c3]
        rw [if_neg c4] at good ⊢
        exact ⟨good, dim, hn1, hn2, pk9⟩
      · rw [if_neg c3]
        by_cases c4 : mHe f (qS v.2 + 1) en = 101
        · rw [if_pos c4] at good ⊢
          exact ⟨good, dear, hn1, hn2, pk6⟩
        · rw [if_neg c4] at good ⊢
          have b6' := b6 (show ¬ mHe f (qS v.2 + 1) en = chS 6 0 by rw [show chS 6 0 = 101 from by decide]; exact c4) ⟨3, rfl⟩
          have b9' := b9 (show ¬ mHe f (qS v.2 + 1) en = chS 9 0 by rw [show chS 9 0 = 105 from by decide]; exact c3) ⟨2, rfl⟩
          refine ⟨good, ?_, hn1, hn2, fun z => absurd z b9'.1⟩
          rcases dear with ⟨r1, -⟩ | ⟨r1, r2, r3⟩
          · exact absurd r1 b6'.1
          · exact Or.inr ⟨b9'.1, r2, by rw [b9'.2, ← b6'.2]; exact r3⟩
    by_cases c3 : mHe f (qS v.2) en = 116
    · rw [qCl_116 (show qHe f en v.2 = 116 from c3), clN_116 (hp.trans c3)]
      exact tell_t hT hz h (k := 0) (k' := 4) (by decide) rfl w04
    rw [qCl_no (show ¬ qHe f en v.2 = 99 from c1) (show ¬ qHe f en v.2 = 100 from c2) (show ¬ qHe f en v.2 = 116 from c3), clN_no (fun z => c1 (hp.symm.trans z)) (fun z => c2 (hp.symm.trans z)) (fun z => c3 (hp.symm.trans z)), h2]
    exact ⟨hV.z (Or.inr rfl), Or.inr ⟨(by decide : ¬ (1 : Int32) = 0), fail_ok.1, fail_ok.2⟩, hn1, hn2, fun z => absurd z (by decide : ¬ (1 : Int32) = 0)⟩
  · exact absurd hz h1
theorem rd_tie (hT : TP f en tf) : ∀ n v ra sa, RC f en v ra sa → RC f en (qRd f en n v) (rdL (nI en) tf n ra sa).1 (rdL (nI en) tf n ra sa).2 := fun n => by
  induction n with
  | zero => exact fun v ra sa h => h
  | succ n ih =>
    intro v ra sa h
    obtain ⟨hV, hR, hn1, hn2, hk⟩ := id h
    have hq : qS v.2 ≤ 100 := Nat.le_trans hV.1 hT.1
    rcases id hR with ⟨h1, h2, h3, h4, h5⟩ | ⟨h1, h2, h3⟩
    · have hp : pN ra = mHe f (qS v.2) en := by rw [h2]; rfl
      by_cases c : mHe f (qS v.2) en = 59
      · have e1 : rdL (nI en) tf (n + 1) ra sa = rdL (nI en) tf n (clN (nI en) tf (rGo (nI en) tf ra (pP ra + 1)) sa).1 (clN (nI en) tf (rGo (nI en) tf ra (pP ra + 1)) sa).2 := if_pos (by rw [hp]; exact c)
        rw [e1, qRd_i h1 (show qHe f en v.2 = 59 from c) (by omega)]
        have lt := mHe_lt c (by decide)
        refine ih _ _ _ (cls_tie hT (v := ((v.1.1, v.1.2), (qS v.2 + 1, qZ v.2, qL v.2))) h1 ⟨⟨lt, Nat.le_trans hV.2.1 (Nat.le_succ _), hV.2.2⟩, ?_, hn1, hn2, hk⟩)
        rw [h2, go_1 hT (by omega)]
        exact Or.inl ⟨h1, rfl, h3, h4, h5⟩
      · rw [qRd_o (show ¬ qHe f en v.2 = 59 from c), rdL_out (by rw [hp]; exact c)]
        exact h
    · rw [qRd_z h1, rdL_out (by rw [h2]; decide)]
      exact h
theorem read_tie (hT : TP f en tf) (ra : R1) (sa : S1) : RC f en (qRQ f en) (rdQ (nI en) tf ra sa).1 (rdQ (nI en) tf ra sa).2 := by
  unfold qRQ rdQ
  refine rd_tie hT 9 _ _ _ (cls_tie hT (v := ((1, 0), (0, 0, []))) rfl ⟨VQ_0 en, ?_, ⟨1, by omega, rfl⟩, ⟨0, by omega, rfl⟩, fun _ => ⟨trivial, rfl⟩⟩)
  rw [show (0 : Int32) = nI 0 from rfl, go_he hT _ (by omega)]
  exact Or.inl ⟨rfl, rfl, ⟨rfl, fun i hi => absurd hi (Nat.not_lt_zero _)⟩, (show (1 : Int32) = tuO 1 by decide), rfl⟩
/-- a sky is read by both, or has the same fault -/
theorem sky_read (hT : TP f en tf) (ra : R1) (sa : S1) : ((qZ (qRQ f en).2 = 0 ∧ nI (qS (qRQ f en).2) = nI en) ∧ pF (rdN (nI en) tf ra sa).1 < 0 ∧ SS (qL (qRQ f en).2) (rdN (nI en) tf ra sa).2 ∧ zT (rdN (nI en) tf ra sa).2 = tuO (qRQ f en).1.1 ∧ zC (rdN (nI en) tf ra sa).2 = (qRQ f en).1.2 ∧ okL (qL (qRQ f en).2) ∧ (qL (qRQ f en).2).length ≤ 100 ∧ (∃ n : Nat, n ≤ 99 ∧ (qRQ f en).1.1 = nI n) ∧ ∃ n : Nat, n ≤ 99 ∧ (qRQ f en).1.2 = nI n) ∨ (¬ (qZ (qRQ f en).2 = 0 ∧ nI (qS (qRQ f en).2) = nI en) ∧ pF (rdN (nI en) tf ra sa).1 = nI (qS (qRQ f en).2) ∧ ¬ pF (rdN (nI en) tf ra sa).1 < 0) := by
  obtain ⟨hV, hR, hn1, hn2, hk⟩ := read_tie hT ra sa
  obtain ⟨W, hW⟩ : ∃ W, W = qRQ f en := ⟨_, rfl⟩
  rw [← hW] at hV hR hn1 hn2 hk ⊢
  have hen := hT.1
  have hq : qS W.2 ≤ 100 := Nat.le_trans hV.1 hen
  unfold rdN
  obtain ⟨Q, hQ⟩ : ∃ Q, Q = rdQ (nI en) tf ra sa := ⟨_, rfl⟩
  rw [← hQ] at hR ⊢
  rcases hR with ⟨h1, h2, h3, h4, h5⟩ | ⟨h1, h2, h3⟩
  · rcases he_nat hT (qS W.2) with ⟨a1, b, b1, b2⟩ | ⟨a1, b2⟩
    · right
      have hp : pN Q.1 = nI b := by rw [h2]; exact b2
      rw [hp, if_neg (nI_m1 (by omega))]
      have e : pF (rFail Q.1) = nI (qS W.2) := by rw [h2]; exact fail_ok.2
      refine ⟨fun z => ?_, e, by show ¬ pF (rFail Q.1) < 0; rw [e]; exact nI_pos (by omega)⟩
      have := (nI_eq (by omega) (by omega)).mp z.2
      omega
    · left
      have hp : pN Q.1 = -1 := by rw [h2]; exact b2
      have hs : qS W.2 = en := by have := hV.1; omega
      rw [hp, if_pos rfl]
      have := hV.2.1
      exact ⟨⟨h1, by rw [hs]⟩, by rw [h2]; exact (by decide : (-1 : Int32) < 0), h3, h4, h5, (hk h1).1, by omega, hn1, hn2⟩
  · right
    rw [h2, if_pos rfl]
    exact ⟨fun z => h1 z.1, h3, by rw [h3]; exact nI_pos (by omega)⟩
end CLS
