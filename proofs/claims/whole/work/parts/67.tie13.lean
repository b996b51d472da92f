/-! The two readers: tests, factors, sums of them; how many truths stand open. -/
section RD2
variable {f tf : Nat → Int32} {en : Nat} {T C : Int32}
theorem am7 (sp : Nat) : mAmo f sp en 7 6 0 = (if mHe f sp en = 112 then (nI 0, sp + 1) else if mHe f sp en = 107 then (nI 1, sp + 1) else if mHe f sp en = 118 then (nI 2, sp + 1) else if mHe f sp en = 104 then (nI 3, sp + 1) else if mHe f sp en = 110 then (nI 4, sp + 1) else if mHe f sp en = 109 then (nI 5, sp + 1) else (-1, sp)) := by
  have e0 : mAmo f sp en 7 6 0 = if mHe f sp en = chS 7 0 then (nI 0, sp + 1) else mAmo f sp en 7 5 1 := rfl
  have e1 : mAmo f sp en 7 5 1 = if mHe f sp en = chS 7 1 then (nI 1, sp + 1) else mAmo f sp en 7 4 2 := rfl
  have e2 : mAmo f sp en 7 4 2 = if mHe f sp en = chS 7 2 then (nI 2, sp + 1) else mAmo f sp en 7 3 3 := rfl
  have e3 : mAmo f sp en 7 3 3 = if mHe f sp en = chS 7 3 then (nI 3, sp + 1) else mAmo f sp en 7 2 4 := rfl
  have e4 : mAmo f sp en 7 2 4 = if mHe f sp en = chS 7 4 then (nI 4, sp + 1) else mAmo f sp en 7 1 5 := rfl
  have e5 : mAmo f sp en 7 1 5 = if mHe f sp en = chS 7 5 then (nI 5, sp + 1) else mAmo f sp en 7 0 6 := rfl
  have e6 : mAmo f sp en 7 0 6 = (-1, sp) := rfl
  rw [e0, e1, e2, e3, e4, e5, e6, show chS 7 0 = 112 from by decide, show chS 7 1 = 107 from by decide, show chS 7 2 = 118 from by decide, show chS 7 3 = 104 from by decide, show chS 7 4 = 110 from by decide, show chS 7 5 = 109 from by decide]
theorem am8 (sp : Nat) : mAmo f sp en 8 3 0 = (if mHe f sp en = 60 then (nI 0, sp + 1) else if mHe f sp en = 61 then (nI 1, sp + 1) else if mHe f sp en = 62 then (nI 2, sp + 1) else (-1, sp)) := by
  have e0 : mAmo f sp en 8 3 0 = if mHe f sp en = chS 8 0 then (nI 0, sp + 1) else mAmo f sp en 8 2 1 := rfl
  have e1 : mAmo f sp en 8 2 1 = if mHe f sp en = chS 8 1 then (nI 1, sp + 1) else mAmo f sp en 8 1 2 := rfl
  have e2 : mAmo f sp en 8 1 2 = if mHe f sp en = chS 8 2 then (nI 2, sp + 1) else mAmo f sp en 8 0 3 := rfl
  have e6 : mAmo f sp en 8 0 3 = (-1, sp) := rfl
  rw [e0, e1, e2, e6, show chS 8 0 = 60 from by decide, show chS 8 1 = 61 from by decide, show chS 8 2 = 62 from by decide]
theorem sg_tie (s : Nat) (tc : Int32) : (∃ w : Nat, w < 6 ∧ mHe f s en = sgO w ∧ mAmo f s en 7 6 0 = (nI w, s + 1) ∧ rSg tc tf (nI s, mHe f s en, -1) = rGo tc tf (nI s, mHe f s en, -1) (pP (nI s, mHe f s en, -1) + 1)) ∨ (mAmo f s en 7 6 0 = (-1, s) ∧ rSg tc tf (nI s, mHe f s en, -1) = rFail (nI s, mHe f s en, -1)) := by
  rw [am7]
  unfold rSg
  show (∃ w : Nat, w < 6 ∧ _ ∧ _ ∧ (if mHe f s en = 112 ∨ mHe f s en = 107 ∨ mHe f s en = 118 ∨ mHe f s en = 104 ∨ mHe f s en = 110 ∨ mHe f s en = 109 then _ else _) = _) ∨ (_ ∧ (if mHe f s en = 112 ∨ mHe f s en = 107 ∨ mHe f s en = 118 ∨ mHe f s en = 104 ∨ mHe f s en = 110 ∨ mHe f s en = 109 then _ else _) = _)
  by_cases c0 : mHe f s en = 112
  · exact Or.inl ⟨0, by omega, c0, if_pos c0, if_pos (Or.inl c0)⟩
  by_cases c1 : mHe f s en = 107
  · exact Or.inl ⟨1, by omega, c1, by rw [if_neg c0, if_pos c1], if_pos (Or.inr (Or.inl c1))⟩
  by_cases c2 : mHe f s en = 118
  · exact Or.inl ⟨2, by omega, c2, by rw [if_neg c0, if_neg c1, if_pos c2], if_pos (Or.inr (Or.inr (Or.inl c2)))⟩
  by_cases c3 : mHe f s en = 104
  · exact Or.inl ⟨3, by omega, c3, by rw [if_neg c0, if_neg c1, if_neg c2, if_pos c3], if_pos (Or.inr (Or.inr (Or.inr (Or.inl c3))))⟩
  by_cases c4 : mHe f s en = 110
  · exact Or.inl ⟨4, by omega, c4, by rw [if_neg c0, if_neg c1, if_neg c2, if_neg c3, if_pos c4], if_pos (Or.inr (Or.inr (Or.inr (Or.inr (Or.inl c4)))))⟩
  by_cases c5 : mHe f s en = 109
  · exact Or.inl ⟨5, by omega, c5, by rw [if_neg c0, if_neg c1, if_neg c2, if_neg c3, if_neg c4, if_pos c5], if_pos (Or.inr (Or.inr (Or.inr (Or.inr (Or.inr c5)))))⟩
  · refine Or.inr ⟨by rw [if_neg c0, if_neg c1, if_neg c2, if_neg c3, if_neg c4, if_neg c5], if_neg ?_⟩
    rintro (z | z | z | z | z | z)
    · exact c0 z
    · exact c1 z
    · exact c2 z
    · exact c3 z
    · exact c4 z
    · exact c5 z
theorem how_tie (s : Nat) : (∃ h : Nat, h < 3 ∧ stO (mHe f s en) = nI h ∧ stS (stO (mHe f s en)) = mHe f s en ∧ mAmo f s en 8 3 0 = (nI h, s + 1)) ∨ (mAmo f s en 8 3 0 = (-1, s) ∧ stS (stO (mHe f s en)) = 61 ∧ ¬ mHe f s en = 61) := by
  rw [am8]
  by_cases c0 : mHe f s en = 60
  · rw [c0]; exact Or.inl ⟨0, by omega, by decide, by decide, if_pos rfl⟩
  by_cases c1 : mHe f s en = 61
  · rw [c1]; exact Or.inl ⟨1, by omega, by decide, by decide, by rw [if_neg (by decide), if_pos rfl]⟩
  by_cases c2 : mHe f s en = 62
  · rw [c2]; exact Or.inl ⟨2, by omega, by decide, by decide, by rw [if_neg (by decide), if_neg (by decide), if_pos rfl]⟩
  · refine Or.inr ⟨by rw [if_neg c0, if_neg c1, if_neg c2], ?_, c1⟩
    have : stO (mHe f s en) = 1 := by unfold stO; rw [if_neg c0, if_neg c2]
    rw [this]; decide
def BAD (s : Nat) (ra : R1) : Prop := pN ra = -1 ∧ pF ra = nI s
theorem BAD.take {s : Nat} (hs : s < 300) {ra : R1} {tc : Int32} (h : BAD s ra) {x : Int32} (hx : x ≠ -1) : BAD s (rTake tc tf ra x) := by
  unfold rTake
  rw [if_neg (by rw [h.1]; exact fun e => hx e.symm)]
  exact fail_bad hs h.2
theorem BAD.num {s : Nat} (hs : s < 300) {ra : R1} {tc : Int32} (h : BAD s ra) : BAD s (rNum tc tf ra).2 := by
  unfold rNum
  rw [if_pos (by rw [h.1]; decide)]
  exact fail_bad hs h.2
theorem stS_ne (x : Int32) : stS x ≠ -1 := by
  unfold stS
  split
  · decide
  · split <;> decide
theorem BAD.test {s : Nat} (hs : s < 300) {ra : R1} {tc : Int32} {sa : S1} (h : BAD s ra) : BAD s (rTest tc tf ra sa).1 := by
  have e : rSg tc tf ra = rFail ra := by
    unfold rSg
    rw [h.1]
    exact if_neg (by decide)
  unfold rTest
  rw [e]
  have hb : BAD s (rFail ra) := fail_bad hs h.2
  exact (hb.take hs (stS_ne _)).num hs
theorem fgI_v (hT : TP f en tf) {q : Q9} (hV : VQ en q) : ∃ v : Nat, v ≤ 99 ∧ fgI f en q = nI v := by
  have hs : SS [] ((((0, 0, 0) : Int32 × Int32 × Int32), fun _ => 0, fun _ => 0, fun _ => 0) : S1) := ⟨rfl, fun i hi => absurd hi (Nat.not_lt_zero _)⟩
  have hV' : VQ en ((qS q, qZ q, []) : Q9) := ⟨hV.1, Nat.zero_le _, hV.2.2⟩
  by_cases c : qZ q = 0
  · exact (num_tie (T := 0) (C := 0) (q := (qS q, qZ q, [])) hT hV' (Or.inl ⟨c, rfl, hs, rfl, rfl⟩)).2.2
  · exact (num_tie (T := 0) (C := 0) (ra := (0, -1, nI (qS q))) (sa := ((0, 0, 0), fun _ => 0, fun _ => 0, fun _ => 0)) (q := (qS q, qZ q, [])) hT hV' (Or.inr ⟨c, rfl, rfl⟩)).2.2
theorem code_n {w h v : Nat} : nI w + 8 * nI h + 32 * nI v = nI (w + 8 * h + 32 * v) := by
  rw [show (8 : Int32) * nI h = nI (8 * h) from nI_mul 8 h, show (32 : Int32) * nI v = nI (32 * v) from nI_mul 32 v, nI_add, nI_add]
/-- a test, read by both -/
theorem test_tie (hT : TP f en tf) {q : Q9} {sa : S1} (hV : VQ en q) (hz : qZ q = 0) (hS : SS (qL q) sa) (h4 : zT sa = T) (h5 : zC sa = C) : RR f en T C (qTs f en q) (rTest (nI en) tf (nI (qS q), mHe f (qS q) en, -1) sa).1 (rTest (nI en) tf (nI (qS q), mHe f (qS q) en, -1) sa).2 ∧ (qZ (qTs f en q) = 0 → ∃ w h v : Nat, w < 6 ∧ h < 3 ∧ v ≤ 99 ∧ qL (qTs f en q) = nI (w + 8 * h + 32 * v) :: qL q) := by
  have hq : qS q ≤ 100 := Nat.le_trans hV.1 hT.1
  have good := (qTs_good (f := f) hV).1
  have lq7 : lenS.getD 7 0 = 6 := rfl
  have lq8 : lenS.getD 8 0 = 3 := rfl
  rcases sg_tie (f := f) (tf := tf) (en := en) (qS q) (nI en) with ⟨w, hw, e1, e2, e3⟩ | ⟨e2, e3⟩
  · have a1 : amI f en q 7 = nI w := by unfold amI; rw [lq7, e2]
    have a2 : qAm f en q 7 = (qS q + 1, qZ q, qL q) := by unfold qAm; rw [lq7, e2]
    have n1 : ¬ nI w = -1 := nI_m1 (by omega)
    have et : qTs f en q = qT2 f en (qAm f en (qS q + 1, 0, qL q) 8) (nI w) (amI f en (qS q + 1, 0, qL q) 8) (if amI f en (qS q + 1, 0, qL q) 8 = -1 then 1 else 0) := by
      unfold qTs
      rw [a1, if_neg n1, a2]
      rfl
    have lt := mHe_lt e1 (by rcases (show w = 0 ∨ w = 1 ∨ w = 2 ∨ w = 3 ∨ w = 4 ∨ w = 5 by omega) with rfl | rfl | rfl | rfl | rfl | rfl <;> decide)
    have er : rSg (nI en) tf (nI (qS q), mHe f (qS q) en, -1) = (nI (qS q + 1), mHe f (qS q + 1) en, -1) := by rw [e3, go_1 hT (by omega)]
    unfold rTest
    rw [er, show pN (nI (qS q + 1), mHe f (qS q + 1) en, -1) = mHe f (qS q + 1) en from rfl, show pN (nI (qS q), mHe f (qS q) en, -1) = mHe f (qS q) en from rfl, e1]
    rcases how_tie (f := f) (en := en) (qS q + 1) with ⟨h, hh, i1, i2, i3⟩ | ⟨i3, i2, i4⟩
    · have b1 : amI f en (qS q + 1, 0, qL q) 8 = nI h := by unfold amI; rw [lq8]; exact congrArg Prod.fst i3
      have b2 : qAm f en (qS q + 1, 0, qL q) 8 = (qS q + 1 + 1, 0, qL q) := by unfold qAm; rw [lq8]; rw [show mAmo f (qS (qS q + 1, 0, qL q)) en 8 3 0 = (nI h, qS q + 1 + 1) from i3]; rfl
      have lt2 : qS q + 1 < en := mHe_lt (x := stS (stO (mHe f (qS q + 1) en))) i2.symm (stS_ne _)
      rw [b1, b2, if_neg (nI_m1 (by omega))] at et
      have V3 : VQ en ((qS q + 1 + 1, 0, qL q) : Q9) := ⟨lt2, by have := hV.2.1; show (qL q).length ≤ qS q + 1 + 1; omega, Or.inl rfl⟩
      have R3 : RR f en T C (qS q + 1 + 1, 0, qL q) (nI (qS q + 1 + 1), mHe f (qS q + 1 + 1) en, -1) sa := Or.inl ⟨rfl, rfl, hS, h4, h5⟩
      obtain ⟨n1', n2, v, v1, v2⟩ := num_tie hT V3 R3
      have tk : rTake (nI en) tf (nI (qS q + 1), mHe f (qS q + 1) en, -1) (stS (stO (mHe f (qS q + 1) en))) = (nI (qS q + 1 + 1), mHe f (qS q + 1 + 1) en, -1) := by
        unfold rTake
        rw [if_pos (show pN (nI (qS q + 1), mHe f (qS q + 1) en, -1) = stS (stO (mHe f (qS q + 1) en)) from i2.symm), go_1 hT (by omega)]
      rw [tk, i1, n1', v2]
      have ef : qTs f en q = qEm (qFg f en (qS q + 1 + 1, 0, qL q)) (nI (w + 8 * h + 32 * v)) := by
        rw [et]
        unfold qT2
        show qEm (qFg f en (qS q + 1 + 1, 0, qL q)) (nI w + 8 * nI h + 32 * fgI f en (qS q + 1 + 1, 0, qL q)) = _
        rw [v2, code_n]
      rw [ef] at good ⊢
      refine ⟨emit_tie hT n2 (fun _ => Or.inr (Or.inr (Or.inr (Or.inr (Or.inr ⟨w, h, v, hw, hh, v1, rfl, rfl, rfl, rfl⟩))))) good, fun z => ⟨w, h, v, hw, hh, v1, ?_⟩⟩
      have z' : qZ (qFg f en (qS q + 1 + 1, 0, qL q)) = 0 := z
      show (if qZ (qFg f en (qS q + 1 + 1, 0, qL q)) = 0 then _ else _) = _
      rw [if_pos z']
      rfl
    · have b1 : amI f en (qS q + 1, 0, qL q) 8 = -1 := by unfold amI; rw [lq8]; exact congrArg Prod.fst i3
      have b2 : qAm f en (qS q + 1, 0, qL q) 8 = (qS q + 1, 0, qL q) := by unfold qAm; rw [lq8]; rw [show mAmo f (qS (qS q + 1, 0, qL q)) en 8 3 0 = (-1, qS q + 1) from i3]; rfl
      rw [b1, b2, if_pos rfl, qT2_z] at et
      have et' : qTs f en q = (qS q + 1, 1, qL q) := et
      rw [et', i2]
      have tk : BAD (qS q + 1) (rTake (nI en) tf (nI (qS q + 1), mHe f (qS q + 1) en, -1) 61) := by
        unfold rTake
        rw [if_neg (show ¬ pN (nI (qS q + 1), mHe f (qS q + 1) en, -1) = 61 from i4)]
        exact fail_ok
      have := tk.num (tc := nI en) (tf := tf) (by omega)
      exact ⟨Or.inr ⟨(by decide : ¬ (1 : Int32) = 0), this.1, this.2⟩, fun z => absurd z (by decide : ¬ (1 : Int32) = 0)⟩
  · have a1 : amI f en q 7 = -1 := by unfold amI; rw [lq7, e2]
    have a2 : qAm f en q 7 = (qS q, qZ q, qL q) := by unfold qAm; rw [lq7, e2]
    have et : qTs f en q = (qS q, 1, qL q) := by
      unfold qTs
      rw [a1, if_pos rfl, qT2_z, a2]
      rfl
    rw [et]
    unfold rTest
    rw [e3]
    have hb : BAD (qS q) (rFail (nI (qS q), mHe f (qS q) en, -1)) := fail_ok
    have := (hb.take (tc := nI en) (tf := tf) (by omega) (stS_ne (stO (pN (rFail (nI (qS q), mHe f (qS q) en, -1)))))).num (tc := nI en) (tf := tf) (by omega)
    exact ⟨Or.inr ⟨(by decide : ¬ (1 : Int32) = 0), this.1, this.2⟩, fun z => absurd z (by decide : ¬ (1 : Int32) = 0)⟩
def TF (f : Nat → Int32) (en : Nat) (T C : Int32) (G : Q9 → Q9) (F : R1 → S1 → R1 × S1) : Prop := ∀ q ra sa, VQ en q → RR f en T C q ra sa → RR f en T C (G q) (F ra sa).1 (F ra sa).2
theorem lop_tie (hT : TP f en tf) {x y st : Int32} (hx : x ≠ -1) (hst : StpEq st 0 0 y) {G : Q9 → Q9} {F : R1 → S1 → R1 × S1} (hG : GoodF en G) (hF : TF f en T C G F) : ∀ m (q : Q9) ra sa n n', en ≤ qS q + m → m ≤ n → m ≤ n' → VQ en q → RR f en T C q ra sa → RR f en T C (qLp f en x y G n' q) (lopN x st (nI en) tf F n ra sa).1 (lopN x st (nI en) tf F n ra sa).2 := fun m => by
  induction m with
  | zero =>
    intro q ra sa n n' hm _ _ hV h
    rcases h with ⟨h1, h2, h3⟩ | ⟨h1, h2, h3⟩
    · have he : ¬ mHe f (qS q) en = x := fun e => by have := mHe_lt e hx; omega
      rw [qLp_o he, lopN_out (by rw [h2]; exact he)]
      exact Or.inl ⟨h1, h2, h3⟩
    · rw [qLp_z h1, lopN_out (by rw [h2]; exact fun e => hx e.symm)]
      exact Or.inr ⟨h1, h2, h3⟩
  | succ m ih =>
    intro q ra sa n n' hm hn hn' hV h
    have hq : qS q ≤ 100 := Nat.le_trans hV.1 hT.1
    rcases id h with ⟨h1, h2, h3, h4, h5⟩ | ⟨h1, h2, h3⟩
    · by_cases he : mHe f (qS q) en = x
      · obtain ⟨u, rfl⟩ : ∃ u, n = u + 1 := ⟨n - 1, by omega⟩
        have hpn : pN ra = x := by rw [h2]; exact he
        have e1 : lopN x st (nI en) tf F (u + 1) ra sa = lopN x st (nI en) tf F u (F (rGo (nI en) tf ra (pP ra + 1)) sa).1 (sAdd (F (rGo (nI en) tf ra (pP ra + 1)) sa).2 st 0 0) := if_pos hpn
        rw [e1, qLp_i h1 he (by omega)]
        have lt := mHe_lt he hx
        have V1 : VQ en ((qS q + 1, qZ q, qL q) : Q9) := ⟨lt, Nat.le_trans hV.2.1 (Nat.le_succ _), hV.2.2⟩
        have R1' : RR f en T C (qS q + 1, qZ q, qL q) (rGo (nI en) tf ra (pP ra + 1)) sa := by
          rw [h2, go_1 hT (by omega)]
          exact Or.inl ⟨h1, rfl, h3, h4, h5⟩
        have g := hG _ V1
        have g1 : qS q + 1 ≤ qS (G (qS q + 1, qZ q, qL q)) := g.2.1
        have g2 : (qL (G (qS q + 1, qZ q, qL q))).length + (qS q + 1) ≤ (qL q).length + qS (G (qS q + 1, qZ q, qL q)) := g.2.2
        have V2 := (qEm_V (x := y) hV g.1 (by omega) g2).1
        have R2 := emit_tie hT (hF _ _ _ V1 R1') (fun _ => hst) V2
        have e3 : qS (qEm (G (qS q + 1, qZ q, qL q)) y) = qS (G (qS q + 1, qZ q, qL q)) := rfl
        exact ih _ _ _ _ _ (by omega) (by omega) (by omega) V2 R2
      · rw [qLp_o he, lopN_out (by rw [h2]; exact he)]
        exact h
    · rw [qLp_z h1, lopN_out (by rw [h2]; exact fun e => hx e.symm)]
      exact h
theorem bot_tie (hT : TP f en tf) {G : Q9 → Q9} {F : R1 → S1 → R1 × S1} (hG : GoodF en G) (hF : TF f en T C G F) : TF f en T C (qEv f en G) (botG (nI en) tf F) := fun q ra sa hV h => by
  have a := hG q hV
  have := hT.1
  exact lop_tie hT (by decide) (Or.inr (Or.inl ⟨rfl, rfl⟩)) hG hF 100 _ _ _ 100 101 (by omega) (by omega) (by omega) a.1 (hF q ra sa hV h)
theorem eit_tie (hT : TP f en tf) {G : Q9 → Q9} {F : R1 → S1 → R1 × S1} (hG : GoodF en G) (hF : TF f en T C G F) : TF f en T C (qSo f en G) (eitG (nI en) tf F) := fun q ra sa hV h => by
  have a := qEv_good (f := f) hG q hV
  have := hT.1
  exact lop_tie hT (by decide) (Or.inr (Or.inr (Or.inl ⟨rfl, rfl⟩))) (qEv_good (f := f) hG) (bot_tie hT hG hF) 100 _ _ _ 100 101 (by omega) (by omega) (by omega) a.1 (bot_tie hT hG hF q ra sa hV h)
theorem fac_tie (hT : TP f en tf) : ∀ k, TF f en T C (qFac f en k) (facN (nI en) tf k) := fun k => by
  induction k with
  | zero =>
    intro q ra sa hV h
    have hq : qS q ≤ 100 := Nat.le_trans hV.1 hT.1
    rw [qFac_0, facN_0]
    rcases id h with ⟨h1, h2, h3, h4, h5⟩ | ⟨h1, h2, h3⟩
    · rw [if_pos h1]
      have hp : pN ra = mHe f (qS q) en := by rw [h2]; rfl
      rw [hp]
      by_cases c1 : mHe f (qS q) en = 33
      · rw [if_pos (show qHe f en q = 33 from c1), if_pos c1, h2]
        exact Or.inr ⟨(by decide : ¬ (1 : Int32) = 0), fail_ok.1, fail_ok.2⟩
      · rw [if_neg (show ¬ qHe f en q = 33 from c1), if_neg c1]
        by_cases c2 : mHe f (qS q) en = 40
        · rw [if_pos (show qHe f en q = 40 from c2), if_pos c2, h2]
          exact Or.inr ⟨(by decide : ¬ (1 : Int32) = 0), fail_ok.1, fail_ok.2⟩
        · rw [if_neg (show ¬ qHe f en q = 40 from c2), if_neg c2, h2]
          exact (test_tie hT hV h1 h3 h4 h5).1
    · rw [if_neg h1, h2, if_neg (by decide), if_neg (by decide)]
      have := BAD.test (tc := nI en) (tf := tf) (sa := sa) (by omega) (⟨h2, h3⟩ : BAD (qS q) ra)
      exact Or.inr ⟨h1, this.1, this.2⟩
  | succ k ih =>
    intro q ra sa hV h
    have hq : qS q ≤ 100 := Nat.le_trans hV.1 hT.1
    have good := (qFac_good (f := f) (k + 1) q hV).1
    rw [qFac_s] at good ⊢
    rw [facN_s]
    rcases id h with ⟨h1, h2, h3, h4, h5⟩ | ⟨h1, h2, h3⟩
    · rw [if_pos h1] at good ⊢
      have hp : pN ra = mHe f (qS q) en := by rw [h2]; rfl
      rw [hp]
      have adv : qS q < en → VQ en ((qS q + 1, 0, qL q) : Q9) ∧ RR f en T C (qS q + 1, 0, qL q) (rGo (nI en) tf ra (pP ra + 1)) sa := fun lt => by
        refine ⟨⟨lt, Nat.le_trans hV.2.1 (Nat.le_succ _), Or.inl rfl⟩, ?_⟩
        rw [h2, go_1 hT (by omega)]
        exact Or.inl ⟨rfl, rfl, h3, h4, h5⟩
      by_cases c1 : mHe f (qS q) en = 33
      · rw [if_pos (show qHe f en q = 33 from c1)] at good ⊢
        rw [if_pos c1]
        obtain ⟨V1, R1'⟩ := adv (mHe_lt c1 (by decide))
        exact emit_tie hT (ih _ _ _ V1 R1') (fun _ => Or.inl ⟨rfl, rfl⟩) good
      · rw [if_neg (show ¬ qHe f en q = 33 from c1)] at good ⊢
        rw [if_neg c1]
        by_cases c2 : mHe f (qS q) en = 40
        · rw [if_pos (show qHe f en q = 40 from c2), if_pos c2]
          obtain ⟨V1, R1'⟩ := adv (mHe_lt c2 (by decide))
          exact take_tie hT (qSo_good (f := f) (qFac_good k) _ V1).1 (eit_tie hT (qFac_good k) ih _ _ _ V1 R1') (by decide)
        · rw [if_neg (show ¬ qHe f en q = 40 from c2), if_neg c2, h2]
          exact (test_tie hT hV h1 h3 h4 h5).1
    · rw [if_neg h1, h2, if_neg (by decide), if_neg (by decide)]
      have := BAD.test (tc := nI en) (tf := tf) (sa := sa) (by omega) (⟨h2, h3⟩ : BAD (qS q) ra)
      exact Or.inr ⟨h1, this.1, this.2⟩
end RD2
/-- how many truths stand open behind all steps -/
def tpL : List Int32 → Nat
  | [] => 0
  | x :: r => tpN x (tpL r)
def okL : List Int32 → Prop
  | [] => True
  | x :: r => okS x (tpL r) ∧ okL r
theorem okS_t {w h v t : Nat} (hw : w < 6) (hh : h < 3) (hv : v ≤ 99) (ht : t ≤ 30) : okS (nI (w + 8 * h + 32 * v)) t ∧ tpN (nI (w + 8 * h + 32 * v)) t = t + 1 := by
  have c1 : ¬ nI (w + 8 * h + 32 * v) < 0 := nI_pos (by omega)
  refine ⟨⟨ht, fun _ => ?_, fun z => absurd z c1, fun z => absurd z c1, fun z => absurd z c1, Int32.le_trans (by decide : (-299 : Int32) ≤ 0) (nI_pos' (by omega))⟩, if_neg c1⟩
  rw [show iR (nI (w + 8 * h + 32 * v)) 8 = nI ((w + 8 * h + 32 * v) % 8) from iR_nI (d := 8) (by omega) (by decide) (by decide)]
  exact vp_in_nI (by omega) (by decide)
theorem okS_1 {t : Nat} (h1 : 1 ≤ t) (ht : t ≤ 30) : okS (-1) t ∧ tpN (-1) t = t := ⟨⟨ht, fun z => absurd (by decide) z, fun _ => h1, fun _ z => absurd rfl z, fun _ z => absurd rfl z, by decide⟩, by unfold tpN; rw [if_pos (by decide), if_pos rfl]⟩
theorem okS_2 {t : Nat} (h1 : 2 ≤ t) (ht : t ≤ 30) : (okS (-2) t ∧ tpN (-2) t = t - 1) ∧ (okS (-3) t ∧ tpN (-3) t = t - 1) := ⟨⟨⟨ht, fun z => absurd (by decide) z, fun _ => by omega, fun _ _ _ => h1, fun _ _ z => absurd z (by decide), by decide⟩, by unfold tpN; rw [if_pos (by decide), if_neg (by decide), if_neg (by decide)]⟩, ⟨ht, fun z => absurd (by decide) z, fun _ => by omega, fun _ _ _ => h1, fun _ _ z => absurd z (by decide), by decide⟩, by unfold tpN; rw [if_pos (by decide), if_neg (by decide), if_neg (by decide)]⟩
theorem okS_d {n : Nat} (hn : n ≤ 99) : (okS (-10 - nI n) 1 ∧ tpN (-10 - nI n) 1 = 0) ∧ (okS (-200 - nI n) 1 ∧ tpN (-200 - nI n) 1 = 0) := by
  obtain ⟨d1, d2, d3, -, -, -, d7⟩ := dear_n n (by omega)
  obtain ⟨e1, e2, e3, -, -, -, e7⟩ := dim_n n (by omega)
  exact ⟨⟨⟨by omega, fun z => absurd d1 z, fun _ => Nat.le_refl _, fun _ _ z => absurd d3 z, fun _ _ _ => rfl, d7⟩, by unfold tpN; rw [if_pos d1, if_neg d2, if_pos d3]⟩, ⟨⟨by omega, fun z => absurd e1 z, fun _ => Nat.le_refl _, fun _ _ z => absurd e3 z, fun _ _ _ => rfl, e7⟩, by unfold tpN; rw [if_pos e1, if_neg e2, if_pos e3]⟩⟩
def PkF (en : Nat) (F : Q9 → Q9) (e : Nat) : Prop := ∀ q, VQ en q → qZ q = 0 → okL (qL q) → tpL (qL q) + e ≤ 28 → qZ (F q) = 0 → okL (qL (F q)) ∧ tpL (qL (F q)) = tpL (qL q) + 1
section PK
variable {f tf : Nat → Int32} {en : Nat}
theorem pk_lp (hT : TP f en tf) {x y : Int32} (hx : x ≠ -1) (hy : ∀ t, 2 ≤ t → t ≤ 30 → okS y t ∧ tpN y t = t - 1) {F : Q9 → Q9} {e : Nat} (hG : GoodF en F) (hF : PkF en F e) : ∀ n q, VQ en q → qZ q = 0 → okL (qL q) → 1 ≤ tpL (qL q) → tpL (qL q) + e ≤ 28 → qZ (qLp f en x y F n q) = 0 → okL (qL (qLp f en x y F n q)) ∧ tpL (qL (qLp f en x y F n q)) = tpL (qL q) := fun n => by
  induction n with
  | zero => exact fun q _ _ h1 _ _ _ => ⟨h1, rfl⟩
  | succ n ih =>
    intro q hV hz h1 h2 h3 h4
    by_cases c : qHe f en q = x
    · have e1 : qLp f en x y F (n + 1) q = qLp f en x y F n (qEm (F (qS q + 1, qZ q, qL q)) y) := qLp_i hz c (by omega)
      rw [e1] at h4 ⊢
      have lt := mHe_lt c hx
      have V1 : VQ en ((qS q + 1, qZ q, qL q) : Q9) := ⟨lt, Nat.le_trans hV.2.1 (Nat.le_succ _), hV.2.2⟩
      have g := hG _ V1
      have g1 : qS q + 1 ≤ qS (F (qS q + 1, qZ q, qL q)) := g.2.1
      have g2 : (qL (F (qS q + 1, qZ q, qL q))).length + (qS q + 1) ≤ (qL q).length + qS (F (qS q + 1, qZ q, qL q)) := g.2.2
      have V2 := (qEm_V (x := y) hV g.1 (by omega) g2).1
      by_cases z : qZ (F (qS q + 1, qZ q, qL q)) = 0
      · obtain ⟨o1, o2⟩ := hF _ V1 hz h1 h3 z
        have o2' : tpL (qL (F (qS q + 1, qZ q, qL q))) = tpL (qL q) + 1 := o2
        have eL : qL (qEm (F (qS q + 1, qZ q, qL q)) y) = y :: qL (F (qS q + 1, qZ q, qL q)) := if_pos z
        obtain ⟨s1, s2⟩ := hy (tpL (qL q) + 1) (by omega) (by omega)
        have e5 : tpL (qL (qEm (F (qS q + 1, qZ q, qL q)) y)) = tpL (qL q) := by
          rw [eL]
          show tpN y (tpL (qL (F (qS q + 1, qZ q, qL q)))) = _
          rw [o2', s2]
          omega
        have i := ih _ V2 z (by rw [eL]; exact ⟨by rw [o2']; exact s1, o1⟩) (by rw [e5]; exact h2) (by rw [e5]; exact h3) h4
        exact ⟨i.1, by rw [i.2, e5]⟩
      · rw [qLp_z (show ¬ qZ (qEm (F (qS q + 1, qZ q, qL q)) y) = 0 from z)] at h4
        exact absurd h4 z
    · rw [qLp_o c]
      exact ⟨h1, rfl⟩
theorem pk_ev (hT : TP f en tf) {F : Q9 → Q9} {e : Nat} (hG : GoodF en F) (hF : PkF en F e) : PkF en (qEv f en F) (e + 1) := fun q hV hz h1 h2 h3 => by
  by_cases z : qZ (F q) = 0
  · obtain ⟨o1, o2⟩ := hF q hV hz h1 (by omega) z
    have i := pk_lp hT (x := 38) (y := -2) (by decide) (fun t a b => (okS_2 a b).1) hG hF 101 _ (hG q hV).1 z o1 (by omega) (by omega) h3
    exact ⟨i.1, by rw [show tpL (qL (qEv f en F q)) = tpL (qL (F q)) from i.2, o2]⟩
  · have e1 : qEv f en F q = F q := qLp_z z _
    rw [e1] at h3
    exact absurd h3 z
theorem pk_so (hT : TP f en tf) {F : Q9 → Q9} {e : Nat} (hG : GoodF en F) (hF : PkF en F e) : PkF en (qSo f en F) (e + 2) := fun q hV hz h1 h2 h3 => by
  have hE := pk_ev hT hG hF
  by_cases z : qZ (qEv f en F q) = 0
  · obtain ⟨o1, o2⟩ := hE q hV hz h1 (by omega) z
    have i := pk_lp hT (x := 124) (y := -3) (by decide) (fun t a b => (okS_2 a b).2) (qEv_good (f := f) hG) hE 101 _ (qEv_good (f := f) hG q hV).1 z o1 (by omega) (by omega) h3
    exact ⟨i.1, by rw [show tpL (qL (qSo f en F q)) = tpL (qL (qEv f en F q)) from i.2, o2]⟩
  · have e1 : qSo f en F q = qEv f en F q := qLp_z z _
    rw [e1] at h3
    exact absurd h3 z
theorem pk_ts (hT : TP f en tf) {q : Q9} (hV : VQ en q) (hz : qZ q = 0) (h1 : okL (qL q)) (h2 : tpL (qL q) ≤ 28) (h3 : qZ (qTs f en q) = 0) : okL (qL (qTs f en q)) ∧ tpL (qL (qTs f en q)) = tpL (qL q) + 1 := by
  have hx : ∃ w h v : Nat, w < 6 ∧ h < 3 ∧ v ≤ 99 ∧ qL (qTs f en q) = nI (w + 8 * h + 32 * v) :: qL q := by
    have lq7 : lenS.getD 7 0 = 6 := rfl
    have lq8 : lenS.getD 8 0 = 3 := rfl
    rcases sg_tie (f := f) (tf := tf) (en := en) (qS q) (nI en) with ⟨w, hw, e1, e2, -⟩ | ⟨e2, -⟩
    · have a1 : amI f en q 7 = nI w := by unfold amI; rw [lq7, e2]
      have a2 : qAm f en q 7 = (qS q + 1, qZ q, qL q) := by unfold qAm; rw [lq7, e2]
      have et : qTs f en q = qT2 f en (qAm f en (qS q + 1, 0, qL q) 8) (nI w) (amI f en (qS q + 1, 0, qL q) 8) (if amI f en (qS q + 1, 0, qL q) 8 = -1 then 1 else 0) := by
        unfold qTs
        rw [a1, if_neg (nI_m1 (by omega)), a2]
        rfl
      rcases how_tie (f := f) (en := en) (qS q + 1) with ⟨h, hh, i1, i2, i3⟩ | ⟨i3, i2, i4⟩
      · have b1 : amI f en (qS q + 1, 0, qL q) 8 = nI h := by unfold amI; rw [lq8]; exact congrArg Prod.fst i3
        have b2 : qAm f en (qS q + 1, 0, qL q) 8 = (qS q + 1 + 1, 0, qL q) := by unfold qAm; rw [lq8]; rw [show mAmo f (qS (qS q + 1, 0, qL q)) en 8 3 0 = (nI h, qS q + 1 + 1) from i3]; rfl
        have lt2 : qS q + 1 < en := mHe_lt (x := stS (stO (mHe f (qS q + 1) en))) i2.symm (stS_ne _)
        have V3 : VQ en ((qS q + 1 + 1, 0, qL q) : Q9) := ⟨lt2, by have := hV.2.1; show (qL q).length ≤ qS q + 1 + 1; omega, Or.inl rfl⟩
        obtain ⟨v, v1, v2⟩ := fgI_v hT V3
        rw [b1, b2, if_neg (nI_m1 (by omega))] at et
        have ef : qTs f en q = qEm (qFg f en (qS q + 1 + 1, 0, qL q)) (nI (w + 8 * h + 32 * v)) := by
          rw [et]
          unfold qT2
          show qEm (qFg f en (qS q + 1 + 1, 0, qL q)) (nI w + 8 * nI h + 32 * fgI f en (qS q + 1 + 1, 0, qL q)) = _
          rw [v2, code_n]
        rw [ef] at h3 ⊢
        refine ⟨w, h, v, hw, hh, v1, ?_⟩
        have z' : qZ (qFg f en (qS q + 1 + 1, 0, qL q)) = 0 := h3
        show (if qZ (qFg f en (qS q + 1 + 1, 0, qL q)) = 0 then _ else _) = _
        rw [if_pos z']
        rfl
      · have b1 : amI f en (qS q + 1, 0, qL q) 8 = -1 := by unfold amI; rw [lq8]; exact congrArg Prod.fst i3
        rw [b1, if_pos rfl, qT2_z] at et
        rw [et] at h3
        exact absurd h3 (by decide : ¬ (1 : Int32) = 0)
    · have a1 : amI f en q 7 = -1 := by unfold amI; rw [lq7, e2]
      have et : qTs f en q = (qS (qAm f en q 7), 1, qL (qAm f en q 7)) := by
        unfold qTs
        rw [a1, if_pos rfl, qT2_z]
      rw [et] at h3
      exact absurd h3 (by decide : ¬ (1 : Int32) = 0)
  obtain ⟨w, h, v, hw, hh, hv, e⟩ := hx
  rw [e]
  obtain ⟨s1, s2⟩ := okS_t (t := tpL (qL q)) hw hh hv (by omega)
  exact ⟨⟨s1, h1⟩, s2⟩
theorem pk_fac (hT : TP f en tf) : ∀ k, PkF en (qFac f en k) (2 * k) := fun k => by
  induction k with
  | zero =>
    intro q hV hz h1 h2 h3
    rw [qFac_0, if_pos hz] at h3 ⊢
    by_cases c1 : qHe f en q = 33
    · rw [if_pos c1] at h3; exact absurd h3 (by decide : ¬ (1 : Int32) = 0)
    rw [if_neg c1] at h3 ⊢
    by_cases c2 : qHe f en q = 40
    · rw [if_pos c2] at h3; exact absurd h3 (by decide : ¬ (1 : Int32) = 0)
    rw [if_neg c2] at h3 ⊢
    exact pk_ts hT hV hz h1 (by omega) h3
  | succ k ih =>
    intro q hV hz h1 h2 h3
    rw [qFac_s, if_pos hz] at h3 ⊢
    by_cases c1 : qHe f en q = 33
    · rw [if_pos c1] at h3 ⊢
      have V1 : VQ en ((qS q + 1, 0, qL q) : Q9) := ⟨mHe_lt c1 (by decide), Nat.le_trans hV.2.1 (Nat.le_succ _), Or.inl rfl⟩
      have z : qZ (qFac f en k (qS q + 1, 0, qL q)) = 0 := h3
      obtain ⟨o1, o2⟩ := ih _ V1 rfl h1 (show tpL (qL q) + 2 * k ≤ 28 by omega) z
      have o2' : tpL (qL (qFac f en k (qS q + 1, 0, qL q))) = tpL (qL q) + 1 := o2
      have eL : qL (qEm (qFac f en k (qS q + 1, 0, qL q)) (-1)) = -1 :: qL (qFac f en k (qS q + 1, 0, qL q)) := if_pos z
      obtain ⟨s1, s2⟩ := okS_1 (t := tpL (qL q) + 1) (by omega) (by omega)
      rw [eL]
      exact ⟨⟨by rw [o2']; exact s1, o1⟩, by show tpN (-1) (tpL (qL (qFac f en k (qS q + 1, 0, qL q)))) = _; rw [o2', s2]⟩
    rw [if_neg c1] at h3 ⊢
    by_cases c2 : qHe f en q = 40
    · rw [if_pos c2] at h3 ⊢
      have V1 : VQ en ((qS q + 1, 0, qL q) : Q9) := ⟨mHe_lt c2 (by decide), Nat.le_trans hV.2.1 (Nat.le_succ _), Or.inl rfl⟩
      have z : qZ (qSo f en (qFac f en k) (qS q + 1, 0, qL q)) = 0 := by
        by_cases z : qZ (qSo f en (qFac f en k) (qS q + 1, 0, qL q)) = 0
        · exact z
        · have : qZ (qMu f en (qSo f en (qFac f en k) (qS q + 1, 0, qL q)) 41) = 1 := by
            show mMuW _ _ _ _ _ = 1
            unfold mMuW
            rw [if_neg z]
          rw [this] at h3
          exact absurd h3 (by decide)
      exact pk_so hT (qFac_good k) ih _ V1 rfl h1 (show tpL (qL q) + (2 * k + 2) ≤ 28 by omega) z
    rw [if_neg c2] at h3 ⊢
    exact pk_ts hT hV hz h1 (by omega) h3
end PK
