/-! Ties of row, set, hide; of the calls that only ask: of, base, worth, told, when, meet, looked, as, count. -/
def enRw (en : En) (R : Nat → Int32) : En := (en.1, en.2.1, (en.2.2.1.1, en.2.2.1.2.1, R), en.2.2.2)
def enRP (en : En) (r h : Nat → Int32) : En := (en.1, en.2.1, (r, h, en.2.2.1.2.2), en.2.2.2)
def enHi (en : En) (hb : Int32) : En := ((en.1.1, en.1.2.1, en.1.2.2.1, hb), en.2)
def enNS (en : En) (ni : Int32) (se : Nat → Int32) : En := ((ni, en.1.2.1, en.1.2.2.1, en.1.2.2.2), (se, en.2.1.2), en.2.2)
/-- of a light that is not there nothing is told: no number of its row, not that it is hidden -/
def FrO (en : En) : Prop := ∀ j, eL en ≤ j → j < 6 → fBit (eHi en) (nI j) = 0 ∧ ∀ k, k < 4 → eRw en (4 * j + k) = 0
theorem row_fr {en : En} {L : Nat} (hE : eL en = L) (h3 : L ≤ 6) (h : FrO en) (x k n : Int32) : FrO (enRw en (opRow en x k n).2) := fun i hi h6 => by
  have hi : eL en ≤ i := hi
  obtain ⟨f1, f2⟩ := h i hi h6
  refine ⟨f1, fun q hq => ?_⟩
  show (opRow en x k n).2 (4 * i + q) = 0
  unfold opRow
  rw [hE] at hi ⊢
  by_cases c0 : fIsL L x = 0
  · rw [if_pos c0]; exact f2 q hq
  rw [if_neg c0]
  by_cases c1 : fIn k 0 3 = 0
  · rw [if_pos c1]; exact f2 q hq
  rw [if_neg c1]
  by_cases c2 : fIn n 0 9 = 0
  · rw [if_pos c2]; exact f2 q hq
  rw [if_neg c2]
  obtain ⟨j, hj, rfl⟩ := fIsL_k h3 c0
  obtain ⟨d, hd, rfl⟩ := fIn_k (K := 3) (by decide) c1
  have ei : nI j * 4 + nI d = nI (4 * j + d) := by rw [show nI j * 4 = nI (j * 4) from nI_mul j 4, nI_add, Nat.mul_comm]
  by_cases c3 : nI (eKd en (nI j).toNatClampNeg) = 6
  · rw [if_pos c3]
    show fPut 24 (eRw en) (nI j * 4 + nI d) n (4 * i + q) = 0
    rw [ei, fPut_nI (by omega) (by decide), upd_ne (by omega)]
    exact f2 q hq
  · rw [if_neg c3]; exact f2 q hq
theorem hide_fr {en : En} {L : Nat} (hE : eL en = L) (h3 : L ≤ 6) (h : FrO en) (x z : Int32) : FrO (enHi en (opHide en x z).2) := fun i hi h6 => by
  have hi : eL en ≤ i := hi
  obtain ⟨f1, f2⟩ := h i hi h6
  refine ⟨?_, f2⟩
  show fBit (opHide en x z).2 (nI i) = 0
  unfold opHide
  rw [hE] at hi ⊢
  by_cases c0 : fIsL L x = 0
  · rw [if_pos c0]; exact f1
  rw [if_neg c0]
  obtain ⟨j, hj, rfl⟩ := fIsL_k h3 c0
  show fBit (fWith (eHi en) (nI j) z) (nI i) = 0
  rw [fBit_with (by omega) (by omega), if_neg (by omega)]
  exact f1
theorem row_tie {en : En} {f : Nat → Int32} {L : Nat} (h : TiL en f L) (x k n : Int32) : (opRow en x k n).1 = (mRow f L x k n).1 ∧ TiL (enRw en (opRow en x k n).2) (mRow f L x k n).2 L ∧ ∀ q, ¬ (40 ≤ q ∧ q < 64) → (mRow f L x k n).2 q = f q := by
  have hh := h
  obtain ⟨h1, h2, h3, h4⟩ := h
  unfold opRow mRow
  rw [h2]
  by_cases c0 : fIsL L x = 0
  · rw [if_pos c0, if_pos c0]; exact ⟨rfl, hh, fun _ _ => rfl⟩
  rw [if_neg c0, if_neg c0]
  by_cases c1 : fIn k 0 3 = 0
  · rw [if_pos c1, if_pos c1]; exact ⟨rfl, hh, fun _ _ => rfl⟩
  rw [if_neg c1, if_neg c1]
  by_cases c2 : fIn n 0 9 = 0
  · rw [if_pos c2, if_pos c2]; exact ⟨rfl, hh, fun _ _ => rfl⟩
  rw [if_neg c2, if_neg c2]
  obtain ⟨j, hj, rfl⟩ := fIsL_k h3 c0
  obtain ⟨d, hd, rfl⟩ := fIn_k (K := 3) (by decide) c1
  obtain ⟨v, hv, rfl⟩ := fIn_k (K := 9) (by decide) c2
  have hcj : (nI j).toNatClampNeg = j := nI_clamp (by omega)
  have hcd : (nI d).toNatClampNeg = d := nI_clamp (by omega)
  have hJ := h4 j hj
  have ei : nI j * 4 + nI d = nI (4 * j + d) := by rw [show nI j * 4 = nI (j * 4) from nI_mul j 4, nI_add, Nat.mul_comm]
  rw [hcj, hcd, ei, hJ.1, fAt_nI (by omega) (by decide), fPut_nI (by omega) (by decide)]
  by_cases c3 : nI (eKd en j) = 6
  · rw [if_pos c3, if_pos c3]
    refine ⟨(hJ.2.2.2.2.2.2.2.2 d (by omega)).1.symm, ⟨?_, h2, h3, fun i hi => ?_⟩, fun q hq => ?_⟩
    · dsimp only; rw [upd_ne (by omega)]; exact h1
    · obtain ⟨a1, a2, a3, a4, a5, a6, a7, a8, a9⟩ := h4 i hi
      refine ⟨?_, a2, ?_, ?_, ?_, a6, a7, a8, fun q hq => ?_⟩
      · dsimp only; rw [upd_ne (by omega)]; exact a1
      · dsimp only; rw [upd_ne (by omega)]; exact a3
      · dsimp only; rw [upd_ne (by omega)]; exact a4
      · dsimp only; rw [upd_ne (by omega)]; exact a5
      · show upd f (40 + 4 * j + d) (nI v) (40 + 4 * i + q) = upd (eRw en) (4 * j + d) (nI v) (4 * i + q) ∧ ∃ d' : Nat, d' ≤ 9 ∧ upd (eRw en) (4 * j + d) (nI v) (4 * i + q) = nI d'
        by_cases c4 : 4 * i + q = 4 * j + d
        · rw [show 40 + 4 * i + q = 40 + 4 * j + d by omega, c4, upd_eq, upd_eq]
          exact ⟨rfl, v, hv, rfl⟩
        · rw [upd_ne (by omega), upd_ne c4]
          exact a9 q hq
    · dsimp only; rw [upd_ne (by omega)]
  · rw [if_neg c3, if_neg c3]; exact ⟨rfl, hh, fun _ _ => rfl⟩
theorem set_tie {en : En} {f : Nat → Int32} {L : Nat} (h : TiL en f L) (x w n : Int32) : (opSet en x w n).1 = (mSet f L x w n).1 ∧ TiL (enRP en (opSet en x w n).2.1 (opSet en x w n).2.2) (mSet f L x w n).2 L ∧ ∀ q, ¬ (28 ≤ q ∧ q < 40) → (mSet f L x w n).2 q = f q := by
  have hh := h
  obtain ⟨h1, h2, h3, h4⟩ := h
  unfold opSet mSet
  rw [h2]
  by_cases c0 : fIsL L x = 0
  · rw [if_pos c0, if_pos c0]; exact ⟨rfl, hh, fun _ _ => rfl⟩
  rw [if_neg c0, if_neg c0]
  by_cases c1 : fIn w 0 1 = 0
  · rw [if_pos c1, if_pos c1]; exact ⟨rfl, hh, fun _ _ => rfl⟩
  rw [if_neg c1, if_neg c1]
  obtain ⟨j, hj, rfl⟩ := fIsL_k h3 c0
  have hcj : (nI j).toNatClampNeg = j := nI_clamp (by omega)
  have hJ := h4 j hj
  rw [hcj, fAt_nI (by omega) (by decide), fPut_nI (by omega) (by decide), fAt_nI (by omega) (by decide), fPut_nI (by omega) (by decide)]
  by_cases c2 : w = 0
  · rw [if_pos c2, if_pos c2]
    by_cases c3 : fIn n 1 30 = 0
    · rw [if_pos c3, if_pos c3]; exact ⟨rfl, hh, fun _ _ => rfl⟩
    rw [if_neg c3, if_neg c3]
    obtain ⟨v, hv1, hv, rfl⟩ := fIn_k1 (K := 30) (by decide) c3
    refine ⟨hJ.2.2.2.1.symm, ⟨?_, h2, h3, fun i hi => ?_⟩, fun q hq => ?_⟩
    · dsimp only; rw [upd_ne (by omega)]; exact h1
    · obtain ⟨a1, a2, a3, a4, a5, a6, a7, a8, a9⟩ := h4 i hi
      refine ⟨?_, a2, ?_, ?_, ?_, a6, ?_, a8, fun q hq => ?_⟩
      · dsimp only; rw [upd_ne (by omega)]; exact a1
      · dsimp only; rw [upd_ne (by omega)]; exact a3
      · show upd f (28 + j) (nI v) (28 + i) = upd (eRo en) j (nI v) i
        by_cases c4 : i = j
        · rw [c4, upd_eq, upd_eq]
        · rw [upd_ne (by omega), upd_ne c4]; exact a4
      · dsimp only; rw [upd_ne (by omega)]; exact a5
      · show ∃ r : Nat, 1 ≤ r ∧ r ≤ 30 ∧ upd (eRo en) j (nI v) i = nI r
        by_cases c4 : i = j
        · rw [c4, upd_eq]; exact ⟨v, hv1, hv, rfl⟩
        · rw [upd_ne c4]; exact a7
      · dsimp only; rw [upd_ne (by omega)]; exact a9 q hq
    · dsimp only; rw [upd_ne (by omega)]
  · rw [if_neg c2, if_neg c2]
    by_cases c3 : fIn n 0 29 = 0
    · rw [if_pos c3, if_pos c3]; exact ⟨rfl, hh, fun _ _ => rfl⟩
    rw [if_neg c3, if_neg c3]
    obtain ⟨v, hv, rfl⟩ := fIn_k (K := 29) (by decide) c3
    refine ⟨hJ.2.2.2.2.1.symm, ⟨?_, h2, h3, fun i hi => ?_⟩, fun q hq => ?_⟩
    · dsimp only; rw [upd_ne (by omega)]; exact h1
    · obtain ⟨a1, a2, a3, a4, a5, a6, a7, a8, a9⟩ := h4 i hi
      refine ⟨?_, a2, ?_, ?_, ?_, a6, a7, ?_, fun q hq => ?_⟩
      · dsimp only; rw [upd_ne (by omega)]; exact a1
      · dsimp only; rw [upd_ne (by omega)]; exact a3
      · dsimp only; rw [upd_ne (by omega)]; exact a4
      · show upd f (34 + j) (nI v) (34 + i) = upd (ePh en) j (nI v) i
        by_cases c4 : i = j
        · rw [c4, upd_eq, upd_eq]
        · rw [upd_ne (by omega), upd_ne c4]; exact a5
      · show ∃ h : Nat, h ≤ 29 ∧ upd (ePh en) j (nI v) i = nI h
        by_cases c4 : i = j
        · rw [c4, upd_eq]; exact ⟨v, hv, rfl⟩
        · rw [upd_ne c4]; exact a8
      · dsimp only; rw [upd_ne (by omega)]; exact a9 q hq
    · dsimp only; rw [upd_ne (by omega)]
theorem hide_tie {en : En} {f : Nat → Int32} {L : Nat} (hE : eL en = L) (h3 : L ≤ 6) (h : TiH f (eHi en) L) (x z : Int32) : (opHide en x z).1 = (mHide f L x z).1 ∧ TiH (mHide f L x z).2 (opHide en x z).2 L ∧ ∀ q, ¬ (3 ≤ q ∧ q < 9) → (mHide f L x z).2 q = f q := by
  unfold opHide mHide
  rw [hE]
  by_cases c0 : fIsL L x = 0
  · rw [if_pos c0, if_pos c0]; exact ⟨rfl, h, fun _ _ => rfl⟩
  rw [if_neg c0, if_neg c0]
  obtain ⟨j, hj, rfl⟩ := fIsL_k h3 c0
  have hcj : (nI j).toNatClampNeg = j := nI_clamp (by omega)
  rw [hcj]
  refine ⟨(h j hj).symm, fun i hi => ?_, fun q hq => ?_⟩
  · show upd f (3 + j) (if z = 0 then 0 else 1) (3 + i) = fBit (fWith (eHi en) (nI j) z) (nI i)
    rw [fBit_with (by omega) (by omega)]
    by_cases c4 : i = j
    · rw [c4, upd_eq, if_pos rfl]
    · rw [upd_ne (by omega), if_neg c4]; exact h i hi
  · dsimp only; rw [upd_ne (by omega)]
section ASK
variable {en : En} {f : Nat → Int32} {L k t : Nat}
theorem of_tie (h : TiL en f L) (hH : TiH f (eHi en) L) (h0 : f 0 = nI t) (hn : eNi en = nI t) (x w : Int32) : opOf en x w = mOf f L x w := by
  obtain ⟨h1, h2, h3, h4⟩ := h
  unfold opOf mOf
  rw [h2]
  by_cases c0 : fIsL L x = 0
  · rw [if_pos c0, if_pos c0]
  rw [if_neg c0, if_neg c0]
  obtain ⟨j, hj, rfl⟩ := fIsL_k h3 c0
  have hcj : (nI j).toNatClampNeg = j := nI_clamp (by omega)
  have hJ := h4 j hj
  rw [hcj, hn, h0, up_tie hJ (hH j hj), fAt_nI (by omega) (by decide), fAt_nI (by omega) (by decide), hJ.1, hJ.2.2.1, hJ.2.2.2.1, hJ.2.2.2.2.1, hH j hj]
theorem baseC_tie (h : TiL en f L) (hk : TiK en f k) (hn : eNi en = nI t) (x ho n : Int32) : opBase en x ho n = mBaseC f L t x ho n := by
  obtain ⟨h1, h2, h3, h4⟩ := h
  unfold opBase mBaseC
  rw [h2]
  by_cases c0 : fIsL L x = 0
  · rw [if_pos c0, if_pos c0]
  rw [if_neg c0, if_neg c0]
  obtain ⟨j, hj, rfl⟩ := fIsL_k h3 c0
  have hcj : (nI j).toNatClampNeg = j := nI_clamp (by omega)
  rw [hcj]
  by_cases c1 : fIn ho 0 1 = 0
  · rw [if_pos c1, if_pos c1]
  rw [if_neg c1, if_neg c1]
  by_cases c2 : fIn n 0 60 = 0
  · rw [if_pos c2, if_pos c2]
  rw [if_neg c2, if_neg c2]
  obtain ⟨d, hd, rfl⟩ := fIn_k (K := 60) (by decide) c2
  rw [hn, nI_add, nI_clamp (by omega)]
  exact base_eq (h4 j hj) hk _ _
theorem worthC_tie (h : TiL en f L) (hk : TiK en f k) (hn : eNi en = nI t) (ht : t < 10000) (x ho n : Int32) : opWorth en x ho n = mWorC f L t x ho n := by
  obtain ⟨h1, h2, h3, h4⟩ := h
  unfold opWorth mWorC
  rw [h2]
  by_cases c0 : fIsL L x = 0
  · rw [if_pos c0, if_pos c0]
  rw [if_neg c0, if_neg c0]
  obtain ⟨j, hj, rfl⟩ := fIsL_k h3 c0
  have hcj : (nI j).toNatClampNeg = j := nI_clamp (by omega)
  rw [hcj]
  by_cases c1 : fIn ho 0 1 = 0
  · rw [if_pos c1, if_pos c1]
  rw [if_neg c1, if_neg c1]
  by_cases c2 : fIn n 0 60 = 0
  · rw [if_pos c2, if_pos c2]
  rw [if_neg c2, if_neg c2]
  obtain ⟨d, hd, rfl⟩ := fIn_k (K := 60) (by decide) c2
  rw [hn, nI_add, nI_clamp (by omega)]
  exact worth_tie (h4 j hj) hk (by omega) (by omega) _
theorem told_tie (h : TiL en f L) (hk : TiK en f k) (hH : TiH f (eHi en) L) (hn : eNi en = nI t) (ht : t < 10000) (hs0 : eSe en 0 = f 1) (hs1 : eSe en 1 = f 2) (w : Int32) : opTold en w = mTold f L t w := by
  unfold opTold mTold
  rw [hn, hk.cloud]
  by_cases c0 : w = 0
  · rw [if_pos c0, if_pos c0]
  rw [if_neg c0, if_neg c0]
  by_cases c1 : w = 1
  · rw [if_pos c1, if_pos c1]; exact hk.turn.1
  rw [if_neg c1, if_neg c1]
  by_cases c2 : w = 2
  · rw [if_pos c2, if_pos c2]
  rw [if_neg c2, if_neg c2]
  by_cases c3 : w = 3
  · rw [if_pos c3, if_pos c3]; exact hk.trn _
  rw [if_neg c3, if_neg c3]
  by_cases c4 : w = 4
  · rw [if_pos c4, if_pos c4]; rfl
  rw [if_neg c4, if_neg c4]
  by_cases c5 : w = 5
  · rw [if_pos c5, if_pos c5, h.2.1]; exact (ups_tie (hb := 0) h hH _ L (Nat.le_refl _)).1
  rw [if_neg c5, if_neg c5]
  by_cases c6 : w = 6
  · rw [if_pos c6, if_pos c6, c6, show (6 : Int32) - 6 = nI 0 from by decide, fAt_nI (by omega) (by decide)]; exact hs0
  rw [if_neg c6, if_neg c6]
  by_cases c7 : w = 7
  · rw [if_pos c7, if_pos c7, c7, show (7 : Int32) - 6 = nI 1 from by decide, fAt_nI (by omega) (by decide)]; exact hs1
  rw [if_neg c7, if_neg c7]
  by_cases c8 : w = 8
  · rw [if_pos c8, if_pos c8, c8, show (8 : Int32) - 8 = 0 from by decide]; exact has_tie h hk hH (by omega) _ _
  rw [if_neg c8, if_neg c8]
  by_cases c9 : w = 9
  · rw [if_pos c9, if_pos c9, c9, show (9 : Int32) - 8 = 1 from by decide]; exact has_tie h hk hH (by omega) _ _
  rw [if_neg c9, if_neg c9]
theorem till_congr {P Q : Nat → Int32} (e : ∀ i, (P i = 0 ↔ Q i = 0)) : ∀ n i, till P n i = till Q n i
  | 0, _ => rfl
  | n + 1, i => by
    show (if P i = 0 then till P n (i + 1) else nI i) = (if Q i = 0 then till Q n (i + 1) else nI i)
    rw [till_congr e n (i + 1)]
    by_cases c : P i = 0
    · rw [if_pos c, if_pos ((e i).mp c)]
    · rw [if_neg c, if_neg (fun q => c ((e i).mpr q))]
theorem both_tie (h : TiL en f L) (hH : TiH f (eHi en) L) (hn : eNi en = nI t) {a b : Nat} (ha : a < L) (hb : b < L) : fBoth en a b = mBoP f a b t := by
  funext i
  unfold fBoth mBoP
  rw [hn, nI_add, up_tie (h.2.2.2 a ha) (hH a ha), up_tie (h.2.2.2 b hb) (hH b hb)]
theorem when_tie (h : TiL en f L) (hH : TiH f (eHi en) L) (hn : eNi en = nI t) (x : Int32) : opWhen en x = mWhen f L t x := by
  unfold opWhen mWhen
  rw [h.2.1]
  by_cases c0 : fIsL L x = 0
  · rw [if_pos c0, if_pos c0]
  rw [if_neg c0, if_neg c0]
  obtain ⟨j, hj, rfl⟩ := fIsL_k h.2.2.1 c0
  have := h.2.2.1
  have hcj : (nI j).toNatClampNeg = j := nI_clamp (by omega)
  rw [hcj, both_tie h hH hn hj hj]
  apply till_congr
  intro i
  unfold mBoP mWhP
  by_cases c : mUp f j (nI (t + i)) = 0
  · rw [if_pos c]; exact ⟨fun _ => c, fun _ => rfl⟩
  · rw [if_neg c, if_neg c]
    exact ⟨fun q => absurd q (by decide), fun q => absurd q c⟩
theorem meet_tie (h : TiL en f L) (hH : TiH f (eHi en) L) (hn : eNi en = nI t) (x y : Int32) : opMeet en x y = mMeet f L t x y := by
  unfold opMeet mMeet
  rw [h.2.1]
  by_cases c0 : fIsL L x = 0
  · rw [if_pos c0, if_pos c0]
  rw [if_neg c0, if_neg c0]
  by_cases c1 : fIsL L y = 0
  · rw [if_pos c1, if_pos c1]
  rw [if_neg c1, if_neg c1]
  obtain ⟨j, hj, rfl⟩ := fIsL_k h.2.2.1 c0
  obtain ⟨i, hi, rfl⟩ := fIsL_k h.2.2.1 c1
  have := h.2.2.1
  rw [nI_clamp (by omega), nI_clamp (by omega), both_tie h hH hn hj hi]
theorem looked_tie {nb : Nat} {bf : Nat → Int32} (hk : TiK en f k) (hn : eNi en = nI t) (h0 : f 0 = nI t) (hB : TiBo nb bf f) : ∀ u i, i + u = nb → till (fLook en bf) u i = mLok f nb u i := fun u => by
  induction u with
  | zero => exact fun _ _ => rfl
  | succ u ih =>
    intro i hi
    obtain ⟨b1, b2, b3⟩ := hB
    obtain ⟨a1, a2⟩ := b3 i (by omega)
    have e1 : nI i * 3 + 0 = nI (3 * i) := by rw [show nI i * 3 = nI (i * 3) from nI_mul i 3, Int32.add_zero, Nat.mul_comm]
    have e2 : nI i * 3 + 1 = nI (3 * i + 1) := by rw [show nI i * 3 = nI (i * 3) from nI_mul i 3, nI_1, Nat.mul_comm]
    have el : fLook en bf i = if mTrn f (f 0 + f (98 + i)) = f (106 + i) then 0 else 1 := by
      unfold fLook
      rw [e1, e2, fAt_nI (by omega) (by decide), fAt_nI (by omega) (by decide), hk.trn, hn, ← h0, ← a1, ← a2]
    show (if fLook en bf i = 0 then till (fLook en bf) u (i + 1) else nI i) = (if mTrn f (f 0 + f (98 + i)) = f (106 + i) then mLok f nb u (i + 1) else nI i)
    rw [el, ih (i + 1) (by omega)]
    by_cases c : mTrn f (f 0 + f (98 + i)) = f (106 + i)
    · rw [if_pos c, if_pos c, if_pos rfl]
    · rw [if_neg c, if_neg c, if_neg (by decide)]
theorem as_tie (h : TiL en f L) (x w : Int32) : opAs en x w = mAs f L x w := by
  obtain ⟨h1, h2, h3, h4⟩ := h
  unfold opAs mAs
  rw [h2]
  by_cases c0 : fIsL L x = 0
  · rw [if_pos c0, if_pos c0]
  rw [if_neg c0, if_neg c0]
  obtain ⟨j, hj, rfl⟩ := fIsL_k h3 c0
  have hcj : (nI j).toNatClampNeg = j := nI_clamp (by omega)
  have hJ := h4 j hj
  rw [hcj, hJ.1, hJ.2.2.1]
  by_cases c1 : fIn w 0 6 = 0
  · rw [if_pos c1, if_pos c1]
  rw [if_neg c1, if_neg c1]
  obtain ⟨d, hd, rfl⟩ := fIn_k (K := 6) (by decide) c1
  have e : ∀ kd : Nat, kd < 7 → ∀ d : Nat, d < 7 → fKin kd (nI d) = mUnd (nI kd) (nI d) := by decide
  rw [e _ (by have := hJ.2.1; omega) d (by omega)]
end ASK
