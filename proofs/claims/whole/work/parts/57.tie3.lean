/-! A roof of the class and a row of numbers of the reference that tell the same. -/
def TiJ (en : En) (f : Nat → Int32) (j : Nat) : Prop := f (16 + j) = nI (eKd en j) ∧ eKd en j ≤ 6 ∧ f (22 + j) = eVv en j ∧ f (28 + j) = eRo en j ∧ f (34 + j) = ePh en j ∧ (∃ v : Nat, v ≤ 9 ∧ eVv en j = nI v) ∧ (∃ r : Nat, 1 ≤ r ∧ r ≤ 30 ∧ eRo en j = nI r) ∧ (∃ h : Nat, h ≤ 29 ∧ ePh en j = nI h) ∧ ∀ k, k < 4 → f (40 + 4 * j + k) = eRw en (4 * j + k) ∧ ∃ d : Nat, d ≤ 9 ∧ eRw en (4 * j + k) = nI d
/-- the sky that holds -/
def TiK (en : En) (f : Nat → Int32) (k : Nat) : Prop := eSk en = nI k ∧ f 10 = nI k ∧ k ≤ 5 ∧ ((k = 0 ∧ f 15 = -1 ∧ eZ en = 0 ∧ eTu en = 1 ∧ eCl en = 0) ∨ ∃ a n tu cl : Nat, k = a + 1 ∧ HdOk f a n tu cl ∧ n ≤ 100 ∧ eZ en = n ∧ eTu en = (if tu = 0 then 1 else nI tu) ∧ eCl en = nI cl ∧ ∀ i, i < n → StpEq (eF1 en i) (eF2 en i) (eF3 en i) (mCo f a i))
def TiL (en : En) (f : Nat → Int32) (L : Nat) : Prop := f 9 = nI L ∧ eL en = L ∧ L ≤ 6 ∧ ∀ j, j < L → TiJ en f j
def TiH (f : Nat → Int32) (hb : Int32) (L : Nat) : Prop := ∀ j, j < L → f (3 + j) = fBit hb (nI j)
section LO
variable {en : En} {f f' : Nat → Int32}
theorem TiJ.lo {j : Nat} (h : TiJ en f j) (e : ∀ k, 9 ≤ k → f' k = f k) : TiJ en f' j := by
  obtain ⟨h1, h2, h3, h4, h5, h6, h7, h8, h9⟩ := h
  exact ⟨by rw [e _ (by omega)]; exact h1, h2, by rw [e _ (by omega)]; exact h3, by rw [e _ (by omega)]; exact h4, by rw [e _ (by omega)]; exact h5, h6, h7, h8, fun k hk => ⟨by rw [e _ (by omega)]; exact (h9 k hk).1, (h9 k hk).2⟩⟩
theorem TiL.lo {L : Nat} (h : TiL en f L) (e : ∀ k, 9 ≤ k → f' k = f k) : TiL en f' L := ⟨by rw [e _ (by omega)]; exact h.1, h.2.1, h.2.2.1, fun j hj => (h.2.2.2 j hj).lo e⟩
theorem TiK.lo {k : Nat} (h : TiK en f k) (e : ∀ k, 9 ≤ k → f' k = f k) : TiK en f' k := by
  obtain ⟨h1, h2, h3, h4⟩ := h
  refine ⟨h1, by rw [e _ (by omega)]; exact h2, h3, ?_⟩
  rcases h4 with ⟨a1, a2, a3⟩ | ⟨a, n, tu, cl, b1, b2, b3, b4, b5, b6, b7⟩
  · exact Or.inl ⟨a1, by rw [e _ (by omega)]; exact a2, a3⟩
  · exact Or.inr ⟨a, n, tu, cl, b1, b2.lo e, b3, b4, b5, b6, fun i hi => by rw [mCo_congr e a]; exact b7 i hi⟩
end LO
section TIE
variable {en : En} {f : Nat → Int32}
theorem TiK.st {k : Nat} (h : TiK en f k) : StOk f := by
  rcases h.2.2.2 with ⟨-, a2, -⟩ | ⟨a, n, tu, cl, -, b2, -⟩
  · exact Or.inl a2
  · exact Or.inr ⟨a, n, tu, cl, b2⟩
theorem TiL.ok {L k : Nat} (h : TiL en f L) (hk : TiK en f k) : MOk f L := ⟨h.1, h.2.2.1, fun j hj => by
  obtain ⟨-, -, -, h4, -, -, ⟨r, r1, r2, r3⟩, -⟩ := h.2.2.2 j hj
  rw [h4, r3]
  exact nI_ne0 (by omega) (by omega), hk.st⟩
theorem TiK.turn {k : Nat} (h : TiK en f k) : eTu en = (if mTel f 214 1 = 0 then 1 else mTel f 214 1) ∧ ¬ eTu en ≤ 0 := by
  rcases h.2.2.2 with ⟨-, a2, -, a4, -⟩ | ⟨a, n, tu, cl, -, b2, -, -, b5, -⟩
  · rw [mTel, if_pos a2, a4]
    exact ⟨by decide, by decide⟩
  · obtain ⟨c1, c2, -, -, c5, c6, -⟩ := b2
    have e : mTel f 214 1 = nI tu := by rw [mTel, c2, if_neg (nI_m1 (by omega)), nI_clamp (by omega), c5]
    rw [e, b5]
    by_cases q : tu = 0
    · subst q
      exact ⟨by decide, by decide⟩
    · have hn := nI_ne0 (n := tu) (by omega) (by omega)
      rw [if_neg q, if_neg hn]
      exact ⟨rfl, nI_nle (by omega) (by omega)⟩
theorem TiK.cloud {k : Nat} (h : TiK en f k) : eCl en = mCl f := by
  rcases h.2.2.2 with ⟨-, a2, -, -, a5⟩ | ⟨a, n, tu, cl, -, b2, -, -, -, b6, -⟩
  · rw [mCl, mTel, if_pos a2, a5]
  · obtain ⟨c1, c2, -, -, -, -, c7, -⟩ := b2
    rw [mCl, mTel, c2, if_neg (nI_m1 (by omega)), nI_clamp (by omega), c7, b6]
theorem TiK.trn {k : Nat} (h : TiK en f k) (x : Int32) : fTurn (eTu en) x = mTrn f x := by
  rw [fTurn, if_neg h.turn.2, mTrn, ← h.turn.1]
theorem over_tie {kd r : Nat} (hkd : kd ≤ 6) (hr : 1 ≤ r) (hr2 : r ≤ 30) (n v h : Int32) : fOver kd n v (nI r) h = mK (nI kd) v n (mSt (iR (n + h) (nI r))) (mMo (nI r) (iR (n + h) (nI r))) := by
  have hp : ¬ nI r ≤ 0 := nI_nle (by omega) (by omega)
  have e1 : fSt n (nI r) h = mSt (iR (n + h) (nI r)) := by unfold fSt mSt; rw [if_neg hp]
  have e2 : fMo n (nI r) h = mMo (nI r) (iR (n + h) (nI r)) := by
    unfold fMo mMo
    rw [if_neg hp]
    by_cases c : nI r = 1
    · rw [if_pos c, if_pos c]; split <;> rfl
    · rw [if_neg c, if_neg c]
  have hs : mSt (iR (n + h) (nI r)) = 0 ∨ mSt (iR (n + h) (nI r)) = 1 := by
    unfold mSt
    split
    · exact Or.inr rfl
    · exact Or.inl rfl
  obtain ⟨us, eu⟩ : ∃ us, us = mSt (iR (n + h) (nI r)) := ⟨_, rfl⟩
  obtain ⟨um, em⟩ : ∃ um, um = mMo (nI r) (iR (n + h) (nI r)) := ⟨_, rfl⟩
  rw [← eu] at e1 hs
  rw [← em] at e2
  rw [← eu, ← em]
  rcases (show kd = 0 ∨ kd = 1 ∨ kd = 2 ∨ kd = 3 ∨ kd = 4 ∨ kd = 5 ∨ kd = 6 by omega) with rfl | rfl | rfl | rfl | rfl | rfl | rfl
  · exact e1
  · exact e2
  · show fCo n v (nI r) h = if us = 0 then 0 else if n < 10 * v then 0 else 1
    unfold fCo
    rw [e1]
    by_cases c1 : us = 0
    · rw [if_pos c1, if_pos c1]; split <;> rfl
    · rw [if_neg c1, if_neg c1]
  · exact e1
  · show fTw n (nI r) h = if um = 0 then (if us = 0 then 0 else 1) else 1
    unfold fTw
    rw [e1, e2]
    rcases hs with q | q <;> rw [q] <;> rfl
  · show fGu n v (nI r) h = if us = 0 then 0 else if n < 10 * v then 0 else if iR n 7 = 0 then 0 else 1
    unfold fGu fCo
    rw [e1]
    by_cases c1 : us = 0
    · rw [if_pos c1, if_pos c1]
      by_cases c2 : n < 10 * v
      · rw [if_pos c2]; split <;> rfl
      · rw [if_neg c2]; split <;> rfl
    · rw [if_neg c1, if_neg c1]
      by_cases c2 : n < 10 * v
      · rw [if_pos c2, if_pos c2]; split <;> rfl
      · rw [if_neg c2, if_neg c2]; rfl
  · exact e1
theorem up_tie {j : Nat} {hb : Int32} (h : TiJ en f j) (hh : f (3 + j) = fBit hb (nI j)) (ni : Int32) : fUpN en j ni hb = mUp f j ni := by
  obtain ⟨h1, h2, h3, h4, h5, -, ⟨r, r1, r2, r3⟩, -⟩ := h
  unfold fUpN mUp mUpB
  rw [h1, h3, h4, h5, hh, r3, over_tie h2 r1 r2]
theorem base_eq {j k : Nat} (h : TiJ en f j) (hk : TiK en f k) (ho ni : Int32) : fBase en j ho ni = mBase f j ho ni := by
  obtain ⟨h1, h2, h3, -⟩ := h
  unfold fBase
  rcases hk.2.2.2 with ⟨-, a2, a3, -⟩ | ⟨a, n, tu, cl, -, b2, b3, b4, -, -, b7⟩
  · rw [a3, mBase, if_pos a2]
    rfl
  · rw [mBase_h b2, b4]
    exact (base_tie (F1 := eF1 en) (F2 := eF2 en) (F3 := eF3 en) h1 h3 b3 b7 b2.2.2.2.2.2.2.2.2 n (Nat.le_refl _)).1
theorem worth_tie {j k t : Nat} (h : TiJ en f j) (hk : TiK en f k) (hj : j < 6) (ht : t < 20000) (ho : Int32) : fWoN en j ho (nI t) = mWor f j ho t := by
  have eb := base_eq h hk ho (nI t)
  obtain ⟨h1, h2, h3, -, -, -, -, -, h9⟩ := h
  have er : fAt 24 (eRw en) (nI j * 4 + iR (nI t) 4) = f (40 + 4 * j + t % 4) := by
    rw [show iR (nI t) 4 = nI (t % 4) from iR_nI (d := 4) (by omega) (by decide) (by decide), show nI j * 4 = nI (j * 4) from nI_mul j 4, nI_add, fAt_nI (by omega) (by decide), (h9 (t % 4) (by omega)).1, Nat.mul_comm]
  have e : fWorN en j ho (nI t) = mWo f j ho (mBase f j ho (nI t)) t := by
    unfold fWorN mWo
    rw [eb, er, h1, h3]
    obtain ⟨kd, ekd⟩ : ∃ kd, kd = eKd en j := ⟨_, rfl⟩
    rw [← ekd] at h2 ⊢
    obtain ⟨b, hb⟩ : ∃ b, b = mBase f j ho (nI t) := ⟨_, rfl⟩
    rw [← hb]
    rcases (show kd = 0 ∨ kd = 1 ∨ kd = 2 ∨ kd = 3 ∨ kd = 4 ∨ kd = 5 ∨ kd = 6 by omega) with rfl | rfl | rfl | rfl | rfl | rfl | rfl
    · rfl
    · rfl
    · rfl
    · rfl
    · exact Int32.mul_comm _ _
    · rfl
    · rfl
  unfold fWoN mWor
  rw [e]
  by_cases c : mWo f j ho (mBase f j ho (nI t)) t < 0
  · rw [if_pos c, if_neg (Int32.not_le.mpr c)]
  · rw [if_neg c, if_pos (Int32.not_lt.mp c)]
theorem sum_tie {L k t : Nat} {hb : Int32} (h : TiL en f L) (hk : TiK en f k) (hh : TiH f hb L) (ht : t < 20000) (ho : Int32) : ∀ i, i ≤ L → hasN en ho (nI t) hb i = mSum f t ho i := fun i => by
  induction i with
  | zero => exact fun _ => rfl
  | succ i ih =>
    intro hi
    have h6 := h.2.2.1
    have hj := h.2.2.2 i (by omega)
    rw [hasN, mSum, up_tie hj (hh i (by omega)), ih (by omega), worth_tie hj hk (by omega) ht]
    by_cases c : mUp f i (nI t) = 0
    · rw [if_pos c, if_pos c, Int32.add_zero]
    · rw [if_neg c, if_neg c]
theorem has_tie {L k t : Nat} {hb : Int32} (h : TiL en f L) (hk : TiK en f k) (hh : TiH f hb L) (ht : t < 20000) (ho cl : Int32) : fHas en ho (nI t) hb cl = mHas f L cl t ho := by
  unfold fHas mHas
  rw [h.2.1, sum_tie h hk hh ht ho L (Nat.le_refl _)]
  rfl
theorem ups_tie {L : Nat} {hb : Int32} (h : TiL en f L) (hh : TiH f (eHi en) L) (ni : Int32) : ∀ i, i ≤ L → upN en ni i = mUps f ni i ∧ ∀ k, k < 32 → i ≤ k → bL (upN en ni i) k = false := fun i => by
  induction i with
  | zero => exact fun _ => ⟨rfl, fun k _ _ => bL_0 k⟩
  | succ i ih =>
    intro hi
    have h6 := h.2.2.1
    obtain ⟨i1, i2⟩ := ih (by omega)
    have hu := up_tie (h.2.2.2 i (by omega)) (hh i (by omega)) ni
    have h01 : mUp f i ni = 0 ∨ mUp f i ni = 1 := by
      unfold mUp mUpB
      repeat' split
      all_goals first | exact Or.inl rfl | exact Or.inr rfl
    refine ⟨?_, fun k hk hik => ?_⟩
    · rw [upN, mUps, hu, ← i1]
      apply bL_ext
      intro k hk
      rw [bL_with (by omega) hk, bL_or]
      by_cases c : k = i
      · subst c
        rw [if_pos rfl, i2 k hk (Nat.le_refl _)]
        rcases h01 with q | q
        · rw [q]; simp [bL_0]
        · rw [q, if_neg (by decide), shl1 k (by omega), bL_pow hk]; simp
      · rw [if_neg c]
        rcases h01 with q | q
        · rw [q]; simp [bL_0]
        · rw [q, if_neg (by decide), shl1 i (by omega), bL_pow hk, decide_eq_false (fun e : i = k => c e.symm)]; simp
    · rw [upN, bL_with (by omega) hk, if_neg (by omega)]
      exact i2 k hk (by omega)
end TIE
