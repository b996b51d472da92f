/-! Ties of pass and on. -/
theorem fMin_wi {u : Nat} (h : u < 2147483648) : mWi (nI u) = fMin (nI u) := by
  unfold mWi fMin
  rw [if_pos (nI_pos' h)]
  by_cases c : nI u ≤ 9999999
  · rw [if_pos c, if_neg (Int32.not_lt.mpr c)]
  · rw [if_neg c, if_pos (Int32.not_le.mp c)]
theorem fMin_n {u : Nat} (h : u < 1073741824) : ∃ v : Nat, v ≤ 9999999 ∧ fMin (nI u) = nI v := by
  unfold fMin
  by_cases c : (9999999 : Int32) < nI u
  · rw [if_pos c]; exact ⟨9999999, Nat.le_refl _, rfl⟩
  · rw [if_neg c]
    refine ⟨u, ?_, rfl⟩
    rcases Nat.lt_or_ge 9999999 u with q | q
    · exact absurd (show nI 9999999 < nI u from nI_lt q (by omega)) c
    · exact q
theorem fMin_id {u : Nat} (h : u ≤ 9999999) : fMin (nI u) = nI u := if_neg (fun q => nI_nlt h (by omega) (show nI 9999999 < nI u from q))
section GO
variable {en : En} {f : Nat → Int32} {L k t : Nat}
theorem mTh_eq {f' : Nat → Int32} (hk : TiK en f k) (hk' : TiK en f' k) (s : Nat) : mTh f' s = mTh f s := by rw [mTh, mTh, ← hk.trn, ← hk'.trn]
/-- what a night that goes leaves -/
theorem mGo_c {f' : Nat → Int32} (hk' : TiK en f' k) {s : Nat} (hs : s < 20000) (cl : Int32) : ∃ h : Nat, h ≤ 1 ∧ fTurn (eTu en) (nI s) = nI h ∧ mGo f' L cl s = upd (upd f' (1 + h) (f' (1 + h) + mHas f' L cl s (nI h))) 0 (nI (s + 1)) := by
  have a := mTrn_th hk'.st hs
  exact ⟨mTh f' s, a.2, by rw [hk'.trn]; exact a.1, rfl⟩
theorem pas_tie (hL : TiL en f L) (hk : TiK en f k) (hH : TiH f (eHi en) L) (hn : eNi en = nI t) (ht : t ≤ 9999) {s0 s1 : Nat} (b0 : s0 ≤ 9999999) (b1 : s1 ≤ 9999999) (e0 : eSe en 0 = nI s0) (e1 : eSe en 1 = nI s1) (f0 : f 0 = nI t) (f1 : f 1 = nI s0) (f2 : f 2 = nI s1) : ∀ i, i ≤ 900 → ∃ v0 v1 : Nat, v0 ≤ 9999999 ∧ v1 ≤ 9999999 ∧ (pasN en i).1 = nI (t + i) ∧ (pasN en i).2 0 = nI v0 ∧ (pasN en i).2 1 = nI v1 ∧ mPa f L (eCl en) t i 0 = nI (t + i) ∧ mPa f L (eCl en) t i 1 = nI v0 ∧ mPa f L (eCl en) t i 2 = nI v1 ∧ ∀ q, 3 ≤ q → mPa f L (eCl en) t i q = f q := fun i => by
  induction i with
  | zero => exact fun _ => ⟨s0, s1, b0, b1, hn, e0, e1, f0, f1, f2, fun _ _ => rfl⟩
  | succ i ih =>
    intro hi
    obtain ⟨v0, v1, c0, c1, p1, p2, p3, m0, m1, m2, m3⟩ := ih (by omega)
    have lo : ∀ q, 9 ≤ q → mPa f L (eCl en) t i q = f q := fun q hq => m3 q (by omega)
    have hL' := hL.lo lo
    have hk' := hk.lo lo
    have hH' : TiH (mPa f L (eCl en) t i) (eHi en) L := hH.cg hL.2.2.1 (fun q hq => m3 q (by omega))
    obtain ⟨h, hh, et, eg⟩ := mGo_c (L := L) hk' (s := t + i) (by omega) (eCl en)
    obtain ⟨u, u1, u2⟩ := has_b hL' hk' (eCl en) (nI h) (t + i)
    have eh : fHas en (nI h) (nI (t + i)) (eHi en) (eCl en) = nI u := by rw [has_tie hL' hk' hH' (by omega)]; exact u2
    obtain ⟨F, hF⟩ : ∃ F, F = mPa f L (eCl en) t i := ⟨_, rfl⟩
    rw [← hF] at m0 m1 m2 m3 eg u2
    rw [u2] at eg
    have es : mPa f L (eCl en) t (i + 1) = mPaS (mGo F L (eCl en) (t + i)) := by rw [hF]; rfl
    have ep : pasN en (i + 1) = (nI (t + i) + 1, fPut 2 (pasN en i).2 (nI h) (fMin (fAt 2 (pasN en i).2 (nI h) + nI u))) := by
      rw [pasN, p1, et, eh]
    rw [es, ep, eg, nI_1]
    rcases (show h = 0 ∨ h = 1 by omega) with rfl | rfl
    · rw [fAt_nI (by decide) (by decide), fPut_nI (by decide) (by decide), p2, m1, nI_add]
      obtain ⟨w, w1, w2⟩ := fMin_n (u := v0 + u) (by omega)
      refine ⟨w, v1, w1, c1, rfl, by dsimp only; rw [upd_eq]; exact w2, by dsimp only; rw [upd_ne (by decide)]; exact p3, ?_, ?_, ?_, fun q hq => ?_⟩
      · unfold mPaS; rw [upd_ne (by decide), upd_ne (by decide), upd_eq]; rfl
      · unfold mPaS; rw [upd_ne (by decide), upd_eq, upd_ne (by decide), upd_eq, fMin_wi (by omega)]; exact w2
      · unfold mPaS; rw [upd_eq, upd_ne (by decide), upd_ne (by decide), upd_ne (by decide), m2, fMin_wi (by omega), fMin_id c1]
      · unfold mPaS; rw [upd_ne (by omega), upd_ne (by omega), upd_ne (by omega), upd_ne (by omega)]; exact m3 q hq
    · rw [fAt_nI (by decide) (by decide), fPut_nI (by decide) (by decide), p3, m2, nI_add]
      obtain ⟨w, w1, w2⟩ := fMin_n (u := v1 + u) (by omega)
      refine ⟨v0, w, c0, w1, rfl, by dsimp only; rw [upd_ne (by decide)]; exact p2, by dsimp only; rw [upd_eq]; exact w2, ?_, ?_, ?_, fun q hq => ?_⟩
      · unfold mPaS; rw [upd_ne (by decide), upd_ne (by decide), upd_eq]; rfl
      · unfold mPaS; rw [upd_ne (by decide), upd_eq, upd_ne (by decide), upd_ne (by decide), m1, fMin_wi (by omega), fMin_id c0]
      · unfold mPaS; rw [upd_eq, upd_ne (by decide), upd_ne (by decide), upd_eq, fMin_wi (by omega)]; exact w2
      · unfold mPaS; rw [upd_ne (by omega), upd_ne (by omega), upd_ne (by omega), upd_ne (by omega)]; exact m3 q hq
theorem pass_tie (hL : TiL en f L) (hk : TiK en f k) (hH : TiH f (eHi en) L) (hn : eNi en = nI t) (ht : t ≤ 9999) {s0 s1 : Nat} (b0 : s0 ≤ 9999999) (b1 : s1 ≤ 9999999) (e0 : eSe en 0 = nI s0) (e1 : eSe en 1 = nI s1) (f0 : f 0 = nI t) (f1 : f 1 = nI s0) (f2 : f 2 = nI s1) (n : Int32) : (opPass en n).1 = (mPass f L t n).1 ∧ ∃ t' v0 v1 : Nat, t' ≤ 9999 ∧ v0 ≤ 9999999 ∧ v1 ≤ 9999999 ∧ (opPass en n).2.1 = nI t' ∧ (opPass en n).2.2 0 = nI v0 ∧ (opPass en n).2.2 1 = nI v1 ∧ (mPass f L t n).2 0 = nI t' ∧ (mPass f L t n).2 1 = nI v0 ∧ (mPass f L t n).2 2 = nI v1 ∧ ∀ q, 3 ≤ q → (mPass f L t n).2 q = f q := by
  unfold opPass mPass
  by_cases c0 : fIn n 0 60 = 0
  · rw [if_pos c0, if_pos c0]
    exact ⟨rfl, t, s0, s1, ht, b0, b1, hn, e0, e1, f0, f1, f2, fun _ _ => rfl⟩
  rw [if_neg c0, if_neg c0]
  obtain ⟨j, hj, rfl⟩ := fIn_k (K := 60) (by decide) c0
  rw [nI_clamp (show j < 2147483648 by omega), hn, nI_add, ← hk.cloud]
  by_cases c1 : nI (t + j) ≤ 9999
  · rw [if_pos c1, if_pos c1]
    obtain ⟨v0, v1, a1, a2, a3, a4, a5, a6, a7, a8, a9⟩ := pas_tie hL hk hH hn ht b0 b1 e0 e1 f0 f1 f2 j (by omega)
    have hj2 : t + j ≤ 9999 := (nI_leI (b := 9999) (by omega) (by omega)).mp c1
    exact ⟨a3, t + j, v0, v1, hj2, a1, a2, a3, a4, a5, a6, a7, a8, a9⟩
  · rw [if_neg c1, if_neg c1]
    exact ⟨rfl, t, s0, s1, ht, b0, b1, rfl, e0, e1, f0, f1, f2, fun _ _ => rfl⟩
/-- nights go on, nothing held -/
theorem goN_tie (hL : TiL en f L) (hk : TiK en f k) (hH : TiH f (eHi en) L) (hn : eNi en = nI t) (ht : t ≤ 9999) (f0 : f 0 = nI t) (e0 : eSe en 0 = f 1) (e1 : eSe en 1 = f 2) {w : Nat} (hw : w ≤ 1) : ∀ i, i ≤ 900 → mGoN f L (eCl en) t i (1 + w) = onN en (nI w) i ∧ ∀ q, 3 ≤ q → mGoN f L (eCl en) t i q = f q := fun i => by
  induction i with
  | zero =>
    refine fun _ => ⟨?_, fun _ _ => rfl⟩
    rw [onN, fAt_nI (by omega) (by decide)]
    rcases (show w = 0 ∨ w = 1 by omega) with rfl | rfl
    · exact e0.symm
    · exact e1.symm
  | succ i ih =>
    intro hi
    obtain ⟨i1, i2⟩ := ih (by omega)
    have lo : ∀ q, 9 ≤ q → mGoN f L (eCl en) t i q = f q := fun q hq => i2 q (by omega)
    have hL' := hL.lo lo
    have hk' := hk.lo lo
    have hH' : TiH (mGoN f L (eCl en) t i) (eHi en) L := hH.cg hL.2.2.1 (fun q hq => i2 q (by omega))
    obtain ⟨h, hh, et, eg⟩ := mGo_c (L := L) hk' (s := t + i) (by omega) (eCl en)
    have eh := has_tie hL' hk' hH' (t := t + i) (by omega) (nI w) (eCl en)
    obtain ⟨F, hF⟩ : ∃ F, F = mGoN f L (eCl en) t i := ⟨_, rfl⟩
    rw [← hF] at i1 i2 eg eh
    have es : mGoN f L (eCl en) t (i + 1) = mGo F L (eCl en) (t + i) := by rw [hF]; rfl
    rw [es, eg]
    refine ⟨?_, fun q hq => by rw [upd_ne (by omega), upd_ne (by omega)]; exact i2 q hq⟩
    rw [upd_ne (by omega), onN, hn, nI_add, et, eh, ← i1]
    by_cases c : h = w
    · subst c
      rw [upd_eq, if_pos rfl]
    · rw [upd_ne (by omega), if_neg (fun q => c ((nI_eq (by omega) (by omega)).mp q))]
theorem cnt_tie : ∀ m : Nat, m < 64 → fBC (nI m) = mCnt (nI m) 9 := by decide +kernel
theorem upN_nat (hL : TiL en f L) (hH : TiH f (eHi en) L) (ni : Int32) : ∃ m : Nat, m < 64 ∧ upN en ni L = nI m := by
  have h6 := hL.2.2.1
  have hb := (ups_tie (hb := 0) hL hH ni L (Nat.le_refl _)).2
  refine ⟨(upN en ni L).toBitVec.toNat % 64, Nat.mod_lt _ (by decide), ?_⟩
  rw [← pk_and (upN en ni L) (m := 63) 6 (by decide)]
  apply bL_ext
  intro q hq
  rw [bL_and]
  by_cases c : q < 6
  · rw [show bL 63 q = true from (show ∀ q : Fin 6, bL 63 q.val = true by decide) ⟨q, c⟩, Bool.and_true]
  · rw [hb q hq (by omega)]; rfl
theorem ups_lo {f' : Nat → Int32} (hL : TiL en f L) (hH : TiH f (eHi en) L) (e : ∀ q, 3 ≤ q → f' q = f q) (ni : Int32) : mUps f' ni L = upN en ni L := by
  have hL' := hL.lo (f' := f') (fun q hq => e q (by omega))
  have hH' : TiH f' (eHi en) L := hH.cg hL.2.2.1 (fun q hq => e q (by omega))
  exact ((ups_tie (hb := 0) hL' hH' ni L (Nat.le_refl _)).1).symm
theorem on_tie (hL : TiL en f L) (hk : TiK en f k) (hH : TiH f (eHi en) L) (hn : eNi en = nI t) (ht : t ≤ 9999) (f0 : f 0 = nI t) (e0 : eSe en 0 = f 1) (e1 : eSe en 1 = f 2) (n w : Int32) : opOn en n w = mOn f L t n w := by
  unfold opOn mOn
  by_cases c0 : fIn w 0 2 = 0
  · rw [if_pos c0, if_pos c0]
  rw [if_neg c0, if_neg c0]
  by_cases c1 : fIn n 0 60 = 0
  · rw [if_pos c1, if_pos c1]
  rw [if_neg c1, if_neg c1]
  obtain ⟨j, hj, rfl⟩ := fIn_k (K := 60) (by decide) c1
  obtain ⟨d, hd, rfl⟩ := fIn_k (K := 2) (by decide) c0
  rw [nI_clamp (show j < 2147483648 by omega), nI_clamp (show d < 2147483648 by omega), hn, nI_add, ← hk.cloud]
  by_cases c2 : nI d = 2
  · rw [if_pos c2, if_pos c2, hL.2.1]
    have g := (goN_tie hL hk hH hn ht f0 e0 e1 (w := 0) (by omega) j (by omega)).2
    rw [ups_lo hL hH g]
    obtain ⟨m, m1, m2⟩ := upN_nat hL hH (nI (t + j))
    rw [m2]
    exact cnt_tie m m1
  · rw [if_neg c2, if_neg c2]
    have hd2 : d ≤ 1 := by
      rcases Nat.lt_or_ge d 2 with q | q
      · omega
      · exact absurd (show nI d = 2 from by rw [show d = 2 by omega]; rfl) c2
    exact (goN_tie hL hk hH hn ht f0 e0 e1 hd2 j (by omega)).1.symm
end GO
