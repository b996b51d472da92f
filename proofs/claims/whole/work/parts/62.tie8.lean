/-! Ties of mean, odds, done. -/
def lowN (u b : Nat) : Nat → Nat
  | 0 => 1
  | i + 1 => if i < 2 then 1 else if u % i = 0 then (if b % i = 0 then i else lowN u b i) else lowN u b i
theorem lowD_n {u b : Nat} (hu : u < 2147483648) (hb : b < 1000) : ∀ i, i ≤ 1000 → lowD (nI u) b i = nI (lowN u b i) := fun i => by
  induction i with
  | zero => exact fun _ => rfl
  | succ i ih =>
    intro hi
    unfold lowD lowN
    by_cases c : i < 2
    · rw [if_pos c, if_pos c]; rfl
    rw [if_neg c, if_neg c, iR_nI hu (by omega) (by omega), iR_nI (by omega) (by omega) (by omega), ih (by omega)]
    have e1 : (nI (u % i) = 0) ↔ u % i = 0 := ⟨fun q => (nI_eq (b := 0) (by have := Nat.mod_lt u (show 0 < i by omega); omega) (by omega)).mp q, fun q => by rw [q]; rfl⟩
    have e2 : (nI (b % i) = 0) ↔ b % i = 0 := ⟨fun q => (nI_eq (b := 0) (by have := Nat.mod_lt b (show 0 < i by omega); omega) (by omega)).mp q, fun q => by rw [q]; rfl⟩
    by_cases c1 : u % i = 0
    · rw [if_pos (e1.mpr c1), if_pos c1]
      by_cases c2 : b % i = 0
      · rw [if_pos (e2.mpr c2), if_pos c2]
      · rw [if_neg (fun q => c2 (e2.mp q)), if_neg c2]
    · rw [if_neg (fun q => c1 (e1.mp q)), if_neg c1]
theorem lowN_gcd {u b : Nat} (hb : 1 ≤ b) : ∀ i, (Nat.gcd u b < i → lowN u b i = Nat.gcd u b) ∧ (i ≤ Nat.gcd u b → 1 ≤ lowN u b i) := fun i => by
  have hg : 1 ≤ Nat.gcd u b := Nat.gcd_pos_of_pos_right _ (by omega)
  induction i with
  | zero => exact ⟨fun h => absurd h (Nat.not_lt_zero _), fun _ => Nat.le_refl _⟩
  | succ i ih =>
    have pos : 1 ≤ lowN u b i := by
      rcases Nat.lt_or_ge (Nat.gcd u b) i with q | q
      · rw [ih.1 q]; exact hg
      · exact ih.2 q
    refine ⟨fun h => ?_, fun _ => ?_⟩
    · unfold lowN
      by_cases c : i < 2
      · rw [if_pos c]; omega
      rw [if_neg c]
      by_cases c3 : Nat.gcd u b = i
      · have d1 : u % i = 0 := by rw [← c3]; exact Nat.mod_eq_zero_of_dvd (Nat.gcd_dvd_left _ _)
        have d2 : b % i = 0 := by rw [← c3]; exact Nat.mod_eq_zero_of_dvd (Nat.gcd_dvd_right _ _)
        rw [if_pos d1, if_pos d2, c3]
      · have lt : Nat.gcd u b < i := by omega
        have nd : ¬ (u % i = 0 ∧ b % i = 0) := by
          intro ⟨d1, d2⟩
          have := Nat.le_of_dvd (by omega) (Nat.dvd_gcd (Nat.dvd_of_mod_eq_zero d1) (Nat.dvd_of_mod_eq_zero d2))
          omega
        by_cases d1 : u % i = 0
        · rw [if_pos d1, if_neg (fun d2 => nd ⟨d1, d2⟩)]; exact ih.1 lt
        · rw [if_neg d1]; exact ih.1 lt
    · unfold lowN
      split
      · exact Nat.le_refl _
      · split
        · split
          · omega
          · exact pos
        · exact pos
theorem low_tie {u b : Nat} (hu : u < 2147483648) (hb1 : 1 ≤ b) (hb : b < 900) (pt : Int32) : ((if pt = 0 then nI u else nI b) / lowD (nI u) b (b + 1)).toInt64 = mOddR u b pt := by
  have hg : 1 ≤ Nat.gcd u b := Nat.gcd_pos_of_pos_right _ (by omega)
  have hgb : Nat.gcd u b ≤ b := Nat.le_of_dvd (by omega) (Nat.gcd_dvd_right _ _)
  have e : lowD (nI u) b (b + 1) = nI (Nat.gcd u b) := by rw [lowD_n hu (by omega) _ (by omega), (lowN_gcd hb1 _).1 (by omega)]
  have := Nat.div_le_self u (Nat.gcd u b)
  have := Nat.div_le_self b (Nat.gcd u b)
  unfold mOddR
  rw [e]
  by_cases c : pt = 0
  · rw [if_pos c, if_pos c, pk_div (by omega) (by omega) (by omega), nI_l (by omega), pk_lDiv (by omega) (by omega) (by omega)]
  · rw [if_neg c, if_neg c, pk_div (by omega) (by omega) (by omega), nI_l (by omega), pk_lDiv (by omega) (by omega) (by omega)]
section ODD
variable {en : En} {f : Nat → Int32} {L k t : Nat}
theorem mean_n (hL : TiL en f L) (hk : TiK en f k) (hH : TiH f (eHi en) L) (hn : eNi en = nI t) (ht : t ≤ 9999) (h : Nat) : ∀ i, i ≤ 100 → meanN en (nI h) i = nI (mMeU f L t h i) ∧ mMeU f L t h i ≤ 400000 * i := fun i => by
  induction i with
  | zero => exact fun _ => ⟨rfl, Nat.le_refl _⟩
  | succ i ih =>
    intro hi
    obtain ⟨i1, i2⟩ := ih (by omega)
    obtain ⟨u, u1, u2⟩ := has_b hL hk (mCl f) (nI h) (t + i)
    rw [meanN, mMeU, i1, hn, nI_add, has_tie hL hk hH (by omega), hk.cloud, u2, nI_clamp (by omega)]
    exact ⟨nI_add _ _, by omega⟩
theorem much_ok (hL : TiL en f L) (hk : TiK en f k) : MuchOk f L := fun cl t h _ _ => by
  obtain ⟨u, u1, u2⟩ := has_b hL hk cl (nI h) t
  exact ⟨u, by omega, u2⟩
theorem mean_tie (hL : TiL en f L) (hk : TiK en f k) (hH : TiH f (eHi en) L) (hn : eNi en = nI t) (ht : t ≤ 9999) (ho pt : Int32) : opMean en ho pt = mMean f L t ho pt := by
  unfold opMean mMean
  by_cases c0 : fIn ho 0 1 = 0
  · rw [if_pos c0, if_pos c0]
  rw [if_neg c0, if_neg c0]
  by_cases c1 : fIn pt 0 1 = 0
  · rw [if_pos c1, if_pos c1]
  rw [if_neg c1, if_neg c1]
  obtain ⟨h, hh, rfl⟩ := fIn_k (K := 1) (by decide) c0
  obtain ⟨i1, i2⟩ := mean_n hL hk hH hn ht h 28 (by omega)
  rw [nI_clamp (by omega), i1]
  exact low_tie (by omega) (by decide) (by decide) pt
theorem fill_at {P : Nat → Int32} {g : Nat → Int32} : ∀ z, z ≤ 60 → ∀ i, i < z → fillN P g z i = P i := fun z => by
  induction z with
  | zero => exact fun _ i hi => absurd hi (Nat.not_lt_zero _)
  | succ z ih =>
    intro hz i hi
    rw [fillN, fPut_nI (by omega) (by decide)]
    by_cases c : i = z
    · rw [c, upd_eq]
    · rw [upd_ne c]; exact ih (by omega) i (by omega)
theorem i32_aab (a b : Int32) : a + b - a = b := by grind
theorem fCl_0 (x : Int32) : fCl x 0 = 0 := if_pos (by decide)
/-- what a house has seen more, were that the cloud -/
theorem sun_tie (hL : TiL en f L) (hk : TiK en f k) (hH : TiH f (eHi en) L) (hn : eNi en = nI t) (ht : t ≤ 9999) (f0 : f 0 = nI t) {z h : Nat} (hz : z ≤ 60) (hh : h ≤ 1) (cl : Int32) (g : Nat → Int32) : ∀ i, i ≤ z → mGoN f L cl t i (1 + h) = f (1 + h) + sunN 60 (fillN (dOdd en (nI h)) g z) (eNi en) cl i ∧ ∀ q, 3 ≤ q → mGoN f L cl t i q = f q := fun i => by
  induction i with
  | zero => exact fun _ => ⟨(Int32.add_zero _).symm, fun _ _ => rfl⟩
  | succ i ih =>
    intro hi
    obtain ⟨i1, i2⟩ := ih (by omega)
    have lo : ∀ q, 9 ≤ q → mGoN f L cl t i q = f q := fun q hq => i2 q (by omega)
    have hL' := hL.lo lo
    have hk' := hk.lo lo
    have hH' : TiH (mGoN f L cl t i) (eHi en) L := hH.cg hL.2.2.1 (fun q hq => i2 q (by omega))
    obtain ⟨w, hw, et, eg⟩ := mGo_c (L := L) hk' (s := t + i) (by omega) cl
    have eh := has_tie hL' hk' hH' (t := t + i) (by omega) (nI h) cl
    obtain ⟨F, hF⟩ : ∃ F, F = mGoN f L cl t i := ⟨_, rfl⟩
    rw [← hF] at i1 i2 eg eh
    have es : mGoN f L cl t (i + 1) = mGo F L cl (t + i) := by rw [hF]; rfl
    rw [es, eg]
    refine ⟨?_, fun q hq => by rw [upd_ne (by omega), upd_ne (by omega)]; exact i2 q hq⟩
    rw [upd_ne (by omega), sunN, fAt_nI (by omega) (by decide), fill_at z hz i (by omega), hn, nI_add]
    have ed : dOdd en (nI h) i = if nI w = nI h then hasN en (nI h) (nI (t + i)) (eHi en) (eL en) else 0 := by
      unfold dOdd fHas
      rw [hn, nI_add, et, fCl_0, if_pos rfl]
    have eh2 : fHas en (nI h) (nI (t + i)) (eHi en) cl = if fCl (nI (t + i)) cl = 0 then hasN en (nI h) (nI (t + i)) (eHi en) (eL en) else 0 := rfl
    rw [hn] at i1
    by_cases c : w = h
    · subst c
      rw [upd_eq, i1, ← eh, eh2, ed, if_pos rfl, Int32.add_assoc]
    · rw [upd_ne (by omega), i1, ed, if_neg (fun q => c ((nI_eq (by omega) (by omega)).mp q))]
      rw [show (if fCl (nI (t + i)) cl = 0 then (0 : Int32) else 0) = 0 from by split <;> rfl, Int32.add_zero]
theorem goo_tie (hL : TiL en f L) (hk : TiK en f k) (hH : TiH f (eHi en) L) (hn : eNi en = nI t) (ht : t ≤ 9999) (f0 : f 0 = nI t) {z h : Nat} (hz : z ≤ 60) (hh : h ≤ 1) (q : Int32) (g : Nat → Int32) : ∀ i, gooN en (fillN (dOdd en (nI h)) g z) z q i = nI (mOdU f L t z h q i) ∧ mOdU f L t z h q i ≤ i := fun i => by
  induction i with
  | zero => exact ⟨rfl, Nat.le_refl _⟩
  | succ i ih =>
    obtain ⟨i1, i2⟩ := ih
    have e := (sun_tie hL hk hH hn ht f0 hz hh (nI i) g z (Nat.le_refl _)).1
    rw [gooN, mOdU, e, i32_aab, i1]
    by_cases c : sunN 60 (fillN (dOdd en (nI h)) g z) (eNi en) (nI i) z < q
    · rw [if_pos c, if_pos c]; exact ⟨rfl, by omega⟩
    · rw [if_neg c, if_neg c]; exact ⟨nI_1 _, by omega⟩
theorem odds_tie (hL : TiL en f L) (hk : TiK en f k) (hH : TiH f (eHi en) L) (hn : eNi en = nI t) (ht : t ≤ 9999) (f0 : f 0 = nI t) (g : Nat → Int32) (ho n q pt : Int32) : opOdds en g ho n q pt = mOdds f L t ho n q pt := by
  unfold opOdds mOdds
  by_cases c0 : fIn ho 0 1 = 0
  · rw [if_pos c0, if_pos c0]
  rw [if_neg c0, if_neg c0]
  by_cases c1 : fIn n 0 60 = 0
  · rw [if_pos c1, if_pos c1]
  rw [if_neg c1, if_neg c1]
  by_cases c2 : fIn q 0 9999 = 0
  · rw [if_pos c2, if_pos c2]
  rw [if_neg c2, if_neg c2]
  by_cases c3 : fIn pt 0 1 = 0
  · rw [if_pos c3, if_pos c3]
  rw [if_neg c3, if_neg c3]
  obtain ⟨h, hh, rfl⟩ := fIn_k (K := 1) (by decide) c0
  obtain ⟨z, hz, rfl⟩ := fIn_k (K := 60) (by decide) c1
  rw [nI_clamp (show z < 2147483648 by omega), nI_clamp (show h < 2147483648 by omega)]
  obtain ⟨i1, i2⟩ := goo_tie hL hk hH hn ht f0 hz hh q g 13
  unfold oddR
  rw [i1]
  exact low_tie (by omega) (by decide) (by decide) pt
theorem plan_ok {np : Nat} {pf : Nat → Int32} (h : TiPl np pf f) : PlanOk f np := fun i hi c => by
  obtain ⟨a1, a2⟩ := h.2.2 i hi
  rw [a1] at c
  obtain ⟨b1, j, hj, ej⟩ := a2 c
  exact ⟨j, hj, by rw [b1, ej]⟩
theorem done_n {np : Nat} {pf : Nat → Int32} (hL : TiL en f L) (hk : TiK en f k) (hH : TiH f (eHi en) L) (hn : eNi en = nI t) (ht : t ≤ 9999) (f0 : f 0 = nI t) (e0 : eSe en 0 = f 1) (e1 : eSe en 1 = f 2) (hP : TiPl np pf f) {w : Nat} (hw : w ≤ 1) : ∀ i, i ≤ np → (doneN en pf (nI w) i).1 = nI (mDn f L (eCl en) t i).2 ∧ (mDn f L (eCl en) t i).2 ≤ t + i ∧ TiH (mDn f L (eCl en) t i).1 (doneN en pf (nI w) i).2.1 L ∧ (mDn f L (eCl en) t i).1 (1 + w) = (doneN en pf (nI w) i).2.2 ∧ ∀ q, 9 ≤ q → (mDn f L (eCl en) t i).1 q = f q := fun i => by
  induction i with
  | zero =>
    refine fun _ => ⟨hn, Nat.le_refl _, hH, ?_, fun _ _ => rfl⟩
    show f (1 + w) = fAt 2 (eSe en) (nI w)
    rw [fAt_nI (by omega) (by decide)]
    rcases (show w = 0 ∨ w = 1 by omega) with rfl | rfl
    · exact e0.symm
    · exact e1.symm
  | succ i ih =>
    intro hi
    obtain ⟨i1, i2, i3, i4, i5⟩ := ih (by omega)
    have hL' := hL.lo i5
    have hk' := hk.lo i5
    have hnp := hP.2.1
    obtain ⟨a1, a2⟩ := hP.2.2 i (by omega)
    have e3 : fAt 24 pf (nI i * 3 + 0) = pf (3 * i) := by rw [show nI i * 3 = nI (i * 3) from nI_mul i 3, Int32.add_zero, fAt_nI (by omega) (by decide), Nat.mul_comm]
    have e4 : fAt 24 pf (nI i * 3 + 1) = pf (3 * i + 1) := by rw [show nI i * 3 = nI (i * 3) from nI_mul i 3, nI_1, fAt_nI (by omega) (by decide), Nat.mul_comm]
    obtain ⟨D, hD⟩ : ∃ D, D = mDn f L (eCl en) t i := ⟨_, rfl⟩
    obtain ⟨E, hEE⟩ : ∃ E, E = doneN en pf (nI w) i := ⟨_, rfl⟩
    rw [← hD, ← hEE] at i1 i3 i4
    rw [← hD] at i2 i5 hL' hk'
    have eD : mDn f L (eCl en) t (i + 1) = (mGb D.1 L (eCl en) D.2 (f (82 + i)) (f (90 + i)), if f (82 + i) = 0 then D.2 + 1 else D.2) := by rw [hD]; rfl
    have eE : doneN en pf (nI w) (i + 1) = if pf (3 * i) = 0 then (E.1 + 1, E.2.1, if fTurn (eTu en) E.1 = nI w then E.2.2 + fHas en (nI w) E.1 E.2.1 (eCl en) else E.2.2) else (E.1, fWith E.2.1 (pf (3 * i + 1)) (if pf (3 * i) = 1 then 1 else 0), E.2.2) := by rw [doneN, e3, e4, ← hEE]
    rw [eD, eE, a1]
    by_cases c : pf (3 * i) = 0
    · rw [if_pos c, if_pos c]
      unfold mGb
      rw [if_pos c]
      obtain ⟨h, hh, et, eg⟩ := mGo_c (L := L) hk' (s := D.2) (by omega) (eCl en)
      have eh := has_tie hL' hk' i3 (t := D.2) (by omega) (nI w) (eCl en)
      rw [eg]
      refine ⟨by rw [i1]; exact nI_1 _, by dsimp only; omega, ?_, ?_, fun q hq => ?_⟩
      · exact i3.cg hL.2.2.1 (fun q hq => by dsimp only; rw [upd_ne (by omega), upd_ne (by omega)])
      · dsimp only
        rw [upd_ne (by omega), i1, et, eh, ← i4]
        by_cases c5 : h = w
        · subst c5
          rw [upd_eq, if_pos rfl]
        · rw [upd_ne (by omega), if_neg (fun q => c5 ((nI_eq (by omega) (by omega)).mp q))]
      · dsimp only; rw [upd_ne (by omega), upd_ne (by omega)]; exact i5 q hq
    · rw [if_neg c, if_neg c]
      obtain ⟨b1, j, hj, ej⟩ := a2 c
      unfold mGb
      rw [if_neg c, b1, ej, nI_clamp (by omega)]
      have h6 := hL.2.2.1
      refine ⟨i1, by dsimp only; omega, fun q hq => ?_, ?_, fun q hq => ?_⟩
      · show upd D.1 (3 + j) (if pf (3 * i) = 1 then 1 else 0) (3 + q) = fBit (fWith E.2.1 (nI j) (if pf (3 * i) = 1 then 1 else 0)) (nI q)
        rw [fBit_with (by omega) (by omega)]
        by_cases c6 : q = j
        · rw [c6, upd_eq, if_pos rfl]
          by_cases c7 : pf (3 * i) = 1
          · rw [if_pos c7]; rfl
          · rw [if_neg c7]; rfl
        · rw [upd_ne (by omega), if_neg c6]; exact i3 q hq
      · dsimp only; rw [upd_ne (by omega)]; exact i4
      · dsimp only; rw [upd_ne (by omega)]; exact i5 q hq
theorem done_tie {np : Nat} {pf : Nat → Int32} (hL : TiL en f L) (hk : TiK en f k) (hH : TiH f (eHi en) L) (hn : eNi en = nI t) (ht : t ≤ 9999) (f0 : f 0 = nI t) (e0 : eSe en 0 = f 1) (e1 : eSe en 1 = f 2) (hP : TiPl np pf f) (w : Int32) : opDone en np pf w = mDone f L t np w := by
  unfold opDone mDone
  by_cases c0 : fIn w 0 1 = 0
  · rw [if_pos c0, if_pos c0]
  rw [if_neg c0, if_neg c0]
  obtain ⟨h, hh, rfl⟩ := fIn_k (K := 1) (by decide) c0
  rw [nI_clamp (by omega), ← hk.cloud]
  exact (done_n hL hk hH hn ht f0 e0 e1 hP hh np (Nat.le_refl _)).2.2.2.1.symm
end ODD
