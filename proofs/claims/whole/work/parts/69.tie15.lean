/-! The sky that is read: what holds then. -/
theorem mEmL_at {f : Nat → Int32} {a : Nat} (ha : a < 5) : ∀ (L : List Int32) (q : Nat), q ≠ 224 + a → mEmL f a L q = if 229 + 140 * a ≤ q ∧ q < 229 + 140 * a + L.length then cdL L (q - (229 + 140 * a)) else f q := fun L => by
  induction L with
  | nil => exact fun q _ => by rw [if_neg (by simp)]; rfl
  | cons x r ih =>
    intro q hq
    show upd (upd (mEmL f a r) (229 + 140 * a + r.length) x) (224 + a) (nI (r.length + 1)) q = if 229 + 140 * a ≤ q ∧ q < 229 + 140 * a + (r.length + 1) then (if q - (229 + 140 * a) = r.length then x else cdL r (q - (229 + 140 * a))) else f q
    rw [upd_ne hq]
    by_cases c : q = 229 + 140 * a + r.length
    · rw [c, upd_eq, if_pos (by omega), if_pos (by omega)]
    · rw [upd_ne c, ih q hq]
      by_cases c2 : 229 + 140 * a ≤ q ∧ q < 229 + 140 * a + r.length
      · rw [if_pos c2, if_pos (by omega), if_neg (by omega)]
      · rw [if_neg c2, if_neg (by omega)]
theorem skF_at {f : Nat → Int32} {a q : Nat} (h1 : q ≠ 14) (h2 : q ≠ 224 + a) : skF f a q = f q := by
  unfold skF
  rw [upd_ne h2, upd_ne h1]
theorem cnt_code {f : Nat → Int32} {a : Nat} (ha : a < 5) {tu cl : Int32} {L : List Int32} {i : Nat} (hi : i < L.length) : cnt (skF f a) a tu cl L (229 + 140 * a + i) = cdL L i := by
  unfold cnt
  rw [mEmL_at ha L _ (by omega), if_pos (by omega)]
  congr 1
  omega
theorem cnt_far {f : Nat → Int32} {a : Nat} (ha : a < 5) {tu cl : Int32} {L : List Int32} (hl : L.length ≤ 140) {q : Nat} (h0 : q ≠ 14) (h1 : q ≠ 214 + a) (h2 : q ≠ 219 + a) (h3 : q ≠ 224 + a) (h4 : q < 229 + 140 * a ∨ 229 + 140 * a + 140 ≤ q) : cnt (skF f a) a tu cl L q = f q := by
  unfold cnt
  rw [mEmL_at ha L _ h3, if_neg (by omega)]
  unfold mTC
  rw [upd_ne h2, upd_ne h1, skF_at h0 h3]
theorem cnt_tuv {f : Nat → Int32} {a : Nat} (ha : a < 5) {tu cl : Int32} {L : List Int32} : cnt (skF f a) a tu cl L (214 + a) = tu ∧ cnt (skF f a) a tu cl L (219 + a) = cl ∧ cnt (skF f a) a tu cl L (224 + a) = nI L.length := by
  refine ⟨?_, ?_, cnt_n ha upd_eq L⟩
  · unfold cnt
    rw [mEmL_at ha L _ (by omega), if_neg (by omega)]
    unfold mTC
    rw [upd_ne (by omega), upd_eq]
  · unfold cnt
    rw [mEmL_at ha L _ (by omega), if_neg (by omega)]
    unfold mTC
    rw [upd_eq]
theorem tp_at : ∀ L : List Int32, mTop (cdL L) L.length = tpL L := fun L => by
  induction L with
  | nil => rfl
  | cons x r ih =>
    show tpN (cdL (x :: r) r.length) (mTop (cdL (x :: r)) r.length) = tpN x (tpL r)
    rw [show cdL (x :: r) r.length = x from if_pos rfl, mTop_congr (g := cdL (x :: r)) (h := cdL r) r.length (fun i hi => if_neg (by omega)), ih]
theorem okL_at : ∀ L : List Int32, okL L → ∀ i, i < L.length → okS (cdL L i) (mTop (cdL L) i) := fun L => by
  induction L with
  | nil => exact fun _ i hi => absurd hi (Nat.not_lt_zero _)
  | cons x r ih =>
    intro h i hi
    have hi' : i < r.length + 1 := hi
    have e : mTop (cdL (x :: r)) i = mTop (cdL r) i := mTop_congr i (fun q hq => if_neg (by omega))
    rw [e]
    by_cases c : i = r.length
    · rw [c, show cdL (x :: r) r.length = x from if_pos rfl, tp_at]
      exact h.1
    · rw [show cdL (x :: r) i = cdL r i from if_neg c]
      exact ih h.2 i (by omega)
theorem HdOk.pt {f f' : Nat → Int32} {a n tu cl : Nat} (h : HdOk f a n tu cl) (e1 : f' 15 = f 15) (e2 : f' (214 + a) = f (214 + a)) (e3 : f' (219 + a) = f (219 + a)) (e4 : f' (224 + a) = f (224 + a)) (e5 : ∀ i, i < n → f' (229 + 140 * a + i) = f (229 + 140 * a + i)) : HdOk f' a n tu cl := by
  obtain ⟨h1, h2, h3, h4, h5, h6, h7, h8, h9⟩ := h
  refine ⟨h1, by rw [e1]; exact h2, by rw [e4]; exact h3, h4, by rw [e2]; exact h5, h6, by rw [e3]; exact h7, h8, fun i hi => ?_⟩
  rw [show mCo f' a i = mCo f a i from e5 i hi, mTop_congr (g := mCo f' a) (h := mCo f a) i (fun q hq => e5 q (by omega))]
  exact h9 i hi
def enSk (en : En) (k z : Nat) (tu cl : Int32) (F1 F2 F3 : Nat → Int32) : En := ((eNi en, eL en, nI k, eHi en), en.2.1, en.2.2.1, (z, tu, cl), (F1, F2, F3))
theorem fCopy_at {n : Nat} {F w : Nat → Int32} {i : Nat} (hi : i < n) : fCopy n n F w i = F i := by
  unfold fCopy va_cpy
  rw [if_pos (by rw [Nat.min_self]; omega)]
  congr 1
  omega
theorem sky_tie {en : En} {f af : Nat → Int32} {tc a : Nat} (hk : TiK en f a) (ha : a < 5) (hTa : TiTa tc af f) (ra : R1) (sa : S1) (w1 w2 w3 : Nat → Int32) :
    ((pF (rdN (nI tc) af ra sa).1 < 0 ∧ (mSky f tc a).1 = nI a ∧ ∃ n : Nat, zZ (rdN (nI tc) af ra sa).2 = nI n ∧ n ≤ 100 ∧ TiK (enSk en (a + 1) n (zT (rdN (nI tc) af ra sa).2) (zC (rdN (nI tc) af ra sa).2) (fCopy 100 100 (zA (rdN (nI tc) af ra sa).2) w1) (fCopy 100 100 (zB (rdN (nI tc) af ra sa).2) w2) (fCopy 100 100 (zD (rdN (nI tc) af ra sa).2) w3)) (mSky f tc a).2 (a + 1)) ∨
     (¬ pF (rdN (nI tc) af ra sa).1 < 0 ∧ (mSky f tc a).1 = -10 - pF (rdN (nI tc) af ra sa).1 ∧ TiK en (mSky f tc a).2 a)) ∧ (mSky f tc a).2 14 = 0 ∧ ∀ q, q < 214 → q ≠ 10 → q ≠ 14 → q ≠ 15 → (mSky f tc a).2 q = f q := by
  obtain ⟨t1, t2, t3⟩ := hTa
  have hT : TP (skF f a) tc af := ⟨t2, fun i hi => by rw [skF_at (by omega) (by omega)]; exact t3 i hi⟩
  have hr := sky_read hT ra sa
  have hLen : (qL (qRQ (skF f a) tc).2).length ≤ 100 := by
    have hV := (read_tie hT ra sa).1
    have := hV.1
    have := hV.2.1
    omega
  obtain ⟨Q, hQ⟩ : ∃ Q, Q = rdN (nI tc) af ra sa := ⟨_, rfl⟩
  obtain ⟨W, hW⟩ : ∃ W, W = qRQ (skF f a) tc := ⟨_, rfl⟩
  rw [← hQ] at hr ⊢
  rw [← hW] at hr hLen
  have eC : mSkyC f tc a = cnt (skF f a) a W.1.1 W.1.2 (qL W.2) := by unfold mSkyC; rw [← hW]
  have lo : ∀ q, q < 214 → q ≠ 14 → cnt (skF f a) a W.1.1 W.1.2 (qL W.2) q = f q := fun q q1 q2 => cnt_far ha (by omega) q2 (by omega) (by omega) (by omega) (by omega)
  have c14 : cnt (skF f a) a W.1.1 W.1.2 (qL W.2) 14 = 0 := by
    rw [cnt_lo (by omega)]
    unfold skF
    rw [upd_ne (by omega), upd_eq]
  obtain ⟨u1, u2, u3⟩ := cnt_tuv (f := f) ha (tu := W.1.1) (cl := W.1.2) (L := qL W.2)
  rcases hr with ⟨⟨r1, r2⟩, r3, r4, r5, r6, r7, r8, ⟨n1, m1, m2⟩, n2, m3, m4⟩ | ⟨r1, r2, r3⟩
  · have e : mSky f tc a = (nI a, upd (upd (mSkyC f tc a) 10 (nI (a + 1))) 15 (nI a)) := by
      unfold mSky
      rw [← hW, if_pos r1, if_pos r2]
    rw [e, eC]
    refine ⟨Or.inl ⟨r3, rfl, (qL W.2).length, r4.1, r8, ?_⟩, ?_, fun q q1 q2 q3 q4 => ?_⟩
    · have cd : ∀ i, i < (qL W.2).length → mCo (upd (upd (cnt (skF f a) a W.1.1 W.1.2 (qL W.2)) 10 (nI (a + 1))) 15 (nI a)) a i = cdL (qL W.2) i := fun i hi => by
        unfold mCo
        rw [upd_ne (by omega), upd_ne (by omega)]
        exact cnt_code ha hi
      refine ⟨rfl, ?_, by omega, Or.inr ⟨a, (qL W.2).length, n1, n2, rfl, ⟨ha, (by dsimp only; exact upd_eq), ?_, by omega, ?_, m1, ?_, m3, fun i hi => ?_⟩, r8, rfl, ?_, ?_, fun i hi => ?_⟩⟩
      · dsimp only; rw [upd_ne (by omega), upd_eq]
      · dsimp only; rw [upd_ne (by omega), upd_ne (by omega)]; exact u3
      · dsimp only; rw [upd_ne (by omega), upd_ne (by omega), u1]; exact m2
      · dsimp only; rw [upd_ne (by omega), upd_ne (by omega), u2]; exact m4
      · dsimp only
        rw [cd i hi, mTop_congr (g := mCo _ a) (h := cdL (qL W.2)) i (fun q hq => cd q (by omega))]
        exact okL_at _ r7 i hi
      · show zT Q.2 = _
        rw [r5, m2]
        unfold tuO
        by_cases z : n1 = 0
        · subst z; decide
        · rw [if_neg z, if_neg (nI_ne0 (by omega) (by omega))]
      · show zC Q.2 = _
        rw [r6, m4]
      · show StpEq (fCopy 100 100 (zA Q.2) w1 i) (fCopy 100 100 (zB Q.2) w2 i) (fCopy 100 100 (zD Q.2) w3 i) _
        rw [fCopy_at (by omega), fCopy_at (by omega), fCopy_at (by omega)]
        dsimp only
        rw [cd i hi]
        exact r4.2 i hi
    · dsimp only; rw [upd_ne (by omega), upd_ne (by omega)]; exact c14
    · dsimp only; rw [upd_ne q4, upd_ne q2]; exact lo q q1 q3
  · have e : mSky f tc a = (-10 - nI (qS W.2), mSkyC f tc a) := by
      unfold mSky
      rw [← hW]
      by_cases z : qZ W.2 = 0
      · rw [if_pos z, if_neg (fun y => r1 ⟨z, y⟩)]
      · rw [if_neg z]
    rw [e, eC]
    refine ⟨Or.inr ⟨r3, by rw [r2], ?_⟩, c14, fun q q1 q2 q3 q4 => lo q q1 q3⟩
    obtain ⟨k1, k2, k3, k4⟩ := hk
    refine ⟨k1, by dsimp only; rw [lo 10 (by omega) (by omega)]; exact k2, k3, ?_⟩
    rcases k4 with ⟨b1, b2, b3⟩ | ⟨a0, n, tu, cl, b1, b2, b3, b4, b5, b6, b7⟩
    · exact Or.inl ⟨b1, by dsimp only; rw [lo 15 (by omega) (by omega)]; exact b2, b3⟩
    · have h4 := b2.2.2.2.1
      have far : ∀ q, q ≠ 14 → q ≠ 214 + a → q ≠ 219 + a → q ≠ 224 + a → (q < 229 + 140 * a ∨ 229 + 140 * a + 140 ≤ q) → cnt (skF f a) a W.1.1 W.1.2 (qL W.2) q = f q := fun q q1 q2 q3 q4 q5 => cnt_far ha (by omega) q1 q2 q3 q4 q5
      refine Or.inr ⟨a0, n, tu, cl, b1, ?_, b3, b4, b5, b6, fun i hi => ?_⟩
      · exact b2.pt (far _ (by omega) (by omega) (by omega) (by omega) (by omega)) (far _ (by omega) (by omega) (by omega) (by omega) (by omega)) (far _ (by omega) (by omega) (by omega) (by omega) (by omega)) (far _ (by omega) (by omega) (by omega) (by omega) (by omega)) (fun i hi => far _ (by omega) (by omega) (by omega) (by omega) (by omega))
      · rw [show mCo (cnt (skF f a) a W.1.1 W.1.2 (qL W.2)) a0 i = mCo f a0 i from far _ (by omega) (by omega) (by omega) (by omega) (by omega)]
        exact b7 i hi
