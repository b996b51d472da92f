/-! The base of a light: bits of the class against truths of the reference. -/
theorem bL_shr1 (x : Int32) (k : Nat) (hk : 1 + k < 32) : bL (x >>> ((1 : Int32) &&& 31)) k = bL x (1 + k) := bL_shr x (j := 1) (by decide) k hk
theorem bL_shl1 (x : Int32) (k : Nat) (hk : k < 32) : bL (x <<< ((1 : Int32) &&& 31)) k = (decide (1 ≤ k) && bL x (k - 1)) := bL_shl x (j := 1) (by decide) k hk
theorem bL_b2 (b : Bool) (k : Nat) : bL (b2 b) k = (b && decide (k = 0)) := by cases b <;> simp [b2, bL_1, bL_0]
def BitR (x : Int32) (t : Nat) (T : Nat → Int32) : Prop := ∀ k, k < t → T (t - 1 - k) = b2 (bL x k)
def sgO (w : Nat) : Int32 := if w = 0 then 112 else if w = 1 then 107 else if w = 2 then 118 else if w = 3 then 104 else if w = 4 then 110 else 109
/-- a step of the class, and the reference's number for it -/
def StpEq (t sg nu x : Int32) : Prop := (t = 3 ∧ x = -1) ∨ (t = 4 ∧ x = -2) ∨ (t = 5 ∧ x = -3) ∨ (∃ n : Nat, n ≤ 99 ∧ t = 6 ∧ nu = nI n ∧ x = -10 - nI n) ∨ (∃ n : Nat, n ≤ 99 ∧ t = 7 ∧ nu = nI n ∧ x = -200 - nI n) ∨ (∃ w h v : Nat, w < 6 ∧ h < 3 ∧ v ≤ 99 ∧ t = nI h ∧ sg = sgO w ∧ nu = nI v ∧ x = nI (w + 8 * h + 32 * v))
theorem dear_n : ∀ n : Nat, n < 100 → (-10 - nI n < 0) ∧ ¬ (-10 - nI n = -1) ∧ (-10 - nI n ≤ -10) ∧ ¬ (-10 - nI n ≤ -200) ∧ (-200 < -10 - nI n) ∧ -10 - (-10 - nI n) = nI n ∧ -299 ≤ -10 - nI n := by decide +kernel
theorem dim_n : ∀ n : Nat, n < 100 → (-200 - nI n < 0) ∧ ¬ (-200 - nI n = -1) ∧ (-200 - nI n ≤ -10) ∧ (-200 - nI n ≤ -200) ∧ ¬ (-200 < -200 - nI n) ∧ -200 - (-200 - nI n) = nI n ∧ -299 ≤ -200 - nI n := by decide +kernel
theorem cNot_b (b : Bool) : cNot (b2 b) = b2 (!b) := by cases b <;> rfl
theorem cAnd_b (a b : Bool) : cTwo (-2) (b2 a) (b2 b) = b2 (a && b) := by cases a <;> cases b <;> rfl
theorem cOr_b (a b : Bool) : cTwo (-3) (b2 a) (b2 b) = b2 (a || b) := by cases a <;> cases b <;> rfl
theorem mul_b (x : Int32) (b : Bool) : x * b2 b = if b then x else 0 := by
  cases b
  · exact Int32.mul_zero
  · exact Int32.mul_one x
theorem fFact_w {f : Nat → Int32} {j w : Nat} {k v ho ni : Int32} (hw : w < 6) (hk : f (16 + j) = k) (hv : f (22 + j) = v) : fFact (sgO w) (nI j) k v ho ni = mFa f j ho ni w := by
  subst hk
  subst hv
  rcases (show w = 0 ∨ w = 1 ∨ w = 2 ∨ w = 3 ∨ w = 4 ∨ w = 5 by omega) with rfl | rfl | rfl | rfl | rfl | rfl <;> rfl
theorem tst_t {h : Nat} (hh : h < 3) {v fa z1 z2 : Int32} : bOne (nI h) v fa (z1, z2) = (z1, (z2 <<< ((1 : Int32) &&& 31)) ||| tst (nI h) v fa) := by
  rcases (show h = 0 ∨ h = 1 ∨ h = 2 by omega) with rfl | rfl | rfl <;> rfl
theorem step_tie {f : Nat → Int32} {j tp : Nat} {t sg nu x k v ho ni z1 z2 : Int32} {T : Nat → Int32} (hk : f (16 + j) = k) (hv : f (22 + j) = v) (hs : StpEq t sg nu x) (ho' : okS x tp) (hB : BitR z2 tp T) :
    (bOne t nu (fFact sg (nI j) k v ho ni) (z1, z2)).1 = (mB1 (mFa f j ho ni) x tp (z1, T)).1 ∧ BitR (bOne t nu (fFact sg (nI j) k v ho ni) (z1, z2)).2 (tpN x tp) (mB1 (mFa f j ho ni) x tp (z1, T)).2 := by
  obtain ⟨o0, o1, o2, o3, o4, o5⟩ := ho'
  rcases hs with ⟨rfl, rfl⟩ | ⟨rfl, rfl⟩ | ⟨rfl, rfl⟩ | ⟨n, hn, rfl, rfl, rfl⟩ | ⟨n, hn, rfl, rfl, rfl⟩ | ⟨w, h, u, hw, hh, hu, rfl, rfl, rfl, rfl⟩
  · have t1 := o2 (by decide)
    refine ⟨rfl, fun q hq => ?_⟩
    have hq2 : q < tp := hq
    show upd T (tp - 1) (cNot (T (tp - 1))) (tp - 1 - q) = b2 (bL (z2 ^^^ 1) q)
    rw [bL_xor, bL_1]
    by_cases c : q = 0
    · subst c
      have h0 := hB 0 t1
      rw [Nat.sub_zero] at h0 ⊢
      rw [upd_eq, h0, cNot_b]
      simp
    · rw [upd_ne (by omega), hB q hq2]
      simp [c]
  · have t2 := o3 (by decide) (by decide) (by decide)
    refine ⟨rfl, fun q hq => ?_⟩
    have hq2 : q < tp - 1 := hq
    show upd T (tp - 2) (cTwo (-2) (T (tp - 2)) (T (tp - 1))) (tp - 1 - 1 - q) = b2 (bL ((z2 >>> ((1 : Int32) &&& 31)) &&& (z2 ||| (-2))) q)
    rw [bL_and, bL_or, bL_shr1 _ _ (by omega), bL_m2 (by omega)]
    by_cases c : q = 0
    · subst c
      have h0 := hB 0 (by omega)
      have h1 := hB 1 (by omega)
      rw [show tp - 1 - 1 = tp - 2 by omega] at h1
      rw [show tp - 1 - 1 - 0 = tp - 2 by omega, upd_eq, h1, show tp - 1 = tp - 1 - 0 by omega, h0, cAnd_b]
      simp
    · have h1 := hB (1 + q) (by omega)
      rw [upd_ne (by omega), show tp - 1 - 1 - q = tp - 1 - (1 + q) by omega, h1]
      simp [c]
  · have t2 := o3 (by decide) (by decide) (by decide)
    refine ⟨rfl, fun q hq => ?_⟩
    have hq2 : q < tp - 1 := hq
    show upd T (tp - 2) (cTwo (-3) (T (tp - 2)) (T (tp - 1))) (tp - 1 - 1 - q) = b2 (bL ((z2 >>> ((1 : Int32) &&& 31)) ||| (z2 &&& 1)) q)
    rw [bL_or, bL_and, bL_shr1 _ _ (by omega), bL_1]
    by_cases c : q = 0
    · subst c
      have h0 := hB 0 (by omega)
      have h1 := hB 1 (by omega)
      rw [show tp - 1 - 1 = tp - 2 by omega] at h1
      rw [show tp - 1 - 1 - 0 = tp - 2 by omega, upd_eq, h1, show tp - 1 = tp - 1 - 0 by omega, h0, cOr_b]
      simp
    · have h1 := hB (1 + q) (by omega)
      rw [upd_ne (by omega), show tp - 1 - 1 - q = tp - 1 - (1 + q) by omega, h1]
      simp [c]
  · obtain ⟨d1, d2, d3, d4, d5, d6, -⟩ := dear_n n (by omega)
    have t3 := o4 d1 d2 d3
    subst t3
    have h0 : T 0 = b2 (bL z2 0) := hB 0 (by decide)
    have e : tpN (-10 - nI n) 1 = 0 := by unfold tpN; rw [if_pos d1, if_neg d2, if_pos d3]
    rw [e]
    refine ⟨?_, fun q hq => absurd hq (Nat.not_lt_zero _)⟩
    unfold mB1
    rw [if_pos d1, if_neg d2, if_pos d3]
    show z1 + nI n * (z2 &&& 1) = z1 + cDe (-10 - nI n) (T 0) - cDi (-10 - nI n) (T 0)
    rw [h0, and1, mul_b]
    unfold cDe cDi
    rw [if_neg d4, if_pos d5, d6]
    cases bL z2 0 <;> simp [b2]
  · obtain ⟨d1, d2, d3, d4, d5, d6, -⟩ := dim_n n (by omega)
    have t3 := o4 d1 d2 d3
    subst t3
    have h0 : T 0 = b2 (bL z2 0) := hB 0 (by decide)
    have e : tpN (-200 - nI n) 1 = 0 := by unfold tpN; rw [if_pos d1, if_neg d2, if_pos d3]
    rw [e]
    refine ⟨?_, fun q hq => absurd hq (Nat.not_lt_zero _)⟩
    unfold mB1
    rw [if_pos d1, if_neg d2, if_pos d3]
    show z1 - nI n * (z2 &&& 1) = z1 + cDe (-200 - nI n) (T 0) - cDi (-200 - nI n) (T 0)
    rw [h0, and1, mul_b]
    unfold cDe cDi
    rw [if_pos d4, if_neg d5, d6]
    cases bL z2 0 <;> simp [b2]
  · have c1 : ¬ nI (w + 8 * h + 32 * u) < 0 := nI_pos (by omega)
    have e8 : iR (nI (w + 8 * h + 32 * u)) 8 = nI w := by
      rw [show iR (nI (w + 8 * h + 32 * u)) 8 = nI ((w + 8 * h + 32 * u) % 8) from iR_nI (d := 8) (by omega) (by decide) (by decide)]
      congr 1
      omega
    have e4 : iR (nI (w + 8 * h + 32 * u) / 8) 4 = nI h := by
      rw [show nI (w + 8 * h + 32 * u) / 8 = nI ((w + 8 * h + 32 * u) / 8) from pk_div (d := 8) (by omega) (by decide) (by decide), show iR (nI ((w + 8 * h + 32 * u) / 8)) 4 = nI ((w + 8 * h + 32 * u) / 8 % 4) from iR_nI (d := 4) (by omega) (by decide) (by decide)]
      congr 1
      omega
    have e32 : nI (w + 8 * h + 32 * u) / 32 = nI u := by
      rw [show nI (w + 8 * h + 32 * u) / 32 = nI ((w + 8 * h + 32 * u) / 32) from pk_div (d := 32) (by omega) (by decide) (by decide)]
      congr 1
      omega
    have et : tpN (nI (w + 8 * h + 32 * u)) tp = tp + 1 := if_neg c1
    rw [fFact_w hw hk hv, tst_t hh, et]
    unfold mB1
    rw [if_neg c1, e8, e4, e32, nI_clamp (by omega)]
    refine ⟨rfl, fun q hq => ?_⟩
    obtain ⟨b, hb⟩ : ∃ b, tst (nI h) (nI u) (mFa f j ho ni w) = b2 b := by
      rcases tst_01 (nI h) (nI u) (mFa f j ho ni w) with e | e
      · exact ⟨false, e⟩
      · exact ⟨true, e⟩
    show upd T tp (tst (nI h) (nI u) (mFa f j ho ni w)) (tp + 1 - 1 - q) = b2 (bL ((z2 <<< ((1 : Int32) &&& 31)) ||| tst (nI h) (nI u) (mFa f j ho ni w)) q)
    rw [hb, bL_or, bL_shl1 _ _ (by omega), bL_b2]
    by_cases c : q = 0
    · subst c
      rw [show tp + 1 - 1 - 0 = tp by omega, upd_eq]
      simp
    · rw [upd_ne (by omega), show tp + 1 - 1 - q = tp - 1 - (q - 1) by omega, hB (q - 1) (by omega)]
      simp [c, show 1 ≤ q by omega]
theorem base_tie {f : Nat → Int32} {j a n : Nat} {F1 F2 F3 : Nat → Int32} {k v ho ni : Int32} (hk : f (16 + j) = k) (hv : f (22 + j) = v) (hn : n ≤ 100) (hS : ∀ i, i < n → StpEq (F1 i) (F2 i) (F3 i) (mCo f a i)) (hO : ∀ i, i < n → okS (mCo f a i) (mTop (mCo f a) i)) : ∀ i, i ≤ n → (bRun 100 F1 F2 F3 (nI j) k v ho ni i).1 = (mBr (mFa f j ho ni) (mCo f a) i).1 ∧ BitR (bRun 100 F1 F2 F3 (nI j) k v ho ni i).2 (mTop (mCo f a) i) (mBr (mFa f j ho ni) (mCo f a) i).2 := fun i => by
  induction i with
  | zero => exact fun _ => ⟨rfl, fun k hk => absurd hk (Nat.not_lt_zero _)⟩
  | succ i ih =>
    intro hi
    obtain ⟨h1, h2⟩ := ih (by omega)
    obtain ⟨z, hz⟩ : ∃ z, z = bRun 100 F1 F2 F3 (nI j) k v ho ni i := ⟨_, rfl⟩
    obtain ⟨y, hy⟩ : ∃ y, y = mBr (mFa f j ho ni) (mCo f a) i := ⟨_, rfl⟩
    have e1 : bRun 100 F1 F2 F3 (nI j) k v ho ni (i + 1) = bOne (F1 i) (F3 i) (fFact (F2 i) (nI j) k v ho ni) z := by
      rw [bRun, fAt_nI (by omega) (by decide), fAt_nI (by omega) (by decide), fAt_nI (by omega) (by decide), ← hz]
    have e2 : mBr (mFa f j ho ni) (mCo f a) (i + 1) = mB1 (mFa f j ho ni) (mCo f a i) (mTop (mCo f a) i) y := by rw [mBr, ← hy]
    rw [← hz, ← hy] at h1
    rw [← hz, ← hy] at h2
    rw [e1, e2]
    obtain ⟨z1, z2⟩ := z
    obtain ⟨y1, T⟩ := y
    have h1' : z1 = y1 := h1
    subst h1'
    exact step_tie hk hv (hS i (by omega)) (hO i (by omega)) h2
