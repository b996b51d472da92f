/-! Ties of shares, rounds, phases, firm, act, trace. -/
theorem till_snoc {P : Nat → Int32} : ∀ n i, i + n < 100000 → till P (n + 1) i = if till P n i = -5 then (if P (i + n) = 0 then -5 else nI (i + n)) else till P n i := fun n => by
  induction n with
  | zero =>
    intro i hi
    rw [till, till, if_pos rfl, Nat.add_zero]
    rfl
  | succ n ih =>
    intro i hi
    have e1 : till P (n + 1 + 1) i = if P i = 0 then till P (n + 1) (i + 1) else nI i := rfl
    have e2 : till P (n + 1) i = if P i = 0 then till P n (i + 1) else nI i := rfl
    rw [e1, e2, ih (i + 1) (by omega)]
    by_cases c : P i = 0
    · rw [if_pos c, if_pos c, show i + 1 + n = i + (n + 1) by omega]
    · rw [if_neg c, if_neg c, if_neg (show ¬ nI i = -5 from fun q => nI_pos (n := i) (by omega) (by rw [q]; decide))]
section SHARES
variable {g0 g1 : Nat → Nat} {W F0 F1 : Nat → Int32} {n : Nat}
end SHARES
section SH
variable {en : En} {f : Nat → Int32} {L k t : Nat}
theorem mon_tie (hL : TiL en f L) (hk : TiK en f k) (hH : TiH f (eHi en) L) (hn : eNi en = nI t) (ht : t ≤ 9999) {j h : Nat} (hj : j < L) (hh : h ≤ 1) : ∀ i, i ≤ 100 → monN en j (nI h) i = mMon f t (2 * j + h) i ∧ ∃ u : Nat, u ≤ 60000 * i ∧ monN en j (nI h) i = nI u := fun i => by
  induction i with
  | zero => exact fun _ => ⟨rfl, 0, Nat.zero_le _, rfl⟩
  | succ i ih =>
    intro hi
    obtain ⟨i1, u, u1, u2⟩ := ih (by omega)
    have hJ := hL.2.2.2 j hj
    have h6 := hL.2.2.1
    obtain ⟨v, v1, v2⟩ := wor_b hJ hk (by omega) (nI h) (t + i)
    rw [monN, mMon, show (2 * j + h) / 2 = j by omega, show (2 * j + h) % 2 = h by omega, hn, nI_add, up_tie hJ (hH j hj), worth_tie hJ hk (by omega) (by omega), ← i1, u2, v2]
    by_cases c : mUp f j (nI (t + i)) = 0
    · rw [if_pos c, if_pos c]
      exact ⟨(Int32.add_zero _).symm, u, by omega, rfl⟩
    · rw [if_neg c, if_neg c]
      exact ⟨rfl, u + v, by omega, nI_add u v⟩
theorem wf_at {wo : Nat → Int32} : ∀ m i, i < m → mWf f t wo m i = mMon f t i 28 := fun m => by
  induction m with
  | zero => exact fun i hi => absurd hi (Nat.not_lt_zero _)
  | succ m ih =>
    intro i hi
    rw [mWf]
    by_cases c : i = m
    · rw [c, upd_eq]
    · rw [upd_ne c]; exact ih i (by omega)
theorem shares_tie (hL : TiL en f L) (hk : TiK en f k) (hH : TiH f (eHi en) L) (hn : eNi en = nI t) (ht : t ≤ 9999) (tz tn wo : Nat → Int32) (w : Int32) : opShares en tz tn w = mShares f L t wo w := by
  have h6 := hL.2.2.1
  unfold opShares mShares
  rw [hL.2.1]
  by_cases c0 : fIn w 0 1 = 0
  · rw [if_pos c0, if_pos c0]
  rw [if_neg c0, if_neg c0]
  obtain ⟨F0, hF0⟩ : ∃ F, F = fillN (dMon en 0) tz L := ⟨_, rfl⟩
  obtain ⟨F1, hF1⟩ : ∃ F, F = fillN (dMon en 1) tn L := ⟨_, rfl⟩
  obtain ⟨W, hW⟩ : ∃ F, F = mWf f t wo (2 * L) := ⟨_, rfl⟩
  rw [← hF0, ← hF1, ← hW]
  have val : ∀ h j, h ≤ 1 → j < L → monN en j (nI h) 28 = W (2 * j + h) := fun h j hh hj => by
    rw [(mon_tie hL hk hH hn ht hj hh 28 (by omega)).1, hW, wf_at _ _ (by omega)]
  have nat : ∀ h j, ∃ u : Nat, u ≤ 1680000 ∧ (j < L → h ≤ 1 → W (2 * j + h) = nI u) := fun h j => by
    by_cases c : j < L ∧ h ≤ 1
    · obtain ⟨-, u, u1, u2⟩ := mon_tie hL hk hH hn ht c.1 c.2 28 (by omega)
      exact ⟨u, by omega, fun _ _ => by rw [← val h j c.2 c.1, u2]⟩
    · exact ⟨0, by omega, fun q q2 => absurd ⟨q, q2⟩ c⟩
  obtain ⟨G0, hG0⟩ := Classical.axiomOfChoice (fun i => nat 0 i)
  obtain ⟨G1, hG1⟩ := Classical.axiomOfChoice (fun i => nat 1 i)
  have hH0 : ∀ i, i < L → W (2 * i + 0) = nI (G0 i) := fun i hi => (hG0 i).2 hi (by omega)
  have hH1 : ∀ i, i < L → W (2 * i + 1) = nI (G1 i) := fun i hi => (hG1 i).2 hi (by omega)
  have hf0 : ∀ i, i < L → F0 i = nI (G0 i) := fun i hi => by
    rw [hF0, fill_at L (by omega) i hi, ← hH0 i hi]
    exact val 0 i (by omega) hi
  have hf1 : ∀ i, i < L → F1 i = nI (G1 i) := fun i hi => by
    rw [hF1, fill_at L (by omega) i hi, ← hH1 i hi]
    exact val 1 i (by omega) hi
  have b0 : ∀ i, i < L → G0 i ≤ 2000000 := fun i _ => by have := (hG0 i).1; omega
  have b1 : ∀ i, i < L → G1 i ≤ 2000000 := fun i _ => by have := (hG1 i).1; omega
  have s00 : ∀ u, mSh W (nI u) 0 0 L = givN 60 F0 (nI u) 0 L := fun u => (msh_n (o := false) (by omega) hH0 u L (Nat.le_refl _)).trans (giv_n (by omega) hf0 u false L (Nat.le_refl _)).symm
  have s10 : ∀ u, mSh W (nI u) 1 0 L = givN 60 F0 (nI u) 1 L := fun u => (msh_n (o := true) (by omega) hH0 u L (Nat.le_refl _)).trans (giv_n (by omega) hf0 u true L (Nat.le_refl _)).symm
  have s01 : ∀ u, mSh W (nI u) 0 1 L = givN 60 F1 (nI u) 0 L := fun u => (msh_n (o := false) (by omega) hH1 u L (Nat.le_refl _)).trans (giv_n (by omega) hf1 u false L (Nat.le_refl _)).symm
  have s11 : ∀ u, mSh W (nI u) 1 1 L = givN 60 F1 (nI u) 1 L := fun u => (msh_n (o := true) (by omega) hH1 u L (Nat.le_refl _)).trans (giv_n (by omega) hf1 u true L (Nat.le_refl _)).symm
  have en1 : ∀ u : Nat, (fEnvy 60 L F0 F1 u = 0) ↔ ¬ (mEnv W L (nI u) = 0) := fun u => by
    unfold fEnvy mEnv
    rw [s00, s10, s01, s11]
    by_cases c1 : givN 60 F0 (nI u) 0 L < givN 60 F0 (nI u) 1 L
    · rw [if_pos c1, if_pos c1]; exact ⟨fun _ => by decide, fun _ => rfl⟩
    · rw [if_neg c1, if_neg c1]
      by_cases c2 : givN 60 F1 (nI u) 1 L < givN 60 F1 (nI u) 0 L
      · rw [if_pos c2, if_neg (Int32.not_le.mpr c2)]; exact ⟨fun _ => by decide, fun _ => rfl⟩
      · rw [if_neg c2, if_pos (Int32.not_lt.mp c2)]; exact ⟨fun q => absurd q (by decide), fun q => absurd rfl q⟩
  have bt : ∀ u, tT G0 G1 u L ≤ 36000000 := fun u => by
    have a := gv_b (u := u) (o := false) b0 L (Nat.le_refl _)
    have b := gv_b (u := u) (o := true) b1 L (Nat.le_refl _)
    unfold tT
    omega
  have th : ∀ u, mBth W L (nI u) = nI (tT G0 G1 u L) := fun u => by
    unfold mBth tT
    rw [s00, s11, ← nI_add]
    rw [show (0 : Int32) = b2 false from rfl, show (1 : Int32) = b2 true from rfl, giv_n (by omega) hf0 u false L (Nat.le_refl _), giv_n (by omega) hf1 u true L (Nat.le_refl _)]
  have step : ∀ u, mShS W L (u + 1) = (if (mShS W L u).1 = -5 then (if mEnv W L (nI u) = 0 then nI u else (mShS W L u).1) else (mShS W L u).1, if nI (tT G0 G1 u L) ≤ (mShS W L u).2.2 then (mShS W L u).2.1 else nI u, if nI (tT G0 G1 u L) ≤ (mShS W L u).2.2 then (mShS W L u).2.2 else nI (tT G0 G1 u L)) := fun u => by
    rw [← th]
    rfl
  have p : 1 ≤ 2 ^ L := Nat.one_le_two_pow
  have p2 : 2 ^ L ≤ 64 := Nat.pow_le_pow_right (by decide) h6
  have quiet : ∀ U, U ≤ 1000 → (mShS W L U).1 = till (fEnvy 60 L F0 F1) U 0 := fun U => by
    induction U with
    | zero => exact fun _ => rfl
    | succ U ih =>
      intro hU
      rw [step, till_snoc U 0 (by omega), ← ih (by omega), Nat.zero_add]
      dsimp only
      by_cases c : (mShS W L U).1 = -5
      · rw [if_pos c, if_pos c]
        by_cases c2 : mEnv W L (nI U) = 0
        · rw [if_pos c2, if_neg (fun q => (en1 U).mp q c2)]
        · rw [if_neg c2, if_pos ((en1 U).mpr c2), c]
      · rw [if_neg c, if_neg c]
  have best : ∀ U, ∃ b, (mShS W L (U + 1)).2 = (nI b, nI (tT G0 G1 b L)) ∧ Bst (fun u => tT G0 G1 u L) (U + 1) b := fun U => by
    induction U with
    | zero =>
      refine ⟨0, ?_, Bst.one _⟩
      have := bt 0
      have c : ¬ nI (tT G0 G1 0 L) ≤ (mShS W L 0).2.2 := Int32.not_le.mpr (show (-1 : Int32) < nI (tT G0 G1 0 L) from Int32.lt_of_lt_of_le (by decide) (nI_pos' (by omega)))
      rw [step, if_neg c, if_neg c]
    | succ U ih =>
      obtain ⟨b, e1, e2⟩ := ih
      have l1 := bt b
      have l2 := bt (U + 1)
      rw [step, e1]
      by_cases c : tT G0 G1 b L < tT G0 G1 (U + 1) L
      · have c2 : ¬ nI (tT G0 G1 (U + 1) L) ≤ nI (tT G0 G1 b L) := nI_ge c (by omega)
        dsimp only
        rw [if_neg c2, if_neg c2]
        exact ⟨U + 1, rfl, e2.new c⟩
      · have c2 : nI (tT G0 G1 (U + 1) L) ≤ nI (tT G0 G1 b L) := nI_le (by omega) (by omega)
        dsimp only
        rw [if_pos c2, if_pos c2]
        exact ⟨b, rfl, e2.old c⟩
  by_cases c1 : w = 0
  · rw [if_pos c1, if_pos c1]
    exact (quiet _ (by omega)).symm
  · rw [if_neg c1, if_neg c1]
    obtain ⟨b, e1, e2⟩ := best (2 ^ L - 1)
    rw [show 2 ^ L - 1 + 1 = 2 ^ L by omega] at e1 e2
    rw [e1, e2.eqF, ful_n (by omega) hf0 hf1 (fun i hi => by have := b0 i hi; omega) (fun i hi => by have := b1 i hi; omega) L (Nat.le_refl _)]
/-- how many of some numbers fit, and which is the least: from below and from above -/
def cntF (P : Nat → Bool) (a : Nat) : Nat → Nat
  | 0 => 0
  | i + 1 => cntF P a i + (if P (i + a) then 1 else 0)
theorem fit_up {P : Int32 → Int32} {Q : Nat → Bool} {a : Nat} {N : Nat} (hN : N + a ≤ 100) (h : ∀ v, a ≤ v → v < N + a → (P (nI v) = 0 ↔ Q v = false)) : ∀ i, i ≤ N → (fitN P a i).1 = nI (cntF Q a i) ∧ cntF Q a i ≤ i ∧ (cntF Q a i = 0 → (fitN P a i).2 = -5 ∧ ∀ v, a ≤ v → v < i + a → Q v = false) ∧ (¬ cntF Q a i = 0 → ∃ m, (fitN P a i).2 = nI m ∧ a ≤ m ∧ m < i + a ∧ Q m = true ∧ ∀ v, a ≤ v → v < m → Q v = false) := fun i => by
  induction i with
  | zero => exact fun _ => ⟨rfl, Nat.le_refl _, fun _ => ⟨rfl, fun v q q2 => by omega⟩, fun q => absurd rfl q⟩
  | succ i ih =>
    intro hi
    obtain ⟨i1, i2, i3, i4⟩ := ih (by omega)
    rw [fitN, cntF]
    by_cases c : Q (i + a) = true
    · rw [if_neg (fun q => by rw [(h (i + a) (by omega) (by omega)).mp q] at c; exact absurd c (by decide)), if_pos c, i1]
      refine ⟨nI_1 _, by omega, fun q => by omega, fun _ => ?_⟩
      by_cases c2 : cntF Q a i = 0
      · obtain ⟨a1, a2⟩ := i3 c2
        dsimp only
        rw [if_pos (by rw [c2]; rfl)]
        exact ⟨i + a, rfl, by omega, by omega, c, a2⟩
      · obtain ⟨m, m1, m2, m3, m4, m5⟩ := i4 c2
        dsimp only
        have hc : ¬ nI (cntF Q a i) = 0 := fun q => c2 ((nI_eq (b := 0) (by omega) (by omega)).mp q)
        rw [if_neg hc]
        exact ⟨m, m1, m2, by omega, m4, m5⟩
    · have cf : Q (i + a) = false := by cases q : Q (i + a) <;> simp_all
      rw [if_pos ((h (i + a) (by omega) (by omega)).mpr cf), if_neg c]
      refine ⟨i1, by omega, fun q => ⟨(i3 q).1, fun v v1 v2 => ?_⟩, fun q => ?_⟩
      · rcases Nat.lt_or_ge v (i + a) with z | z
        · exact (i3 q).2 v v1 z
        · rw [show v = i + a by omega]; exact cf
      · obtain ⟨m, m1, m2, m3, m4, m5⟩ := i4 q
        exact ⟨m, m1, m2, by omega, m4, m5⟩
def cntD (Q : Nat → Bool) (mo : Nat) : Nat → Nat
  | 0 => 0
  | i + 1 => cntD Q mo i + (if Q (mo - i) then 1 else 0)
theorem cnt_split {Q : Nat → Bool} : ∀ n a, cntF Q a (n + 1) = (if Q a then 1 else 0) + cntF Q (a + 1) n := fun n => by
  induction n with
  | zero => intro a; simp [cntF]
  | succ n ih =>
    intro a
    rw [cntF, ih a, cntF, show n + 1 + a = n + (a + 1) by omega]
    omega
theorem cntD_F {Q : Nat → Bool} {mo : Nat} : ∀ i, i ≤ mo + 1 → cntD Q mo i = cntF Q (mo + 1 - i) i := fun i => by
  induction i with
  | zero => exact fun _ => rfl
  | succ i ih =>
    intro hi
    rw [cntD, ih (by omega), show mo + 1 - (i + 1) = mo - i by omega, cnt_split i (mo - i), show mo - i + 1 = mo + 1 - i by omega]
    omega
theorem fit_dn {f : Nat → Int32} {w j t nn mo : Nat} {Q : Nat → Bool} {le : Nat} (h : ∀ v, le ≤ v → v ≤ mo → (mNo (upd f w (nI v)) j t nn = 0 ↔ Q v = false)) : ∀ i, i + le ≤ mo + 1 → (mFi f w j t nn mo i).1 = nI (cntD Q mo i) ∧ ((∀ v, mo + 1 - i ≤ v → v ≤ mo → Q v = false) → (mFi f w j t nn mo i).2 = -5) ∧ (∀ m, mo + 1 - i ≤ m → m ≤ mo → Q m = true → (∀ v, mo + 1 - i ≤ v → v < m → Q v = false) → (mFi f w j t nn mo i).2 = nI m) := fun i => by
  induction i with
  | zero => exact fun _ => ⟨rfl, fun _ => rfl, fun m q q2 _ _ => by omega⟩
  | succ i ih =>
    intro hi
    obtain ⟨i1, i2, i3⟩ := ih (by omega)
    rw [mFi, cntD]
    by_cases c : Q (mo - i) = true
    · rw [if_neg (fun q => by rw [(h (mo - i) (by omega) (by omega)).mp q] at c; exact absurd c (by decide)), if_pos c, i1]
      refine ⟨nI_1 _, fun q => ?_, fun m m1 m2 m3 m4 => ?_⟩
      · rw [q (mo - i) (by omega) (by omega)] at c; exact absurd c (by decide)
      · rcases Nat.lt_trichotomy m (mo - i) with z | z | z
        · omega
        · rw [z]
        · rw [m4 (mo - i) (by omega) z] at c; exact absurd c (by decide)
    · have cf : Q (mo - i) = false := by cases q : Q (mo - i) <;> simp_all
      rw [if_pos ((h (mo - i) (by omega) (by omega)).mpr cf), if_neg c]
      refine ⟨i1, fun q => i2 (fun v v1 v2 => q v (by omega) v2), fun m m1 m2 m3 m4 => ?_⟩
      have : m ≠ mo - i := fun e => by rw [e, cf] at m3; exact absurd m3 (by decide)
      exact i3 m (by omega) m2 m3 (fun v v1 v2 => m4 v (by omega) v2)
theorem fit_eq {P : Int32 → Int32} {f : Nat → Int32} {w j t nn le mo : Nat} (hm : mo ≤ 30) (hl : le ≤ 1) (h : ∀ v, le ≤ v → v ≤ mo → (P (nI v) = 0 ↔ mNo (upd f w (nI v)) j t nn = 0)) (x : Int32) : (if x = 0 then (fitN P le (mo + 1 - le)).1 else (fitN P le (mo + 1 - le)).2) = mFit f w j t nn le mo x := by
  obtain ⟨Q, hQ⟩ : ∃ Q : Nat → Bool, Q = fun v => !decide (P (nI v) = 0) := ⟨_, rfl⟩
  have q1 : ∀ v, le ≤ v → v < (mo + 1 - le) + le → (P (nI v) = 0 ↔ Q v = false) := fun v _ _ => by rw [hQ]; simp
  have q2 : ∀ v, le ≤ v → v ≤ mo → (mNo (upd f w (nI v)) j t nn = 0 ↔ Q v = false) := fun v hl hv => (h v hl hv).symm.trans (q1 v hl (by omega))
  by_cases hle : le ≤ mo + 1
  · have e9 : mo + 1 - (mo + 1 - le) = le := by omega
    have e8 : mo + 1 - le ≤ mo + 1 := by omega
    obtain ⟨u1, u2, u3, u4⟩ := fit_up (a := le) (N := mo + 1 - le) (by omega) q1 (mo + 1 - le) (Nat.le_refl _)
    obtain ⟨d1, d2, d3⟩ := fit_dn q2 (mo + 1 - le) (by omega)
    rw [cntD_F _ e8, e9] at d1
    rw [e9] at d2 d3
    unfold mFit
    by_cases c : x = 0
    · rw [if_pos c, if_pos c, u1, d1]
    · rw [if_neg c, if_neg c]
      by_cases c2 : cntF Q le (mo + 1 - le) = 0
      · obtain ⟨a1, a2⟩ := u3 c2
        rw [a1, d2 (fun v v1 v2 => a2 v v1 (by omega))]
      · obtain ⟨m, m1, m2, m3, m4, m5⟩ := u4 c2
        rw [m1, d3 m m2 (by omega) m4 m5]
  · omega
end SH
