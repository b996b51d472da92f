/-- a reading: the place, whether it is wrong, the steps told (the newest first) -/
abbrev Q9 : Type := Nat × Int32 × List Int32
def qS (q : Q9) : Nat := q.1
def qZ (q : Q9) : Int32 := q.2.1
def qL (q : Q9) : List Int32 := q.2.2
def mTC (f : Nat → Int32) (a : Nat) (tu cl : Int32) : Nat → Int32 := upd (upd f (214 + a) tu) (219 + a) cl
def mEmL (f : Nat → Int32) (a : Nat) : List Int32 → (Nat → Int32)
  | [] => f
  | x :: r => upd (upd (mEmL f a r) (229 + 140 * a + r.length) x) (224 + a) (nI (r.length + 1))
def cnt (f : Nat → Int32) (a : Nat) (tu cl : Int32) (L : List Int32) : Nat → Int32 := mEmL (mTC f a tu cl) a L
theorem mEmL_lo {f : Nat → Int32} {a : Nat} {q : Nat} (h : q < 224) : ∀ L : List Int32, mEmL f a L q = f q := fun L => by
  induction L with
  | nil => rfl
  | cons x r ih =>
    show upd (upd (mEmL f a r) (229 + 140 * a + r.length) x) (224 + a) (nI (r.length + 1)) q = f q
    rw [upd_ne (by omega), upd_ne (by omega)]
    exact ih
theorem cnt_lo {f : Nat → Int32} {a : Nat} {tu cl : Int32} {L : List Int32} {q : Nat} (h : q < 214) : cnt f a tu cl L q = f q := by
  unfold cnt
  rw [mEmL_lo (by omega)]
  unfold mTC
  rw [upd_ne (by omega), upd_ne (by omega)]
theorem mEmL_n {f : Nat → Int32} {a : Nat} (h : f (224 + a) = nI 0) (L : List Int32) : mEmL f a L (224 + a) = nI L.length := by
  cases L with
  | nil => exact h
  | cons x r => exact upd_eq
theorem cnt_n {f : Nat → Int32} {a : Nat} {tu cl : Int32} (ha : a < 5) (h : f (224 + a) = nI 0) (L : List Int32) : cnt f a tu cl L (224 + a) = nI L.length := mEmL_n (by unfold mTC; rw [upd_ne (by omega), upd_ne (by omega)]; exact h) L
section CNT
variable {f : Nat → Int32} {a : Nat} {tu cl : Int32} {L : List Int32} {sp en : Nat}
theorem mHe_c (hen : en ≤ 100) : mHe (cnt f a tu cl L) sp en = mHe f sp en := by
  unfold mHe
  by_cases h : sp < en
  · rw [if_pos h, if_pos h, cnt_lo (by omega)]
  · rw [if_neg h, if_neg h]
theorem mMuW_c (hen : en ≤ 100) (z x : Int32) : mMuW (cnt f a tu cl L) sp en z x = mMuW f sp en z x := by
  unfold mMuW
  rw [mHe_c hen]
theorem mMuS_c (hen : en ≤ 100) (z x : Int32) : mMuS (cnt f a tu cl L) sp en z x = mMuS f sp en z x := by
  unfold mMuS
  rw [mMuW_c hen]
theorem mAmo_c (hen : en ≤ 100) (k : Nat) : ∀ u i, mAmo (cnt f a tu cl L) sp en k u i = mAmo f sp en k u i
  | 0, _ => rfl
  | u + 1, i => by
    show (if mHe (cnt f a tu cl L) sp en = chS k i then _ else mAmo (cnt f a tu cl L) sp en k u (i + 1)) = (if mHe f sp en = chS k i then _ else mAmo f sp en k u (i + 1))
    rw [mHe_c hen, mAmo_c hen k u (i + 1)]
theorem mSpl_c (hen : en ≤ 100) (z : Int32) (k : Nat) : ∀ i, mSpl (cnt f a tu cl L) sp en z k i = mSpl f sp en z k i := fun i => by
  induction i with
  | zero => rfl
  | succ i ih =>
    rw [mSpl, mSpl, ih, mMuS_c hen, mMuW_c hen]
theorem mFgW_c (hen : en ≤ 100) (z : Int32) : mFgW (cnt f a tu cl L) sp en z = mFgW f sp en z := by
  unfold mFgW
  rw [mHe_c hen]
theorem mFig_c (hen : en ≤ 100) (z : Int32) : mFig (cnt f a tu cl L) sp en z = mFig f sp en z := by
  unfold mFig
  rw [mHe_c hen, mHe_c hen]
theorem mEmi_c {n : Nat} (z x : Int32) (hn : n = L.length) : mEmi (cnt f a tu cl L) a n z x = cnt f a tu cl (if z = 0 then x :: L else L) := by
  subst hn
  unfold mEmi
  by_cases h : z = 0
  · rw [if_pos h, if_pos h]
    rfl
  · rw [if_neg h, if_neg h]
end CNT
def qHe (f : Nat → Int32) (en : Nat) (q : Q9) : Int32 := mHe f (qS q) en
def qMu (f : Nat → Int32) (en : Nat) (q : Q9) (x : Int32) : Q9 := (mMuS f (qS q) en (qZ q) x, mMuW f (qS q) en (qZ q) x, qL q)
def qSp (f : Nat → Int32) (en : Nat) (q : Q9) (k : Nat) : Q9 := ((mSpl f (qS q) en (qZ q) k (lenS.getD k 0)).1, (mSpl f (qS q) en (qZ q) k (lenS.getD k 0)).2, qL q)
def amI (f : Nat → Int32) (en : Nat) (q : Q9) (k : Nat) : Int32 := (mAmo f (qS q) en k (lenS.getD k 0) 0).1
def qAm (f : Nat → Int32) (en : Nat) (q : Q9) (k : Nat) : Q9 := ((mAmo f (qS q) en k (lenS.getD k 0) 0).2, qZ q, qL q)
def fgI (f : Nat → Int32) (en : Nat) (q : Q9) : Int32 := (mFig f (qS q) en (mFgW f (qS q) en (qZ q))).1
def qFg (f : Nat → Int32) (en : Nat) (q : Q9) : Q9 := ((mFig f (qS q) en (mFgW f (qS q) en (qZ q))).2, mFgW f (qS q) en (qZ q), qL q)
def qEm (q : Q9) (x : Int32) : Q9 := (qS q, qZ q, if qZ q = 0 then x :: qL q else qL q)
/-- the place is on the tape, no more steps than signs -/
def VQ (en : Nat) (q : Q9) : Prop := qS q ≤ en ∧ (qL q).length ≤ qS q ∧ (qZ q = 0 ∨ qZ q = 1)
def LQ (q r : Q9) : Prop := qS q ≤ qS r ∧ (qL r).length + qS q ≤ (qL q).length + qS r
theorem LQ.rfl' (q : Q9) : LQ q q := ⟨Nat.le_refl _, Nat.le_refl _⟩
theorem LQ.tr {q r s : Q9} (h1 : LQ q r) (h2 : LQ r s) : LQ q s := ⟨Nat.le_trans h1.1 h2.1, by have := h1.2; have := h2.2; omega⟩
theorem mHe_lt {f : Nat → Int32} {sp en : Nat} {x : Int32} (h : mHe f sp en = x) (hx : x ≠ -1) : sp < en := by
  rcases Nat.lt_or_ge sp en with q | q
  · exact q
  · rw [mHe, if_neg (by omega)] at h
    exact absurd h.symm hx
theorem mMu_V {f : Nat → Int32} {sp en : Nat} {z x : Int32} (h : sp ≤ en) (hx : x ≠ -1) : mMuS f sp en z x ≤ en ∧ sp ≤ mMuS f sp en z x := by
  unfold mMuS
  by_cases c : mMuW f sp en z x = 0
  · rw [if_pos c]
    unfold mMuW at c
    by_cases c2 : z = 0
    · rw [if_pos c2] at c
      by_cases c3 : mHe f sp en = x
      · have := mHe_lt c3 hx
        omega
      · rw [if_neg c3] at c
        exact absurd c (by decide)
    · rw [if_neg c2] at c
      exact absurd c (by decide)
  · rw [if_neg c]
    omega
theorem qMu_V {f : Nat → Int32} {en : Nat} {q : Q9} {x : Int32} (h : VQ en q) (hx : x ≠ -1) : VQ en (qMu f en q x) ∧ LQ q (qMu f en q x) := by
  obtain ⟨h1, h2, h3⟩ := h
  have m := mMu_V (f := f) (z := qZ q) h1 hx
  exact ⟨⟨m.1, Nat.le_trans h2 m.2, mMuW_01 _ _ _ _ _⟩, m.2, Nat.add_le_add_left m.2 _⟩
theorem mSpl_V {f : Nat → Int32} {sp en : Nat} {z : Int32} {k : Nat} (h : sp ≤ en) (hz : z = 0 ∨ z = 1) (hk : k < 10) : ∀ i, i ≤ lenS.getD k 0 → (mSpl f sp en z k i).1 ≤ en ∧ sp ≤ (mSpl f sp en z k i).1 ∧ ((mSpl f sp en z k i).2 = 0 ∨ (mSpl f sp en z k i).2 = 1) := fun i => by
  induction i with
  | zero => exact fun _ => ⟨h, Nat.le_refl _, hz⟩
  | succ i ih =>
    intro hi
    obtain ⟨i1, i2, i3⟩ := ih (by omega)
    have m := mMu_V (f := f) (z := (mSpl f sp en z k i).2) i1 (x := chS k i) (fun e => by have := (chS_nar k hk i (by omega)).2.1; rw [e] at this; exact absurd this (by decide))
    exact ⟨m.1, Nat.le_trans i2 m.2, mMuW_01 _ _ _ _ _⟩
theorem qSp_V {f : Nat → Int32} {en : Nat} {q : Q9} {k : Nat} (h : VQ en q) (hk : k < 10) : VQ en (qSp f en q k) ∧ LQ q (qSp f en q k) := by
  obtain ⟨h1, h2, h3⟩ := h
  have m := mSpl_V (f := f) h1 h3 hk _ (Nat.le_refl _)
  exact ⟨⟨m.1, Nat.le_trans h2 m.2.1, m.2.2⟩, m.2.1, Nat.add_le_add_left m.2.1 _⟩
theorem mAmo_V {f : Nat → Int32} {sp en : Nat} {k N : Nat} (h : sp ≤ en) (hk : k < 10) (hN : N = lenS.getD k 0) : ∀ u i, i + u = N → (mAmo f sp en k u i).2 ≤ en ∧ sp ≤ (mAmo f sp en k u i).2 := fun u => by
  induction u with
  | zero => exact fun _ _ => ⟨h, Nat.le_refl _⟩
  | succ u ih =>
    intro i hi
    by_cases c : mHe f sp en = chS k i
    · have e : mAmo f sp en k (u + 1) i = (nI i, sp + 1) := if_pos c
      have := mHe_lt c (fun e => by have := (chS_nar k hk i (by omega)).2.1; rw [e] at this; exact absurd this (by decide))
      rw [e]
      exact ⟨this, Nat.le_succ _⟩
    · have e : mAmo f sp en k (u + 1) i = mAmo f sp en k u (i + 1) := if_neg c
      rw [e]
      exact ih (i + 1) (by omega)
theorem qAm_V {f : Nat → Int32} {en : Nat} {q : Q9} {k : Nat} (h : VQ en q) (hk : k < 10) : VQ en (qAm f en q k) ∧ LQ q (qAm f en q k) := by
  obtain ⟨h1, h2, h3⟩ := h
  have m := mAmo_V (f := f) h1 hk rfl (lenS.getD k 0) 0 (Nat.zero_add _)
  exact ⟨⟨m.1, Nat.le_trans h2 m.2, h3⟩, m.2, Nat.add_le_add_left m.2 _⟩
theorem fIn_lt {f : Nat → Int32} {sp en : Nat} (h : ¬ fIn (mHe f sp en) 48 57 = 0) : sp < en := mHe_lt (x := mHe f sp en) rfl (fun e => h (by rw [e]; decide))
theorem mFig_V {f : Nat → Int32} {sp en : Nat} {z : Int32} (h : sp ≤ en) : (mFig f sp en z).2 ≤ en ∧ sp ≤ (mFig f sp en z).2 := by
  unfold mFig
  by_cases c : z = 0
  · rw [if_pos c]
    by_cases c1 : fIn (mHe f sp en) 48 57 = 0
    · rw [if_pos c1]; exact ⟨h, Nat.le_refl _⟩
    · rw [if_neg c1]
      have l1 := fIn_lt c1
      by_cases c2 : fIn (mHe f (sp + 1) en) 48 57 = 0
      · rw [if_pos c2]; exact ⟨l1, Nat.le_succ _⟩
      · rw [if_neg c2]
        have l2 := fIn_lt c2
        split
        · exact ⟨l1, Nat.le_succ _⟩
        · exact ⟨l2, by show sp ≤ sp + 1 + 1; omega⟩
  · rw [if_neg c]; exact ⟨h, Nat.le_refl _⟩
theorem qFg_V {f : Nat → Int32} {en : Nat} {q : Q9} (h : VQ en q) : VQ en (qFg f en q) ∧ LQ q (qFg f en q) := by
  obtain ⟨h1, h2, h3⟩ := h
  have m := mFig_V (f := f) (z := mFgW f (qS q) en (qZ q)) h1
  exact ⟨⟨m.1, Nat.le_trans h2 m.2, mFgW_01 _ _ _ _⟩, m.2, Nat.add_le_add_left m.2 _⟩
theorem VQ.z {en : Nat} {q : Q9} (h : VQ en q) {z : Int32} (hz : z = 0 ∨ z = 1) : VQ en (qS q, z, qL q) := ⟨h.1, h.2.1, hz⟩
theorem qEm_V {en : Nat} {q r : Q9} {x : Int32} (h : VQ en q) (hr : VQ en r) (hs : qS q < qS r) (hl : (qL r).length + (qS q + 1) ≤ (qL q).length + qS r) : VQ en (qEm r x) ∧ LQ q (qEm r x) := by
  have e : (qL (qEm r x)).length ≤ (qL r).length + 1 := by
    show (if qZ r = 0 then x :: qL r else qL r).length ≤ _
    split
    · exact Nat.le_refl _
    · omega
  have e2 : qS (qEm r x) = qS r := rfl
  exact ⟨⟨hr.1, by have := h.2.1; omega, hr.2.2⟩, by rw [e2]; omega, by rw [e2]; omega⟩

theorem c_X12_hereQ (l : Launch) (g : Gp) (M : Mem) (m0 m1 m2 m7 m8 m9 m10 m11 : Int32) (a en : Nat) (f : Nat → Int32) (tu cl : Int32) (q : Q9) (h46 : M (gA g 46) = some (mdE g m0 m1 m2 (nI a) (nI (qS q)) (nI en) (qZ q) m7 m8 m9 m10 m11)) (h47 : M (gA g 47) = some (aI g 929 (cnt f a tu cl (qL q)))) (hV : VQ en q) (hen : en ≤ 100) (ha : a < 5) (hf : f (224 + a) = nI 0) : Met l yX12_here (wsM yX12_here cX12_here 1 (some .int)) (rmD 1 0 0) (Pre g M [.ref (gA g 46)]) (Qi g (fun r M1 => (qHe f en q) = r ∧ M = M1)) 0 0 (gF g) := by
  have hq1 := hV.1
  have hq2 := hV.2.1
  have h := c_X12_here l g M m0 m1 m2 (nI a) (qZ q) m7 m8 m9 m10 m11 (qS q) en (cnt f a tu cl (qL q)) h46 h47 (by omega) hen
  rw [mHe_c hen] at h
  exact h
theorem c_X12_mustQ (l : Launch) (g : Gp) (M : Mem) (m0 m1 m2 m7 m8 m9 m10 m11 : Int32) (a en : Nat) (f : Nat → Int32) (tu cl : Int32) (q : Q9) (x : Int32) (h46 : M (gA g 46) = some (mdE g m0 m1 m2 (nI a) (nI (qS q)) (nI en) (qZ q) m7 m8 m9 m10 m11)) (h47 : M (gA g 47) = some (aI g 929 (cnt f a tu cl (qL q)))) (hV : VQ en q) (hen : en ≤ 100) (ha : a < 5) (hf : f (224 + a) = nI 0) : Met l yX12_must (wsM yX12_must cX12_must 2 none) (rmD 2 0 0) (Pre g M [.ref (gA g 46), .int x]) (Qv g (fun M1 => mup (mup M (gA g 46) (mdE g m0 m1 m2 (nI a) (nI (qS (qMu f en q x))) (nI en) (qZ (qMu f en q x)) m7 m8 m9 m10 m11)) (gA g 47) (aI g 929 (cnt f a tu cl (qL (qMu f en q x)))) = M1)) 0 0 (gF g) := by
  have hq1 := hV.1
  have hq2 := hV.2.1
  have h := c_X12_must l g M m0 m1 m2 (nI a) (qZ q) m7 m8 m9 m10 m11 (qS q) en (cnt f a tu cl (qL q)) x h46 h47 (by omega) hen
  rw [mMuS_c hen, mMuW_c hen] at h
  have e9 : mup (mup M (gA g 46) (mdE g m0 m1 m2 (nI a) (nI (qS (qMu f en q x))) (nI en) (qZ (qMu f en q x)) m7 m8 m9 m10 m11)) (gA g 47) (aI g 929 (cnt f a tu cl (qL (qMu f en q x)))) = mup M (gA g 46) (mdE g m0 m1 m2 (nI a) (nI (qS (qMu f en q x))) (nI en) (qZ (qMu f en q x)) m7 m8 m9 m10 m11) := mup_id (mup_r (ne_kind h47 h46 Sum.inl_ne_inr) h47)
  rw [e9]
  exact h
theorem c_X12_spellsQ (l : Launch) (g : Gp) (M : Mem) (m0 m1 m2 m7 m8 m9 m10 m11 : Int32) (a en : Nat) (f : Nat → Int32) (tu cl : Int32) (q : Q9) (k : Nat) (h46 : M (gA g 46) = some (mdE g m0 m1 m2 (nI a) (nI (qS q)) (nI en) (qZ q) m7 m8 m9 m10 m11)) (h47 : M (gA g 47) = some (aI g 929 (cnt f a tu cl (qL q)))) (hV : VQ en q) (hen : en ≤ 100) (ha : a < 5) (hf : f (224 + a) = nI 0) (hK : k < 10) : Met l yX12_spells (wsM yX12_spells cX12_spells 3 none) (rmD 5 0 0) (Pre g M [.ref (gA g 46), .ref (gK g k)]) (Qv g (fun M1 => mup (mup M (gA g 46) (mdE g m0 m1 m2 (nI a) (nI (qS (qSp f en q k))) (nI en) (qZ (qSp f en q k)) m7 m8 m9 m10 m11)) (gA g 47) (aI g 929 (cnt f a tu cl (qL (qSp f en q k)))) = M1)) 0 0 (gF g) := by
  have hq1 := hV.1
  have hq2 := hV.2.1
  have h := c_X12_spells l g M m0 m1 m2 (nI a) (qZ q) m7 m8 m9 m10 m11 (qS q) en (cnt f a tu cl (qL q)) k h46 h47 (by omega) hen hK
  rw [mSpl_c hen] at h
  have e9 : mup (mup M (gA g 46) (mdE g m0 m1 m2 (nI a) (nI (qS (qSp f en q k))) (nI en) (qZ (qSp f en q k)) m7 m8 m9 m10 m11)) (gA g 47) (aI g 929 (cnt f a tu cl (qL (qSp f en q k)))) = mup M (gA g 46) (mdE g m0 m1 m2 (nI a) (nI (qS (qSp f en q k))) (nI en) (qZ (qSp f en q k)) m7 m8 m9 m10 m11) := mup_id (mup_r (ne_kind h47 h46 Sum.inl_ne_inr) h47)
  rw [e9]
  exact h
theorem c_X12_amongQ (l : Launch) (g : Gp) (M : Mem) (m0 m1 m2 m7 m8 m9 m10 m11 : Int32) (a en : Nat) (f : Nat → Int32) (tu cl : Int32) (q : Q9) (k : Nat) (h46 : M (gA g 46) = some (mdE g m0 m1 m2 (nI a) (nI (qS q)) (nI en) (qZ q) m7 m8 m9 m10 m11)) (h47 : M (gA g 47) = some (aI g 929 (cnt f a tu cl (qL q)))) (hV : VQ en q) (hen : en ≤ 100) (ha : a < 5) (hf : f (224 + a) = nI 0) (hK : k < 10) : Met l yX12_among (wsM yX12_among cX12_among 3 (some .int)) (rmD 5 0 0) (Pre g M [.ref (gA g 46), .ref (gK g k)]) (Qi g (fun r M1 => (amI f en q k) = r ∧ mup (mup M (gA g 46) (mdE g m0 m1 m2 (nI a) (nI (qS (qAm f en q k))) (nI en) (qZ (qAm f en q k)) m7 m8 m9 m10 m11)) (gA g 47) (aI g 929 (cnt f a tu cl (qL (qAm f en q k)))) = M1)) 0 0 (gF g) := by
  have hq1 := hV.1
  have hq2 := hV.2.1
  have h := c_X12_among l g M m0 m1 m2 (nI a) (qZ q) m7 m8 m9 m10 m11 (qS q) en (cnt f a tu cl (qL q)) k h46 h47 (by omega) hen hK
  rw [mAmo_c hen] at h
  have e9 : mup (mup M (gA g 46) (mdE g m0 m1 m2 (nI a) (nI (qS (qAm f en q k))) (nI en) (qZ (qAm f en q k)) m7 m8 m9 m10 m11)) (gA g 47) (aI g 929 (cnt f a tu cl (qL (qAm f en q k)))) = mup M (gA g 46) (mdE g m0 m1 m2 (nI a) (nI (qS (qAm f en q k))) (nI en) (qZ (qAm f en q k)) m7 m8 m9 m10 m11) := mup_id (mup_r (ne_kind h47 h46 Sum.inl_ne_inr) h47)
  rw [e9]
  exact h
theorem c_X12_figuresQ (l : Launch) (g : Gp) (M : Mem) (m0 m1 m2 m7 m8 m9 m10 m11 : Int32) (a en : Nat) (f : Nat → Int32) (tu cl : Int32) (q : Q9) (h46 : M (gA g 46) = some (mdE g m0 m1 m2 (nI a) (nI (qS q)) (nI en) (qZ q) m7 m8 m9 m10 m11)) (h47 : M (gA g 47) = some (aI g 929 (cnt f a tu cl (qL q)))) (hV : VQ en q) (hen : en ≤ 100) (ha : a < 5) (hf : f (224 + a) = nI 0) : Met l yX12_figures (wsM yX12_figures cX12_figures 3 (some .int)) (rmD 2 0 0) (Pre g M [.ref (gA g 46)]) (Qi g (fun r M1 => (fgI f en q) = r ∧ mup (mup M (gA g 46) (mdE g m0 m1 m2 (nI a) (nI (qS (qFg f en q))) (nI en) (qZ (qFg f en q)) m7 m8 m9 m10 m11)) (gA g 47) (aI g 929 (cnt f a tu cl (qL (qFg f en q)))) = M1)) 0 0 (gF g) := by
  have hq1 := hV.1
  have hq2 := hV.2.1
  have h := c_X12_figures l g M m0 m1 m2 (nI a) (qZ q) m7 m8 m9 m10 m11 (qS q) en (cnt f a tu cl (qL q)) h46 h47 (by omega) hen
  rw [mFgW_c hen, mFig_c hen] at h
  have e9 : mup (mup M (gA g 46) (mdE g m0 m1 m2 (nI a) (nI (qS (qFg f en q))) (nI en) (qZ (qFg f en q)) m7 m8 m9 m10 m11)) (gA g 47) (aI g 929 (cnt f a tu cl (qL (qFg f en q)))) = mup M (gA g 46) (mdE g m0 m1 m2 (nI a) (nI (qS (qFg f en q))) (nI en) (qZ (qFg f en q)) m7 m8 m9 m10 m11) := mup_id (mup_r (ne_kind h47 h46 Sum.inl_ne_inr) h47)
  rw [e9]
  exact h
theorem c_X12_emitsQ (l : Launch) (g : Gp) (M : Mem) (m0 m1 m2 m7 m8 m9 m10 m11 : Int32) (a en : Nat) (f : Nat → Int32) (tu cl : Int32) (q : Q9) (x : Int32) (h46 : M (gA g 46) = some (mdE g m0 m1 m2 (nI a) (nI (qS q)) (nI en) (qZ q) m7 m8 m9 m10 m11)) (h47 : M (gA g 47) = some (aI g 929 (cnt f a tu cl (qL q)))) (hV : VQ en q) (hen : en ≤ 100) (ha : a < 5) (hf : f (224 + a) = nI 0) (hl9 : (qL q).length ≤ 139) : Met l yX12_emits (wsM yX12_emits cX12_emits 2 none) (rmD 1 0 0) (Pre g M [.ref (gA g 46), .int x]) (Qv g (fun M1 => mup (mup M (gA g 46) (mdE g m0 m1 m2 (nI a) (nI (qS (qEm q x))) (nI en) (qZ (qEm q x)) m7 m8 m9 m10 m11)) (gA g 47) (aI g 929 (cnt f a tu cl (qL (qEm q x)))) = M1)) 0 0 (gF g) := by
  have hq1 := hV.1
  have hq2 := hV.2.1
  have h := c_X12_emits l g M m0 m1 m2 (nI (qS q)) (nI en) (qZ q) m7 m8 m9 m10 m11 a (qL q).length (cnt f a tu cl (qL q)) x h46 h47 ha (by omega) (cnt_n ha hf _)
  rw [mEmi_c _ _ rfl] at h
  have e9 : mup M (gA g 46) (mdE g m0 m1 m2 (nI a) (nI (qS (qEm q x))) (nI en) (qZ (qEm q x)) m7 m8 m9 m10 m11) = M := mup_id h46
  rw [e9]
  exact h
