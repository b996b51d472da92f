/-! The two readers: what the class reads off the tape, and what the reference reads. -/
def cdL : List Int32 → Nat → Int32
  | [], _ => 0
  | x :: r, i => if i = r.length then x else cdL r i
def SS (L : List Int32) (sa : S1) : Prop := zZ sa = nI L.length ∧ ∀ i, i < L.length → StpEq (zA sa i) (zB sa i) (zD sa i) (cdL L i)
def RR (f : Nat → Int32) (en : Nat) (T C : Int32) (q : Q9) (ra : R1) (sa : S1) : Prop := (qZ q = 0 ∧ ra = (nI (qS q), mHe f (qS q) en, -1) ∧ SS (qL q) sa ∧ zT sa = T ∧ zC sa = C) ∨ (¬ qZ q = 0 ∧ pN ra = -1 ∧ pF ra = nI (qS q))
/-- the class' tape and the reference's -/
def TP (f : Nat → Int32) (en : Nat) (tf : Nat → Int32) : Prop := en ≤ 100 ∧ ∀ i, i < en → f (114 + i) = tf i ∧ ∃ b : Nat, b ≤ 127 ∧ tf i = nI b
section RD
variable {f tf : Nat → Int32} {en : Nat} {T C : Int32} {q : Q9} {ra : R1} {sa : S1}
theorem nI_nm1 {n : Nat} (h : n < 2147483648) : ¬ nI n = -1 := nI_m1 h
theorem go_he (hT : TP f en tf) (ra : R1) {sp : Nat} (hs : sp < 300) : rGo (nI en) tf ra (nI sp) = (nI sp, mHe f sp en, pF ra) := by
  have h1 := hT.1
  unfold rGo mHe
  by_cases c : sp < en
  · rw [if_neg (nI_ge c (by omega)), if_pos c, fAt_nI (by omega) (by decide), (hT.2 sp c).1]
  · rw [if_pos (nI_le (by omega) (by omega)), if_neg c]
theorem go_1 (hT : TP f en tf) {sp : Nat} (hs : sp < 200) {y z : Int32} : rGo (nI en) tf (nI sp, y, z) (pP (nI sp, y, z) + 1) = (nI (sp + 1), mHe f (sp + 1) en, z) := by
  rw [show pP (nI sp, y, z) + 1 = nI (sp + 1) from nI_1 sp, go_he hT _ (by omega)]
  rfl
theorem fail_bad {ra : R1} {s : Nat} (hs : s < 300) (h : pF ra = nI s) : pN (rFail ra) = -1 ∧ pF (rFail ra) = nI s := by
  refine ⟨rfl, ?_⟩
  show (if pF ra = -1 then pP ra else pF ra) = nI s
  rw [if_neg (by rw [h]; exact nI_nm1 (by omega)), h]
theorem fail_ok {s : Nat} {y : Int32} : pN (rFail (nI s, y, -1)) = -1 ∧ pF (rFail (nI s, y, -1)) = nI s := ⟨rfl, (show (if (-1 : Int32) = -1 then nI s else -1) = nI s from if_pos rfl)⟩
theorem RR.lt (hV : VQ en q) (hT : TP f en tf) : qS q ≤ 100 := Nat.le_trans hV.1 hT.1
theorem take_tie (hT : TP f en tf) (hV : VQ en q) (h : RR f en T C q ra sa) {x : Int32} (hx : x ≠ -1) : RR f en T C (qMu f en q x) (rTake (nI en) tf ra x) sa := by
  have hq := RR.lt hV hT
  rcases h with ⟨h1, h2, h3, h4, h5⟩ | ⟨h1, h2, h3⟩
  · subst h2
    by_cases c : mHe f (qS q) en = x
    · rw [qMu_at h1 c]
      refine Or.inl ⟨rfl, ?_, h3, h4, h5⟩
      unfold rTake
      rw [if_pos (show pN (nI (qS q), mHe f (qS q) en, -1) = x from c), go_1 hT (by omega)]
      rfl
    · have e1 : mMuW f (qS q) en (qZ q) x = 1 := by unfold mMuW; rw [if_pos h1, if_neg c]
      have e2 : qMu f en q x = (qS q, 1, qL q) := by unfold qMu mMuS; rw [e1, if_neg (by decide)]
      rw [e2]
      right
      unfold rTake
      rw [if_neg (show ¬ pN (nI (qS q), mHe f (qS q) en, -1) = x from c)]
      exact ⟨(by decide : ¬ (1 : Int32) = 0), fail_ok.1, fail_ok.2⟩
  · have e1 : mMuW f (qS q) en (qZ q) x = 1 := by unfold mMuW; rw [if_neg h1]
    have e2 : qMu f en q x = (qS q, 1, qL q) := by unfold qMu mMuS; rw [e1, if_neg (by decide)]
    rw [e2]
    right
    unfold rTake
    rw [if_neg (by rw [h2]; exact fun e => hx e.symm)]
    have := fail_bad (by omega) h3
    exact ⟨(by decide : ¬ (1 : Int32) = 0), this.1, this.2⟩
theorem word_tie (hT : TP f en tf) (hV : VQ en q) (h : RR f en T C q ra sa) {k k' : Nat} (hk' : k' < 10) (hl : lenS.getD k 0 = lenS.getD k' 0) (hc : ∀ i, i < lenS.getD k' 0 → chS k i = chS k' i) : RR f en T C (qSp f en q k') (rWd (nI en) tf k ra (lenS.getD k 0)) sa := by
  rw [hl]
  have : ∀ i, i ≤ lenS.getD k' 0 → VQ en ((mSpl f (qS q) en (qZ q) k' i).1, (mSpl f (qS q) en (qZ q) k' i).2, qL q) ∧ RR f en T C ((mSpl f (qS q) en (qZ q) k' i).1, (mSpl f (qS q) en (qZ q) k' i).2, qL q) (rWd (nI en) tf k ra i) sa := fun i => by
    induction i with
    | zero => exact fun _ => ⟨hV, h⟩
    | succ i ih =>
      intro hi
      obtain ⟨i1, i2⟩ := ih (by omega)
      have hx : chS k' i ≠ -1 := fun e => by have := (chS_nar k' hk' i (by omega)).2.1; rw [e] at this; exact absurd this (by decide)
      rw [rWd, hc i (by omega)]
      exact ⟨(qMu_V (f := f) i1 hx).1, take_tie hT i1 i2 hx⟩
  exact (this _ (Nat.le_refl _)).2
theorem he_nat (hT : TP f en tf) (sp : Nat) : (sp < en ∧ ∃ b : Nat, b ≤ 127 ∧ mHe f sp en = nI b) ∨ (en ≤ sp ∧ mHe f sp en = -1) := by
  unfold mHe
  by_cases c : sp < en
  · rw [if_pos c]
    obtain ⟨a, b, b1, b2⟩ := hT.2 sp c
    exact Or.inl ⟨c, b, b1, by rw [a, b2]⟩
  · rw [if_neg c]; exact Or.inr ⟨by omega, rfl⟩
theorem fIn_d {b : Nat} (hb : b ≤ 127) : fIn (nI b) 48 57 = 0 ↔ ¬ (48 ≤ b ∧ b ≤ 57) := by
  have : ∀ b : Nat, b < 128 → (fIn (nI b) 48 57 = 0 ↔ ¬ (48 ≤ b ∧ b ≤ 57)) := by decide +kernel
  exact this b (by omega)
theorem lt48 {b : Nat} (hb : b ≤ 127) : (nI b < 48 ↔ b < 48) ∧ (nI b ≤ 57 ↔ b ≤ 57) ∧ (57 < nI b ↔ 57 < b) := ⟨nI_ltI (b := 48) (by omega) (by omega), nI_leI (b := 57) (by omega) (by omega), nI_ltI (a := 57) (by omega) (by omega)⟩
theorem fig_1 {b : Nat} (h1 : 48 ≤ b) (h2 : b ≤ 57) : 10 * 0 + nI b - 48 = nI (b - 48) ∧ nI b - 48 = nI (b - 48) := by
  have e : nI b - 48 = nI (b - 48) := nI_subn (k := 48) h1
  refine ⟨?_, e⟩
  rw [← e]
  rw [show (10 : Int32) * 0 = 0 from by decide, Int32.zero_add]
theorem num_tie (hT : TP f en tf) (hV : VQ en q) (h : RR f en T C q ra sa) : (rNum (nI en) tf ra).1 = fgI f en q ∧ RR f en T C (qFg f en q) (rNum (nI en) tf ra).2 sa ∧ ∃ v : Nat, v ≤ 99 ∧ fgI f en q = nI v := by
  have hq := RR.lt hV hT
  rcases h with ⟨h1, h2, h3, h4, h5⟩ | ⟨h1, h2, h3⟩
  · subst h2
    have ok : ∀ s : Nat, s < 300 → ∀ L : List Int32, SS L sa → RR f en T C (s, 0, L) (nI s, mHe f s en, -1) sa := fun s _ L hL => Or.inl ⟨rfl, rfl, hL, h4, h5⟩
    have bad : ∀ y : Int32, fIn (mHe f (qS q) en) 48 57 = 0 → (0 : Int32) = fgI f en q ∧ RR f en T C (qFg f en q) (rFail (nI (qS q), y, -1)) sa ∧ ∃ v : Nat, v ≤ 99 ∧ fgI f en q = nI v := fun y c => by
      have e1 : mFgW f (qS q) en (qZ q) = 1 := by unfold mFgW; rw [if_pos h1, if_pos c]
      have e2 : mFig f (qS q) en 1 = (0, qS q) := if_neg (by decide)
      unfold fgI qFg
      rw [e1, e2]
      exact ⟨rfl, Or.inr ⟨(by decide : ¬ (1 : Int32) = 0), fail_ok.1, fail_ok.2⟩, 0, by omega, rfl⟩
    unfold rNum
    rcases he_nat hT (qS q) with ⟨a1, b, b1, b2⟩ | ⟨a1, b2⟩
    · obtain ⟨l1, l2, -⟩ := lt48 b1
      have pn : pN (nI (qS q), mHe f (qS q) en, -1) = nI b := b2
      rw [pn]
      by_cases c1 : b < 48
      · rw [if_pos (l1.mpr c1)]
        exact bad _ (by rw [b2]; exact (fIn_d b1).mpr (by omega))
      rw [if_neg (fun z => c1 (l1.mp z))]
      by_cases c2 : b ≤ 57
      · rw [if_pos (l2.mpr c2)]
        have e1 : mFgW f (qS q) en (qZ q) = 0 := by unfold mFgW; rw [if_pos h1, b2, if_neg (fun z => (fIn_d b1).mp z ⟨by omega, c2⟩)]
        obtain ⟨f1, f2⟩ := fig_1 (b := b) (by omega) c2
        rw [f2, go_1 hT (by omega)]
        have g0 : ¬ fIn (mHe f (qS q) en) 48 57 = 0 := by rw [b2]; exact fun z => (fIn_d b1).mp z ⟨by omega, c2⟩
        have one : mFig f (qS q) en 0 = (nI (b - 48), qS q + 1) → nI (b - 48) = fgI f en q ∧ RR f en T C (qFg f en q) (nI (qS q + 1), mHe f (qS q + 1) en, -1) sa ∧ ∃ v : Nat, v ≤ 99 ∧ fgI f en q = nI v := fun e2 => by
          unfold fgI qFg
          rw [e1, e2]
          exact ⟨rfl, ok _ (by omega) _ h3, b - 48, by omega, rfl⟩
        have pn2 : pN (nI (qS q + 1), mHe f (qS q + 1) en, -1) = mHe f (qS q + 1) en := rfl
        rw [pn2]
        by_cases c3 : b = 48
        · rw [if_pos (show nI (b - 48) = 0 from by rw [c3]; rfl)]
          refine one ?_
          unfold mFig
          rw [if_pos rfl, if_neg g0, b2, f1]
          by_cases c4 : fIn (mHe f (qS q + 1) en) 48 57 = 0
          · rw [if_pos c4]
          · rw [if_neg c4, if_pos (by rw [c3]; decide)]
        · rw [if_neg (nI_ne0 (by omega) (by omega))]
          have stop : fIn (mHe f (qS q + 1) en) 48 57 = 0 → mFig f (qS q) en 0 = (nI (b - 48), qS q + 1) := fun c4 => by
            unfold mFig
            rw [if_pos rfl, if_neg g0, b2, f1, if_pos c4]
          rcases he_nat hT (qS q + 1) with ⟨a3, d, d1, d2⟩ | ⟨a3, d2⟩
          · obtain ⟨m1, -, m3⟩ := lt48 d1
            rw [d2] at stop ⊢
            by_cases c5 : d < 48
            · rw [if_pos (m1.mpr c5), ← d2]
              exact one (stop ((fIn_d d1).mpr (by omega)))
            rw [if_neg (fun z => c5 (m1.mp z))]
            by_cases c6 : 57 < d
            · rw [if_pos (m3.mpr c6), ← d2]
              exact one (stop ((fIn_d d1).mpr (by omega)))
            rw [if_neg (fun z => c6 (m3.mp z)), ← d2, go_1 hT (by omega), d2]
            have e2 : mFig f (qS q) en 0 = (nI ((b - 48) * 10 + (d - 48)), qS q + 1 + 1) := by
              unfold mFig
              rw [if_pos rfl, if_neg g0, b2, f1, d2, if_neg (fun z => (fIn_d d1).mp z ⟨by omega, by omega⟩), if_neg (nI_nle (by omega) (by omega))]
              rw [show (10 : Int32) * nI (b - 48) = nI (10 * (b - 48)) from nI_mul 10 (b - 48), nI_add, show nI (10 * (b - 48) + d) - 48 = nI (10 * (b - 48) + d - 48) from nI_subn (k := 48) (by omega)]
              congr 2
              omega
            have e3 : nI (b - 48) * 10 + nI d - 48 = nI ((b - 48) * 10 + (d - 48)) := by
              rw [show nI (b - 48) * 10 = nI ((b - 48) * 10) from nI_mul (b - 48) 10, nI_add, show nI ((b - 48) * 10 + d) - 48 = nI ((b - 48) * 10 + d - 48) from nI_subn (k := 48) (by omega)]
              congr 1
              omega
            unfold fgI qFg
            rw [e1, e2, e3]
            exact ⟨rfl, ok _ (by omega) _ h3, (b - 48) * 10 + (d - 48), by omega, rfl⟩
          · rw [if_pos (show mHe f (qS q + 1) en < 48 by rw [d2]; decide)]
            exact one (stop (by rw [d2]; decide))
      · rw [if_neg (fun z => c2 (l2.mp z))]
        exact bad _ (by rw [b2]; exact (fIn_d b1).mpr (by omega))
    · rw [if_pos (show pN (nI (qS q), mHe f (qS q) en, -1) < 48 from by rw [show pN (nI (qS q), mHe f (qS q) en, -1) = -1 from b2]; decide)]
      exact bad _ (by rw [b2]; decide)
  · have e1 : mFgW f (qS q) en (qZ q) = 1 := if_neg h1
    have e2 : mFig f (qS q) en 1 = (0, qS q) := if_neg (by decide)
    unfold fgI qFg rNum
    rw [e1, e2, if_pos (by rw [h2]; decide)]
    have := fail_bad (by omega) h3
    exact ⟨rfl, Or.inr ⟨(by decide : ¬ (1 : Int32) = 0), this.1, this.2⟩, 0, by omega, rfl⟩
theorem SS.add {L : List Int32} {x y z w : Int32} (h : SS L sa) (hl : L.length < 100) (hs : StpEq x y z w) : SS (w :: L) (sAdd sa x y z) := by
  obtain ⟨h1, h2⟩ := h
  refine ⟨by show zZ sa + 1 = nI (L.length + 1); rw [h1, nI_1], fun i hi => ?_⟩
  show StpEq (fPut 100 (zA sa) (zZ sa) x i) (fPut 100 (zB sa) (zZ sa) y i) (fPut 100 (zD sa) (zZ sa) z i) (if i = L.length then w else cdL L i)
  rw [h1, fPut_nI hl (by decide), fPut_nI hl (by decide), fPut_nI hl (by decide)]
  by_cases c : i = L.length
  · rw [c, upd_eq, upd_eq, upd_eq, if_pos rfl]; exact hs
  · rw [upd_ne c, upd_ne c, upd_ne c, if_neg c]
    exact h2 i (by have : i < L.length + 1 := hi; omega)
theorem emit_tie (hT : TP f en tf) {x y z w : Int32} (h : RR f en T C q ra sa) (hs : qZ q = 0 → StpEq x y z w) (hV : VQ en (qEm q w)) : RR f en T C (qEm q w) ra (sAdd sa x y z) := by
  rcases h with ⟨h1, h2, h3, h4, h5⟩ | ⟨h1, h2, h3⟩
  · have e : qEm q w = (qS q, qZ q, w :: qL q) := by unfold qEm; rw [if_pos h1]
    rw [e] at hV ⊢
    have := hV.1
    have h9 := hV.2.1
    have := hT.1
    have hl : (qL q).length + 1 ≤ qS q := h9
    exact Or.inl ⟨h1, h2, h3.add (by have : qS q ≤ en := hV.1; omega) (hs h1), h4, h5⟩
  · exact Or.inr ⟨h1, h2, h3⟩
end RD
