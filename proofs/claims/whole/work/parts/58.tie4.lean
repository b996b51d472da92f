/-! Ties of the calls that write: feed, row, set, hide, note, plan, book. -/
def TiNo (nc : Nat) (nf f : Nat → Int32) : Prop := f 11 = nI nc ∧ nc ≤ 6 ∧ ∀ i, i < nc → f (64 + i) = nf (3 * i) ∧ f (70 + i) = nf (3 * i + 1) ∧ f (76 + i) = nf (3 * i + 2)
def TiPl (np : Nat) (pf f : Nat → Int32) : Prop := f 12 = nI np ∧ np ≤ 8 ∧ ∀ i, i < np → f (82 + i) = pf (3 * i) ∧ (¬ pf (3 * i) = 0 → f (90 + i) = pf (3 * i + 1) ∧ ∃ j : Nat, j < 6 ∧ pf (3 * i + 1) = nI j)
def TiBo (nb : Nat) (bf f : Nat → Int32) : Prop := f 13 = nI nb ∧ nb ≤ 8 ∧ ∀ i, i < nb → f (98 + i) = bf (3 * i) ∧ f (106 + i) = bf (3 * i + 1)
def TiTa (tc : Nat) (af f : Nat → Int32) : Prop := f 14 = nI tc ∧ tc ≤ 100 ∧ ∀ i, i < tc → f (114 + i) = af i ∧ ∃ b : Nat, b ≤ 127 ∧ af i = nI b
section CG
variable {f f' : Nat → Int32} {en : En}
theorem TiNo.cg {n : Nat} {nf : Nat → Int32} (h : TiNo n nf f) (e : ∀ q, (q = 11 ∨ (64 ≤ q ∧ q < 82)) → f' q = f q) : TiNo n nf f' := ⟨by rw [e _ (by omega)]; exact h.1, h.2.1, fun i hi => by
  have := h.2.1
  rw [e _ (by omega), e _ (by omega), e _ (by omega)]
  exact h.2.2 i hi⟩
theorem TiPl.cg {n : Nat} {nf : Nat → Int32} (h : TiPl n nf f) (e : ∀ q, (q = 12 ∨ (82 ≤ q ∧ q < 98)) → f' q = f q) : TiPl n nf f' := ⟨by rw [e _ (by omega)]; exact h.1, h.2.1, fun i hi => by
  have := h.2.1
  rw [e _ (by omega), e _ (by omega)]
  exact h.2.2 i hi⟩
theorem TiBo.cg {n : Nat} {nf : Nat → Int32} (h : TiBo n nf f) (e : ∀ q, (q = 13 ∨ (98 ≤ q ∧ q < 114)) → f' q = f q) : TiBo n nf f' := ⟨by rw [e _ (by omega)]; exact h.1, h.2.1, fun i hi => by
  have := h.2.1
  rw [e _ (by omega), e _ (by omega)]
  exact h.2.2 i hi⟩
theorem TiTa.cg {n : Nat} {nf : Nat → Int32} (h : TiTa n nf f) (e : ∀ q, (q = 14 ∨ (114 ≤ q ∧ q < 214)) → f' q = f q) : TiTa n nf f' := ⟨by rw [e _ (by omega)]; exact h.1, h.2.1, fun i hi => by
  have := h.2.1
  rw [e _ (by omega)]
  exact h.2.2 i hi⟩
theorem TiH.cg {hb : Int32} {L : Nat} (h : TiH f hb L) (hL : L ≤ 6) (e : ∀ q, (3 ≤ q ∧ q < 9) → f' q = f q) : TiH f' hb L := fun j hj => by
  rw [e _ (by omega)]
  exact h j hj
theorem TiJ.cg {j : Nat} (h : TiJ en f j) (hj : j < 6) (e : ∀ q, (16 ≤ q ∧ q < 64) → f' q = f q) : TiJ en f' j := by
  obtain ⟨h1, h2, h3, h4, h5, h6, h7, h8, h9⟩ := h
  exact ⟨by rw [e _ (by omega)]; exact h1, h2, by rw [e _ (by omega)]; exact h3, by rw [e _ (by omega)]; exact h4, by rw [e _ (by omega)]; exact h5, h6, h7, h8, fun k hk => ⟨by rw [e _ (by omega)]; exact (h9 k hk).1, (h9 k hk).2⟩⟩
theorem TiL.cg {L : Nat} (h : TiL en f L) (e : ∀ q, (q = 9 ∨ (16 ≤ q ∧ q < 64)) → f' q = f q) : TiL en f' L := ⟨by rw [e _ (by omega)]; exact h.1, h.2.1, h.2.2.1, fun j hj => (h.2.2.2 j hj).cg (by have := h.2.2.1; omega) (fun q hq => e q (Or.inr hq))⟩
theorem HdOk.cg {a n tu cl : Nat} (h : HdOk f a n tu cl) (e : ∀ k, (k = 15 ∨ 214 ≤ k) → f' k = f k) : HdOk f' a n tu cl := by
  obtain ⟨h1, h2, h3, h4, h5, h6, h7, h8, h9⟩ := h
  have ec : mCo f' a = mCo f a := funext fun i => e _ (by omega)
  exact ⟨h1, by rw [e _ (by omega)]; exact h2, by rw [e _ (by omega)]; exact h3, h4, by rw [e _ (by omega)]; exact h5, h6, by rw [e _ (by omega)]; exact h7, h8, by rw [ec]; exact h9⟩
theorem TiK.cg {k : Nat} (h : TiK en f k) (e : ∀ q, (q = 10 ∨ q = 15 ∨ 214 ≤ q) → f' q = f q) : TiK en f' k := by
  obtain ⟨h1, h2, h3, h4⟩ := h
  refine ⟨h1, by rw [e _ (by omega)]; exact h2, h3, ?_⟩
  rcases h4 with ⟨a1, a2, a3⟩ | ⟨a, n, tu, cl, b1, b2, b3, b4, b5, b6, b7⟩
  · exact Or.inl ⟨a1, by rw [e _ (by omega)]; exact a2, a3⟩
  · have ec : mCo f' a = mCo f a := funext fun i => e _ (by omega)
    exact Or.inr ⟨a, n, tu, cl, b1, b2.cg (fun q hq => e q (Or.inr hq)), b3, b4, b5, b6, fun i hi => by rw [ec]; exact b7 i hi⟩
end CG
theorem fPut_nI {n j : Nat} {f : Nat → Int32} {x : Int32} (h : j < n) (hn : n < 2147483648) : fPut n f (nI j) x = upd f j x := by
  rw [fPut, if_neg (nI_pos (by omega)), if_neg (nI_ge h hn), nI_clamp (by omega)]
theorem add3 {n c : Nat} {f : Nat → Int32} {x y z : Int32} (h : 3 * c + 2 < n) (hn : n < 2147483648) : fAdd3 n f (nI c) x y z = upd (upd (upd f (3 * c) x) (3 * c + 1) y) (3 * c + 2) z := by
  have e0 : nI c * 3 = nI (3 * c) := by rw [show nI c * 3 = nI (c * 3) from nI_mul c 3, Nat.mul_comm]
  have e1 : nI (3 * c) + 1 = nI (3 * c + 1) := nI_1 _
  have e2 : nI (3 * c) + 2 = nI (3 * c + 2) := nI_add (3 * c) 2
  rw [fAdd3, e0, e1, e2, fPut_nI (by omega) hn, fPut_nI (by omega) hn, fPut_nI (by omega) hn]
theorem nI_lt_k {c k : Nat} (hc : c ≤ k) (hk : k < 1000) : (nI c < nI k ↔ ¬ c = k) ∧ (nI c = nI k ↔ c = k) := ⟨⟨fun q e => by subst e; exact nI_nlt (Nat.le_refl _) (by omega) q, fun q => nI_lt (by omega) (by omega)⟩, nI_eq (by omega) (by omega)⟩
theorem feed_tie {tc : Nat} {af f : Nat → Int32} (h : TiTa tc af f) (x : Int32) : (opFeed (nI tc) af x).1 = (mFeedN f tc x).1 ∧ (∃ tc', (opFeed (nI tc) af x).2.1 = nI tc' ∧ TiTa tc' (opFeed (nI tc) af x).2.2 (mFeedN f tc x).2) ∧ ∀ q, q ≠ 14 → ¬ (114 ≤ q ∧ q < 214) → (mFeedN f tc x).2 q = f q := by
  obtain ⟨h1, h2, h3⟩ := h
  unfold opFeed mFeedN
  by_cases c1 : fIn x 0 127 = 0
  · rw [if_pos c1, if_pos c1]
    exact ⟨rfl, ⟨tc, rfl, h1, h2, h3⟩, fun _ _ _ => rfl⟩
  · rw [if_neg c1, if_neg c1]
    have hk := nI_lt_k (c := tc) (k := 100) h2 (by omega)
    by_cases c2 : tc = 100
    · rw [if_neg (show ¬ nI tc < 100 from fun q => hk.1.mp q c2), if_pos (show nI tc = 100 from hk.2.mpr c2)]
      exact ⟨rfl, ⟨tc, rfl, h1, h2, h3⟩, fun _ _ _ => rfl⟩
    · rw [if_pos (show nI tc < 100 from hk.1.mpr c2), if_neg (show ¬ nI tc = 100 from fun q => c2 (hk.2.mp q)), fPut_nI (by omega) (by decide), nI_1]
      obtain ⟨b, hb, eb⟩ := fIn_k (K := 127) (by decide) c1
      refine ⟨rfl, ⟨tc + 1, rfl, (by dsimp only; exact upd_eq), by omega, fun i hi => ?_⟩, fun q q1 q2 => ?_⟩
      · show upd (upd f (114 + tc) x) 14 (nI (tc + 1)) (114 + i) = upd af tc x i ∧ ∃ b : Nat, b ≤ 127 ∧ upd af tc x i = nI b
        rw [upd_ne (by omega)]
        by_cases c3 : i = tc
        · subst c3
          rw [upd_eq, upd_eq]
          exact ⟨rfl, b, hb, eb⟩
        · rw [upd_ne (by omega), upd_ne c3]
          exact h3 i (by omega)
      · show upd (upd f (114 + tc) x) 14 (nI (tc + 1)) q = f q
        rw [upd_ne q1, upd_ne (by omega)]
theorem note_tie {en : En} {nc L : Nat} {nf f : Nat → Int32} (h : TiNo nc nf f) (hL : eL en = L) (x n u : Int32) : (opNote en (nI nc) nf x n u).1 = (mNote f L nc x n u).1 ∧ (∃ nc', (opNote en (nI nc) nf x n u).2.1 = nI nc' ∧ TiNo nc' (opNote en (nI nc) nf x n u).2.2 (mNote f L nc x n u).2) ∧ ∀ q, q ≠ 11 → ¬ (64 ≤ q ∧ q < 82) → (mNote f L nc x n u).2 q = f q := by
  obtain ⟨h1, h2, h3⟩ := h
  unfold opNote mNote
  rw [hL]
  by_cases c0 : x = -1
  · rw [if_pos c0, if_pos c0]
    exact ⟨rfl, ⟨0, rfl, (by dsimp only; exact upd_eq), by omega, fun i hi => absurd hi (Nat.not_lt_zero _)⟩, fun q q1 q2 => (by dsimp only; exact upd_ne q1)⟩
  rw [if_neg c0, if_neg c0]
  by_cases c1 : fIsL L x = 0
  · rw [if_pos c1, if_pos c1]
    exact ⟨rfl, ⟨nc, rfl, h1, h2, h3⟩, fun _ _ _ => rfl⟩
  rw [if_neg c1, if_neg c1]
  by_cases c2 : fIn n 0 60 = 0
  · rw [if_pos c2, if_pos c2]
    exact ⟨rfl, ⟨nc, rfl, h1, h2, h3⟩, fun _ _ _ => rfl⟩
  rw [if_neg c2, if_neg c2]
  have hk := nI_lt_k (c := nc) (k := 6) h2 (by omega)
  by_cases c3 : nc = 6
  · rw [if_neg (show ¬ nI nc < 6 from fun q => hk.1.mp q c3), if_pos c3]
    exact ⟨rfl, ⟨nc, rfl, h1, h2, h3⟩, fun _ _ _ => rfl⟩
  · rw [if_pos (show nI nc < 6 from hk.1.mpr c3), if_neg c3, add3 (by omega) (by decide), nI_1]
    refine ⟨rfl, ⟨nc + 1, rfl, (by dsimp only; exact upd_eq), by omega, fun i hi => ?_⟩, fun q q1 q2 => ?_⟩
    · by_cases c4 : i = nc
      · subst c4
        refine ⟨?_, ?_, ?_⟩ <;> simp only [upd] <;> simp <;> (intro q_; exact absurd q_ (by omega))
      · obtain ⟨a1, a2, a3⟩ := h3 i (by omega)
        refine ⟨?_, ?_, ?_⟩
        · show upd (upd (upd (upd f (64 + nc) x) (70 + nc) n) (76 + nc) _) 11 _ (64 + i) = upd (upd (upd nf (3 * nc) x) (3 * nc + 1) n) (3 * nc + 2) _ (3 * i)
          rw [upd_ne (by omega), upd_ne (by omega), upd_ne (by omega), upd_ne (by omega), upd_ne (by omega), upd_ne (by omega), upd_ne (by omega)]
          exact a1
        · show upd (upd (upd (upd f (64 + nc) x) (70 + nc) n) (76 + nc) _) 11 _ (70 + i) = upd (upd (upd nf (3 * nc) x) (3 * nc + 1) n) (3 * nc + 2) _ (3 * i + 1)
          rw [upd_ne (by omega), upd_ne (by omega), upd_ne (by omega), upd_ne (by omega), upd_ne (by omega), upd_ne (by omega), upd_ne (by omega)]
          exact a2
        · show upd (upd (upd (upd f (64 + nc) x) (70 + nc) n) (76 + nc) _) 11 _ (76 + i) = upd (upd (upd nf (3 * nc) x) (3 * nc + 1) n) (3 * nc + 2) _ (3 * i + 2)
          rw [upd_ne (by omega), upd_ne (by omega), upd_ne (by omega), upd_ne (by omega), upd_ne (by omega), upd_ne (by omega), upd_ne (by omega)]
          exact a3
    · show upd (upd (upd (upd f (64 + nc) x) (70 + nc) n) (76 + nc) _) 11 _ q = f q
      rw [upd_ne q1, upd_ne (by omega), upd_ne (by omega), upd_ne (by omega)]
theorem book_tie {nb : Nat} {bf f : Nat → Int32} (h : TiBo nb bf f) (n ho : Int32) : (opBook (nI nb) bf n ho).1 = (mBook f nb n ho).1 ∧ (∃ nb', (opBook (nI nb) bf n ho).2.1 = nI nb' ∧ TiBo nb' (opBook (nI nb) bf n ho).2.2 (mBook f nb n ho).2) ∧ ∀ q, q ≠ 13 → ¬ (98 ≤ q ∧ q < 114) → (mBook f nb n ho).2 q = f q := by
  obtain ⟨h1, h2, h3⟩ := h
  unfold opBook mBook
  by_cases c0 : n = -1
  · rw [if_pos c0, if_pos c0]
    exact ⟨rfl, ⟨0, rfl, (by dsimp only; exact upd_eq), by omega, fun i hi => absurd hi (Nat.not_lt_zero _)⟩, fun q q1 q2 => (by dsimp only; exact upd_ne q1)⟩
  rw [if_neg c0, if_neg c0]
  by_cases c1 : fIn ho 0 1 = 0
  · rw [if_pos c1, if_pos c1]
    exact ⟨rfl, ⟨nb, rfl, h1, h2, h3⟩, fun _ _ _ => rfl⟩
  rw [if_neg c1, if_neg c1]
  by_cases c2 : fIn n 0 60 = 0
  · rw [if_pos c2, if_pos c2]
    exact ⟨rfl, ⟨nb, rfl, h1, h2, h3⟩, fun _ _ _ => rfl⟩
  rw [if_neg c2, if_neg c2]
  have hk := nI_lt_k (c := nb) (k := 8) h2 (by omega)
  by_cases c3 : nb = 8
  · rw [if_neg (show ¬ nI nb < 8 from fun q => hk.1.mp q c3), if_pos c3]
    exact ⟨rfl, ⟨nb, rfl, h1, h2, h3⟩, fun _ _ _ => rfl⟩
  · rw [if_pos (show nI nb < 8 from hk.1.mpr c3), if_neg c3, add3 (by omega) (by decide), nI_1]
    refine ⟨rfl, ⟨nb + 1, rfl, (by dsimp only; exact upd_eq), by omega, fun i hi => ?_⟩, fun q q1 q2 => ?_⟩
    · by_cases c4 : i = nb
      · subst c4
        refine ⟨?_, ?_⟩ <;> simp only [upd] <;> simp <;> (intro q_; exact absurd q_ (by omega))
      · obtain ⟨a1, a2⟩ := h3 i (by omega)
        refine ⟨?_, ?_⟩
        · show upd (upd (upd f (98 + nb) n) (106 + nb) ho) 13 _ (98 + i) = upd (upd (upd bf (3 * nb) n) (3 * nb + 1) ho) (3 * nb + 2) 0 (3 * i)
          rw [upd_ne (by omega), upd_ne (by omega), upd_ne (by omega), upd_ne (by omega), upd_ne (by omega), upd_ne (by omega)]
          exact a1
        · show upd (upd (upd f (98 + nb) n) (106 + nb) ho) 13 _ (106 + i) = upd (upd (upd bf (3 * nb) n) (3 * nb + 1) ho) (3 * nb + 2) 0 (3 * i + 1)
          rw [upd_ne (by omega), upd_ne (by omega), upd_ne (by omega), upd_ne (by omega), upd_ne (by omega), upd_ne (by omega)]
          exact a2
    · show upd (upd (upd f (98 + nb) n) (106 + nb) ho) 13 _ q = f q
      rw [upd_ne q1, upd_ne (by omega), upd_ne (by omega)]
theorem plan_add {np : Nat} {pf f : Nat → Int32} (h : TiPl np pf f) (c3 : ¬ np = 8) (w x y : Int32) (hx : ¬ w = 0 → x = y ∧ ∃ j : Nat, j < 6 ∧ y = nI j) : TiPl (np + 1) (fAdd3 24 pf (nI np) w y 0) (upd (upd (upd f (82 + np) w) (90 + np) x) 12 (nI (np + 1))) := by
  obtain ⟨h1, h2, h3⟩ := h
  rw [add3 (by omega) (by decide)]
  refine ⟨upd_eq, by omega, fun i hi => ?_⟩
  by_cases c4 : i = np
  · subst c4
    have e1 : upd (upd (upd f (82 + i) w) (90 + i) x) 12 (nI (i + 1)) (82 + i) = w := by rw [upd_ne (by omega), upd_ne (by omega), upd_eq]
    have e2 : upd (upd (upd f (82 + i) w) (90 + i) x) 12 (nI (i + 1)) (90 + i) = x := by rw [upd_ne (by omega), upd_eq]
    have e3 : upd (upd (upd pf (3 * i) w) (3 * i + 1) y) (3 * i + 2) 0 (3 * i) = w := by rw [upd_ne (by omega), upd_ne (by omega), upd_eq]
    have e4 : upd (upd (upd pf (3 * i) w) (3 * i + 1) y) (3 * i + 2) 0 (3 * i + 1) = y := by rw [upd_ne (by omega), upd_eq]
    rw [e1, e2, e3, e4]
    exact ⟨rfl, hx⟩
  · obtain ⟨a1, a2⟩ := h3 i (by omega)
    have e1 : upd (upd (upd f (82 + np) w) (90 + np) x) 12 (nI (np + 1)) (82 + i) = f (82 + i) := by rw [upd_ne (by omega), upd_ne (by omega), upd_ne (by omega)]
    have e2 : upd (upd (upd f (82 + np) w) (90 + np) x) 12 (nI (np + 1)) (90 + i) = f (90 + i) := by rw [upd_ne (by omega), upd_ne (by omega), upd_ne (by omega)]
    have e3 : upd (upd (upd pf (3 * np) w) (3 * np + 1) y) (3 * np + 2) 0 (3 * i) = pf (3 * i) := by rw [upd_ne (by omega), upd_ne (by omega), upd_ne (by omega)]
    have e4 : upd (upd (upd pf (3 * np) w) (3 * np + 1) y) (3 * np + 2) 0 (3 * i + 1) = pf (3 * i + 1) := by rw [upd_ne (by omega), upd_ne (by omega), upd_ne (by omega)]
    rw [e1, e2, e3, e4]
    exact ⟨a1, a2⟩
theorem plan_tie {en : En} {np L : Nat} {pf f : Nat → Int32} (h : TiPl np pf f) (hL : eL en = L) (hL6 : L ≤ 6) (w x : Int32) : (opPlan en (nI np) pf w x).1 = (mPlan f L np w x).1 ∧ (∃ np', (opPlan en (nI np) pf w x).2.1 = nI np' ∧ TiPl np' (opPlan en (nI np) pf w x).2.2 (mPlan f L np w x).2) ∧ ∀ q, q ≠ 12 → ¬ (82 ≤ q ∧ q < 98) → (mPlan f L np w x).2 q = f q := by
  have hh := h
  obtain ⟨h1, h2, h3⟩ := h
  unfold opPlan mPlan
  rw [hL]
  by_cases c0 : w = -1
  · rw [if_pos c0, if_pos c0]
    exact ⟨rfl, ⟨0, rfl, (by dsimp only; exact upd_eq), by omega, fun i hi => absurd hi (Nat.not_lt_zero _)⟩, fun q q1 q2 => (by dsimp only; exact upd_ne q1)⟩
  rw [if_neg c0, if_neg c0]
  by_cases c1 : fIn w 0 2 = 0
  · rw [if_pos c1, if_pos c1]
    exact ⟨rfl, ⟨np, rfl, hh⟩, fun _ _ _ => rfl⟩
  rw [if_neg c1, if_neg c1]
  obtain ⟨b, hb, eb⟩ := fIn_k (K := 2) (by decide) c1
  have hk := nI_lt_k (c := np) (k := 8) h2 (by omega)
  have fr : ∀ (z : Int32) q, q ≠ 12 → ¬ (82 ≤ q ∧ q < 98) → upd (upd (upd f (82 + np) w) (90 + np) z) 12 (nI (np + 1)) q = f q ∨ np = 8 := fun z q q1 q2 => by
    by_cases c : np = 8
    · exact Or.inr c
    · left
      rw [upd_ne q1, upd_ne (by omega), upd_ne (by omega)]
  by_cases c2 : w = 0
  · rw [if_pos c2, if_pos (show w ≤ 0 by rw [c2]; decide)]
    by_cases c3 : np = 8
    · rw [if_neg (show ¬ nI np < 8 from fun q => hk.1.mp q c3), if_pos c3]
      exact ⟨rfl, ⟨np, rfl, hh⟩, fun _ _ _ => rfl⟩
    · rw [if_pos (show nI np < 8 from hk.1.mpr c3), if_neg c3, nI_1]
      exact ⟨rfl, ⟨np + 1, rfl, plan_add hh c3 w x 0 (fun q => absurd c2 q)⟩, fun q q1 q2 => (fr x q q1 q2).resolve_right c3⟩
  · have cw : ¬ w ≤ 0 := by
      rw [eb] at c2 ⊢
      exact nI_nle (Nat.pos_of_ne_zero (fun q => c2 (by rw [q]; rfl))) (by omega)
    rw [if_neg c2, if_neg cw]
    by_cases c4 : fIsL L x = 0
    · rw [if_pos c4, if_pos c4]
      exact ⟨rfl, ⟨np, rfl, hh⟩, fun _ _ _ => rfl⟩
    rw [if_neg c4, if_neg c4]
    obtain ⟨j, hj, ej⟩ := fIsL_k hL6 c4
    by_cases c3 : np = 8
    · rw [if_neg (show ¬ nI np < 8 from fun q => hk.1.mp q c3), if_pos c3]
      exact ⟨rfl, ⟨np, rfl, hh⟩, fun _ _ _ => rfl⟩
    · rw [if_pos (show nI np < 8 from hk.1.mpr c3), if_neg c3, nI_1]
      exact ⟨rfl, ⟨np + 1, rfl, plan_add hh c3 w x x (fun _ => ⟨rfl, j, by omega, ej⟩)⟩, fun q q1 q2 => (fr x q q1 q2).resolve_right c3⟩
