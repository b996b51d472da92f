/-! The world: what stands in the fixed cells, the stars, and what ties the two together. -/
def updE (c : Nat → va_E) (i : Nat) (e : va_E) : Nat → va_E := fun j => cond (Nat.beq j i) e (c j)
theorem updE_eq {c : Nat → va_E} {i : Nat} {e : va_E} : updE c i e i = e := by simp [updE]
theorem updE_ne {c : Nat → va_E} {i j : Nat} {e : va_E} (h : j ≠ i) : updE c i e j = c j := by
  have : Nat.beq j i = false := by
    cases h1 : Nat.beq j i with
    | false => rfl
    | true => exact absurd (Nat.eq_of_beq_eq_true h1) h
  simp [updE, this]
def noS (g : Gp) (e : va_E) : Prop := ∀ (kd : Nat) (nu v : Int32), e ≠ starC g kd nu v
/-- the cells, and the lights of both roofs -/
def WM (g : Gp) (M : Mem) (c : Nat → va_E) (en ken : En) : Prop := (∀ i, i < 55 → M (gA g i) = some (c i)) ∧ (∀ i, i < 55 → noS g (c i)) ∧ EnOk g M en ∧ (∀ j, j < 6 → StQ g M (eS en j)) ∧ EnOk g M ken ∧ ∀ j, j < 6 → StQ g M (eS ken j)
def GI (g : Gp) : Prop := ∀ i j : Nat, i < 55 → j < 55 → gA g i = gA g j → i = j
theorem WM.put {g : Gp} {M : Mem} {c : Nat → va_E} {en ken : En} (hA : GI g) (h : WM g M c en ken) (i : Nat) (hi : i < 55) {e : va_E} (he : noS g e) : WM g (mup M (gA g i) e) (updE c i e) en ken := by
  obtain ⟨h1, h2, h3, h4, h5, h6⟩ := h
  refine ⟨fun j hj => ?_, fun j hj => ?_, h3.up (h1 i hi) (h2 i hi), fun j hj => (h4 j hj).up (h1 i hi) (h2 i hi), h5.up (h1 i hi) (h2 i hi), fun j hj => (h6 j hj).up (h1 i hi) (h2 i hi)⟩
  · by_cases q : j = i
    · subst q
      rw [updE_eq, mup_s]
    · rw [updE_ne q, mup_n (fun e => q (hA j i hj hi e))]
      exact h1 j hj
  · by_cases q : j = i
    · subst q
      rw [updE_eq]
      exact he
    · rw [updE_ne q]
      exact h2 j hj
theorem WM.to {g : Gp} {M : Mem} {c c' : Nat → va_E} {en ken en' ken' : En} (h : WM g M c en ken) (e : ∀ j, j < 55 → c j = c' j) (h1 : EnOk g M en → EnOk g M en') (h2 : (∀ j, j < 6 → StQ g M (eS en j)) → ∀ j, j < 6 → StQ g M (eS en' j)) (h3 : EnOk g M ken → EnOk g M ken') (h4 : (∀ j, j < 6 → StQ g M (eS ken j)) → ∀ j, j < 6 → StQ g M (eS ken' j)) : WM g M c' en' ken' :=
  ⟨fun j hj => by rw [← e j hj]; exact h.1 j hj, fun j hj => by rw [← e j hj]; exact h.2.1 j hj, h1 h.2.2.1, h2 h.2.2.2.1, h3 h.2.2.2.2.1, h4 h.2.2.2.2.2⟩
/-- a star more, at a new address -/
theorem WM.star {g : Gp} {M : Mem} {c : Nat → va_E} {en ken : En} (h : WM g M c en ken) {a : Nat} (ha : M a = none) {e : va_E} : WM g (mup M a e) c en ken := by
  obtain ⟨h1, h2, h3, h4, h5, h6⟩ := h
  have hs : ∀ {b : Nat} {x : va_E}, M b = some x → mup M a e b = some x := fun {b x} hb => mup_r (fun q => by rw [q, ha] at hb; cases hb) hb
  exact ⟨fun j hj => hs (h1 j hj), h2, ⟨h3.1, h3.2.1, fun j hj => ⟨(h3.2.2 j hj).1, hs (h3.2.2 j hj).2.1, (h3.2.2 j hj).2.2⟩⟩, fun j hj b hb => by obtain ⟨kd, nu, v, q1, q2⟩ := h4 j hj b hb; exact ⟨kd, nu, v, q1, hs q2⟩, ⟨h5.1, h5.2.1, fun j hj => ⟨(h5.2.2 j hj).1, hs (h5.2.2 j hj).2.1, (h5.2.2 j hj).2.2⟩⟩, fun j hj b hb => by obtain ⟨kd, nu, v, q1, q2⟩ := h6 j hj b hb; exact ⟨kd, nu, v, q1, hs q2⟩⟩
theorem all55 {P : Nat → Prop} (h0 : P 0) (h1 : P 1) (h2 : P 2) (h3 : P 3) (h4 : P 4) (h5 : P 5) (h6 : P 6) (h7 : P 7) (h8 : P 8) (h9 : P 9) (h10 : P 10) (h11 : P 11) (h12 : P 12) (h13 : P 13) (h14 : P 14) (h15 : P 15) (h16 : P 16) (h17 : P 17) (h18 : P 18) (h19 : P 19) (h20 : P 20) (h21 : P 21) (h22 : P 22) (h23 : P 23) (h24 : P 24) (h25 : P 25) (h26 : P 26) (h27 : P 27) (h28 : P 28) (h29 : P 29) (h30 : P 30) (h31 : P 31) (h32 : P 32) (h33 : P 33) (h34 : P 34) (h35 : P 35) (h36 : P 36) (h37 : P 37) (h38 : P 38) (h39 : P 39) (h40 : P 40) (h41 : P 41) (h42 : P 42) (h43 : P 43) (h44 : P 44) (h45 : P 45) (h46 : P 46) (h47 : P 47) (h48 : P 48) (h49 : P 49) (h50 : P 50) (h51 : P 51) (h52 : P 52) (h53 : P 53) (h54 : P 54) : ∀ j, j < 55 → P j := fun j hj => by
  match j, hj with
  | 0, _ => exact h0
  | 1, _ => exact h1
  | 2, _ => exact h2
  | 3, _ => exact h3
  | 4, _ => exact h4
  | 5, _ => exact h5
  | 6, _ => exact h6
  | 7, _ => exact h7
  | 8, _ => exact h8
  | 9, _ => exact h9
  | 10, _ => exact h10
  | 11, _ => exact h11
  | 12, _ => exact h12
  | 13, _ => exact h13
  | 14, _ => exact h14
  | 15, _ => exact h15
  | 16, _ => exact h16
  | 17, _ => exact h17
  | 18, _ => exact h18
  | 19, _ => exact h19
  | 20, _ => exact h20
  | 21, _ => exact h21
  | 22, _ => exact h22
  | 23, _ => exact h23
  | 24, _ => exact h24
  | 25, _ => exact h25
  | 26, _ => exact h26
  | 27, _ => exact h27
  | 28, _ => exact h28
  | 29, _ => exact h29
  | 30, _ => exact h30
  | 31, _ => exact h31
  | 32, _ => exact h32
  | 33, _ => exact h33
  | 34, _ => exact h34
  | 35, _ => exact h35
  | 36, _ => exact h36
  | 37, _ => exact h37
  | 38, _ => exact h38
  | 39, _ => exact h39
  | 40, _ => exact h40
  | 41, _ => exact h41
  | 42, _ => exact h42
  | 43, _ => exact h43
  | 44, _ => exact h44
  | 45, _ => exact h45
  | 46, _ => exact h46
  | 47, _ => exact h47
  | 48, _ => exact h48
  | 49, _ => exact h49
  | 50, _ => exact h50
  | 51, _ => exact h51
  | 52, _ => exact h52
  | 53, _ => exact h53
  | 54, _ => exact h54
  | j + 55, hj => exact absurd hj (by omega)
/-- a roof and its rows: tape, notes, plans, books -/
abbrev Rf : Type := En × (Nat × (Nat → Int32)) × (Nat × (Nat → Int32)) × (Nat × (Nat → Int32)) × (Nat × (Nat → Int32))
abbrev rE (r : Rf) : En := r.1
abbrev rT (r : Rf) : Nat := r.2.1.1
abbrev rTf (r : Rf) : Nat → Int32 := r.2.1.2
abbrev rN (r : Rf) : Nat := r.2.2.1.1
abbrev rNf (r : Rf) : Nat → Int32 := r.2.2.1.2
abbrev rP (r : Rf) : Nat := r.2.2.2.1.1
abbrev rPf (r : Rf) : Nat → Int32 := r.2.2.2.1.2
abbrev rB (r : Rf) : Nat := r.2.2.2.2.1
abbrev rBf (r : Rf) : Nat → Int32 := r.2.2.2.2.2
/-- the cells of the world -/
def cel (g : Gp) (ik tc : Int32) (tf : Nat → Int32) (r kr : Rf) (ra : R1) (sa : S1) (tz tn : Nat → Int32) (m0 m1 m2 m3 m4 m5 m6 m7 m8 m9 m10 m11 : Int32) (f im fr by_ tr ha wo : Nat → Int32) : Nat → va_E
  | 0 => custE g ik
  | 1 => rowsE (gA g 2) 20 1 tc
  | 2 => aI g 20 tf
  | 3 => roofN g (eNi (rE r)) (nI (eL (rE r))) (eSk (rE r)) (eHi (rE r))
  | 4 => aI g 2 (eSe (rE r))
  | 5 => aS g 6 (eS (rE r))
  | 6 => aI g 6 (eRo (rE r))
  | 7 => aI g 6 (ePh (rE r))
  | 8 => aI g 24 (eRw (rE r))
  | 9 => skyE (gA g 10) (gA g 11) (gA g 12) (nI (eZ (rE r))) (eTu (rE r)) (eCl (rE r))
  | 10 => aI g 100 (eF1 (rE r))
  | 11 => aI g 100 (eF2 (rE r))
  | 12 => aI g 100 (eF3 (rE r))
  | 13 => rowsE (gA g 14) 100 1 (nI (rT r))
  | 14 => aI g 100 (rTf r)
  | 15 => rowsE (gA g 16) 6 3 (nI (rN r))
  | 16 => aI g 18 (rNf r)
  | 17 => rowsE (gA g 18) 8 3 (nI (rP r))
  | 18 => aI g 24 (rPf r)
  | 19 => rowsE (gA g 20) 8 3 (nI (rB r))
  | 20 => aI g 24 (rBf r)
  | 21 => roofK g (eNi (rE kr)) (nI (eL (rE kr))) (eSk (rE kr)) (eHi (rE kr))
  | 22 => aI g 2 (eSe (rE kr))
  | 23 => aS g 6 (eS (rE kr))
  | 24 => aI g 6 (eRo (rE kr))
  | 25 => aI g 6 (ePh (rE kr))
  | 26 => aI g 24 (eRw (rE kr))
  | 27 => skyE (gA g 28) (gA g 29) (gA g 30) (nI (eZ (rE kr))) (eTu (rE kr)) (eCl (rE kr))
  | 28 => aI g 100 (eF1 (rE kr))
  | 29 => aI g 100 (eF2 (rE kr))
  | 30 => aI g 100 (eF3 (rE kr))
  | 31 => rowsE (gA g 32) 100 1 (nI (rT kr))
  | 32 => aI g 100 (rTf kr)
  | 33 => rowsE (gA g 34) 6 3 (nI (rN kr))
  | 34 => aI g 18 (rNf kr)
  | 35 => rowsE (gA g 36) 8 3 (nI (rP kr))
  | 36 => aI g 24 (rPf kr)
  | 37 => rowsE (gA g 38) 8 3 (nI (rB kr))
  | 38 => aI g 24 (rBf kr)
  | 39 => rdrE g (pP ra) (pN ra) (pF ra)
  | 40 => skyE (gA g 41) (gA g 42) (gA g 43) (zZ sa) (zT sa) (zC sa)
  | 41 => aI g 100 (zA sa)
  | 42 => aI g 100 (zB sa)
  | 43 => aI g 100 (zD sa)
  | 44 => aI g 60 tz
  | 45 => aI g 60 tn
  | 46 => mdE g m0 m1 m2 m3 m4 m5 m6 m7 m8 m9 m10 m11
  | 47 => aI g 929 f
  | 48 => aI g 929 im
  | 49 => aI g 9 fr
  | 50 => aI g 6 by_
  | 51 => aZ g 64 tr
  | 52 => aI g 18 ha
  | 53 => aI g 12 wo
  | _ => aI g 20 tf
/-- a roof of the class and a row of the reference tell the same -/
def RfT (r : Rf) (f : Nat → Int32) : Prop := ∃ L k t s0 s1 : Nat, TiL (rE r) f L ∧ TiK (rE r) f k ∧ TiH f (eHi (rE r)) L ∧ eNi (rE r) = nI t ∧ t ≤ 9999 ∧ s0 ≤ 9999999 ∧ s1 ≤ 9999999 ∧ eSe (rE r) 0 = nI s0 ∧ eSe (rE r) 1 = nI s1 ∧ f 0 = nI t ∧ f 1 = nI s0 ∧ f 2 = nI s1 ∧ TiTa (rT r) (rTf r) f ∧ TiNo (rN r) (rNf r) f ∧ TiPl (rP r) (rPf r) f ∧ TiBo (rB r) (rBf r) f ∧ FrO (rE r)
/-- the world between two calls -/
def World (g : Gp) (M : Mem) : Prop := ∃ (ik tc : Int32) (tf : Nat → Int32) (r kr : Rf) (ra : R1) (sa : S1) (tz tn : Nat → Int32) (m0 m1 m2 m3 m4 m5 m6 m7 m9 m10 m11 : Int32) (f im fr by_ tr ha wo : Nat → Int32), WM g M (cel g ik tc tf r kr ra sa tz tn m0 m1 m2 m3 m4 m5 m6 m7 tc m9 m10 m11 f im fr by_ tr ha wo) (rE r) (rE kr) ∧ Cn 20 tc ∧ RfT r f ∧ ((ik = 0 ∧ m1 = 0) ∨ (ik = 1 ∧ m1 = 1 ∧ RfT kr im))
/-- two roofs that are told apart by nothing that counts -/
def EnA (en en' : En) : Prop := eNi en' = eNi en ∧ eL en' = eL en ∧ eSk en' = eSk en ∧ eHi en' = eHi en ∧ eKd en' = eKd en ∧ eVv en' = eVv en ∧ eZ en' = eZ en ∧ eTu en' = eTu en ∧ eCl en' = eCl en ∧ (∀ i, i < 2 → eSe en' i = eSe en i) ∧ (∀ i, i < 6 → eRo en' i = eRo en i) ∧ (∀ i, i < 6 → ePh en' i = ePh en i) ∧ (∀ i, i < 24 → eRw en' i = eRw en i) ∧ (∀ i, i < 100 → eF1 en' i = eF1 en i) ∧ (∀ i, i < 100 → eF2 en' i = eF2 en i) ∧ ∀ i, i < 100 → eF3 en' i = eF3 en i
theorem RfT.cp {r r' : Rf} {f f' : Nat → Int32} (h : RfT r f) (e : ∀ q, q < 929 → f' q = f q) (hA : EnA (rE r) (rE r')) (t1 : rT r' = rT r) (t2 : ∀ i, i < 100 → rTf r' i = rTf r i) (n1 : rN r' = rN r) (n2 : ∀ i, i < 18 → rNf r' i = rNf r i) (p1 : rP r' = rP r) (p2 : ∀ i, i < 24 → rPf r' i = rPf r i) (b1 : rB r' = rB r) (b2 : ∀ i, i < 24 → rBf r' i = rBf r i) : RfT r' f' := by
  obtain ⟨L, k, t, s0, s1, hL, hK, hH, hn, ht, hs0, hs1, e0, e1, f0, f1, f2, hT, hN, hP, hB, hF⟩ := h
  obtain ⟨a1, a2, a3, a4, a5, a6, a7, a8, a9, a10, a11, a12, a13, a14, a15, a16⟩ := hA
  refine ⟨L, k, t, s0, s1, ?_, ?_, ?_, by rw [a1]; exact hn, ht, hs0, hs1, by rw [a10 0 (by omega)]; exact e0, by rw [a10 1 (by omega)]; exact e1, by rw [e 0 (by omega)]; exact f0, by rw [e 1 (by omega)]; exact f1, by rw [e 2 (by omega)]; exact f2, ?_, ?_, ?_, ?_, ?_⟩
  · obtain ⟨h1, h2, h3, h4⟩ := hL
    refine ⟨by rw [e 9 (by omega)]; exact h1, by rw [a2]; exact h2, h3, fun j hj => ?_⟩
    obtain ⟨j1, j2, j3, j4, j5, j6, j7, j8, j9⟩ := h4 j hj
    refine ⟨by rw [e _ (by omega), a5]; exact j1, by rw [a5]; exact j2, by rw [e _ (by omega), a6]; exact j3, by rw [e _ (by omega), a11 j (by omega)]; exact j4, by rw [e _ (by omega), a12 j (by omega)]; exact j5, by rw [a6]; exact j6, by rw [a11 j (by omega)]; exact j7, by rw [a12 j (by omega)]; exact j8, fun k hk => ?_⟩
    rw [e _ (by omega), a13 _ (by omega)]
    exact j9 k hk
  · obtain ⟨h1, h2, h3, h4⟩ := hK
    refine ⟨by rw [a3]; exact h1, by rw [e _ (by omega)]; exact h2, h3, ?_⟩
    rcases h4 with ⟨q1, q2, q3, q4, q5⟩ | ⟨a, n, tu, cl, q1, q2, q3, q4, q5, q6, q7⟩
    · exact Or.inl ⟨q1, by rw [e _ (by omega)]; exact q2, by rw [a7]; exact q3, by rw [a8]; exact q4, by rw [a9]; exact q5⟩
    · obtain ⟨c1, c2, c3, c4, c5, c6, c7, c8, c9⟩ := q2
      have ec : ∀ i, i < n → mCo f' a i = mCo f a i := fun i hi => by unfold mCo; exact e _ (by omega)
      refine Or.inr ⟨a, n, tu, cl, q1, ⟨c1, by rw [e _ (by omega)]; exact c2, by rw [e _ (by omega)]; exact c3, c4, by rw [e _ (by omega)]; exact c5, c6, by rw [e _ (by omega)]; exact c7, c8, fun i hi => ?_⟩, q3, by rw [a7]; exact q4, by rw [a8]; exact q5, by rw [a9]; exact q6, fun i hi => ?_⟩
      · rw [ec i hi, mTop_congr (g := mCo f' a) (h := mCo f a) i (fun q hq => ec q (by omega))]
        exact c9 i hi
      · rw [a14 i (by omega), a15 i (by omega), a16 i (by omega), ec i hi]
        exact q7 i hi
  · have h3 := hL.2.2.1
    rw [a4]
    exact fun j hj => by rw [e _ (by omega)]; exact hH j hj
  · obtain ⟨h1, h2, h3⟩ := hT
    rw [t1]
    exact ⟨by rw [e _ (by omega)]; exact h1, h2, fun i hi => by rw [e _ (by omega), t2 i (by omega)]; exact h3 i hi⟩
  · obtain ⟨h1, h2, h3⟩ := hN
    rw [n1]
    exact ⟨by rw [e _ (by omega)]; exact h1, h2, fun i hi => by rw [e _ (by omega), e _ (by omega), e _ (by omega), n2 _ (by omega), n2 _ (by omega), n2 _ (by omega)]; exact h3 i hi⟩
  · obtain ⟨h1, h2, h3⟩ := hP
    rw [p1]
    exact ⟨by rw [e _ (by omega)]; exact h1, h2, fun i hi => by rw [e _ (by omega), e _ (by omega), p2 _ (by omega), p2 _ (by omega)]; exact h3 i hi⟩
  · obtain ⟨h1, h2, h3⟩ := hB
    rw [b1]
    exact ⟨by rw [e _ (by omega)]; exact h1, h2, fun i hi => by rw [e _ (by omega), e _ (by omega), b2 _ (by omega), b2 _ (by omega)]; exact h3 i hi⟩
  · exact fun j hj h6 => ⟨by rw [a4]; exact (hF j (by rw [← a2]; exact hj) h6).1, fun k hk => by rw [a13 _ (by omega)]; exact (hF j (by rw [← a2]; exact hj) h6).2 k hk⟩
/-- the roof that a copy makes of a roof, over what was there -/
def enCp (en w : En) : En := (en.1, (fCopy 2 2 (eSe en) (eSe w), fMix 6 (eS en) (eS w), eSt en, eKd en, eVv en), (fCopy 6 6 (eRo en) (eRo w), fCopy 6 6 (ePh en) (ePh w), fCopy 24 24 (eRw en) (eRw w)), en.2.2.2.1, (fCopy 100 100 (eF1 en) (eF1 w), fCopy 100 100 (eF2 en) (eF2 w), fCopy 100 100 (eF3 en) (eF3 w)))
def rCp (r w : Rf) : Rf := (enCp (rE r) (rE w), (rT r, fCopy 100 100 (rTf r) (rTf w)), (rN r, fCopy 18 18 (rNf r) (rNf w)), (rP r, fCopy 24 24 (rPf r) (rPf w)), (rB r, fCopy 24 24 (rBf r) (rBf w)))
theorem RfT.copy {r w : Rf} {f f' : Nat → Int32} (h : RfT r f) (e : ∀ q, q < 929 → f' q = f q) : RfT (rCp r w) f' := h.cp e ⟨rfl, rfl, rfl, rfl, rfl, rfl, rfl, rfl, rfl, fun i hi => fCopy_at hi, fun i hi => fCopy_at hi, fun i hi => fCopy_at hi, fun i hi => fCopy_at hi, fun i hi => fCopy_at hi, fun i hi => fCopy_at hi, fun i hi => fCopy_at hi⟩ rfl (fun i hi => fCopy_at hi) rfl (fun i hi => fCopy_at hi) rfl (fun i hi => fCopy_at hi) rfl (fun i hi => fCopy_at hi)
theorem EnOk.copy {g : Gp} {M : Mem} {en w : En} (h : EnOk g M en) : EnOk g M (enCp en w) := ⟨h.1, h.2.1, fun j hj => ⟨by
  have := h.1
  show fMix 6 (eS en) (eS w) j = _
  unfold fMix
  rw [if_pos (by have : j < eL en := hj; omega)]
  exact (h.2.2 j hj).1, (h.2.2 j hj).2⟩⟩
theorem StQ.copy {g : Gp} {M : Mem} {en w : En} (h : ∀ j, j < 6 → StQ g M (eS en j)) : ∀ j, j < 6 → StQ g M (eS (enCp en w) j) := fun j hj => by
  show StQ g M (fMix 6 (eS en) (eS w) j)
  unfold fMix
  rw [if_pos hj]
  exact h j hj
