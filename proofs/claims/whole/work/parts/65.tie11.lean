/-! Ties of rounds, phases, firm; acts and the trace; light. -/
section FIT
variable {en : En} {f f' : Nat → Int32} {L k t : Nat}
theorem note_eq {j r : Nat} {v ph ni : Int32} (hJ : TiJ en f j) (hh : f (3 + j) = fBit (eHi en) (nI j)) (h1 : f' (16 + j) = f (16 + j)) (h2 : f' (3 + j) = f (3 + j)) (h3 : f' (22 + j) = v) (h4 : f' (28 + j) = nI r) (h5 : f' (34 + j) = ph) (r1 : 1 ≤ r) (r2 : r ≤ 30) : (if fBit (eHi en) (nI j) = 1 then 0 else if fOver (eKd en j) ni v (nI r) ph = 0 then 0 else 1) = mUp f' j ni := by
  obtain ⟨a1, a2, -⟩ := hJ
  unfold mUp mUpB
  rw [h1, h2, h3, h4, h5, hh, a1, over_tie a2 r1 r2]
  rcases fBit_01 (eHi en) (nI j) with q | q
  · rw [q, if_neg (by decide), if_pos rfl]
  · rw [q, if_pos rfl, if_neg (by decide)]
def GoN (f f' : Nat → Int32) (j t i : Nat) : Prop := f (64 + i) = nI j → mUp f' j (nI t + f (70 + i)) = (if f (76 + i) = 1 then 1 else 0)
theorem mNo_0 {j : Nat} (e : ∀ q, 64 ≤ q → q < 82 → f' q = f q) : ∀ n, n ≤ 6 → (mNo f' j t n = 0 ↔ ∃ q, q < n ∧ ¬ GoN f f' j t q) := fun n => by
  induction n with
  | zero => exact fun _ => ⟨fun h => absurd h (by decide : ¬ (1 : Int32) = 0), fun ⟨q, h, _⟩ => absurd h (Nat.not_lt_zero _)⟩
  | succ n ih =>
    intro hn
    have i1 := ih (by omega)
    show mNoS f' j t n (mNo f' j t n) = 0 ↔ _
    unfold mNoS
    rw [e _ (by omega) (by omega), e _ (by omega) (by omega), e _ (by omega) (by omega)]
    by_cases c : mNo f' j t n = 0
    · rw [if_pos c]
      obtain ⟨q, q1, q2⟩ := i1.mp c
      exact ⟨fun _ => ⟨q, by omega, q2⟩, fun _ => rfl⟩
    · rw [if_neg c]
      have no : ∀ q, q < n → GoN f f' j t q := fun q hq => Classical.byContradiction fun z => c (i1.mpr ⟨q, hq, z⟩)
      by_cases c1 : f (64 + n) = nI j
      · rw [if_pos c1]
        by_cases c2 : mUp f' j (nI t + f (70 + n)) = (if f (76 + n) = 1 then 1 else 0)
        · rw [if_pos c2]
          refine ⟨fun h => absurd h (by decide), fun ⟨q, q1, q2⟩ => absurd ?_ q2⟩
          rcases Nat.lt_or_ge q n with z | z
          · exact no q z
          · rw [show q = n by omega]; exact fun _ => c2
        · rw [if_neg c2]
          exact ⟨fun _ => ⟨n, by omega, fun g => c2 (g c1)⟩, fun _ => rfl⟩
      · rw [if_neg c1]
        refine ⟨fun h => absurd h (by decide), fun ⟨q, q1, q2⟩ => absurd ?_ q2⟩
        rcases Nat.lt_or_ge q n with z | z
        · exact no q z
        · rw [show q = n by omega]; exact fun g => absurd g c1
theorem noN_0 {j nc r : Nat} {nf : Nat → Int32} {v ph : Int32} (hN : TiNo nc nf f) (hn : eNi en = nI t) (ev : ∀ ni, (if fBit (eHi en) (nI j) = 1 then 0 else if fOver (eKd en j) ni v (nI r) ph = 0 then 0 else 1) = mUp f' j ni) : ∀ u i, i + u ≤ nc → (noN en j nf v (nI r) ph u i = 0 ↔ ∃ q, i ≤ q ∧ q < i + u ∧ ¬ GoN f f' j t q) := fun u => by
  induction u with
  | zero => exact fun i _ => ⟨fun h => absurd h (by decide : ¬ (1 : Int32) = 0), fun ⟨q, h1, h2, _⟩ => by omega⟩
  | succ u ih =>
    intro i hi
    obtain ⟨-, n6, n3⟩ := hN
    obtain ⟨a1, a2, a3⟩ := n3 i (by omega)
    have i1 := ih (i + 1) (by omega)
    have e0 : nI i * 3 + 0 = nI (3 * i) := by rw [show nI i * 3 = nI (i * 3) from nI_mul i 3, Int32.add_zero, Nat.mul_comm]
    have e1 : nI i * 3 + 1 = nI (3 * i + 1) := by rw [show nI i * 3 = nI (i * 3) from nI_mul i 3, nI_1, Nat.mul_comm]
    have e2 : nI i * 3 + 2 = nI (3 * i + 2) := by rw [show nI i * 3 = nI (i * 3) from nI_mul i 3, show nI (i * 3) + 2 = nI (i * 3 + 2) from nI_add _ 2, Nat.mul_comm]
    have eu : fNoU en j nf v (nI r) ph i = mUp f' j (nI t + f (70 + i)) := by
      unfold fNoU
      rw [e1, fAt_nI (by omega) (by decide), ← a2, hn, ev]
    rw [noN, eu, e0, e2, fAt_nI (by omega) (by decide), fAt_nI (by omega) (by decide), ← a1, ← a3]
    have more : (∃ q, i + 1 ≤ q ∧ q < i + 1 + u ∧ ¬ GoN f f' j t q) → ∃ q, i ≤ q ∧ q < i + (u + 1) ∧ ¬ GoN f f' j t q := fun ⟨q, q1, q2, q3⟩ => ⟨q, by omega, by omega, q3⟩
    have less : GoN f f' j t i → (∃ q, i ≤ q ∧ q < i + (u + 1) ∧ ¬ GoN f f' j t q) → ∃ q, i + 1 ≤ q ∧ q < i + 1 + u ∧ ¬ GoN f f' j t q := fun g ⟨q, q1, q2, q3⟩ => by
      by_cases z : q = i
      · rw [z] at q3; exact absurd g q3
      · exact ⟨q, by omega, by omega, q3⟩
    by_cases c1 : f (64 + i) = nI j
    · rw [if_pos c1]
      by_cases c2 : mUp f' j (nI t + f (70 + i)) = (if f (76 + i) = 1 then 1 else 0)
      · rw [if_pos c2, i1]
        exact ⟨more, less (fun _ => c2)⟩
      · rw [if_neg c2]
        exact ⟨fun _ => ⟨i, by omega, by omega, fun g => c2 (g c1)⟩, fun _ => rfl⟩
    · rw [if_neg c1, i1]
      exact ⟨more, less (fun g => absurd g c1)⟩
theorem as_noted {j nc r w : Nat} {nf : Nat → Int32} {v ph x : Int32} (hJ : TiJ en f j) (hj : j < 6) (hh : f (3 + j) = fBit (eHi en) (nI j)) (hN : TiNo nc nf f) (hn : eNi en = nI t) (hw : 22 ≤ w) (hw2 : w < 40) (h3 : upd f w x (22 + j) = v) (h4 : upd f w x (28 + j) = nI r) (h5 : upd f w x (34 + j) = ph) (r1 : 1 ≤ r) (r2 : r ≤ 30) : noN en j nf v (nI r) ph nc 0 = 0 ↔ mNo (upd f w x) j t nc = 0 := by
  have ev : ∀ ni, (if fBit (eHi en) (nI j) = 1 then 0 else if fOver (eKd en j) ni v (nI r) ph = 0 then 0 else 1) = mUp (upd f w x) j ni := fun ni => note_eq hJ hh (upd_ne (by omega)) (upd_ne (by omega)) h3 h4 h5 r1 r2
  rw [noN_0 (f' := upd f w x) hN hn ev nc 0 (by omega), mNo_0 (f := f) (f' := upd f w x) (fun q q1 q2 => upd_ne (by omega)) nc hN.2.1]
  exact ⟨fun ⟨q, _, q2, q3⟩ => ⟨q, by omega, q3⟩, fun ⟨q, q2, q3⟩ => ⟨q, by omega, by omega, q3⟩⟩
theorem fit_tie {nc : Nat} {nf : Nat → Int32} (hL : TiL en f L) (hH : TiH f (eHi en) L) (hN : TiNo nc nf f) (hn : eNi en = nI t) (y x : Int32) : opFit en nf nc y x 2 = mFitC f L 28 t nc 1 30 y x ∧ opFit en nf nc y x 3 = mFitC f L 34 t nc 0 29 y x ∧ opFit en nf nc y x 1 = mFitC f L 22 t nc 0 9 y x := by
  have h6 := hL.2.2.1
  unfold opFit mFitC
  rw [hL.2.1]
  by_cases c0 : fIsL L y = 0
  · refine ⟨?_, ?_, ?_⟩ <;> rw [if_pos c0, if_pos c0]
  simp only [if_neg c0]
  by_cases c1 : fIn x 0 1 = 0
  · refine ⟨?_, ?_, ?_⟩ <;> rw [if_pos c1, if_pos c1]
  simp only [if_neg c1]
  obtain ⟨j, hj, rfl⟩ := fIsL_k h6 c0
  rw [nI_clamp (show j < 2147483648 by omega)]
  have hJ := hL.2.2.2 j hj
  have hh := hH j hj
  obtain ⟨-, -, b3, b4, b5, -, ⟨r, r1, r2, r3⟩, -⟩ := id hJ
  refine ⟨?_, ?_, ?_⟩
  · exact fit_eq (P := fAsN en j nf nc 2) (w := 28 + j) (j := j) (t := t) (nn := nc) (le := 1) (mo := 30) (by omega) (by omega) (fun v v1 v2 => as_noted hJ (by omega) hh hN hn (by omega) (by omega) (by rw [upd_ne (by omega)]; exact b3) upd_eq (by rw [upd_ne (by omega)]; exact b5) v1 v2) x
  · have := fun v (v1 : 0 ≤ v) (v2 : v ≤ 29) => as_noted (x := nI v) (r := r) (v := eVv en j) (ph := nI v) hJ (by omega) hh hN hn (w := 34 + j) (by omega) (by omega) (by rw [upd_ne (by omega)]; exact b3) (by rw [upd_ne (by omega), b4]; exact r3) upd_eq r1 r2
    rw [← r3] at this
    exact fit_eq (P := fAsN en j nf nc 3) (w := 34 + j) (j := j) (t := t) (nn := nc) (le := 0) (mo := 29) (by omega) (by omega) this x
  · have := fun v (v1 : 0 ≤ v) (v2 : v ≤ 9) => as_noted (x := nI v) (r := r) (v := nI v) (ph := ePh en j) hJ (by omega) hh hN hn (w := 22 + j) (by omega) (by omega) upd_eq (by rw [upd_ne (by omega), b4]; exact r3) (by rw [upd_ne (by omega)]; exact b5) r1 r2
    rw [← r3] at this
    exact fit_eq (P := fAsN en j nf nc 1) (w := 22 + j) (j := j) (t := t) (nn := nc) (le := 0) (mo := 9) (by omega) (by omega) this x
theorem act_tie (hL : TiL en f L) (tf : Nat → Int32) (x w y : Int32) : opAct en tf x w y = mAct f L (eKd en) tf x w y := by
  unfold opAct mAct
  rw [hL.2.1]
  by_cases c0 : fIsL L x = 0
  · rw [if_pos c0, if_pos c0]
  rw [if_neg c0, if_neg c0]
  have h6 := hL.2.2.1
  obtain ⟨j, hj, rfl⟩ := fIsL_k h6 c0
  rw [nI_clamp (show j < 2147483648 by omega), (hL.2.2.2 j hj).2.2.1]
  by_cases c1 : fIn w 0 2 = 0
  · rw [if_pos c1]
    have n0 : ¬ w = 0 := fun e => by rw [e] at c1; exact absurd c1 (by decide)
    have n1 : ¬ w = 1 := fun e => by rw [e] at c1; exact absurd c1 (by decide)
    have n2 : ¬ w = 2 := fun e => by rw [e] at c1; exact absurd c1 (by decide)
    rw [if_neg n0, if_neg n1, if_neg n2]
  · rw [if_neg c1]
    obtain ⟨d, hd, rfl⟩ := fIn_k (K := 2) (by decide) c1
    rcases (show d = 0 ∨ d = 1 ∨ d = 2 by omega) with rfl | rfl | rfl
    · rw [if_pos (show nI 0 = 0 from rfl), if_pos (show nI 0 = 0 from rfl)]
    · rw [if_neg (show ¬ nI 1 = 0 by decide), if_neg (show ¬ nI 1 = 0 by decide), if_pos (show nI 1 = 1 from rfl), if_pos (show nI 1 = 1 from rfl)]
    · rw [if_neg (show ¬ nI 2 = 0 by decide), if_neg (show ¬ nI 2 = 0 by decide), if_neg (show ¬ nI 2 = 1 by decide), if_neg (show ¬ nI 2 = 1 by decide), if_pos (show nI 2 = 2 from rfl)]
end FIT
theorem telN_c {k n : Nat} {nu v x : Int32} {t : Tr} (h : Cn n t.1) : Cn (n + 9) (telN k nu v x t).2.1 := by
  unfold telN
  split
  · exact (telS_c (v := v) (n := n + 1) (t := tlN t 31) h.s).w (by omega)
  · exact (telS_c (v := v) (n := n + 1) (t := tlN t 31) h.s).w (by omega)
  · have a := telS_c (k := 4) (nu := nu) (v := v) (x := x - 1) (n := n + 1) (t := tlN t 41) h.s
    exact (gloN_c (k := 4) (nu := nu) (x := 2) (t := (telS 4 nu v (x - 1) (tlN t 41)).2) a).w (by omega)
  all_goals exact (telS_c (v := v) h).w (by omega)
theorem act_cn {en : En} {tf : Nat → Int32} {x w n : Int32} : Cn 20 (opAct en tf x w n).2.1 := by
  have h0 : Cn 0 ((0, tf) : Tr).1 := ⟨0, Nat.le_refl _, rfl⟩
  have z : Cn 20 (0 : Int32) := ⟨0, by omega, rfl⟩
  unfold opAct
  split
  · exact z
  · split
    · exact (gloN_c h0).w (by omega)
    · split
      · exact (claN_c (v := eVv en x.toNatClampNeg) h0).w (by omega)
      · split
        · exact (telN_c (v := eVv en x.toNatClampNeg) h0).w (by omega)
        · exact z
theorem trace_tie {n : Nat} (hn : n ≤ 900) (tf : Nat → Int32) (x : Int32) : opTrace (nI n) tf x = mTrace tf (nI n) x := by
  have e : (if (20 : Int32) ≤ nI n then 20 else nI n) = nI (min n 20) := by
    by_cases c : 20 ≤ n
    · have q : (20 : Int32) ≤ nI n := show nI 20 ≤ nI n from nI_le c (by omega)
      rw [if_pos q, Nat.min_eq_right c]; rfl
    · have q : ¬ (20 : Int32) ≤ nI n := show ¬ nI 20 ≤ nI n from nI_ge (by omega) (by omega)
      rw [if_neg q, Nat.min_eq_left (by omega)]
  unfold opTrace mTrace
  rw [e]
  by_cases c0 : x < 0
  · rw [if_pos c0, if_pos (show fIn x 0 _ = 0 from if_pos c0)]
  rw [if_neg c0]
  obtain ⟨j, hj, rfl⟩ := nI_of c0
  have ef : fIn (nI j) 0 (nI (min n 20) - 1) = 0 ↔ ¬ j < min n 20 := by
    unfold fIn
    rw [if_neg c0]
    rcases Nat.eq_zero_or_pos (min n 20) with z | z
    · rw [z, if_pos (show nI 0 - 1 < nI j from Int32.lt_of_lt_of_le (by decide : nI 0 - 1 < 0) (nI_pos' hj))]
      exact ⟨fun _ => by omega, fun _ => rfl⟩
    · have := Nat.min_le_right n 20
      rw [nI_sub1 z]
      by_cases c : j < min n 20
      · rw [if_neg (nI_nlt (by omega) (by omega))]
        exact ⟨fun q => absurd q (by decide), fun q => absurd c q⟩
      · rw [if_pos (nI_lt (by omega) hj)]
        exact ⟨fun _ => c, fun _ => rfl⟩
  by_cases c1 : nI n ≤ nI j
  · have q : n ≤ j := (nI_leI (by omega) hj).mp c1
    rw [if_pos c1, if_pos (ef.mpr (by omega))]
  rw [if_neg c1]
  have q1 : j < n := by
    rcases Nat.lt_or_ge j n with z | z
    · exact z
    · exact absurd (nI_le z hj) c1
  by_cases c2 : (20 : Int32) ≤ nI j
  · have q : 20 ≤ j := (nI_leI (a := 20) (by omega) hj).mp c2
    rw [if_pos c2, if_pos (ef.mpr (by omega))]
  rw [if_neg c2]
  have q2 : j < 20 := by
    rcases Nat.lt_or_ge j 20 with z | z
    · exact z
    · exact absurd (show nI 20 ≤ nI j from nI_le z hj) c2
  rw [if_neg (fun z => (ef.mp z) (by omega)), show nI j * 1 + 0 = nI j by rw [Int32.mul_one, Int32.add_zero], fAt_nI q2 (by decide), nI_clamp hj]
/-- a roof with one light more -/
def enLi (en : En) (a kd : Nat) (v r h : Int32) : En := ((eNi en, eL en + 1, eSk en, eHi en), (eSe en, va_up (eS en) (eL en) (some a), (fun q => if q = eL en then a else eSt en q), (fun q => if q = eL en then kd else eKd en q), upd (eVv en) (eL en) v), (fPut 6 (eRo en) (nI (eL en)) r, fPut 6 (ePh en) (nI (eL en)) h, eRw en), en.2.2.2)
theorem mZ_at {g : Nat → Int32} {L : Nat} : ∀ i q, mZ g L i q = if 40 + 4 * L ≤ q ∧ q < 40 + 4 * L + i then 0 else g q := fun i => by
  induction i with
  | zero => exact fun q => by rw [if_neg (by omega)]; rfl
  | succ i ih =>
    intro q
    rw [mZ]
    by_cases c : q = 40 + 4 * L + i
    · rw [c, upd_eq, if_pos (by omega)]
    · rw [upd_ne c, ih q]
      by_cases c2 : 40 + 4 * L ≤ q ∧ q < 40 + 4 * L + i
      · rw [if_pos c2, if_pos (by omega)]
      · rw [if_neg c2, if_neg (by omega)]
theorem light_no {en : En} {f : Nat → Int32} {L : Nat} (hE : eL en = L) (h6 : L ≤ 6) {k v r h : Int32} (c : opLi en k v r h ≠ 0) : opLi en k v r h = (mLight f L k v r h).1 ∧ (mLight f L k v r h).2 = f := by
  unfold opLi at c ⊢
  unfold mLight
  rw [hE] at c ⊢
  by_cases c0 : fIn k 0 6 = 0
  · rw [if_pos c0, if_pos c0]; exact ⟨rfl, rfl⟩
  rw [if_neg c0] at c ⊢
  rw [if_neg c0]
  by_cases c1 : fIn v 0 9 = 0
  · rw [if_pos c1, if_pos c1]; exact ⟨rfl, rfl⟩
  rw [if_neg c1] at c ⊢
  rw [if_neg c1]
  by_cases c2 : fIn r 1 30 = 0
  · rw [if_pos c2, if_pos c2]; exact ⟨rfl, rfl⟩
  rw [if_neg c2] at c ⊢
  rw [if_neg c2]
  by_cases c3 : fIn h 0 29 = 0
  · rw [if_pos c3, if_pos c3]; exact ⟨rfl, rfl⟩
  rw [if_neg c3] at c ⊢
  rw [if_neg c3]
  by_cases c4 : L < 6
  · rw [if_pos c4] at c; exact absurd rfl c
  · rw [if_neg c4, if_pos (by omega)]; exact ⟨rfl, rfl⟩
theorem light_fr {en : En} (h : FrO en) {a kd : Nat} {v r h0 : Int32} : FrO (enLi en a kd v r h0) := fun j hj h6 => h j (Nat.le_of_succ_le hj) h6
theorem light_yes {en : En} {f : Nat → Int32} {L : Nat} (hL : TiL en f L) (hH : TiH f (eHi en) L) (hR : FrO en) {k v r h : Int32} (c : opLi en k v r h = 0) (a : Nat) : ∃ kd : Nat, kd ≤ 6 ∧ k = nI kd ∧ L < 6 ∧ (mLight f L k v r h).1 = nI L ∧ TiL (enLi en a kd v r h) (mLight f L k v r h).2 (L + 1) ∧ TiH (mLight f L k v r h).2 (eHi (enLi en a kd v r h)) (L + 1) ∧ ∀ q, q ≠ 9 → ¬ (3 ≤ q ∧ q < 9) → ¬ (16 ≤ q ∧ q < 64) → (mLight f L k v r h).2 q = f q := by
  obtain ⟨a1, a2, a3, a4⟩ := hL
  unfold opLi at c
  unfold mLight
  rw [a2] at c
  by_cases c0 : fIn k 0 6 = 0
  · rw [if_pos c0] at c; exact absurd c (by decide)
  rw [if_neg c0] at c ⊢
  by_cases c1 : fIn v 0 9 = 0
  · rw [if_pos c1] at c; exact absurd c (by decide)
  rw [if_neg c1] at c ⊢
  by_cases c2 : fIn r 1 30 = 0
  · rw [if_pos c2] at c; exact absurd c (by decide)
  rw [if_neg c2] at c ⊢
  by_cases c3 : fIn h 0 29 = 0
  · rw [if_pos c3] at c; exact absurd c (by decide)
  rw [if_neg c3] at c ⊢
  by_cases c4 : L < 6
  · rw [if_neg (show ¬ L = 6 by omega)]
    obtain ⟨kd, k1, rfl⟩ := fIn_k (K := 6) (by decide) c0
    obtain ⟨vn, v1, rfl⟩ := fIn_k (K := 9) (by decide) c1
    obtain ⟨rn, r0, r1, rfl⟩ := fIn_k1 (K := 30) (by decide) c2
    obtain ⟨hn, h1, rfl⟩ := fIn_k (K := 29) (by decide) c3
    have val : ∀ q, upd (mZ (mLiF f L (nI kd) (nI vn) (nI rn) (nI hn)) L 4) 9 (nI (L + 1)) q = if q = 9 then nI (L + 1) else if 40 + 4 * L ≤ q ∧ q < 40 + 4 * L + 4 then 0 else if q = 3 + L then 0 else if q = 34 + L then nI hn else if q = 28 + L then nI rn else if q = 22 + L then nI vn else if q = 16 + L then nI kd else f q := fun q => by
      by_cases q9 : q = 9
      · rw [if_pos q9, q9, upd_eq]
      rw [if_neg q9, upd_ne q9, mZ_at]
      by_cases q8 : 40 + 4 * L ≤ q ∧ q < 40 + 4 * L + 4
      · rw [if_pos q8, if_pos q8]
      rw [if_neg q8, if_neg q8]
      rfl
    obtain ⟨F, hF⟩ : ∃ F, F = upd (mZ (mLiF f L (nI kd) (nI vn) (nI rn) (nI hn)) L 4) 9 (nI (L + 1)) := ⟨_, rfl⟩
    rw [← hF] at val ⊢
    refine ⟨kd, k1, rfl, c4, rfl, ⟨?_, ?_, by omega, fun i hi => ?_⟩, fun i hi => ?_, fun q q1 q2 q3 => ?_⟩
    · show F 9 = _
      rw [val, if_pos rfl]
    · show eL en + 1 = L + 1
      rw [a2]
    · show F (16 + i) = nI (if i = eL en then kd else eKd en i) ∧ (if i = eL en then kd else eKd en i) ≤ 6 ∧ F (22 + i) = upd (eVv en) (eL en) (nI vn) i ∧ F (28 + i) = fPut 6 (eRo en) (nI (eL en)) (nI rn) i ∧ F (34 + i) = fPut 6 (ePh en) (nI (eL en)) (nI hn) i ∧ (∃ v' : Nat, v' ≤ 9 ∧ upd (eVv en) (eL en) (nI vn) i = nI v') ∧ (∃ r' : Nat, 1 ≤ r' ∧ r' ≤ 30 ∧ fPut 6 (eRo en) (nI (eL en)) (nI rn) i = nI r') ∧ (∃ h' : Nat, h' ≤ 29 ∧ fPut 6 (ePh en) (nI (eL en)) (nI hn) i = nI h') ∧ ∀ q, q < 4 → F (40 + 4 * i + q) = eRw en (4 * i + q) ∧ ∃ d' : Nat, d' ≤ 9 ∧ eRw en (4 * i + q) = nI d'
      rw [a2, fPut_nI c4 (by decide), fPut_nI c4 (by decide)]
      have vr : ∀ q, q < 4 → F (40 + 4 * i + q) = if i = L then 0 else f (40 + 4 * i + q) := fun q hq => by
        rw [val, if_neg (by omega)]
        by_cases z : i = L
        · rw [if_pos (by omega), if_pos z]
        · rw [if_neg (by omega), if_neg (by omega), if_neg (by omega), if_neg (by omega), if_neg (by omega), if_neg (by omega), if_neg z]
      by_cases z : i = L
      · subst z
        refine ⟨?_, ?_, ?_, ?_, ?_, ?_, ?_, ?_, fun q hq => ?_⟩
        · rw [val, if_neg (by omega), if_neg (by omega), if_neg (by omega), if_neg (by omega), if_neg (by omega), if_neg (by omega), if_pos rfl, if_pos rfl]
        · rw [if_pos rfl]; exact k1
        · rw [val, if_neg (by omega), if_neg (by omega), if_neg (by omega), if_neg (by omega), if_neg (by omega), if_pos rfl, upd_eq]
        · rw [val, if_neg (by omega), if_neg (by omega), if_neg (by omega), if_neg (by omega), if_pos rfl, upd_eq]
        · rw [val, if_neg (by omega), if_neg (by omega), if_neg (by omega), if_pos rfl, upd_eq]
        · rw [upd_eq]; exact ⟨vn, v1, rfl⟩
        · rw [upd_eq]; exact ⟨rn, r0, r1, rfl⟩
        · rw [upd_eq]; exact ⟨hn, h1, rfl⟩
        · rw [vr q hq, if_pos rfl, (hR i (by omega) (by omega)).2 q hq]
          exact ⟨rfl, 0, by omega, rfl⟩
      · obtain ⟨b1, b2, b3, b4, b5, b6, b7, b8, b9⟩ := a4 i (by omega)
        refine ⟨?_, ?_, ?_, ?_, ?_, ?_, ?_, ?_, fun q hq => ?_⟩
        · rw [val, if_neg (by omega), if_neg (by omega), if_neg (by omega), if_neg (by omega), if_neg (by omega), if_neg (by omega), if_neg (by omega), if_neg z]; exact b1
        · rw [if_neg z]; exact b2
        · rw [val, if_neg (by omega), if_neg (by omega), if_neg (by omega), if_neg (by omega), if_neg (by omega), if_neg (by omega), if_neg (by omega), upd_ne z]; exact b3
        · rw [val, if_neg (by omega), if_neg (by omega), if_neg (by omega), if_neg (by omega), if_neg (by omega), if_neg (by omega), if_neg (by omega), upd_ne z]; exact b4
        · rw [val, if_neg (by omega), if_neg (by omega), if_neg (by omega), if_neg (by omega), if_neg (by omega), if_neg (by omega), if_neg (by omega), upd_ne z]; exact b5
        · rw [upd_ne z]; exact b6
        · rw [upd_ne z]; exact b7
        · rw [upd_ne z]; exact b8
        · rw [vr q hq, if_neg z]
          exact b9 q hq
    · show F (3 + i) = fBit (eHi en) (nI i)
      rw [val, if_neg (by omega), if_neg (by omega)]
      by_cases z : i = L
      · rw [if_pos (by omega), (hR i (by omega) (by omega)).1]
      · rw [if_neg (by omega), if_neg (by omega), if_neg (by omega), if_neg (by omega), if_neg (by omega)]
        exact hH i (by omega)
    · show F q = f q
      rw [val, if_neg q1, if_neg (by omega), if_neg (by omega), if_neg (by omega), if_neg (by omega), if_neg (by omega), if_neg (by omega)]
  · rw [if_neg c4] at c; exact absurd c (by decide)
