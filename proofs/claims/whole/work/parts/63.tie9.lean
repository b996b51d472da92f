/-! Ties of deal and shares: the greedy way against the search through all ways. -/
def gv (g : Nat → Nat) (u : Nat) (o : Bool) : Nat → Nat
  | 0 => 0
  | i + 1 => gv g u o i + (if u.testBit i = o then g i else 0)
def tT (g0 g1 : Nat → Nat) (u z : Nat) : Nat := gv g0 u false z + gv g1 u true z
def ful (g0 g1 : Nat → Nat) : Nat → Nat
  | 0 => 0
  | i + 1 => ful g0 g1 i + (if g0 i < g1 i then 2 ^ i else 0)
theorem gv_b {g : Nat → Nat} {B : Nat} {u : Nat} {o : Bool} {z : Nat} (h : ∀ i, i < z → g i ≤ B) : ∀ i, i ≤ z → gv g u o i ≤ B * i := fun i => by
  induction i with
  | zero => exact fun _ => Nat.zero_le _
  | succ i ih =>
    intro hi
    have a := ih (by omega)
    have b := h i (by omega)
    rw [gv, Nat.mul_succ]
    split <;> omega
theorem gv_congr {g : Nat → Nat} {u v : Nat} {o : Bool} : ∀ z, (∀ i, i < z → u.testBit i = v.testBit i) → gv g u o z = gv g v o z := fun z => by
  induction z with
  | zero => exact fun _ => rfl
  | succ z ih =>
    intro h
    rw [gv, gv, ih (fun i hi => h i (by omega)), h z (by omega)]
theorem tT_lo {g0 g1 : Nat → Nat} {r z : Nat} (hr : r < 2 ^ z) : tT g0 g1 r (z + 1) = tT g0 g1 r z + g0 z := by
  have e : r.testBit z = false := Nat.testBit_lt_two_pow hr
  unfold tT
  rw [gv, gv, e]
  simp
  omega
theorem tT_hi {g0 g1 : Nat → Nat} {r z : Nat} (hr : r < 2 ^ z) : tT g0 g1 (2 ^ z + r) (z + 1) = tT g0 g1 r z + g1 z := by
  have e : (2 ^ z + r).testBit z = true := by rw [Nat.testBit_two_pow_add_eq, Nat.testBit_lt_two_pow hr]; rfl
  have c : ∀ i, i < z → (2 ^ z + r).testBit i = r.testBit i := fun i hi => Nat.testBit_two_pow_add_gt hi r
  unfold tT
  rw [gv, gv, e, gv_congr z c, gv_congr z c]
  simp
  omega
theorem ful_lt {g0 g1 : Nat → Nat} : ∀ z, ful g0 g1 z < 2 ^ z := fun z => by
  induction z with
  | zero => exact Nat.one_pos
  | succ z ih =>
    rw [ful, Nat.pow_succ]
    split <;> omega
theorem ful_best {g0 g1 : Nat → Nat} : ∀ z u, u < 2 ^ z → tT g0 g1 u z ≤ tT g0 g1 (ful g0 g1 z) z ∧ (u < ful g0 g1 z → tT g0 g1 u z < tT g0 g1 (ful g0 g1 z) z) := fun z => by
  induction z with
  | zero =>
    intro u hu
    have : u = 0 := by have : u < 1 := hu; omega
    subst this
    exact ⟨Nat.le_refl _, fun h => absurd h (Nat.lt_irrefl _)⟩
  | succ z ih =>
    intro u hu
    have hf := ful_lt (g0 := g0) (g1 := g1) z
    rw [Nat.pow_succ] at hu
    by_cases c : g0 z < g1 z
    · have ef : ful g0 g1 (z + 1) = 2 ^ z + ful g0 g1 z := by rw [ful, if_pos c, Nat.add_comm]
      rw [ef, tT_hi hf]
      by_cases cu : u < 2 ^ z
      · have h := ih u cu
        rw [tT_lo cu]
        exact ⟨by omega, fun _ => by omega⟩
      · obtain ⟨r, rfl⟩ : ∃ r, u = 2 ^ z + r := ⟨u - 2 ^ z, by omega⟩
        have hr : r < 2 ^ z := by omega
        have h := ih r hr
        rw [tT_hi hr]
        exact ⟨by omega, fun q => by have := h.2 (by omega); omega⟩
    · have ef : ful g0 g1 (z + 1) = ful g0 g1 z := by rw [ful, if_neg c, Nat.add_zero]
      rw [ef, tT_lo hf]
      by_cases cu : u < 2 ^ z
      · have h := ih u cu
        rw [tT_lo cu]
        exact ⟨by omega, fun q => by have := h.2 q; omega⟩
      · obtain ⟨r, rfl⟩ : ∃ r, u = 2 ^ z + r := ⟨u - 2 ^ z, by omega⟩
        have hr : r < 2 ^ z := by omega
        have h := ih r hr
        rw [tT_hi hr]
        exact ⟨by omega, fun q => by omega⟩
theorem bit_u {u i : Nat} (hi : i < 32) : fBit (nI u) (nI i) = b2 (u.testBit i) := by
  rw [fBit_b hi, bL_nI, decide_eq_true hi, Bool.true_and]
theorem b2_inj {a b : Bool} : b2 a = b2 b ↔ a = b := by cases a <;> cases b <;> simp [b2]
theorem giv_n {F : Nat → Int32} {g : Nat → Nat} {z : Nat} (hz : z ≤ 20) (hF : ∀ i, i < z → F i = nI (g i)) (u : Nat) (o : Bool) : ∀ i, i ≤ z → givN 60 F (nI u) (b2 o) i = nI (gv g u o i) := fun i => by
  induction i with
  | zero => exact fun _ => rfl
  | succ i ih =>
    intro hi
    rw [givN, gv, bit_u (by omega), ih (by omega), fAt_nI (by omega) (by decide), hF i (by omega)]
    by_cases c : u.testBit i = o
    · rw [if_pos (b2_inj.mpr c), if_pos c, nI_add]
    · rw [if_neg (fun q => c (b2_inj.mp q)), if_neg c]; rfl
theorem msh_n {W : Nat → Int32} {g : Nat → Nat} {z h : Nat} (hz : z ≤ 20) (hW : ∀ i, i < z → W (2 * i + h) = nI (g i)) (u : Nat) (o : Bool) : ∀ i, i ≤ z → mSh W (nI u) (b2 o) h i = nI (gv g u o i) := fun i => by
  induction i with
  | zero => exact fun _ => rfl
  | succ i ih =>
    intro hi
    have e : (nI u >>> (nI i &&& 31)) &&& 1 = b2 (u.testBit i) := bit_u (by omega)
    rw [mSh, gv, e, ih (by omega), hW i (by omega)]
    by_cases c : u.testBit i = o
    · rw [if_pos (b2_inj.mpr c), if_pos c, nI_add]
    · rw [if_neg (fun q => c (b2_inj.mp q)), if_neg c]; exact Int32.add_zero _
theorem mdl_sh (H : Nat → Int32) (u : Int32) (h : Nat) : ∀ i, mDl H u h i = mSh H u (nI h) h i := fun i => by
  induction i with
  | zero => rfl
  | succ i ih => rw [mDl, mSh, ih]
theorem ful_n {F0 F1 : Nat → Int32} {g0 g1 : Nat → Nat} {z : Nat} (hz : z ≤ 9) (h0 : ∀ i, i < z → F0 i = nI (g0 i)) (h1 : ∀ i, i < z → F1 i = nI (g1 i)) (b0 : ∀ i, i < z → g0 i < 1073741824) (b1 : ∀ i, i < z → g1 i < 1073741824) : ∀ i, i ≤ z → fulN 60 F0 F1 i = nI (ful g0 g1 i) := fun i => by
  induction i with
  | zero => exact fun _ => rfl
  | succ i ih =>
    intro hi
    have hf := ful_lt (g0 := g0) (g1 := g1) i
    rw [fulN, ful, ih (by omega), fAt_nI (by omega) (by decide), fAt_nI (by omega) (by decide), h0 i (by omega), h1 i (by omega)]
    have a0 := b0 i (by omega)
    have a1 := b1 i (by omega)
    by_cases c : g0 i < g1 i
    · rw [if_pos c, if_neg (nI_ge c (by omega))]
      apply bL_ext
      intro k hk
      rw [bL_with (by omega) hk, bL_nI, bL_nI, decide_eq_true hk, Bool.true_and, Bool.true_and, Nat.add_comm (ful g0 g1 i)]
      by_cases e : k = i
      · rw [e, if_pos rfl, Nat.testBit_two_pow_add_eq, Nat.testBit_lt_two_pow hf]; rfl
      · rw [if_neg e]
        rcases Nat.lt_or_ge k i with q | q
        · rw [Nat.testBit_two_pow_add_gt q]
        · have p1 : ful g0 g1 i < 2 ^ k := Nat.lt_of_lt_of_le hf (Nat.pow_le_pow_right (by decide) q)
          have p2 : 2 ^ i + ful g0 g1 i < 2 ^ k := by
            have : 2 ^ (i + 1) ≤ 2 ^ k := Nat.pow_le_pow_right (by decide) (by omega)
            rw [Nat.pow_succ] at this
            omega
          rw [Nat.testBit_lt_two_pow p1, Nat.testBit_lt_two_pow p2]
    · rw [if_neg c, Nat.add_zero, if_pos (nI_le (by omega) (by omega))]
      apply bL_ext
      intro k hk
      rw [bL_with (by omega) hk]
      by_cases e : k = i
      · rw [e, if_pos rfl, bL_nI, Nat.testBit_lt_two_pow hf]; simp
      · rw [if_neg e]
/-- the first of several ways that are best -/
def Bst (T : Nat → Nat) (U b : Nat) : Prop := b < U ∧ ∀ u, u < U → T u ≤ T b ∧ (u < b → T u < T b)
theorem Bst.eqF {g0 g1 : Nat → Nat} {z b : Nat} (h : Bst (fun u => tT g0 g1 u z) (2 ^ z) b) : b = ful g0 g1 z := by
  have hf := ful_lt (g0 := g0) (g1 := g1) z
  have a1 := h.2 _ hf
  have a2 := ful_best (g0 := g0) (g1 := g1) z b h.1
  rcases Nat.lt_trichotomy b (ful g0 g1 z) with q | q | q
  · have := a2.2 q
    have := a1.1
    dsimp only at this
    omega
  · exact q
  · have := a1.2 q
    have := a2.1
    dsimp only at *
    omega
theorem Bst.one (T : Nat → Nat) : Bst T 1 0 := ⟨Nat.one_pos, fun u hu => by
  have : u = 0 := by omega
  subst this
  exact ⟨Nat.le_refl _, fun q => absurd q (Nat.lt_irrefl _)⟩⟩
theorem Bst.new {T : Nat → Nat} {U b : Nat} (h : Bst T U b) (c : T b < T U) : Bst T (U + 1) U := ⟨Nat.lt_succ_self _, fun u hu => by
  rcases Nat.lt_or_ge u U with q | q
  · have := (h.2 u q).1
    exact ⟨by omega, fun _ => by omega⟩
  · have : u = U := by omega
    subst this
    exact ⟨Nat.le_refl _, fun q => absurd q (Nat.lt_irrefl _)⟩⟩
theorem Bst.old {T : Nat → Nat} {U b : Nat} (h : Bst T U b) (c : ¬ T b < T U) : Bst T (U + 1) b := ⟨Nat.lt_succ_of_lt h.1, fun u hu => by
  rcases Nat.lt_or_ge u U with q | q
  · exact h.2 u q
  · have : u = U := by omega
    subst this
    have := h.1
    exact ⟨by omega, fun q => by omega⟩⟩
section DEAL
variable {g0 g1 : Nat → Nat} {H F0 F1 : Nat → Int32} {n : Nat}
theorem de_ful (hn : n ≤ 9) (hH0 : ∀ i, i < n → H (2 * i + 0) = nI (g0 i)) (hH1 : ∀ i, i < n → H (2 * i + 1) = nI (g1 i)) (b0 : ∀ i, i < n → g0 i ≤ 2000000) (b1 : ∀ i, i < n → g1 i ≤ 2000000) : ∀ U, ∃ b, mDe H 0 n (U + 1) = (nI b, nI (tT g0 g1 b n), 0) ∧ Bst (fun u => tT g0 g1 u n) (U + 1) b := fun U => by
  have x1 : ∀ u, mB1Of 0 (mDl H (nI u) 0 n) (mDl H (nI u) 1 n) = nI (tT g0 g1 u n) := fun u => by
    unfold mB1Of tT
    rw [if_pos rfl, mdl_sh, mdl_sh, show nI 0 = b2 false from rfl, show nI 1 = b2 true from rfl, msh_n (by omega) hH0 u false n (Nat.le_refl _), msh_n (by omega) hH1 u true n (Nat.le_refl _), nI_add]
  have bt : ∀ u, tT g0 g1 u n ≤ 36000000 := fun u => by
    have a := gv_b (u := u) (o := false) b0 n (Nat.le_refl _)
    have b := gv_b (u := u) (o := true) b1 n (Nat.le_refl _)
    have : 2000000 * n ≤ 18000000 := by omega
    unfold tT
    omega
  have x2 : ∀ u, mB2Of 0 (mDl H (nI u) 0 n) (mDl H (nI u) 1 n) = 0 := fun u => if_pos rfl
  have step : ∀ u, mDe H 0 n (u + 1) = if mBet (nI (tT g0 g1 u n)) 0 (mDe H 0 n u).2.1 (mDe H 0 n u).2.2 = 0 then mDe H 0 n u else (nI u, nI (tT g0 g1 u n), 0) := fun u => by
    show (fun x1 x2 z => if mBet x1 x2 z.2.1 z.2.2 = 0 then z else (nI u, x1, x2)) (mB1Of 0 (mDl H (nI u) 0 n) (mDl H (nI u) 1 n)) (mB2Of 0 (mDl H (nI u) 0 n) (mDl H (nI u) 1 n)) (mDe H 0 n u) = _
    rw [x1, x2]
  induction U with
  | zero =>
    refine ⟨0, ?_, Bst.one _⟩
    rw [step]
    have := bt 0
    have e : mBet (nI (tT g0 g1 0 n)) 0 (mDe H 0 n 0).2.1 (mDe H 0 n 0).2.2 = 1 := if_pos (show (-1 : Int32) < nI (tT g0 g1 0 n) from Int32.lt_of_lt_of_le (by decide) (nI_pos' (by omega)))
    rw [e, if_neg (by decide)]
  | succ U ih =>
    obtain ⟨b, e1, e2⟩ := ih
    have l1 := bt b
    have l2 := bt (U + 1)
    rw [step, e1]
    by_cases c : tT g0 g1 b n < tT g0 g1 (U + 1) n
    · have e : mBet (nI (tT g0 g1 (U + 1) n)) 0 (nI (tT g0 g1 b n)) 0 = 1 := if_pos (nI_lt c (by omega))
      dsimp only
      rw [e, if_neg (by decide)]
      exact ⟨U + 1, rfl, e2.new c⟩
    · have e : mBet (nI (tT g0 g1 (U + 1) n)) 0 (nI (tT g0 g1 b n)) 0 = 0 := by
        unfold mBet
        rw [if_neg (nI_nlt (by omega) (by omega))]
        split
        · exact if_pos (by decide)
        · rfl
      dsimp only
      rw [e, if_pos rfl]
      exact ⟨b, rfl, e2.old c⟩
theorem ev_tie {how : Int32} (hh : ¬ how = 0) (hA : ∀ u, mDl H (nI u) 0 n = givN 60 F0 (nI u) 0 n) (hB : ∀ u, mDl H (nI u) 1 n = givN 60 F1 (nI u) 1 n) : ∀ U, mDe H how n U = evN 60 n F0 F1 U := fun U => by
  induction U with
  | zero => rfl
  | succ U ih =>
    show (fun x1 x2 z => if mBet x1 x2 z.2.1 z.2.2 = 0 then z else (nI U, x1, x2)) (mB1Of how (mDl H (nI U) 0 n) (mDl H (nI U) 1 n)) (mB2Of how (mDl H (nI U) 0 n) (mDl H (nI U) 1 n)) (mDe H how n U) = _
    have e1 : mB1Of how (mDl H (nI U) 0 n) (mDl H (nI U) 1 n) = evL 60 n F0 F1 (nI U) := by
      unfold mB1Of evL
      rw [if_neg hh, hA, hB]
      by_cases c : givN 60 F1 (nI U) 1 n < givN 60 F0 (nI U) 0 n
      · rw [if_pos c, if_pos (Int32.le_of_lt c)]
      · rw [if_neg c]
        by_cases c2 : givN 60 F1 (nI U) 1 n ≤ givN 60 F0 (nI U) 0 n
        · rw [if_pos c2]; exact Int32.le_antisymm c2 (Int32.not_lt.mp c)
        · rw [if_neg c2]
    have e2 : mB2Of how (mDl H (nI U) 0 n) (mDl H (nI U) 1 n) = evS 60 n F0 F1 (nI U) := by
      unfold mB2Of evS
      rw [if_neg hh, hA, hB]
    rw [e1, e2, ih, evN]
    dsimp only
    unfold mBet
    by_cases c : (evN 60 n F0 F1 U).2.1 < evL 60 n F0 F1 (nI U)
    · rw [if_pos c, if_pos c, if_neg (by decide)]
    · rw [if_neg c, if_neg c]
      by_cases c2 : evL 60 n F0 F1 (nI U) = (evN 60 n F0 F1 U).2.1
      · rw [if_pos c2, if_pos c2]
        by_cases c3 : evS 60 n F0 F1 (nI U) ≤ (evN 60 n F0 F1 U).2.2
        · rw [if_pos c3, if_pos c3, if_pos rfl]
        · rw [if_neg c3, if_neg c3, if_neg (by decide)]
      · rw [if_neg c2, if_neg c2, if_pos rfl]
theorem way_tie {how : Int32} (hn1 : 1 ≤ n) (hn : n ≤ 9) (hF0 : ∀ i, i < n → F0 i = nI (g0 i)) (hF1 : ∀ i, i < n → F1 i = nI (g1 i)) (hH0 : ∀ i, i < n → H (2 * i + 0) = nI (g0 i)) (hH1 : ∀ i, i < n → H (2 * i + 1) = nI (g1 i)) (b0 : ∀ i, i < n → g0 i ≤ 2000000) (b1 : ∀ i, i < n → g1 i ≤ 2000000) : fWay how n F0 F1 = (mDe H how n (2 ^ n)).1 ∧ ∃ b, fWay how n F0 F1 = nI b := by
  have p : 1 ≤ 2 ^ n := Nat.one_le_two_pow
  unfold fWay
  by_cases c : how = 0
  · rw [if_pos c, c]
    obtain ⟨b, e1, e2⟩ := de_ful hn hH0 hH1 b0 b1 (2 ^ n - 1)
    rw [show 2 ^ n - 1 + 1 = 2 ^ n by omega] at e1 e2
    rw [e1, e2.eqF, ful_n hn hF0 hF1 (fun i hi => by have := b0 i hi; omega) (fun i hi => by have := b1 i hi; omega) n (Nat.le_refl _)]
    exact ⟨rfl, _, rfl⟩
  · rw [if_neg c]
    have A : ∀ u, mDl H (nI u) 0 n = givN 60 F0 (nI u) 0 n := fun u => by
      rw [mdl_sh, show nI 0 = b2 false from rfl, msh_n (by omega) hH0 u false n (Nat.le_refl _)]
      exact (giv_n (by omega) hF0 u false n (Nat.le_refl _)).symm
    have B : ∀ u, mDl H (nI u) 1 n = givN 60 F1 (nI u) 1 n := fun u => by
      rw [mdl_sh, show nI 1 = b2 true from rfl, msh_n (by omega) hH1 u true n (Nat.le_refl _)]
      exact (giv_n (by omega) hF1 u true n (Nat.le_refl _)).symm
    rw [ev_tie c A B]
    refine ⟨rfl, ?_⟩
    have : ∀ U, ∃ b, (evN 60 n F0 F1 U).1 = nI b := fun U => by
      induction U with
      | zero => exact ⟨0, rfl⟩
      | succ U ih =>
        rw [evN]
        split
        · exact ⟨U, rfl⟩
        · split
          · split
            · exact ih
            · exact ⟨U, rfl⟩
          · exact ih
    exact this _
end DEAL
section DEAL2
variable {en : En} {f : Nat → Int32} {L k t : Nat}
theorem fil_at {cl : Int32} {ha : Nat → Int32} : ∀ m i, i < m → mFil f L cl t ha m i = mHas f L cl (t + i / 2) (nI (i % 2)) := fun m => by
  induction m with
  | zero => exact fun i hi => absurd hi (Nat.not_lt_zero _)
  | succ m ih =>
    intro i hi
    rw [mFil]
    by_cases c : i = m
    · rw [c, upd_eq]
    · rw [upd_ne c]; exact ih i (by omega)
theorem deal_tie (hL : TiL en f L) (hk : TiK en f k) (hH : TiH f (eHi en) L) (hn : eNi en = nI t) (ht : t ≤ 9999) (tz tn ha : Nat → Int32) (n how w : Int32) : opDeal en tz tn n how w = mDeal f L t ha n how w := by
  unfold opDeal mDeal
  by_cases c0 : fIn how 0 1 = 0
  · rw [if_pos c0, if_pos c0]
  rw [if_neg c0, if_neg c0]
  by_cases c1 : fIn w 0 2 = 0
  · rw [if_pos c1, if_pos c1]
  rw [if_neg c1, if_neg c1]
  by_cases c2 : fIn n 1 9 = 0
  · rw [if_pos c2, if_pos c2]
  rw [if_neg c2, if_neg c2]
  obtain ⟨z, z1, z2, rfl⟩ := fIn_k1 (K := 9) (by decide) c2
  obtain ⟨d, hd, rfl⟩ := fIn_k (K := 2) (by decide) c1
  rw [nI_clamp (show z < 2147483648 by omega), nI_clamp (show d < 2147483648 by omega)]
  obtain ⟨F0, hF0⟩ : ∃ F, F = fillN (dHas en 0) tz z := ⟨_, rfl⟩
  obtain ⟨F1, hF1⟩ : ∃ F, F = fillN (dHas en 1) tn z := ⟨_, rfl⟩
  obtain ⟨H, hHH⟩ : ∃ F, F = mFil f L (mCl f) t ha (2 * z) := ⟨_, rfl⟩
  rw [← hF0, ← hF1, ← hHH]
  have val : ∀ h i, h ≤ 1 → i < z → fHas en (nI h) (eNi en + nI i) (eHi en) (eCl en) = H (2 * i + h) := fun h i hh hi => by
    rw [hn, nI_add, has_tie hL hk hH (by omega), hHH, fil_at _ _ (by omega), hk.cloud, show (2 * i + h) / 2 = i by omega, show (2 * i + h) % 2 = h by omega]
  have nat : ∀ h i, ∃ u : Nat, u ≤ 360000 ∧ (i < z → h ≤ 1 → H (2 * i + h) = nI u) := fun h i => by
    by_cases c : i < z ∧ h ≤ 1
    · obtain ⟨u, u1, u2⟩ := has_b hL hk (mCl f) (nI h) (t + i)
      refine ⟨u, u1, fun _ _ => ?_⟩
      rw [hHH, fil_at _ _ (by omega), show (2 * i + h) / 2 = i by omega, show (2 * i + h) % 2 = h by omega, u2]
    · exact ⟨0, by omega, fun q q2 => absurd ⟨q, q2⟩ c⟩
  have g0 := fun i => nat 0 i
  have g1 := fun i => nat 1 i
  obtain ⟨G0, hG0⟩ := Classical.axiomOfChoice g0
  obtain ⟨G1, hG1⟩ := Classical.axiomOfChoice g1
  have hH0 : ∀ i, i < z → H (2 * i + 0) = nI (G0 i) := fun i hi => (hG0 i).2 hi (by omega)
  have hH1 : ∀ i, i < z → H (2 * i + 1) = nI (G1 i) := fun i hi => (hG1 i).2 hi (by omega)
  have hf0 : ∀ i, i < z → F0 i = nI (G0 i) := fun i hi => by
    rw [hF0, fill_at z (by omega) i hi, ← hH0 i hi]
    exact val 0 i (by omega) hi
  have hf1 : ∀ i, i < z → F1 i = nI (G1 i) := fun i hi => by
    rw [hF1, fill_at z (by omega) i hi, ← hH1 i hi]
    exact val 1 i (by omega) hi
  obtain ⟨e1, b, e2⟩ := way_tie (how := how) (by omega) (by omega) hf0 hf1 hH0 hH1 (fun i _ => by have := (hG0 i).1; omega) (fun i _ => by have := (hG1 i).1; omega)
  unfold dealR mDeR
  rw [← e1]
  rcases (show d = 0 ∨ d = 1 ∨ d = 2 by omega) with rfl | rfl | rfl
  · rw [if_pos (show nI 0 = 0 from rfl), if_pos rfl]
  · rw [if_neg (show ¬ nI 1 = 0 by decide), if_pos (show nI 1 = 1 from rfl), if_neg (show ¬ (1 : Nat) = 0 by decide), e2, mdl_sh]
    rw [show nI 1 - 1 = b2 false from by decide, show nI (1 - 1) = b2 false from rfl]
    rw [giv_n (by omega) hf0 b false z (Nat.le_refl _)]
    exact (msh_n (by omega) hH0 b false z (Nat.le_refl _)).symm
  · rw [if_neg (show ¬ nI 2 = 0 by decide), if_neg (show ¬ nI 2 = 1 by decide), if_neg (show ¬ (2 : Nat) = 0 by decide), e2, mdl_sh]
    rw [show nI 2 - 1 = b2 true from by decide, show nI (2 - 1) = b2 true from rfl]
    rw [giv_n (by omega) hf1 b true z (Nat.le_refl _)]
    exact (msh_n (by omega) hH1 b true z (Nat.le_refl _)).symm
end DEAL2
