def qT2 (f : Nat → Int32) (en : Nat) (q : Q9) (wh ho z : Int32) : Q9 := qEm (qFg f en (qS q, z, qL q)) (wh + 8 * ho + 32 * fgI f en (qS q, z, qL q))
def qTs (f : Nat → Int32) (en : Nat) (q : Q9) : Q9 := if amI f en q 7 = -1 then qT2 f en (qAm f en q 7) (-1) 0 1 else qT2 f en (qAm f en (qS (qAm f en q 7), 0, qL (qAm f en q 7)) 8) (amI f en q 7) (amI f en (qS (qAm f en q 7), 0, qL (qAm f en q 7)) 8) (if amI f en (qS (qAm f en q 7), 0, qL (qAm f en q 7)) 8 = -1 then 1 else 0)
def qLp (f : Nat → Int32) (en : Nat) (x y : Int32) (F : Q9 → Q9) : Nat → Q9 → Q9
  | 0, q => q
  | n + 1, q => if qZ q = 0 then (if qHe f en q = x then qLp f en x y F n (qEm (F (qS q + 1, qZ q, qL q)) y) else q) else q
def qEv (f : Nat → Int32) (en : Nat) (F : Q9 → Q9) (q : Q9) : Q9 := qLp f en 38 (-2) F 101 (F q)
def qSo (f : Nat → Int32) (en : Nat) (F : Q9 → Q9) (q : Q9) : Q9 := qLp f en 124 (-3) (qEv f en F) 101 (qEv f en F q)
def qFac (f : Nat → Int32) (en : Nat) : Nat → Q9 → Q9
  | 0, q => if qZ q = 0 then (if qHe f en q = 33 then (qS q, 1, qL q) else if qHe f en q = 40 then (qS q, 1, qL q) else qTs f en q) else q
  | k + 1, q => if qZ q = 0 then (if qHe f en q = 33 then qEm (qFac f en k (qS q + 1, 0, qL q)) (-1) else if qHe f en q = 40 then qMu f en (qSo f en (qFac f en k) (qS q + 1, 0, qL q)) 41 else qTs f en q) else q
theorem qFac_0 (f : Nat → Int32) (en : Nat) (q : Q9) : qFac f en 0 q = if qZ q = 0 then (if qHe f en q = 33 then (qS q, 1, qL q) else if qHe f en q = 40 then (qS q, 1, qL q) else qTs f en q) else q := rfl
theorem qFac_s (f : Nat → Int32) (en k : Nat) (q : Q9) : qFac f en (k + 1) q = if qZ q = 0 then (if qHe f en q = 33 then qEm (qFac f en k (qS q + 1, 0, qL q)) (-1) else if qHe f en q = 40 then qMu f en (qSo f en (qFac f en k) (qS q + 1, 0, qL q)) 41 else qTs f en q) else q := rfl
/-- a reading that keeps places and steps in order -/
def GoodF (en : Nat) (F : Q9 → Q9) : Prop := ∀ q, VQ en q → VQ en (F q) ∧ LQ q (F q)
theorem am_lt {f : Nat → Int32} {sp en k : Nat} : ∀ u i, (mAmo f sp en k u i).1 ≠ -1 → (mAmo f sp en k u i).2 = sp + 1 := fun u => by
  induction u with
  | zero => exact fun _ h => absurd rfl h
  | succ u ih =>
    intro i h
    by_cases c : mHe f sp en = chS k i
    · have e : mAmo f sp en k (u + 1) i = (nI i, sp + 1) := if_pos c
      rw [e]
    · have e : mAmo f sp en k (u + 1) i = mAmo f sp en k u (i + 1) := if_neg c
      rw [e] at h ⊢
      exact ih (i + 1) h
theorem qFg_z {f : Nat → Int32} {en : Nat} {q : Q9} (h : ¬ qZ q = 0) : qFg f en q = (qS q, 1, qL q) := by
  have e : mFgW f (qS q) en (qZ q) = 1 := if_neg h
  unfold qFg
  rw [e]
  rfl
theorem qT2_z {f : Nat → Int32} {en : Nat} {q : Q9} {wh ho : Int32} : qT2 f en q wh ho 1 = (qS q, 1, qL q) := by
  have e := qFg_z (f := f) (en := en) (q := (qS q, 1, qL q)) (show ¬ (1 : Int32) = 0 by decide)
  unfold qT2
  rw [e]
  rfl
theorem qTs_good {f : Nat → Int32} {en : Nat} {q : Q9} (h : VQ en q) : VQ en (qTs f en q) ∧ LQ q (qTs f en q) := by
  have a1 := qAm_V (f := f) (k := 7) h (by decide)
  unfold qTs
  by_cases c : amI f en q 7 = -1
  · rw [if_pos c, qT2_z]
    exact ⟨a1.1.z (Or.inr rfl), a1.2⟩
  · rw [if_neg c]
    have e1 : qS (qAm f en q 7) = qS q + 1 := am_lt _ _ c
    obtain ⟨r, er⟩ : ∃ r : Q9, r = (qS (qAm f en q 7), 0, qL (qAm f en q 7)) := ⟨_, rfl⟩
    have hr : VQ en r := by rw [er]; exact a1.1.z (Or.inl rfl)
    have lr : LQ q r := by rw [er]; exact a1.2
    have sr : qS r = qS q + 1 := by rw [er]; exact e1
    have zr : (qL r).length = (qL q).length := by rw [er]; rfl
    rw [← er]
    have a2 := qAm_V (f := f) (k := 8) hr (by decide)
    by_cases c2 : amI f en r 8 = -1
    · rw [if_pos c2, qT2_z]
      exact ⟨a2.1.z (Or.inr rfl), LQ.tr lr a2.2⟩
    · rw [if_neg c2]
      obtain ⟨v, ev⟩ : ∃ v : Q9, v = (qS (qAm f en r 8), 0, qL (qAm f en r 8)) := ⟨_, rfl⟩
      have hv : VQ en v := by rw [ev]; exact a2.1.z (Or.inl rfl)
      have lv : LQ r v := by rw [ev]; exact a2.2
      have zv : (qL v).length = (qL r).length := by rw [ev]; rfl
      unfold qT2
      rw [← ev]
      have a3 := qFg_V (f := f) hv
      have z3 : (qL (qFg f en v)).length = (qL v).length := rfl
      have := lv.1
      have := a3.2.1
      exact qEm_V h a3.1 (by omega) (by omega)
theorem qLp_good {f : Nat → Int32} {en : Nat} {x y : Int32} (hx : x ≠ -1) {F : Q9 → Q9} (hF : GoodF en F) : ∀ n, GoodF en (qLp f en x y F n) := fun n => by
  induction n with
  | zero => exact fun q h => ⟨h, LQ.rfl' q⟩
  | succ n ih =>
    intro q h
    show VQ en (if qZ q = 0 then (if qHe f en q = x then qLp f en x y F n (qEm (F (qS q + 1, qZ q, qL q)) y) else q) else q) ∧ LQ q (if qZ q = 0 then (if qHe f en q = x then qLp f en x y F n (qEm (F (qS q + 1, qZ q, qL q)) y) else q) else q)
    by_cases c1 : qZ q = 0
    · rw [if_pos c1]
      by_cases c2 : qHe f en q = x
      · rw [if_pos c2]
        have lt := mHe_lt c2 hx
        have hq : VQ en (qS q + 1, qZ q, qL q) := ⟨lt, Nat.le_trans h.2.1 (Nat.le_succ _), h.2.2⟩
        have g := hF _ hq
        have g1 : qS q + 1 ≤ qS (F (qS q + 1, qZ q, qL q)) := g.2.1
        have g2 : (qL (F (qS q + 1, qZ q, qL q))).length + (qS q + 1) ≤ (qL q).length + qS (F (qS q + 1, qZ q, qL q)) := g.2.2
        have e := qEm_V (x := y) h g.1 (by omega) g2
        have i := ih _ e.1
        exact ⟨i.1, LQ.tr e.2 i.2⟩
      · rw [if_neg c2]; exact ⟨h, LQ.rfl' q⟩
    · rw [if_neg c1]; exact ⟨h, LQ.rfl' q⟩
theorem qEv_good {f : Nat → Int32} {en : Nat} {F : Q9 → Q9} (hF : GoodF en F) : GoodF en (qEv f en F) := fun q h => by
  have a := hF q h
  have b := qLp_good (f := f) (x := 38) (y := -2) (by decide) hF 101 _ a.1
  exact ⟨b.1, LQ.tr a.2 b.2⟩
theorem qSo_good {f : Nat → Int32} {en : Nat} {F : Q9 → Q9} (hF : GoodF en F) : GoodF en (qSo f en F) := fun q h => by
  have a := qEv_good (f := f) hF q h
  have b := qLp_good (f := f) (x := 124) (y := -3) (by decide) (qEv_good (f := f) hF) 101 _ a.1
  exact ⟨b.1, LQ.tr a.2 b.2⟩
theorem qFac_good {f : Nat → Int32} {en : Nat} : ∀ k, GoodF en (qFac f en k) := fun k => by
  induction k with
  | zero =>
    intro q h
    rw [qFac_0]
    by_cases c1 : qZ q = 0
    · rw [if_pos c1]
      by_cases c2 : qHe f en q = 33
      · rw [if_pos c2]; exact ⟨h.z (Or.inr rfl), LQ.rfl' q⟩
      · rw [if_neg c2]
        by_cases c3 : qHe f en q = 40
        · rw [if_pos c3]; exact ⟨h.z (Or.inr rfl), LQ.rfl' q⟩
        · rw [if_neg c3]; exact qTs_good h
    · rw [if_neg c1]; exact ⟨h, LQ.rfl' q⟩
  | succ k ih =>
    intro q h
    rw [qFac_s]
    by_cases c1 : qZ q = 0
    · rw [if_pos c1]
      by_cases c2 : qHe f en q = 33
      · rw [if_pos c2]
        have lt := mHe_lt c2 (by decide)
        have hq : VQ en (qS q + 1, 0, qL q) := ⟨lt, Nat.le_trans h.2.1 (Nat.le_succ _), Or.inl rfl⟩
        have g := ih _ hq
        have g1 : qS q + 1 ≤ qS (qFac f en k (qS q + 1, 0, qL q)) := g.2.1
        have g2 : (qL (qFac f en k (qS q + 1, 0, qL q))).length + (qS q + 1) ≤ (qL q).length + qS (qFac f en k (qS q + 1, 0, qL q)) := g.2.2
        exact qEm_V h g.1 (by omega) g2
      · rw [if_neg c2]
        by_cases c3 : qHe f en q = 40
        · rw [if_pos c3]
          have lt := mHe_lt c3 (by decide)
          have hq : VQ en (qS q + 1, 0, qL q) := ⟨lt, Nat.le_trans h.2.1 (Nat.le_succ _), Or.inl rfl⟩
          have g := qSo_good (f := f) ih _ hq
          have g1 : qS q + 1 ≤ qS (qSo f en (qFac f en k) (qS q + 1, 0, qL q)) := g.2.1
          have g2 : (qL (qSo f en (qFac f en k) (qS q + 1, 0, qL q))).length + (qS q + 1) ≤ (qL q).length + qS (qSo f en (qFac f en k) (qS q + 1, 0, qL q)) := g.2.2
          have m := qMu_V (f := f) (x := 41) g.1 (by decide)
          exact ⟨m.1, LQ.tr ⟨by omega, by omega⟩ m.2⟩
        · rw [if_neg c3]; exact qTs_good h
    · rw [if_neg c1]; exact ⟨h, LQ.rfl' q⟩
theorem qLp_z {f : Nat → Int32} {en : Nat} {x y : Int32} {F : Q9 → Q9} {q : Q9} (h : ¬ qZ q = 0) : ∀ n, qLp f en x y F n q = q := fun n => by
  cases n with
  | zero => rfl
  | succ n => exact if_neg h
theorem qLp_o {f : Nat → Int32} {en : Nat} {x y : Int32} {F : Q9 → Q9} {q : Q9} (h : ¬ qHe f en q = x) : ∀ n, qLp f en x y F n q = q := fun n => by
  cases n with
  | zero => rfl
  | succ n =>
    show (if qZ q = 0 then (if qHe f en q = x then _ else q) else q) = q
    rw [if_neg h]
    split <;> rfl
theorem qLp_i {f : Nat → Int32} {en : Nat} {x y : Int32} {F : Q9 → Q9} {q : Q9} (h0 : qZ q = 0) (h : qHe f en q = x) {n : Nat} (hn : 0 < n) : qLp f en x y F n q = qLp f en x y F (n - 1) (qEm (F (qS q + 1, qZ q, qL q)) y) := by
  obtain ⟨u, rfl⟩ : ∃ u, n = u + 1 := ⟨n - 1, by omega⟩
  show (if qZ q = 0 then (if qHe f en q = x then _ else q) else q) = _
  rw [if_pos h0, if_pos h]
  rfl

theorem lk_X12_85 : LkV RX12 85 yX12_factor cX12_factor 5 none 0 := lkV_of q_953 q_955 qs_20 q_7 q_956 ⟨by decide, by decide, by decide +kernel⟩ (by decide)
theorem lk_X12_105 : LkV RX12 105 yX12_every cX12_every 1 none 0 := lkV_of q_949 q_951 qs_19 q_7 q_952 ⟨by decide, by decide, by decide +kernel⟩ (by decide)
theorem lk_X12_88 : LkV RX12 88 yX12_emits cX12_emits 2 none 1 := lkV_of q_957 q_959 qs_21 q_7 q_960 ⟨by decide, by decide, by decide +kernel⟩ (by decide)
theorem lk_X12_96 : LkV RX12 96 yX12_among cX12_among 3 (some .int) 1 := lkV_of q_962 q_964 qs_22 q_7 q_965 ⟨by decide, by decide, by decide +kernel⟩ (by decide)
theorem lk_X12_91 : LkV RX12 91 yX12_some cX12_some 1 none 0 := lkV_of q_945 q_947 qs_18 q_7 q_948 ⟨by decide, by decide, by decide +kernel⟩ (by decide)
set_option maxHeartbeats 4000000 in
set_option maxRecDepth 100000 in
theorem c_X12_factor_w (l : Launch) (g : Gp) (M : Mem) (m0 m1 m2 m3 m4 m5 m6 m7 m8 m9 m10 m11 : Int32) (h46 : M (gA g 46) = some (mdE g m0 m1 m2 m3 m4 m5 m6 m7 m8 m9 m10 m11)) (hz : ¬ m6 = 0) : Met l yX12_factor (wsM yX12_factor cX12_factor 5 none) (rmD 1 0 0) (Pre g M [.ref (gA g 46)]) (Qv g (fun M1 => M = M1)) 0 0 (gF g) := M_start (by decide +kernel) (Nat.le_of_ble_eq_true rfl) fun p e s m args below meth c ls X hr hk hnm hM hl => by
  have X : Cx g p m c cX12_factor 5 s args RX12 := X
  have hx := X.1.1
  have hb := X.1.2.1
  have hl : lv_has ls 5 [(0, .ref (gA g 46))] := hl
  refine lv_aload_n hx hb dX12_factor_0 rfl (lv_at hl 0 rfl) ?_
  refine r_get (T := TX12) (N := 20) (ci := 12) (v := .int m6) X hM iX12 rfl 9 (by decide) q_844 (Or.inl rfl) h46 rfl dX12_factor_1 ?_
  refine lv_if_eq (tgt := 8) hx hb dX12_factor_4 (by decide) (fun c_1 => ?_) (fun c_1 => ?_)
  · skip
    exact absurd c_1 hz
  · skip
    exact R_v X hr hk hM rfl dX12_factor_7
set_option maxHeartbeats 4000000 in
set_option maxRecDepth 100000 in
theorem c_X12_every_w (l : Launch) (g : Gp) (M : Mem) (m0 m1 m2 m3 m4 m5 m6 m7 m8 m9 m10 m11 : Int32) (h46 : M (gA g 46) = some (mdE g m0 m1 m2 m3 m4 m5 m6 m7 m8 m9 m10 m11)) (hz : ¬ m6 = 0) : Met l yX12_every (wsM yX12_every cX12_every 1 none) (rmD 2 0 0) (Pre g M [.ref (gA g 46)]) (Qv g (fun M1 => M = M1)) 0 0 (gF g) := M_start (by decide +kernel) (Nat.le_of_ble_eq_true rfl) fun p e s m args below meth c ls X hr hk hnm hM hl => by
  have X : Cx g p m c cX12_every 1 s args RX12 := X
  have hx := X.1.1
  have hb := X.1.2.1
  have hl : lv_has ls 1 [(0, .ref (gA g 46))] := hl
  refine lv_aload_n hx hb dX12_every_0 rfl (lv_at hl 0 rfl) ?_
  refine K_v (G_V (As := []) (rest := []) X hM (c_X12_factor_w l g _ m0 m1 m2 m3 m4 m5 m6 m7 m8 m9 m10 m11 h46 hz) lk_X12_85 h46 rfl rfl hl.1 rfl (Nat.le_of_ble_eq_true rfl) (by decide) dX12_every_1 ⟨Nat.le_of_ble_eq_true rfl, Nat.le_of_ble_eq_true rfl⟩) hM (fun M1 H locs hM hp => ?_)
  subst hp
  refine lv_aload_n hx hb dX12_every_4 rfl (lv_at hl 0 rfl) ?_
  refine r_get (T := TX12) (N := 20) (ci := 12) (v := .int m6) X hM iX12 rfl 9 (by decide) q_844 (Or.inl rfl) h46 rfl dX12_every_5 ?_
  refine lv_if_ne (tgt := 43) hx hb dX12_every_8 (by decide) (fun c_1 => ?_) (fun c_1 => ?_)
  · skip
    exact R_v X hr hk hM rfl dX12_every_43
  · skip
    exact absurd c_1 hz
set_option maxHeartbeats 4000000 in
set_option maxRecDepth 100000 in
theorem c_X12_some_w (l : Launch) (g : Gp) (M : Mem) (m0 m1 m2 m3 m4 m5 m6 m7 m8 m9 m10 m11 : Int32) (h46 : M (gA g 46) = some (mdE g m0 m1 m2 m3 m4 m5 m6 m7 m8 m9 m10 m11)) (hz : ¬ m6 = 0) : Met l yX12_some (wsM yX12_some cX12_some 1 none) (rmD 3 0 0) (Pre g M [.ref (gA g 46)]) (Qv g (fun M1 => M = M1)) 0 0 (gF g) := M_start (by decide +kernel) (Nat.le_of_ble_eq_true rfl) fun p e s m args below meth c ls X hr hk hnm hM hl => by
  have X : Cx g p m c cX12_some 1 s args RX12 := X
  have hx := X.1.1
  have hb := X.1.2.1
  have hl : lv_has ls 1 [(0, .ref (gA g 46))] := hl
  refine lv_aload_n hx hb dX12_some_0 rfl (lv_at hl 0 rfl) ?_
  refine K_v (G_V (As := []) (rest := []) X hM (c_X12_every_w l g _ m0 m1 m2 m3 m4 m5 m6 m7 m8 m9 m10 m11 h46 hz) lk_X12_105 h46 rfl rfl hl.1 rfl (Nat.le_of_ble_eq_true rfl) (by decide) dX12_some_1 ⟨Nat.le_of_ble_eq_true rfl, Nat.le_of_ble_eq_true rfl⟩) hM (fun M1 H locs hM hp => ?_)
  subst hp
  refine lv_aload_n hx hb dX12_some_4 rfl (lv_at hl 0 rfl) ?_
  refine r_get (T := TX12) (N := 20) (ci := 12) (v := .int m6) X hM iX12 rfl 9 (by decide) q_844 (Or.inl rfl) h46 rfl dX12_some_5 ?_
  refine lv_if_ne (tgt := 43) hx hb dX12_some_8 (by decide) (fun c_1 => ?_) (fun c_1 => ?_)
  · skip
    exact R_v X hr hk hM rfl dX12_some_43
  · skip
    exact absurd c_1 hz
set_option maxHeartbeats 4000000 in
set_option maxRecDepth 100000 in
theorem c_X12_factor_0 (l : Launch) (g : Gp) (M : Mem) (m0 m1 m2 m8 m9 m10 m11 : Int32) (a en : Nat) (f : Nat → Int32) (tu cl : Int32) (q : Q9) (h46 : M (gA g 46) = some (mdE g m0 m1 m2 (nI a) (nI (qS q)) (nI en) (qZ q) 5 m8 m9 m10 m11)) (h47 : M (gA g 47) = some (aI g 929 (cnt f a tu cl (qL q)))) (hV : VQ en q) (hen : en ≤ 100) (ha : a < 5) (hf : f (224 + a) = nI 0) : Met l yX12_factor (wsM yX12_factor cX12_factor 5 none) (rmD 6 0 0) (Pre g M [.ref (gA g 46)]) (Qv g (fun M1 => mup (mup M (gA g 46) (mdE g m0 m1 m2 (nI a) (nI (qS (qFac f en 0 q))) (nI en) (qZ (qFac f en 0 q)) 5 m8 m9 m10 m11)) (gA g 47) (aI g 929 (cnt f a tu cl (qL (qFac f en 0 q)))) = M1)) 0 0 (gF g) := M_start (by decide +kernel) (Nat.le_of_ble_eq_true rfl) fun p e s m args below meth c ls X hr hk hnm hM hl => by
  have X : Cx g p m c cX12_factor 5 s args RX12 := X
  have hx := X.1.1
  have hb := X.1.2.1
  have hl : lv_has ls 5 [(0, .ref (gA g 46))] := hl
  refine lv_aload_n hx hb dX12_factor_0 rfl (lv_at hl 0 rfl) ?_
  refine r_get (T := TX12) (N := 20) (ci := 12) (v := .int (qZ q)) X hM iX12 rfl 9 (by decide) q_844 (Or.inl rfl) h46 rfl dX12_factor_1 ?_
  refine lv_if_eq (tgt := 8) hx hb dX12_factor_4 (by decide) (fun c_1 => ?_) (fun c_1 => ?_)
  · skip
    refine lv_aload_n hx hb dX12_factor_8 rfl (lv_at hl 0 rfl) ?_
    refine K_i (G_V (As := []) (rest := []) X hM (c_X12_hereQ l g _ m0 m1 m2 5 m8 m9 m10 m11 a en f tu cl q h46 h47 hV hen ha hf) lk_X12_62 h46 rfl rfl hl.1 rfl (Nat.le_of_ble_eq_true rfl) (by decide) dX12_factor_9 ⟨Nat.le_of_ble_eq_true rfl, Nat.le_of_ble_eq_true rfl⟩) hM (fun r M1 H locs hM hp => ?_)
    obtain ⟨rfl, rfl⟩ := hp
    refine lv_istore_n (lv' := [(1, .int (qHe f en q)), (0, .ref (gA g 46))]) hx hb dX12_factor_12 rfl hl (by decide) rfl (fun ls hl => ?_)
    refine lv_iload_n hx hb dX12_factor_13 rfl (lv_at hl 0 rfl) ?_
    refine lv_bipush (v := 33) hx hb dX12_factor_14 (by decide) ?_
    refine lv_icmp_eq (tgt := 25) hx hb dX12_factor_16 (by decide) (fun c_2 => ?_) (fun c_2 => ?_)
    · skip
      refine lv_aload_n hx hb dX12_factor_25 rfl (lv_at hl 1 rfl) ?_
      refine lv_aload_n hx hb dX12_factor_26 rfl (lv_at hl 1 rfl) ?_
      refine r_get (T := TX12) (N := 20) (ci := 12) (v := .int 5) X hM iX12 rfl 10 (by decide) q_845 (Or.inl rfl) h46 rfl dX12_factor_27 ?_
      refine lv_iconst (v := 5) hx hb dX12_factor_30 (by decide) ?_
      refine lv_icmp_ne (tgt := 38) hx hb dX12_factor_31 (by decide) (fun c_3 => ?_) (fun c_3 => ?_)
      · exact absurd c_3 (by decide)
      · skip
        refine lv_iconst (v := 1) hx hb dX12_factor_34 (by decide) ?_
        refine lv_goto (tgt := 39) hx hb dX12_factor_35 (by decide) ?_
        refine r_put (T := TX12) (N := 20) (ci := 12) X hM iX12 tyX12 tyX12_ok nmX12 rfl 9 (by decide) q_844 rfl (Or.inl rfl) h46 rfl rfl (Nat.le_of_ble_eq_true rfl) dX12_factor_39 (fun H locs hM => ?_)
        have hM : MW g (mup M (gA g 46) (mdE g m0 m1 m2 (nI a) (nI (qS q)) (nI en) 1 5 m8 m9 m10 m11)) H locs := hM
        refine lv_aload_n hx hb dX12_factor_42 rfl (lv_at hl 1 rfl) ?_
        refine lv_dup hx hb dX12_factor_43 rfl ?_
        refine r_get (T := TX12) (N := 20) (ci := 12) (v := .int 5) X hM iX12 rfl 10 (by decide) q_845 (Or.inl rfl) (mup_s _ _ _) rfl dX12_factor_44 ?_
        refine lv_iconst (v := 1) hx hb dX12_factor_47 (by decide) ?_
        refine lv_iadd hx hb dX12_factor_48 ?_
        rw [show (5 + 1 : Int32) = 6 from by decide]
        refine r_put (T := TX12) (N := 20) (ci := 12) X hM iX12 tyX12 tyX12_ok nmX12 rfl 10 (by decide) q_845 rfl (Or.inl rfl) (mup_s _ _ _) rfl rfl (Nat.le_of_ble_eq_true rfl) dX12_factor_49 (fun H locs hM => ?_)
        rw [mup_i] at hM
        have hM : MW g (mup M (gA g 46) (mdE g m0 m1 m2 (nI a) (nI (qS q)) (nI en) 1 6 m8 m9 m10 m11)) H locs := hM
        refine lv_aload_n hx hb dX12_factor_52 rfl (lv_at hl 1 rfl) ?_
        refine lv_dup hx hb dX12_factor_53 rfl ?_
        refine r_get (T := TX12) (N := 20) (ci := 12) (v := .int (nI (qS q))) X hM iX12 rfl 7 (by decide) q_842 (Or.inl rfl) (mup_s _ _ _) rfl dX12_factor_54 ?_
        refine lv_aload_n hx hb dX12_factor_57 rfl (lv_at hl 1 rfl) ?_
        refine r_get (T := TX12) (N := 20) (ci := 12) (v := .int 1) X hM iX12 rfl 9 (by decide) q_844 (Or.inl rfl) (mup_s _ _ _) rfl dX12_factor_58 ?_
        refine lv_if_eq (tgt := 68) hx hb dX12_factor_61 (by decide) (fun c_4 => ?_) (fun c_4 => ?_)
        · exact absurd c_4 (by decide)
        · skip
          refine lv_iconst (v := 0) hx hb dX12_factor_64 (by decide) ?_
          refine lv_goto (tgt := 69) hx hb dX12_factor_65 (by decide) ?_
          refine lv_iadd hx hb dX12_factor_69 ?_
          rw [show (nI (qS q)) + (0 : Int32) = nI ((qS q) + 0) from nI_add (qS q) 0]
          refine r_put (T := TX12) (N := 20) (ci := 12) X hM iX12 tyX12 tyX12_ok nmX12 rfl 7 (by decide) q_842 rfl (Or.inl rfl) (mup_s _ _ _) rfl rfl (Nat.le_of_ble_eq_true rfl) dX12_factor_70 (fun H locs hM => ?_)
          rw [mup_i] at hM
          have hM : MW g (mup M (gA g 46) (mdE g m0 m1 m2 (nI a) (nI ((qS q) + 0)) (nI en) 1 6 m8 m9 m10 m11)) H locs := hM
          refine lv_iload_n hx hb dX12_factor_73 rfl (lv_at hl 0 rfl) ?_
          refine lv_bipush (v := 33) hx hb dX12_factor_74 (by decide) ?_
          refine lv_icmp_ne (tgt := 91) hx hb dX12_factor_76 (by decide) (fun c_5 => ?_) (fun c_5 => ?_)
          · skip
            exact absurd c_2 c_5
          · skip
            refine lv_aload_n hx hb dX12_factor_79 rfl (lv_at hl 1 rfl) ?_
            refine K_v (G_V (As := []) (rest := []) X hM (c_X12_factor_w l g _ m0 m1 m2 (nI a) (nI ((qS q) + 0)) (nI en) 1 6 m8 m9 m10 m11 (mup_s _ _ _) (by decide)) lk_X12_85 (mup_s _ _ _) rfl rfl hl.1 rfl (Nat.le_of_ble_eq_true rfl) (by decide) dX12_factor_80 ⟨Nat.le_of_ble_eq_true rfl, Nat.le_of_ble_eq_true rfl⟩) hM (fun M1 H locs hM hp => ?_)
            subst hp
            refine lv_aload_n hx hb dX12_factor_83 rfl (lv_at hl 1 rfl) ?_
            refine lv_iconst (v := -1) hx hb dX12_factor_84 (by decide) ?_
            refine K_v (G_V (As := [.int (-1)]) (rest := []) X hM (c_X12_emitsQ l g _ m0 m1 m2 6 m8 m9 m10 m11 a en f tu cl ((qS q) + 0, 1, qL q) (-1) (mup_s _ _ _) (mup_r (X.2.ne (i := 47) (j := 46) (by decide) (by decide) (by decide)) h47) (VQ.z hV (Or.inr rfl)) hen ha hf (by have h8 := hV.1; have h7 := hV.2.1; show (qL q).length ≤ 139; omega)) lk_X12_88 (mup_s _ _ _) rfl rfl hl.1 rfl (Nat.le_of_ble_eq_true rfl) (by decide) dX12_factor_85 ⟨Nat.le_of_ble_eq_true rfl, Nat.le_of_ble_eq_true rfl⟩) hM (fun M1 H locs hM hp => ?_)
            subst hp
            rw [mup_i] at hM
            have hM : MW g (mup (mup M (gA g 46) (mdE g m0 m1 m2 (nI a) (nI (qS (qEm ((qS q) + 0, 1, qL q) (-1)))) (nI en) (qZ (qEm ((qS q) + 0, 1, qL q) (-1))) 6 m8 m9 m10 m11)) (gA g 47) (aI g 929 (cnt f a tu cl (qL (qEm ((qS q) + 0, 1, qL q) (-1)))))) H locs := hM
            obtain ⟨qn_6, e_qn_6⟩ : ∃ z : Q9, z = qEm ((qS q) + 0, 1, qL q) (-1) := ⟨_, rfl⟩
            have hM : MW g (mup (mup M (gA g 46) (mdE g m0 m1 m2 (nI a) (nI (qS qn_6)) (nI en) (qZ qn_6) 6 m8 m9 m10 m11)) (gA g 47) (aI g 929 (cnt f a tu cl (qL qn_6)))) H locs := by rw [e_qn_6]; exact hM
            refine lv_goto (tgt := 101) hx hb dX12_factor_88 (by decide) ?_
            refine lv_aload_n hx hb dX12_factor_101 rfl (lv_at hl 1 rfl) ?_
            refine lv_dup hx hb dX12_factor_102 rfl ?_
            refine r_get (T := TX12) (N := 20) (ci := 12) (v := .int 6) X hM iX12 rfl 10 (by decide) q_845 (Or.inl rfl) (mup_r (X.2.ne (i := 46) (j := 47) (by decide) (by decide) (by decide)) (mup_s _ _ _)) rfl dX12_factor_103 ?_
            refine lv_iconst (v := 1) hx hb dX12_factor_106 (by decide) ?_
            refine lv_isub hx hb dX12_factor_107 ?_
            rw [show (6 - 1 : Int32) = 5 from by decide]
            refine r_put (T := TX12) (N := 20) (ci := 12) X hM iX12 tyX12 tyX12_ok nmX12 rfl 10 (by decide) q_845 rfl (Or.inl rfl) (mup_r (X.2.ne (i := 46) (j := 47) (by decide) (by decide) (by decide)) (mup_s _ _ _)) rfl rfl (Nat.le_of_ble_eq_true rfl) dX12_factor_108 (fun H locs hM => ?_)
            rw [mup_w _ _ _ (X.2.ne (i := 47) (j := 46) (by decide) (by decide) (by decide)), mup_i] at hM
            have hM : MW g (mup (mup M (gA g 46) (mdE g m0 m1 m2 (nI a) (nI (qS qn_6)) (nI en) (qZ qn_6) 5 m8 m9 m10 m11)) (gA g 47) (aI g 929 (cnt f a tu cl (qL qn_6)))) H locs := hM
            have e9 : qFac f en 0 q = qn_6 := by rw [qFac_0]; (first | rw [if_pos c_1] | rw [if_neg c_1] | skip); (first | rw [if_pos c_2] | rw [if_neg c_2] | skip); (first | rw [if_pos c_5] | rw [if_neg c_5] | skip); (try rw [← e_qn_6]); first | done | rfl | (rw [e_qn_6]; rfl)
            exact R_v X hr hk hM (by rw [e9] <;> rfl) dX12_factor_111
    · skip
      refine lv_iload_n hx hb dX12_factor_19 rfl (lv_at hl 0 rfl) ?_
      refine lv_bipush (v := 40) hx hb dX12_factor_20 (by decide) ?_
      refine lv_icmp_ne (tgt := 112) hx hb dX12_factor_22 (by decide) (fun c_7 => ?_) (fun c_7 => ?_)
      · skip
        refine lv_aload_n hx hb dX12_factor_112 rfl (lv_at hl 1 rfl) ?_
        refine va_ldcS hx hb X.1.2.2.2.1 (X.2.2.2.2.2.2.1 7 _ rfl) dX12_factor_113 ?_
        refine K_i (G_V (As := [.ref (gK g 7)]) (rest := []) X hM (c_X12_amongQ l g _ m0 m1 m2 5 m8 m9 m10 m11 a en f tu cl q 7 h46 h47 hV hen ha hf (by decide)) lk_X12_96 h46 rfl rfl hl.1 rfl (Nat.le_of_ble_eq_true rfl) (by decide) dX12_factor_115 ⟨Nat.le_of_ble_eq_true rfl, Nat.le_of_ble_eq_true rfl⟩) hM (fun r M1 H locs hM hp => ?_)
        obtain ⟨rfl, rfl⟩ := hp
        have hM : MW g (mup (mup M (gA g 46) (mdE g m0 m1 m2 (nI a) (nI (qS (qAm f en q 7))) (nI en) (qZ (qAm f en q 7)) 5 m8 m9 m10 m11)) (gA g 47) (aI g 929 (cnt f a tu cl (qL (qAm f en q 7))))) H locs := hM
        obtain ⟨qn_8, e_qn_8⟩ : ∃ z : Q9, z = qAm f en q 7 := ⟨_, rfl⟩
        have hM : MW g (mup (mup M (gA g 46) (mdE g m0 m1 m2 (nI a) (nI (qS qn_8)) (nI en) (qZ qn_8) 5 m8 m9 m10 m11)) (gA g 47) (aI g 929 (cnt f a tu cl (qL qn_8)))) H locs := by rw [e_qn_8]; exact hM
        have V_qn_8 : VQ en qn_8 ∧ LQ q qn_8 := by rw [e_qn_8]; exact (qAm_V hV (by decide))
        refine lv_istore_n (lv' := [(2, .int (amI f en q 7)), (1, .int (qHe f en q)), (0, .ref (gA g 46))]) hx hb dX12_factor_118 rfl hl (by decide) rfl (fun ls hl => ?_)
        refine lv_aload_n hx hb dX12_factor_119 rfl (lv_at hl 2 rfl) ?_
        refine lv_iload_n hx hb dX12_factor_120 rfl (lv_at hl 0 rfl) ?_
        refine lv_iconst (v := -1) hx hb dX12_factor_121 (by decide) ?_
        refine lv_icmp_ne (tgt := 129) hx hb dX12_factor_122 (by decide) (fun c_9 => ?_) (fun c_9 => ?_)
        · skip
          refine lv_iconst (v := 0) hx hb dX12_factor_129 (by decide) ?_
          refine r_put (T := TX12) (N := 20) (ci := 12) X hM iX12 tyX12 tyX12_ok nmX12 rfl 9 (by decide) q_844 rfl (Or.inl rfl) (mup_r (X.2.ne (i := 46) (j := 47) (by decide) (by decide) (by decide)) (mup_s _ _ _)) rfl rfl (Nat.le_of_ble_eq_true rfl) dX12_factor_130 (fun H locs hM => ?_)
          rw [mup_w _ _ _ (X.2.ne (i := 47) (j := 46) (by decide) (by decide) (by decide)), mup_i] at hM
          have hM : MW g (mup (mup M (gA g 46) (mdE g m0 m1 m2 (nI a) (nI (qS qn_8)) (nI en) 0 5 m8 m9 m10 m11)) (gA g 47) (aI g 929 (cnt f a tu cl (qL qn_8)))) H locs := hM
          refine lv_aload_n hx hb dX12_factor_133 rfl (lv_at hl 2 rfl) ?_
          refine r_get (T := TX12) (N := 20) (ci := 12) (v := .int 0) X hM iX12 rfl 9 (by decide) q_844 (Or.inl rfl) (mup_r (X.2.ne (i := 46) (j := 47) (by decide) (by decide) (by decide)) (mup_s _ _ _)) rfl dX12_factor_134 ?_
          refine lv_if_eq (tgt := 144) hx hb dX12_factor_137 (by decide) (fun c_10 => ?_) (fun c_10 => ?_)
          · skip
            refine lv_aload_n hx hb dX12_factor_144 rfl (lv_at hl 2 rfl) ?_
            refine va_ldcS hx hb X.1.2.2.2.1 (X.2.2.2.2.2.2.1 8 _ rfl) dX12_factor_145 ?_
            refine K_i (G_V (As := [.ref (gK g 8)]) (rest := []) X hM (c_X12_amongQ l g _ m0 m1 m2 5 m8 m9 m10 m11 a en f tu cl (qS qn_8, 0, qL qn_8) 8 (mup_r (X.2.ne (i := 46) (j := 47) (by decide) (by decide) (by decide)) (mup_s _ _ _)) (mup_s _ _ _) (VQ.z V_qn_8.1 (Or.inl rfl)) hen ha hf (by decide)) lk_X12_96 (mup_r (X.2.ne (i := 46) (j := 47) (by decide) (by decide) (by decide)) (mup_s _ _ _)) rfl rfl hl.1 rfl (Nat.le_of_ble_eq_true rfl) (by decide) dX12_factor_147 ⟨Nat.le_of_ble_eq_true rfl, Nat.le_of_ble_eq_true rfl⟩) hM (fun r M1 H locs hM hp => ?_)
            obtain ⟨rfl, rfl⟩ := hp
            rw [mup_w _ _ _ (X.2.ne (i := 47) (j := 46) (by decide) (by decide) (by decide)), mup_i] at hM
            rw [mup_i] at hM
            have hM : MW g (mup (mup M (gA g 46) (mdE g m0 m1 m2 (nI a) (nI (qS (qAm f en (qS qn_8, 0, qL qn_8) 8))) (nI en) (qZ (qAm f en (qS qn_8, 0, qL qn_8) 8)) 5 m8 m9 m10 m11)) (gA g 47) (aI g 929 (cnt f a tu cl (qL (qAm f en (qS qn_8, 0, qL qn_8) 8))))) H locs := hM
            obtain ⟨qn_11, e_qn_11⟩ : ∃ z : Q9, z = qAm f en (qS qn_8, 0, qL qn_8) 8 := ⟨_, rfl⟩
            have hM : MW g (mup (mup M (gA g 46) (mdE g m0 m1 m2 (nI a) (nI (qS qn_11)) (nI en) (qZ qn_11) 5 m8 m9 m10 m11)) (gA g 47) (aI g 929 (cnt f a tu cl (qL qn_11)))) H locs := by rw [e_qn_11]; exact hM
            have V_qn_11 : VQ en qn_11 ∧ LQ (qS qn_8, 0, qL qn_8) qn_11 := by rw [e_qn_11]; exact (qAm_V (VQ.z V_qn_8.1 (Or.inl rfl)) (by decide))
            refine lv_istore_n (lv' := [(3, .int (amI f en (qS qn_8, 0, qL qn_8) 8)), (2, .int (amI f en q 7)), (1, .int (qHe f en q)), (0, .ref (gA g 46))]) hx hb dX12_factor_150 rfl hl (by decide) rfl (fun ls hl => ?_)
            refine lv_aload_n hx hb dX12_factor_151 rfl (lv_at hl 3 rfl) ?_
            refine lv_aload_n hx hb dX12_factor_152 rfl (lv_at hl 3 rfl) ?_
            refine r_get (T := TX12) (N := 20) (ci := 12) (v := .int (qZ qn_11)) X hM iX12 rfl 9 (by decide) q_844 (Or.inl rfl) (mup_r (X.2.ne (i := 46) (j := 47) (by decide) (by decide) (by decide)) (mup_s _ _ _)) rfl dX12_factor_153 ?_
            refine lv_if_ne (tgt := 164) hx hb dX12_factor_156 (by decide) (fun c_12 => ?_) (fun c_12 => ?_)
            · skip
              exact absurd (show qZ qn_11 = 0 from by rw [e_qn_11]; rfl) c_12
            · skip
              refine lv_iload_n hx hb dX12_factor_159 rfl (lv_at hl 0 rfl) ?_
              refine lv_iconst (v := -1) hx hb dX12_factor_160 (by decide) ?_
              refine lv_icmp_ne (tgt := 168) hx hb dX12_factor_161 (by decide) (fun c_13 => ?_) (fun c_13 => ?_)
              · skip
                refine lv_iconst (v := 0) hx hb dX12_factor_168 (by decide) ?_
                refine r_put (T := TX12) (N := 20) (ci := 12) X hM iX12 tyX12 tyX12_ok nmX12 rfl 9 (by decide) q_844 rfl (Or.inl rfl) (mup_r (X.2.ne (i := 46) (j := 47) (by decide) (by decide) (by decide)) (mup_s _ _ _)) rfl rfl (Nat.le_of_ble_eq_true rfl) dX12_factor_169 (fun H locs hM => ?_)
                rw [mup_w _ _ _ (X.2.ne (i := 47) (j := 46) (by decide) (by decide) (by decide)), mup_i] at hM
                have hM : MW g (mup (mup M (gA g 46) (mdE g m0 m1 m2 (nI a) (nI (qS qn_11)) (nI en) 0 5 m8 m9 m10 m11)) (gA g 47) (aI g 929 (cnt f a tu cl (qL qn_11)))) H locs := hM
                refine lv_aload_n hx hb dX12_factor_172 rfl (lv_at hl 3 rfl) ?_
                refine K_i (G_V (As := []) (rest := []) X hM (c_X12_figuresQ l g _ m0 m1 m2 5 m8 m9 m10 m11 a en f tu cl (qS qn_11, 0, qL qn_11) (mup_r (X.2.ne (i := 46) (j := 47) (by decide) (by decide) (by decide)) (mup_s _ _ _)) (mup_s _ _ _) (VQ.z V_qn_11.1 (Or.inl rfl)) hen ha hf) lk_X12_102 (mup_r (X.2.ne (i := 46) (j := 47) (by decide) (by decide) (by decide)) (mup_s _ _ _)) rfl rfl hl.1 rfl (Nat.le_of_ble_eq_true rfl) (by decide) dX12_factor_173 ⟨Nat.le_of_ble_eq_true rfl, Nat.le_of_ble_eq_true rfl⟩) hM (fun r M1 H locs hM hp => ?_)
                obtain ⟨rfl, rfl⟩ := hp
                rw [mup_w _ _ _ (X.2.ne (i := 47) (j := 46) (by decide) (by decide) (by decide)), mup_i] at hM
                rw [mup_i] at hM
                have hM : MW g (mup (mup M (gA g 46) (mdE g m0 m1 m2 (nI a) (nI (qS (qFg f en (qS qn_11, 0, qL qn_11)))) (nI en) (qZ (qFg f en (qS qn_11, 0, qL qn_11))) 5 m8 m9 m10 m11)) (gA g 47) (aI g 929 (cnt f a tu cl (qL (qFg f en (qS qn_11, 0, qL qn_11)))))) H locs := hM
                obtain ⟨qn_14, e_qn_14⟩ : ∃ z : Q9, z = qFg f en (qS qn_11, 0, qL qn_11) := ⟨_, rfl⟩
                have hM : MW g (mup (mup M (gA g 46) (mdE g m0 m1 m2 (nI a) (nI (qS qn_14)) (nI en) (qZ qn_14) 5 m8 m9 m10 m11)) (gA g 47) (aI g 929 (cnt f a tu cl (qL qn_14)))) H locs := by rw [e_qn_14]; exact hM
                have V_qn_14 : VQ en qn_14 ∧ LQ (qS qn_11, 0, qL qn_11) qn_14 := by rw [e_qn_14]; exact (qFg_V (VQ.z V_qn_11.1 (Or.inl rfl)))
                refine lv_istore (lv' := [(4, .int (fgI f en (qS qn_11, 0, qL qn_11))), (3, .int (amI f en (qS qn_8, 0, qL qn_8) 8)), (2, .int (amI f en q 7)), (1, .int (qHe f en q)), (0, .ref (gA g 46))]) hx hb dX12_factor_176 hl (by decide) rfl (fun ls hl => ?_)
                refine lv_aload_n hx hb dX12_factor_178 rfl (lv_at hl 4 rfl) ?_
                refine lv_iload_n hx hb dX12_factor_179 rfl (lv_at hl 2 rfl) ?_
                refine lv_bipush (v := 8) hx hb dX12_factor_180 (by decide) ?_
                refine lv_iload_n hx hb dX12_factor_182 rfl (lv_at hl 1 rfl) ?_
                refine lv_imul hx hb dX12_factor_183 ?_
                refine lv_iadd hx hb dX12_factor_184 ?_
                refine lv_bipush (v := 32) hx hb dX12_factor_185 (by decide) ?_
                refine lv_iload hx hb dX12_factor_187 (lv_at hl 0 rfl) ?_
                refine lv_imul hx hb dX12_factor_189 ?_
                refine lv_iadd hx hb dX12_factor_190 ?_
                refine K_v (G_V (As := [.int (((amI f en q 7) + (8 * (amI f en (qS qn_8, 0, qL qn_8) 8))) + (32 * (fgI f en (qS qn_11, 0, qL qn_11))))]) (rest := []) X hM (c_X12_emitsQ l g _ m0 m1 m2 5 m8 m9 m10 m11 a en f tu cl qn_14 (((amI f en q 7) + (8 * (amI f en (qS qn_8, 0, qL qn_8) 8))) + (32 * (fgI f en (qS qn_11, 0, qL qn_11)))) (mup_r (X.2.ne (i := 46) (j := 47) (by decide) (by decide) (by decide)) (mup_s _ _ _)) (mup_s _ _ _) V_qn_14.1 hen ha hf (by have h9 := V_qn_14; have h8 := h9.1; have h7 := h8.1; have h6 := h8.2.1; omega)) lk_X12_88 (mup_r (X.2.ne (i := 46) (j := 47) (by decide) (by decide) (by decide)) (mup_s _ _ _)) rfl rfl hl.1 rfl (Nat.le_of_ble_eq_true rfl) (by decide) dX12_factor_191 ⟨Nat.le_of_ble_eq_true rfl, Nat.le_of_ble_eq_true rfl⟩) hM (fun M1 H locs hM hp => ?_)
                subst hp
                rw [mup_w _ _ _ (X.2.ne (i := 47) (j := 46) (by decide) (by decide) (by decide)), mup_i] at hM
                rw [mup_i] at hM
                have hM : MW g (mup (mup M (gA g 46) (mdE g m0 m1 m2 (nI a) (nI (qS (qEm qn_14 (((amI f en q 7) + (8 * (amI f en (qS qn_8, 0, qL qn_8) 8))) + (32 * (fgI f en (qS qn_11, 0, qL qn_11))))))) (nI en) (qZ (qEm qn_14 (((amI f en q 7) + (8 * (amI f en (qS qn_8, 0, qL qn_8) 8))) + (32 * (fgI f en (qS qn_11, 0, qL qn_11)))))) 5 m8 m9 m10 m11)) (gA g 47) (aI g 929 (cnt f a tu cl (qL (qEm qn_14 (((amI f en q 7) + (8 * (amI f en (qS qn_8, 0, qL qn_8) 8))) + (32 * (fgI f en (qS qn_11, 0, qL qn_11))))))))) H locs := hM
                obtain ⟨qn_15, e_qn_15⟩ : ∃ z : Q9, z = qEm qn_14 (((amI f en q 7) + (8 * (amI f en (qS qn_8, 0, qL qn_8) 8))) + (32 * (fgI f en (qS qn_11, 0, qL qn_11)))) := ⟨_, rfl⟩
                have hM : MW g (mup (mup M (gA g 46) (mdE g m0 m1 m2 (nI a) (nI (qS qn_15)) (nI en) (qZ qn_15) 5 m8 m9 m10 m11)) (gA g 47) (aI g 929 (cnt f a tu cl (qL qn_15)))) H locs := by rw [e_qn_15]; exact hM
                have e9 : qFac f en 0 q = qn_15 := by rw [qFac_0]; (first | rw [if_pos c_1] | rw [if_neg c_1] | skip); (first | rw [if_pos c_2] | rw [if_neg c_2] | skip); (first | rw [if_pos c_7] | rw [if_neg c_7] | skip); unfold qTs; (try rw [← e_qn_8]); (try rw [← e_qn_11]); (try rw [← e_qn_14]); (try rw [← e_qn_15]); (first | rw [if_pos c_9] | rw [if_neg c_9] | skip); (first | rw [if_pos c_13] | rw [if_neg c_13] | skip); unfold qT2; (try rw [← e_qn_8]); (try rw [← e_qn_11]); (try rw [← e_qn_14]); (try rw [← e_qn_15]); first | done | rfl
                exact R_v X hr hk hM (by rw [e9] <;> rfl) dX12_factor_194
              · skip
                refine lv_iconst (v := 1) hx hb dX12_factor_164 (by decide) ?_
                refine lv_goto (tgt := 169) hx hb dX12_factor_165 (by decide) ?_
                refine r_put (T := TX12) (N := 20) (ci := 12) X hM iX12 tyX12 tyX12_ok nmX12 rfl 9 (by decide) q_844 rfl (Or.inl rfl) (mup_r (X.2.ne (i := 46) (j := 47) (by decide) (by decide) (by decide)) (mup_s _ _ _)) rfl rfl (Nat.le_of_ble_eq_true rfl) dX12_factor_169 (fun H locs hM => ?_)
                rw [mup_w _ _ _ (X.2.ne (i := 47) (j := 46) (by decide) (by decide) (by decide)), mup_i] at hM
                have hM : MW g (mup (mup M (gA g 46) (mdE g m0 m1 m2 (nI a) (nI (qS qn_11)) (nI en) 1 5 m8 m9 m10 m11)) (gA g 47) (aI g 929 (cnt f a tu cl (qL qn_11)))) H locs := hM
                refine lv_aload_n hx hb dX12_factor_172 rfl (lv_at hl 3 rfl) ?_
                refine K_i (G_V (As := []) (rest := []) X hM (c_X12_figuresQ l g _ m0 m1 m2 5 m8 m9 m10 m11 a en f tu cl (qS qn_11, 1, qL qn_11) (mup_r (X.2.ne (i := 46) (j := 47) (by decide) (by decide) (by decide)) (mup_s _ _ _)) (mup_s _ _ _) (VQ.z V_qn_11.1 (Or.inr rfl)) hen ha hf) lk_X12_102 (mup_r (X.2.ne (i := 46) (j := 47) (by decide) (by decide) (by decide)) (mup_s _ _ _)) rfl rfl hl.1 rfl (Nat.le_of_ble_eq_true rfl) (by decide) dX12_factor_173 ⟨Nat.le_of_ble_eq_true rfl, Nat.le_of_ble_eq_true rfl⟩) hM (fun r M1 H locs hM hp => ?_)
                obtain ⟨rfl, rfl⟩ := hp
                rw [mup_w _ _ _ (X.2.ne (i := 47) (j := 46) (by decide) (by decide) (by decide)), mup_i] at hM
                rw [mup_i] at hM
                have hM : MW g (mup (mup M (gA g 46) (mdE g m0 m1 m2 (nI a) (nI (qS (qFg f en (qS qn_11, 1, qL qn_11)))) (nI en) (qZ (qFg f en (qS qn_11, 1, qL qn_11))) 5 m8 m9 m10 m11)) (gA g 47) (aI g 929 (cnt f a tu cl (qL (qFg f en (qS qn_11, 1, qL qn_11)))))) H locs := hM
                obtain ⟨qn_16, e_qn_16⟩ : ∃ z : Q9, z = qFg f en (qS qn_11, 1, qL qn_11) := ⟨_, rfl⟩
                have hM : MW g (mup (mup M (gA g 46) (mdE g m0 m1 m2 (nI a) (nI (qS qn_16)) (nI en) (qZ qn_16) 5 m8 m9 m10 m11)) (gA g 47) (aI g 929 (cnt f a tu cl (qL qn_16)))) H locs := by rw [e_qn_16]; exact hM
                have V_qn_16 : VQ en qn_16 ∧ LQ (qS qn_11, 1, qL qn_11) qn_16 := by rw [e_qn_16]; exact (qFg_V (VQ.z V_qn_11.1 (Or.inr rfl)))
                refine lv_istore (lv' := [(4, .int (fgI f en (qS qn_11, 1, qL qn_11))), (3, .int (amI f en (qS qn_8, 0, qL qn_8) 8)), (2, .int (amI f en q 7)), (1, .int (qHe f en q)), (0, .ref (gA g 46))]) hx hb dX12_factor_176 hl (by decide) rfl (fun ls hl => ?_)
                refine lv_aload_n hx hb dX12_factor_178 rfl (lv_at hl 4 rfl) ?_
                refine lv_iload_n hx hb dX12_factor_179 rfl (lv_at hl 2 rfl) ?_
                refine lv_bipush (v := 8) hx hb dX12_factor_180 (by decide) ?_
                refine lv_iload_n hx hb dX12_factor_182 rfl (lv_at hl 1 rfl) ?_
                refine lv_imul hx hb dX12_factor_183 ?_
                refine lv_iadd hx hb dX12_factor_184 ?_
                refine lv_bipush (v := 32) hx hb dX12_factor_185 (by decide) ?_
                refine lv_iload hx hb dX12_factor_187 (lv_at hl 0 rfl) ?_
                refine lv_imul hx hb dX12_factor_189 ?_
                refine lv_iadd hx hb dX12_factor_190 ?_
                refine K_v (G_V (As := [.int (((amI f en q 7) + (8 * (amI f en (qS qn_8, 0, qL qn_8) 8))) + (32 * (fgI f en (qS qn_11, 1, qL qn_11))))]) (rest := []) X hM (c_X12_emitsQ l g _ m0 m1 m2 5 m8 m9 m10 m11 a en f tu cl qn_16 (((amI f en q 7) + (8 * (amI f en (qS qn_8, 0, qL qn_8) 8))) + (32 * (fgI f en (qS qn_11, 1, qL qn_11)))) (mup_r (X.2.ne (i := 46) (j := 47) (by decide) (by decide) (by decide)) (mup_s _ _ _)) (mup_s _ _ _) V_qn_16.1 hen ha hf (by have h9 := V_qn_16; have h8 := h9.1; have h7 := h8.1; have h6 := h8.2.1; omega)) lk_X12_88 (mup_r (X.2.ne (i := 46) (j := 47) (by decide) (by decide) (by decide)) (mup_s _ _ _)) rfl rfl hl.1 rfl (Nat.le_of_ble_eq_true rfl) (by decide) dX12_factor_191 ⟨Nat.le_of_ble_eq_true rfl, Nat.le_of_ble_eq_true rfl⟩) hM (fun M1 H locs hM hp => ?_)
                subst hp
                rw [mup_w _ _ _ (X.2.ne (i := 47) (j := 46) (by decide) (by decide) (by decide)), mup_i] at hM
                rw [mup_i] at hM
                have hM : MW g (mup (mup M (gA g 46) (mdE g m0 m1 m2 (nI a) (nI (qS (qEm qn_16 (((amI f en q 7) + (8 * (amI f en (qS qn_8, 0, qL qn_8) 8))) + (32 * (fgI f en (qS qn_11, 1, qL qn_11))))))) (nI en) (qZ (qEm qn_16 (((amI f en q 7) + (8 * (amI f en (qS qn_8, 0, qL qn_8) 8))) + (32 * (fgI f en (qS qn_11, 1, qL qn_11)))))) 5 m8 m9 m10 m11)) (gA g 47) (aI g 929 (cnt f a tu cl (qL (qEm qn_16 (((amI f en q 7) + (8 * (amI f en (qS qn_8, 0, qL qn_8) 8))) + (32 * (fgI f en (qS qn_11, 1, qL qn_11))))))))) H locs := hM
                obtain ⟨qn_17, e_qn_17⟩ : ∃ z : Q9, z = qEm qn_16 (((amI f en q 7) + (8 * (amI f en (qS qn_8, 0, qL qn_8) 8))) + (32 * (fgI f en (qS qn_11, 1, qL qn_11)))) := ⟨_, rfl⟩
                have hM : MW g (mup (mup M (gA g 46) (mdE g m0 m1 m2 (nI a) (nI (qS qn_17)) (nI en) (qZ qn_17) 5 m8 m9 m10 m11)) (gA g 47) (aI g 929 (cnt f a tu cl (qL qn_17)))) H locs := by rw [e_qn_17]; exact hM
                have e9 : qFac f en 0 q = qn_17 := by rw [qFac_0]; (first | rw [if_pos c_1] | rw [if_neg c_1] | skip); (first | rw [if_pos c_2] | rw [if_neg c_2] | skip); (first | rw [if_pos c_7] | rw [if_neg c_7] | skip); unfold qTs; (try rw [← e_qn_8]); (try rw [← e_qn_11]); (try rw [← e_qn_16]); (try rw [← e_qn_17]); (first | rw [if_pos c_9] | rw [if_neg c_9] | skip); (first | rw [if_pos c_13] | rw [if_neg c_13] | skip); unfold qT2; (try rw [← e_qn_8]); (try rw [← e_qn_11]); (try rw [← e_qn_16]); (try rw [← e_qn_17]); first | done | rfl
                exact R_v X hr hk hM (by rw [e9] <;> rfl) dX12_factor_194
          · exact absurd c_10 (by decide)
        · skip
          refine lv_iconst (v := 1) hx hb dX12_factor_125 (by decide) ?_
          refine lv_goto (tgt := 130) hx hb dX12_factor_126 (by decide) ?_
          refine r_put (T := TX12) (N := 20) (ci := 12) X hM iX12 tyX12 tyX12_ok nmX12 rfl 9 (by decide) q_844 rfl (Or.inl rfl) (mup_r (X.2.ne (i := 46) (j := 47) (by decide) (by decide) (by decide)) (mup_s _ _ _)) rfl rfl (Nat.le_of_ble_eq_true rfl) dX12_factor_130 (fun H locs hM => ?_)
          rw [mup_w _ _ _ (X.2.ne (i := 47) (j := 46) (by decide) (by decide) (by decide)), mup_i] at hM
          have hM : MW g (mup (mup M (gA g 46) (mdE g m0 m1 m2 (nI a) (nI (qS qn_8)) (nI en) 1 5 m8 m9 m10 m11)) (gA g 47) (aI g 929 (cnt f a tu cl (qL qn_8)))) H locs := hM
          refine lv_aload_n hx hb dX12_factor_133 rfl (lv_at hl 2 rfl) ?_
          refine r_get (T := TX12) (N := 20) (ci := 12) (v := .int 1) X hM iX12 rfl 9 (by decide) q_844 (Or.inl rfl) (mup_r (X.2.ne (i := 46) (j := 47) (by decide) (by decide) (by decide)) (mup_s _ _ _)) rfl dX12_factor_134 ?_
          refine lv_if_eq (tgt := 144) hx hb dX12_factor_137 (by decide) (fun c_18 => ?_) (fun c_18 => ?_)
          · exact absurd c_18 (by decide)
          · skip
            refine lv_iconst (v := 0) hx hb dX12_factor_140 (by decide) ?_
            refine lv_goto (tgt := 150) hx hb dX12_factor_141 (by decide) ?_
            refine lv_istore_n (lv' := [(3, .int 0), (2, .int (amI f en q 7)), (1, .int (qHe f en q)), (0, .ref (gA g 46))]) hx hb dX12_factor_150 rfl hl (by decide) rfl (fun ls hl => ?_)
            refine lv_aload_n hx hb dX12_factor_151 rfl (lv_at hl 3 rfl) ?_
            refine lv_aload_n hx hb dX12_factor_152 rfl (lv_at hl 3 rfl) ?_
            refine r_get (T := TX12) (N := 20) (ci := 12) (v := .int 1) X hM iX12 rfl 9 (by decide) q_844 (Or.inl rfl) (mup_r (X.2.ne (i := 46) (j := 47) (by decide) (by decide) (by decide)) (mup_s _ _ _)) rfl dX12_factor_153 ?_
            refine lv_if_ne (tgt := 164) hx hb dX12_factor_156 (by decide) (fun c_19 => ?_) (fun c_19 => ?_)
            · skip
              refine lv_iconst (v := 1) hx hb dX12_factor_164 (by decide) ?_
              refine lv_goto (tgt := 169) hx hb dX12_factor_165 (by decide) ?_
              refine r_put (T := TX12) (N := 20) (ci := 12) X hM iX12 tyX12 tyX12_ok nmX12 rfl 9 (by decide) q_844 rfl (Or.inl rfl) (mup_r (X.2.ne (i := 46) (j := 47) (by decide) (by decide) (by decide)) (mup_s _ _ _)) rfl rfl (Nat.le_of_ble_eq_true rfl) dX12_factor_169 (fun H locs hM => ?_)
              rw [mup_w _ _ _ (X.2.ne (i := 47) (j := 46) (by decide) (by decide) (by decide)), mup_i] at hM
              have hM : MW g (mup (mup M (gA g 46) (mdE g m0 m1 m2 (nI a) (nI (qS qn_8)) (nI en) 1 5 m8 m9 m10 m11)) (gA g 47) (aI g 929 (cnt f a tu cl (qL qn_8)))) H locs := hM
              refine lv_aload_n hx hb dX12_factor_172 rfl (lv_at hl 3 rfl) ?_
              refine K_i (G_V (As := []) (rest := []) X hM (c_X12_figuresQ l g _ m0 m1 m2 5 m8 m9 m10 m11 a en f tu cl (qS qn_8, 1, qL qn_8) (mup_r (X.2.ne (i := 46) (j := 47) (by decide) (by decide) (by decide)) (mup_s _ _ _)) (mup_s _ _ _) (VQ.z V_qn_8.1 (Or.inr rfl)) hen ha hf) lk_X12_102 (mup_r (X.2.ne (i := 46) (j := 47) (by decide) (by decide) (by decide)) (mup_s _ _ _)) rfl rfl hl.1 rfl (Nat.le_of_ble_eq_true rfl) (by decide) dX12_factor_173 ⟨Nat.le_of_ble_eq_true rfl, Nat.le_of_ble_eq_true rfl⟩) hM (fun r M1 H locs hM hp => ?_)
              obtain ⟨rfl, rfl⟩ := hp
              rw [mup_w _ _ _ (X.2.ne (i := 47) (j := 46) (by decide) (by decide) (by decide)), mup_i] at hM
              rw [mup_i] at hM
              have hM : MW g (mup (mup M (gA g 46) (mdE g m0 m1 m2 (nI a) (nI (qS (qFg f en (qS qn_8, 1, qL qn_8)))) (nI en) (qZ (qFg f en (qS qn_8, 1, qL qn_8))) 5 m8 m9 m10 m11)) (gA g 47) (aI g 929 (cnt f a tu cl (qL (qFg f en (qS qn_8, 1, qL qn_8)))))) H locs := hM
              obtain ⟨qn_20, e_qn_20⟩ : ∃ z : Q9, z = qFg f en (qS qn_8, 1, qL qn_8) := ⟨_, rfl⟩
              have hM : MW g (mup (mup M (gA g 46) (mdE g m0 m1 m2 (nI a) (nI (qS qn_20)) (nI en) (qZ qn_20) 5 m8 m9 m10 m11)) (gA g 47) (aI g 929 (cnt f a tu cl (qL qn_20)))) H locs := by rw [e_qn_20]; exact hM
              have V_qn_20 : VQ en qn_20 ∧ LQ (qS qn_8, 1, qL qn_8) qn_20 := by rw [e_qn_20]; exact (qFg_V (VQ.z V_qn_8.1 (Or.inr rfl)))
              refine lv_istore (lv' := [(4, .int (fgI f en (qS qn_8, 1, qL qn_8))), (3, .int 0), (2, .int (amI f en q 7)), (1, .int (qHe f en q)), (0, .ref (gA g 46))]) hx hb dX12_factor_176 hl (by decide) rfl (fun ls hl => ?_)
              refine lv_aload_n hx hb dX12_factor_178 rfl (lv_at hl 4 rfl) ?_
              refine lv_iload_n hx hb dX12_factor_179 rfl (lv_at hl 2 rfl) ?_
              refine lv_bipush (v := 8) hx hb dX12_factor_180 (by decide) ?_
              refine lv_iload_n hx hb dX12_factor_182 rfl (lv_at hl 1 rfl) ?_
              refine lv_imul hx hb dX12_factor_183 ?_
              refine lv_iadd hx hb dX12_factor_184 ?_
              refine lv_bipush (v := 32) hx hb dX12_factor_185 (by decide) ?_
              refine lv_iload hx hb dX12_factor_187 (lv_at hl 0 rfl) ?_
              refine lv_imul hx hb dX12_factor_189 ?_
              refine lv_iadd hx hb dX12_factor_190 ?_
              refine K_v (G_V (As := [.int (((amI f en q 7) + (8 * 0)) + (32 * (fgI f en (qS qn_8, 1, qL qn_8))))]) (rest := []) X hM (c_X12_emitsQ l g _ m0 m1 m2 5 m8 m9 m10 m11 a en f tu cl qn_20 (((amI f en q 7) + (8 * 0)) + (32 * (fgI f en (qS qn_8, 1, qL qn_8)))) (mup_r (X.2.ne (i := 46) (j := 47) (by decide) (by decide) (by decide)) (mup_s _ _ _)) (mup_s _ _ _) V_qn_20.1 hen ha hf (by have h9 := V_qn_20; have h8 := h9.1; have h7 := h8.1; have h6 := h8.2.1; omega)) lk_X12_88 (mup_r (X.2.ne (i := 46) (j := 47) (by decide) (by decide) (by decide)) (mup_s _ _ _)) rfl rfl hl.1 rfl (Nat.le_of_ble_eq_true rfl) (by decide) dX12_factor_191 ⟨Nat.le_of_ble_eq_true rfl, Nat.le_of_ble_eq_true rfl⟩) hM (fun M1 H locs hM hp => ?_)
              subst hp
              rw [mup_w _ _ _ (X.2.ne (i := 47) (j := 46) (by decide) (by decide) (by decide)), mup_i] at hM
              rw [mup_i] at hM
              have hM : MW g (mup (mup M (gA g 46) (mdE g m0 m1 m2 (nI a) (nI (qS (qEm qn_20 (((amI f en q 7) + (8 * 0)) + (32 * (fgI f en (qS qn_8, 1, qL qn_8))))))) (nI en) (qZ (qEm qn_20 (((amI f en q 7) + (8 * 0)) + (32 * (fgI f en (qS qn_8, 1, qL qn_8)))))) 5 m8 m9 m10 m11)) (gA g 47) (aI g 929 (cnt f a tu cl (qL (qEm qn_20 (((amI f en q 7) + (8 * 0)) + (32 * (fgI f en (qS qn_8, 1, qL qn_8))))))))) H locs := hM
              obtain ⟨qn_21, e_qn_21⟩ : ∃ z : Q9, z = qEm qn_20 (((amI f en q 7) + (8 * 0)) + (32 * (fgI f en (qS qn_8, 1, qL qn_8)))) := ⟨_, rfl⟩
              have hM : MW g (mup (mup M (gA g 46) (mdE g m0 m1 m2 (nI a) (nI (qS qn_21)) (nI en) (qZ qn_21) 5 m8 m9 m10 m11)) (gA g 47) (aI g 929 (cnt f a tu cl (qL qn_21)))) H locs := by rw [e_qn_21]; exact hM
              have e9 : qFac f en 0 q = qn_21 := by rw [qFac_0]; (first | rw [if_pos c_1] | rw [if_neg c_1] | skip); (first | rw [if_pos c_2] | rw [if_neg c_2] | skip); (first | rw [if_pos c_7] | rw [if_neg c_7] | skip); unfold qTs; (try rw [← e_qn_8]); (try rw [← e_qn_20]); (try rw [← e_qn_21]); (first | rw [if_pos c_9] | rw [if_neg c_9] | skip); unfold qT2; (try rw [← e_qn_8]); (try rw [← e_qn_20]); (try rw [← e_qn_21]); rw [e_qn_21, c_9]; first | done | rfl
              exact R_v X hr hk hM (by rw [e9] <;> rfl) dX12_factor_194
            · exact absurd c_19 (by decide)
      · skip
        refine lv_aload_n hx hb dX12_factor_25 rfl (lv_at hl 1 rfl) ?_
        refine lv_aload_n hx hb dX12_factor_26 rfl (lv_at hl 1 rfl) ?_
        refine r_get (T := TX12) (N := 20) (ci := 12) (v := .int 5) X hM iX12 rfl 10 (by decide) q_845 (Or.inl rfl) h46 rfl dX12_factor_27 ?_
        refine lv_iconst (v := 5) hx hb dX12_factor_30 (by decide) ?_
        refine lv_icmp_ne (tgt := 38) hx hb dX12_factor_31 (by decide) (fun c_22 => ?_) (fun c_22 => ?_)
        · exact absurd c_22 (by decide)
        · skip
          refine lv_iconst (v := 1) hx hb dX12_factor_34 (by decide) ?_
          refine lv_goto (tgt := 39) hx hb dX12_factor_35 (by decide) ?_
          refine r_put (T := TX12) (N := 20) (ci := 12) X hM iX12 tyX12 tyX12_ok nmX12 rfl 9 (by decide) q_844 rfl (Or.inl rfl) h46 rfl rfl (Nat.le_of_ble_eq_true rfl) dX12_factor_39 (fun H locs hM => ?_)
          have hM : MW g (mup M (gA g 46) (mdE g m0 m1 m2 (nI a) (nI (qS q)) (nI en) 1 5 m8 m9 m10 m11)) H locs := hM
          refine lv_aload_n hx hb dX12_factor_42 rfl (lv_at hl 1 rfl) ?_
          refine lv_dup hx hb dX12_factor_43 rfl ?_
          refine r_get (T := TX12) (N := 20) (ci := 12) (v := .int 5) X hM iX12 rfl 10 (by decide) q_845 (Or.inl rfl) (mup_s _ _ _) rfl dX12_factor_44 ?_
          refine lv_iconst (v := 1) hx hb dX12_factor_47 (by decide) ?_
          refine lv_iadd hx hb dX12_factor_48 ?_
          rw [show (5 + 1 : Int32) = 6 from by decide]
          refine r_put (T := TX12) (N := 20) (ci := 12) X hM iX12 tyX12 tyX12_ok nmX12 rfl 10 (by decide) q_845 rfl (Or.inl rfl) (mup_s _ _ _) rfl rfl (Nat.le_of_ble_eq_true rfl) dX12_factor_49 (fun H locs hM => ?_)
          rw [mup_i] at hM
          have hM : MW g (mup M (gA g 46) (mdE g m0 m1 m2 (nI a) (nI (qS q)) (nI en) 1 6 m8 m9 m10 m11)) H locs := hM
          refine lv_aload_n hx hb dX12_factor_52 rfl (lv_at hl 1 rfl) ?_
          refine lv_dup hx hb dX12_factor_53 rfl ?_
          refine r_get (T := TX12) (N := 20) (ci := 12) (v := .int (nI (qS q))) X hM iX12 rfl 7 (by decide) q_842 (Or.inl rfl) (mup_s _ _ _) rfl dX12_factor_54 ?_
          refine lv_aload_n hx hb dX12_factor_57 rfl (lv_at hl 1 rfl) ?_
          refine r_get (T := TX12) (N := 20) (ci := 12) (v := .int 1) X hM iX12 rfl 9 (by decide) q_844 (Or.inl rfl) (mup_s _ _ _) rfl dX12_factor_58 ?_
          refine lv_if_eq (tgt := 68) hx hb dX12_factor_61 (by decide) (fun c_23 => ?_) (fun c_23 => ?_)
          · exact absurd c_23 (by decide)
          · skip
            refine lv_iconst (v := 0) hx hb dX12_factor_64 (by decide) ?_
            refine lv_goto (tgt := 69) hx hb dX12_factor_65 (by decide) ?_
            refine lv_iadd hx hb dX12_factor_69 ?_
            rw [show (nI (qS q)) + (0 : Int32) = nI ((qS q) + 0) from nI_add (qS q) 0]
            refine r_put (T := TX12) (N := 20) (ci := 12) X hM iX12 tyX12 tyX12_ok nmX12 rfl 7 (by decide) q_842 rfl (Or.inl rfl) (mup_s _ _ _) rfl rfl (Nat.le_of_ble_eq_true rfl) dX12_factor_70 (fun H locs hM => ?_)
            rw [mup_i] at hM
            have hM : MW g (mup M (gA g 46) (mdE g m0 m1 m2 (nI a) (nI ((qS q) + 0)) (nI en) 1 6 m8 m9 m10 m11)) H locs := hM
            refine lv_iload_n hx hb dX12_factor_73 rfl (lv_at hl 0 rfl) ?_
            refine lv_bipush (v := 33) hx hb dX12_factor_74 (by decide) ?_
            refine lv_icmp_ne (tgt := 91) hx hb dX12_factor_76 (by decide) (fun c_24 => ?_) (fun c_24 => ?_)
            · skip
              refine lv_aload_n hx hb dX12_factor_91 rfl (lv_at hl 1 rfl) ?_
              refine K_v (G_V (As := []) (rest := []) X hM (c_X12_some_w l g _ m0 m1 m2 (nI a) (nI ((qS q) + 0)) (nI en) 1 6 m8 m9 m10 m11 (mup_s _ _ _) (by decide)) lk_X12_91 (mup_s _ _ _) rfl rfl hl.1 rfl (Nat.le_of_ble_eq_true rfl) (by decide) dX12_factor_92 ⟨Nat.le_of_ble_eq_true rfl, Nat.le_of_ble_eq_true rfl⟩) hM (fun M1 H locs hM hp => ?_)
              subst hp
              refine lv_aload_n hx hb dX12_factor_95 rfl (lv_at hl 1 rfl) ?_
              refine lv_bipush (v := 41) hx hb dX12_factor_96 (by decide) ?_
              refine K_v (G_V (As := [.int 41]) (rest := []) X hM (c_X12_mustQ l g _ m0 m1 m2 6 m8 m9 m10 m11 a en f tu cl ((qS q) + 0, 1, qL q) 41 (mup_s _ _ _) (mup_r (X.2.ne (i := 47) (j := 46) (by decide) (by decide) (by decide)) h47) (VQ.z hV (Or.inr rfl)) hen ha hf) lk_X12_75 (mup_s _ _ _) rfl rfl hl.1 rfl (Nat.le_of_ble_eq_true rfl) (by decide) dX12_factor_98 ⟨Nat.le_of_ble_eq_true rfl, Nat.le_of_ble_eq_true rfl⟩) hM (fun M1 H locs hM hp => ?_)
              subst hp
              rw [mup_i] at hM
              have hM : MW g (mup (mup M (gA g 46) (mdE g m0 m1 m2 (nI a) (nI (qS (qMu f en ((qS q) + 0, 1, qL q) 41))) (nI en) (qZ (qMu f en ((qS q) + 0, 1, qL q) 41)) 6 m8 m9 m10 m11)) (gA g 47) (aI g 929 (cnt f a tu cl (qL (qMu f en ((qS q) + 0, 1, qL q) 41))))) H locs := hM
              obtain ⟨qn_25, e_qn_25⟩ : ∃ z : Q9, z = qMu f en ((qS q) + 0, 1, qL q) 41 := ⟨_, rfl⟩
              have hM : MW g (mup (mup M (gA g 46) (mdE g m0 m1 m2 (nI a) (nI (qS qn_25)) (nI en) (qZ qn_25) 6 m8 m9 m10 m11)) (gA g 47) (aI g 929 (cnt f a tu cl (qL qn_25)))) H locs := by rw [e_qn_25]; exact hM
              refine lv_aload_n hx hb dX12_factor_101 rfl (lv_at hl 1 rfl) ?_
              refine lv_dup hx hb dX12_factor_102 rfl ?_
              refine r_get (T := TX12) (N := 20) (ci := 12) (v := .int 6) X hM iX12 rfl 10 (by decide) q_845 (Or.inl rfl) (mup_r (X.2.ne (i := 46) (j := 47) (by decide) (by decide) (by decide)) (mup_s _ _ _)) rfl dX12_factor_103 ?_
              refine lv_iconst (v := 1) hx hb dX12_factor_106 (by decide) ?_
              refine lv_isub hx hb dX12_factor_107 ?_
              rw [show (6 - 1 : Int32) = 5 from by decide]
              refine r_put (T := TX12) (N := 20) (ci := 12) X hM iX12 tyX12 tyX12_ok nmX12 rfl 10 (by decide) q_845 rfl (Or.inl rfl) (mup_r (X.2.ne (i := 46) (j := 47) (by decide) (by decide) (by decide)) (mup_s _ _ _)) rfl rfl (Nat.le_of_ble_eq_true rfl) dX12_factor_108 (fun H locs hM => ?_)
              rw [mup_w _ _ _ (X.2.ne (i := 47) (j := 46) (by decide) (by decide) (by decide)), mup_i] at hM
              have hM : MW g (mup (mup M (gA g 46) (mdE g m0 m1 m2 (nI a) (nI (qS qn_25)) (nI en) (qZ qn_25) 5 m8 m9 m10 m11)) (gA g 47) (aI g 929 (cnt f a tu cl (qL qn_25)))) H locs := hM
              have e9 : qFac f en 0 q = qn_25 := by rw [qFac_0]; (first | rw [if_pos c_1] | rw [if_neg c_1] | skip); (first | rw [if_pos c_2] | rw [if_neg c_2] | skip); (first | rw [if_pos c_7] | rw [if_neg c_7] | skip); (first | rw [if_pos c_24] | rw [if_neg c_24] | skip); (try rw [← e_qn_25]); first | done | rfl | (rw [e_qn_25]; rfl)
              exact R_v X hr hk hM (by rw [e9] <;> rfl) dX12_factor_111
            · skip
              exact absurd c_24 c_2
  · skip
    exact R_v X hr hk hM (by rw [show qFac f en 0 q = q from by rw [qFac_0]; (first | rw [if_pos c_1] | rw [if_neg c_1] | skip)]; rw [mup_id h46, mup_id h47]) dX12_factor_7
set_option maxHeartbeats 4000000 in
set_option maxRecDepth 100000 in
theorem c_X12_every_0 (l : Launch) (g : Gp) (M : Mem) (m0 m1 m2 m8 m9 m10 m11 : Int32) (a en : Nat) (f : Nat → Int32) (tu cl : Int32) (q : Q9) (h46 : M (gA g 46) = some (mdE g m0 m1 m2 (nI a) (nI (qS q)) (nI en) (qZ q) 5 m8 m9 m10 m11)) (h47 : M (gA g 47) = some (aI g 929 (cnt f a tu cl (qL q)))) (hV : VQ en q) (hen : en ≤ 100) (ha : a < 5) (hf : f (224 + a) = nI 0) : Met l yX12_every (wsM yX12_every cX12_every 1 none) (rmD 7 0 0) (Pre g M [.ref (gA g 46)]) (Qv g (fun M1 => mup (mup M (gA g 46) (mdE g m0 m1 m2 (nI a) (nI (qS (qEv f en (qFac f en 0) q))) (nI en) (qZ (qEv f en (qFac f en 0) q)) 5 m8 m9 m10 m11)) (gA g 47) (aI g 929 (cnt f a tu cl (qL (qEv f en (qFac f en 0) q)))) = M1)) 0 0 (gF g) := M_start (by decide +kernel) (Nat.le_of_ble_eq_true rfl) fun p e s m args below meth c ls X hr hk hnm hM hl => by
  have X : Cx g p m c cX12_every 1 s args RX12 := X
  have hx := X.1.1
  have hb := X.1.2.1
  have hl : lv_has ls 1 [(0, .ref (gA g 46))] := hl
  refine lv_aload_n hx hb dX12_every_0 rfl (lv_at hl 0 rfl) ?_
  refine K_v (G_V (As := []) (rest := []) X hM (c_X12_factor_0 l g _ m0 m1 m2 m8 m9 m10 m11 a en f tu cl q h46 h47 hV hen ha hf) lk_X12_85 h46 rfl rfl hl.1 rfl (Nat.le_of_ble_eq_true rfl) (by decide) dX12_every_1 ⟨Nat.le_of_ble_eq_true rfl, Nat.le_of_ble_eq_true rfl⟩) hM (fun M1 H locs hM hp => ?_)
  subst hp
  have hM : MW g (mup (mup M (gA g 46) (mdE g m0 m1 m2 (nI a) (nI (qS (qFac f en 0 q))) (nI en) (qZ (qFac f en 0 q)) 5 m8 m9 m10 m11)) (gA g 47) (aI g 929 (cnt f a tu cl (qL (qFac f en 0 q))))) H locs := hM
  obtain ⟨qn_1, e_qn_1⟩ : ∃ z : Q9, z = qFac f en 0 q := ⟨_, rfl⟩
  have hM : MW g (mup (mup M (gA g 46) (mdE g m0 m1 m2 (nI a) (nI (qS qn_1)) (nI en) (qZ qn_1) 5 m8 m9 m10 m11)) (gA g 47) (aI g 929 (cnt f a tu cl (qL qn_1)))) H locs := by rw [e_qn_1]; exact hM
  have V_qn_1 : VQ en qn_1 ∧ LQ q qn_1 := by rw [e_qn_1]; exact ((qFac_good 0) _ hV)
  have L4 : ∀ (fu : Nat) (i : Nat) (qb : Q9) (hVb : VQ en qb) (hfu : en ≤ qS qb + i) (kb : qLp f en 38 (-2) (qFac f en 0) i qb = qEv f en (qFac f en 0) q) (H : Heap) (locs : List Loc) (hM : MW g (mup (mup M (gA g 46) (mdE g m0 m1 m2 (nI a) (nI (qS qb)) (nI en) (qZ qb) 5 m8 m9 m10 m11)) (gA g 47) (aI g 929 (cnt f a tu cl (qL qb)))) H locs) (ls : Array Slot) (hl : lv_has ls 1 [(0, .ref (gA g 46))]), i < fu → W p l e (rmD 7 0 0) s m args below meth c H locs 0 0 (MQ below (Qv g (fun M1 => mup (mup M (gA g 46) (mdE g m0 m1 m2 (nI a) (nI (qS (qEv f en (qFac f en 0) q))) (nI en) (qZ (qEv f en (qFac f en 0) q)) 5 m8 m9 m10 m11)) (gA g 47) (aI g 929 (cnt f a tu cl (qL (qEv f en (qFac f en 0) q)))) = M1)) args s 0 0 (gF g)) (F0 m 4 ls []) := by
    intro fu
    induction fu with
    | zero => intro i qb hVb hfu kb H locs hM ls hl hmu; exact absurd hmu (Nat.not_lt_zero _)
    | succ fu ih =>
      intro i qb hVb hfu kb H locs hM ls hl hmu
      refine lv_aload_n hx hb dX12_every_4 rfl (lv_at hl 0 rfl) ?_
      refine r_get (T := TX12) (N := 20) (ci := 12) (v := .int (qZ qb)) X hM iX12 rfl 9 (by decide) q_844 (Or.inl rfl) (mup_r (X.2.ne (i := 46) (j := 47) (by decide) (by decide) (by decide)) (mup_s _ _ _)) rfl dX12_every_5 ?_
      refine lv_if_ne (tgt := 43) hx hb dX12_every_8 (by decide) (fun c_2 => ?_) (fun c_2 => ?_)
      · skip
        exact R_v X hr hk hM (by rw [← kb, qLp_z c_2]) dX12_every_43
      · skip
        refine lv_aload_n hx hb dX12_every_11 rfl (lv_at hl 0 rfl) ?_
        refine K_i (G_V (As := []) (rest := []) X hM (c_X12_hereQ l g _ m0 m1 m2 5 m8 m9 m10 m11 a en f tu cl qb (mup_r (X.2.ne (i := 46) (j := 47) (by decide) (by decide) (by decide)) (mup_s _ _ _)) (mup_s _ _ _) hVb hen ha hf) lk_X12_62 (mup_r (X.2.ne (i := 46) (j := 47) (by decide) (by decide) (by decide)) (mup_s _ _ _)) rfl rfl hl.1 rfl (Nat.le_of_ble_eq_true rfl) (by decide) dX12_every_12 ⟨Nat.le_of_ble_eq_true rfl, Nat.le_of_ble_eq_true rfl⟩) hM (fun r M1 H locs hM hp => ?_)
        obtain ⟨rfl, rfl⟩ := hp
        refine lv_bipush (v := 38) hx hb dX12_every_15 (by decide) ?_
        refine lv_icmp_ne (tgt := 43) hx hb dX12_every_17 (by decide) (fun c_3 => ?_) (fun c_3 => ?_)
        · skip
          exact R_v X hr hk hM (by rw [← kb, qLp_o c_3]) dX12_every_43
        · skip
          refine lv_aload_n hx hb dX12_every_20 rfl (lv_at hl 0 rfl) ?_
          refine lv_dup hx hb dX12_every_21 rfl ?_
          refine r_get (T := TX12) (N := 20) (ci := 12) (v := .int (nI (qS qb))) X hM iX12 rfl 7 (by decide) q_842 (Or.inl rfl) (mup_r (X.2.ne (i := 46) (j := 47) (by decide) (by decide) (by decide)) (mup_s _ _ _)) rfl dX12_every_22 ?_
          refine lv_iconst (v := 1) hx hb dX12_every_25 (by decide) ?_
          refine lv_iadd hx hb dX12_every_26 ?_
          rw [show (nI (qS qb)) + (1 : Int32) = nI ((qS qb) + 1) from nI_add (qS qb) 1]
          refine r_put (T := TX12) (N := 20) (ci := 12) X hM iX12 tyX12 tyX12_ok nmX12 rfl 7 (by decide) q_842 rfl (Or.inl rfl) (mup_r (X.2.ne (i := 46) (j := 47) (by decide) (by decide) (by decide)) (mup_s _ _ _)) rfl rfl (Nat.le_of_ble_eq_true rfl) dX12_every_27 (fun H locs hM => ?_)
          rw [mup_w _ _ _ (X.2.ne (i := 47) (j := 46) (by decide) (by decide) (by decide)), mup_i] at hM
          have hM : MW g (mup (mup M (gA g 46) (mdE g m0 m1 m2 (nI a) (nI ((qS qb) + 1)) (nI en) (qZ qb) 5 m8 m9 m10 m11)) (gA g 47) (aI g 929 (cnt f a tu cl (qL qb)))) H locs := hM
          refine lv_aload_n hx hb dX12_every_30 rfl (lv_at hl 0 rfl) ?_
          refine K_v (G_V (As := []) (rest := []) X hM (c_X12_factor_0 l g _ m0 m1 m2 m8 m9 m10 m11 a en f tu cl ((qS qb) + 1, qZ qb, qL qb) (mup_r (X.2.ne (i := 46) (j := 47) (by decide) (by decide) (by decide)) (mup_s _ _ _)) (mup_s _ _ _) ⟨(mHe_lt (c_3) (by decide)), Nat.le_trans hVb.2.1 (Nat.le_succ _), hVb.2.2⟩ hen ha hf) lk_X12_85 (mup_r (X.2.ne (i := 46) (j := 47) (by decide) (by decide) (by decide)) (mup_s _ _ _)) rfl rfl hl.1 rfl (Nat.le_of_ble_eq_true rfl) (by decide) dX12_every_31 ⟨Nat.le_of_ble_eq_true rfl, Nat.le_of_ble_eq_true rfl⟩) hM (fun M1 H locs hM hp => ?_)
          subst hp
          rw [mup_w _ _ _ (X.2.ne (i := 47) (j := 46) (by decide) (by decide) (by decide)), mup_i] at hM
          rw [mup_i] at hM
          have hM : MW g (mup (mup M (gA g 46) (mdE g m0 m1 m2 (nI a) (nI (qS (qFac f en 0 ((qS qb) + 1, qZ qb, qL qb)))) (nI en) (qZ (qFac f en 0 ((qS qb) + 1, qZ qb, qL qb))) 5 m8 m9 m10 m11)) (gA g 47) (aI g 929 (cnt f a tu cl (qL (qFac f en 0 ((qS qb) + 1, qZ qb, qL qb)))))) H locs := hM
          obtain ⟨qn_4, e_qn_4⟩ : ∃ z : Q9, z = qFac f en 0 ((qS qb) + 1, qZ qb, qL qb) := ⟨_, rfl⟩
          have hM : MW g (mup (mup M (gA g 46) (mdE g m0 m1 m2 (nI a) (nI (qS qn_4)) (nI en) (qZ qn_4) 5 m8 m9 m10 m11)) (gA g 47) (aI g 929 (cnt f a tu cl (qL qn_4)))) H locs := by rw [e_qn_4]; exact hM
          have V_qn_4 : VQ en qn_4 ∧ LQ ((qS qb) + 1, qZ qb, qL qb) qn_4 := by rw [e_qn_4]; exact ((qFac_good 0) _ ⟨(mHe_lt (c_3) (by decide)), Nat.le_trans hVb.2.1 (Nat.le_succ _), hVb.2.2⟩)
          refine lv_aload_n hx hb dX12_every_34 rfl (lv_at hl 0 rfl) ?_
          refine lv_bipush (v := -2) hx hb dX12_every_35 (by decide) ?_
          have hG := V_qn_4
          refine K_v (G_V (As := [.int (-2)]) (rest := []) X hM (c_X12_emitsQ l g _ m0 m1 m2 5 m8 m9 m10 m11 a en f tu cl qn_4 (-2) (mup_r (X.2.ne (i := 46) (j := 47) (by decide) (by decide) (by decide)) (mup_s _ _ _)) (mup_s _ _ _) hG.1 hen ha hf (by have h7 := hG.1.1; have h6 := hG.1.2.1; omega)) lk_X12_88 (mup_r (X.2.ne (i := 46) (j := 47) (by decide) (by decide) (by decide)) (mup_s _ _ _)) rfl rfl hl.1 rfl (Nat.le_of_ble_eq_true rfl) (by decide) dX12_every_37 ⟨Nat.le_of_ble_eq_true rfl, Nat.le_of_ble_eq_true rfl⟩) hM (fun M1 H locs hM hp => ?_)
          subst hp
          rw [mup_w _ _ _ (X.2.ne (i := 47) (j := 46) (by decide) (by decide) (by decide)), mup_i] at hM
          rw [mup_i] at hM
          have hM : MW g (mup (mup M (gA g 46) (mdE g m0 m1 m2 (nI a) (nI (qS (qEm qn_4 (-2)))) (nI en) (qZ (qEm qn_4 (-2))) 5 m8 m9 m10 m11)) (gA g 47) (aI g 929 (cnt f a tu cl (qL (qEm qn_4 (-2)))))) H locs := hM
          obtain ⟨qn_5, e_qn_5⟩ : ∃ z : Q9, z = qEm qn_4 (-2) := ⟨_, rfl⟩
          have hM : MW g (mup (mup M (gA g 46) (mdE g m0 m1 m2 (nI a) (nI (qS qn_5)) (nI en) (qZ qn_5) 5 m8 m9 m10 m11)) (gA g 47) (aI g 929 (cnt f a tu cl (qL qn_5)))) H locs := by rw [e_qn_5]; exact hM
          refine lv_goto (tgt := 4) hx hb dX12_every_40 (by decide) ?_
          have hi0 : 0 < i := by have := mHe_lt (x := 38) c_3 (by decide); omega
          have h8 : qS qb + 1 ≤ qS qn_4 := hG.2.1
          have h7 : (qL qn_4).length + (qS qb + 1) ≤ (qL qb).length + qS qn_4 := hG.2.2
          have h6 : qS qn_5 = qS qn_4 := by rw [e_qn_5]; rfl
          have V9 : VQ en qn_5 ∧ LQ qb qn_5 := by rw [e_qn_5]; exact qEm_V hVb hG.1 (by omega) h7
          exact ih (i - 1) qn_5 V9.1 (by omega) (by rw [← kb, qLp_i c_2 c_3 hi0]; (try rw [← e_qn_1]); (try rw [← e_qn_4]); (try rw [← e_qn_5]); first | done | rfl) _ _ hM _ (lv_sub hl [0] rfl) (by omega)
  exact L4 (101 + 1) 101 qn_1 V_qn_1.1 (by omega) (by unfold qEv; (try rw [← e_qn_1]); first | done | rfl) _ _ hM _ (lv_sub hl [0] rfl) (by first | exact Nat.lt_succ_self _ | omega)
set_option maxHeartbeats 4000000 in
set_option maxRecDepth 100000 in
theorem c_X12_some_0 (l : Launch) (g : Gp) (M : Mem) (m0 m1 m2 m8 m9 m10 m11 : Int32) (a en : Nat) (f : Nat → Int32) (tu cl : Int32) (q : Q9) (h46 : M (gA g 46) = some (mdE g m0 m1 m2 (nI a) (nI (qS q)) (nI en) (qZ q) 5 m8 m9 m10 m11)) (h47 : M (gA g 47) = some (aI g 929 (cnt f a tu cl (qL q)))) (hV : VQ en q) (hen : en ≤ 100) (ha : a < 5) (hf : f (224 + a) = nI 0) : Met l yX12_some (wsM yX12_some cX12_some 1 none) (rmD 8 0 0) (Pre g M [.ref (gA g 46)]) (Qv g (fun M1 => mup (mup M (gA g 46) (mdE g m0 m1 m2 (nI a) (nI (qS (qSo f en (qFac f en 0) q))) (nI en) (qZ (qSo f en (qFac f en 0) q)) 5 m8 m9 m10 m11)) (gA g 47) (aI g 929 (cnt f a tu cl (qL (qSo f en (qFac f en 0) q)))) = M1)) 0 0 (gF g) := M_start (by decide +kernel) (Nat.le_of_ble_eq_true rfl) fun p e s m args below meth c ls X hr hk hnm hM hl => by
  have X : Cx g p m c cX12_some 1 s args RX12 := X
  have hx := X.1.1
  have hb := X.1.2.1
  have hl : lv_has ls 1 [(0, .ref (gA g 46))] := hl
  refine lv_aload_n hx hb dX12_some_0 rfl (lv_at hl 0 rfl) ?_
  refine K_v (G_V (As := []) (rest := []) X hM (c_X12_every_0 l g _ m0 m1 m2 m8 m9 m10 m11 a en f tu cl q h46 h47 hV hen ha hf) lk_X12_105 h46 rfl rfl hl.1 rfl (Nat.le_of_ble_eq_true rfl) (by decide) dX12_some_1 ⟨Nat.le_of_ble_eq_true rfl, Nat.le_of_ble_eq_true rfl⟩) hM (fun M1 H locs hM hp => ?_)
  subst hp
  have hM : MW g (mup (mup M (gA g 46) (mdE g m0 m1 m2 (nI a) (nI (qS (qEv f en (qFac f en 0) q))) (nI en) (qZ (qEv f en (qFac f en 0) q)) 5 m8 m9 m10 m11)) (gA g 47) (aI g 929 (cnt f a tu cl (qL (qEv f en (qFac f en 0) q))))) H locs := hM
  obtain ⟨qn_1, e_qn_1⟩ : ∃ z : Q9, z = qEv f en (qFac f en 0) q := ⟨_, rfl⟩
  have hM : MW g (mup (mup M (gA g 46) (mdE g m0 m1 m2 (nI a) (nI (qS qn_1)) (nI en) (qZ qn_1) 5 m8 m9 m10 m11)) (gA g 47) (aI g 929 (cnt f a tu cl (qL qn_1)))) H locs := by rw [e_qn_1]; exact hM
  have V_qn_1 : VQ en qn_1 ∧ LQ q qn_1 := by rw [e_qn_1]; exact ((qEv_good (qFac_good 0)) _ hV)
  have L4 : ∀ (fu : Nat) (i : Nat) (qb : Q9) (hVb : VQ en qb) (hfu : en ≤ qS qb + i) (kb : qLp f en 124 (-3) (qEv f en (qFac f en 0)) i qb = qSo f en (qFac f en 0) q) (H : Heap) (locs : List Loc) (hM : MW g (mup (mup M (gA g 46) (mdE g m0 m1 m2 (nI a) (nI (qS qb)) (nI en) (qZ qb) 5 m8 m9 m10 m11)) (gA g 47) (aI g 929 (cnt f a tu cl (qL qb)))) H locs) (ls : Array Slot) (hl : lv_has ls 1 [(0, .ref (gA g 46))]), i < fu → W p l e (rmD 8 0 0) s m args below meth c H locs 0 0 (MQ below (Qv g (fun M1 => mup (mup M (gA g 46) (mdE g m0 m1 m2 (nI a) (nI (qS (qSo f en (qFac f en 0) q))) (nI en) (qZ (qSo f en (qFac f en 0) q)) 5 m8 m9 m10 m11)) (gA g 47) (aI g 929 (cnt f a tu cl (qL (qSo f en (qFac f en 0) q)))) = M1)) args s 0 0 (gF g)) (F0 m 4 ls []) := by
    intro fu
    induction fu with
    | zero => intro i qb hVb hfu kb H locs hM ls hl hmu; exact absurd hmu (Nat.not_lt_zero _)
    | succ fu ih =>
      intro i qb hVb hfu kb H locs hM ls hl hmu
      refine lv_aload_n hx hb dX12_some_4 rfl (lv_at hl 0 rfl) ?_
      refine r_get (T := TX12) (N := 20) (ci := 12) (v := .int (qZ qb)) X hM iX12 rfl 9 (by decide) q_844 (Or.inl rfl) (mup_r (X.2.ne (i := 46) (j := 47) (by decide) (by decide) (by decide)) (mup_s _ _ _)) rfl dX12_some_5 ?_
      refine lv_if_ne (tgt := 43) hx hb dX12_some_8 (by decide) (fun c_2 => ?_) (fun c_2 => ?_)
      · skip
        exact R_v X hr hk hM (by rw [← kb, qLp_z c_2]) dX12_some_43
      · skip
        refine lv_aload_n hx hb dX12_some_11 rfl (lv_at hl 0 rfl) ?_
        refine K_i (G_V (As := []) (rest := []) X hM (c_X12_hereQ l g _ m0 m1 m2 5 m8 m9 m10 m11 a en f tu cl qb (mup_r (X.2.ne (i := 46) (j := 47) (by decide) (by decide) (by decide)) (mup_s _ _ _)) (mup_s _ _ _) hVb hen ha hf) lk_X12_62 (mup_r (X.2.ne (i := 46) (j := 47) (by decide) (by decide) (by decide)) (mup_s _ _ _)) rfl rfl hl.1 rfl (Nat.le_of_ble_eq_true rfl) (by decide) dX12_some_12 ⟨Nat.le_of_ble_eq_true rfl, Nat.le_of_ble_eq_true rfl⟩) hM (fun r M1 H locs hM hp => ?_)
        obtain ⟨rfl, rfl⟩ := hp
        refine lv_bipush (v := 124) hx hb dX12_some_15 (by decide) ?_
        refine lv_icmp_ne (tgt := 43) hx hb dX12_some_17 (by decide) (fun c_3 => ?_) (fun c_3 => ?_)
        · skip
          exact R_v X hr hk hM (by rw [← kb, qLp_o c_3]) dX12_some_43
        · skip
          refine lv_aload_n hx hb dX12_some_20 rfl (lv_at hl 0 rfl) ?_
          refine lv_dup hx hb dX12_some_21 rfl ?_
          refine r_get (T := TX12) (N := 20) (ci := 12) (v := .int (nI (qS qb))) X hM iX12 rfl 7 (by decide) q_842 (Or.inl rfl) (mup_r (X.2.ne (i := 46) (j := 47) (by decide) (by decide) (by decide)) (mup_s _ _ _)) rfl dX12_some_22 ?_
          refine lv_iconst (v := 1) hx hb dX12_some_25 (by decide) ?_
          refine lv_iadd hx hb dX12_some_26 ?_
          rw [show (nI (qS qb)) + (1 : Int32) = nI ((qS qb) + 1) from nI_add (qS qb) 1]
          refine r_put (T := TX12) (N := 20) (ci := 12) X hM iX12 tyX12 tyX12_ok nmX12 rfl 7 (by decide) q_842 rfl (Or.inl rfl) (mup_r (X.2.ne (i := 46) (j := 47) (by decide) (by decide) (by decide)) (mup_s _ _ _)) rfl rfl (Nat.le_of_ble_eq_true rfl) dX12_some_27 (fun H locs hM => ?_)
          rw [mup_w _ _ _ (X.2.ne (i := 47) (j := 46) (by decide) (by decide) (by decide)), mup_i] at hM
          have hM : MW g (mup (mup M (gA g 46) (mdE g m0 m1 m2 (nI a) (nI ((qS qb) + 1)) (nI en) (qZ qb) 5 m8 m9 m10 m11)) (gA g 47) (aI g 929 (cnt f a tu cl (qL qb)))) H locs := hM
          refine lv_aload_n hx hb dX12_some_30 rfl (lv_at hl 0 rfl) ?_
          refine K_v (G_V (As := []) (rest := []) X hM (c_X12_every_0 l g _ m0 m1 m2 m8 m9 m10 m11 a en f tu cl ((qS qb) + 1, qZ qb, qL qb) (mup_r (X.2.ne (i := 46) (j := 47) (by decide) (by decide) (by decide)) (mup_s _ _ _)) (mup_s _ _ _) ⟨(mHe_lt (c_3) (by decide)), Nat.le_trans hVb.2.1 (Nat.le_succ _), hVb.2.2⟩ hen ha hf) lk_X12_105 (mup_r (X.2.ne (i := 46) (j := 47) (by decide) (by decide) (by decide)) (mup_s _ _ _)) rfl rfl hl.1 rfl (Nat.le_of_ble_eq_true rfl) (by decide) dX12_some_31 ⟨Nat.le_of_ble_eq_true rfl, Nat.le_of_ble_eq_true rfl⟩) hM (fun M1 H locs hM hp => ?_)
          subst hp
          rw [mup_w _ _ _ (X.2.ne (i := 47) (j := 46) (by decide) (by decide) (by decide)), mup_i] at hM
          rw [mup_i] at hM
          have hM : MW g (mup (mup M (gA g 46) (mdE g m0 m1 m2 (nI a) (nI (qS (qEv f en (qFac f en 0) ((qS qb) + 1, qZ qb, qL qb)))) (nI en) (qZ (qEv f en (qFac f en 0) ((qS qb) + 1, qZ qb, qL qb))) 5 m8 m9 m10 m11)) (gA g 47) (aI g 929 (cnt f a tu cl (qL (qEv f en (qFac f en 0) ((qS qb) + 1, qZ qb, qL qb)))))) H locs := hM
          obtain ⟨qn_4, e_qn_4⟩ : ∃ z : Q9, z = qEv f en (qFac f en 0) ((qS qb) + 1, qZ qb, qL qb) := ⟨_, rfl⟩
          have hM : MW g (mup (mup M (gA g 46) (mdE g m0 m1 m2 (nI a) (nI (qS qn_4)) (nI en) (qZ qn_4) 5 m8 m9 m10 m11)) (gA g 47) (aI g 929 (cnt f a tu cl (qL qn_4)))) H locs := by rw [e_qn_4]; exact hM
          have V_qn_4 : VQ en qn_4 ∧ LQ ((qS qb) + 1, qZ qb, qL qb) qn_4 := by rw [e_qn_4]; exact ((qEv_good (qFac_good 0)) _ ⟨(mHe_lt (c_3) (by decide)), Nat.le_trans hVb.2.1 (Nat.le_succ _), hVb.2.2⟩)
          refine lv_aload_n hx hb dX12_some_34 rfl (lv_at hl 0 rfl) ?_
          refine lv_bipush (v := -3) hx hb dX12_some_35 (by decide) ?_
          have hG := V_qn_4
          refine K_v (G_V (As := [.int (-3)]) (rest := []) X hM (c_X12_emitsQ l g _ m0 m1 m2 5 m8 m9 m10 m11 a en f tu cl qn_4 (-3) (mup_r (X.2.ne (i := 46) (j := 47) (by decide) (by decide) (by decide)) (mup_s _ _ _)) (mup_s _ _ _) hG.1 hen ha hf (by have h7 := hG.1.1; have h6 := hG.1.2.1; omega)) lk_X12_88 (mup_r (X.2.ne (i := 46) (j := 47) (by decide) (by decide) (by decide)) (mup_s _ _ _)) rfl rfl hl.1 rfl (Nat.le_of_ble_eq_true rfl) (by decide) dX12_some_37 ⟨Nat.le_of_ble_eq_true rfl, Nat.le_of_ble_eq_true rfl⟩) hM (fun M1 H locs hM hp => ?_)
          subst hp
          rw [mup_w _ _ _ (X.2.ne (i := 47) (j := 46) (by decide) (by decide) (by decide)), mup_i] at hM
          rw [mup_i] at hM
          have hM : MW g (mup (mup M (gA g 46) (mdE g m0 m1 m2 (nI a) (nI (qS (qEm qn_4 (-3)))) (nI en) (qZ (qEm qn_4 (-3))) 5 m8 m9 m10 m11)) (gA g 47) (aI g 929 (cnt f a tu cl (qL (qEm qn_4 (-3)))))) H locs := hM
          obtain ⟨qn_5, e_qn_5⟩ : ∃ z : Q9, z = qEm qn_4 (-3) := ⟨_, rfl⟩
          have hM : MW g (mup (mup M (gA g 46) (mdE g m0 m1 m2 (nI a) (nI (qS qn_5)) (nI en) (qZ qn_5) 5 m8 m9 m10 m11)) (gA g 47) (aI g 929 (cnt f a tu cl (qL qn_5)))) H locs := by rw [e_qn_5]; exact hM
          refine lv_goto (tgt := 4) hx hb dX12_some_40 (by decide) ?_
          have hi0 : 0 < i := by have := mHe_lt (x := 124) c_3 (by decide); omega
          have h8 : qS qb + 1 ≤ qS qn_4 := hG.2.1
          have h7 : (qL qn_4).length + (qS qb + 1) ≤ (qL qb).length + qS qn_4 := hG.2.2
          have h6 : qS qn_5 = qS qn_4 := by rw [e_qn_5]; rfl
          have V9 : VQ en qn_5 ∧ LQ qb qn_5 := by rw [e_qn_5]; exact qEm_V hVb hG.1 (by omega) h7
          exact ih (i - 1) qn_5 V9.1 (by omega) (by rw [← kb, qLp_i c_2 c_3 hi0]; (try rw [← e_qn_1]); (try rw [← e_qn_4]); (try rw [← e_qn_5]); first | done | rfl) _ _ hM _ (lv_sub hl [0] rfl) (by omega)
  exact L4 (101 + 1) 101 qn_1 V_qn_1.1 (by omega) (by unfold qSo; (try rw [← e_qn_1]); first | done | rfl) _ _ hM _ (lv_sub hl [0] rfl) (by first | exact Nat.lt_succ_self _ | omega)
set_option maxHeartbeats 4000000 in
set_option maxRecDepth 100000 in
theorem c_X12_factor_1 (l : Launch) (g : Gp) (M : Mem) (m0 m1 m2 m8 m9 m10 m11 : Int32) (a en : Nat) (f : Nat → Int32) (tu cl : Int32) (q : Q9) (h46 : M (gA g 46) = some (mdE g m0 m1 m2 (nI a) (nI (qS q)) (nI en) (qZ q) 4 m8 m9 m10 m11)) (h47 : M (gA g 47) = some (aI g 929 (cnt f a tu cl (qL q)))) (hV : VQ en q) (hen : en ≤ 100) (ha : a < 5) (hf : f (224 + a) = nI 0) : Met l yX12_factor (wsM yX12_factor cX12_factor 5 none) (rmD 9 0 0) (Pre g M [.ref (gA g 46)]) (Qv g (fun M1 => mup (mup M (gA g 46) (mdE g m0 m1 m2 (nI a) (nI (qS (qFac f en 1 q))) (nI en) (qZ (qFac f en 1 q)) 4 m8 m9 m10 m11)) (gA g 47) (aI g 929 (cnt f a tu cl (qL (qFac f en 1 q)))) = M1)) 0 0 (gF g) := M_start (by decide +kernel) (Nat.le_of_ble_eq_true rfl) fun p e s m args below meth c ls X hr hk hnm hM hl => by
  have X : Cx g p m c cX12_factor 5 s args RX12 := X
  have hx := X.1.1
  have hb := X.1.2.1
  have hl : lv_has ls 5 [(0, .ref (gA g 46))] := hl
  refine lv_aload_n hx hb dX12_factor_0 rfl (lv_at hl 0 rfl) ?_
  refine r_get (T := TX12) (N := 20) (ci := 12) (v := .int (qZ q)) X hM iX12 rfl 9 (by decide) q_844 (Or.inl rfl) h46 rfl dX12_factor_1 ?_
  refine lv_if_eq (tgt := 8) hx hb dX12_factor_4 (by decide) (fun c_1 => ?_) (fun c_1 => ?_)
  · skip
    refine lv_aload_n hx hb dX12_factor_8 rfl (lv_at hl 0 rfl) ?_
    refine K_i (G_V (As := []) (rest := []) X hM (c_X12_hereQ l g _ m0 m1 m2 4 m8 m9 m10 m11 a en f tu cl q h46 h47 hV hen ha hf) lk_X12_62 h46 rfl rfl hl.1 rfl (Nat.le_of_ble_eq_true rfl) (by decide) dX12_factor_9 ⟨Nat.le_of_ble_eq_true rfl, Nat.le_of_ble_eq_true rfl⟩) hM (fun r M1 H locs hM hp => ?_)
    obtain ⟨rfl, rfl⟩ := hp
    refine lv_istore_n (lv' := [(1, .int (qHe f en q)), (0, .ref (gA g 46))]) hx hb dX12_factor_12 rfl hl (by decide) rfl (fun ls hl => ?_)
    refine lv_iload_n hx hb dX12_factor_13 rfl (lv_at hl 0 rfl) ?_
    refine lv_bipush (v := 33) hx hb dX12_factor_14 (by decide) ?_
    refine lv_icmp_eq (tgt := 25) hx hb dX12_factor_16 (by decide) (fun c_2 => ?_) (fun c_2 => ?_)
    · skip
      refine lv_aload_n hx hb dX12_factor_25 rfl (lv_at hl 1 rfl) ?_
      refine lv_aload_n hx hb dX12_factor_26 rfl (lv_at hl 1 rfl) ?_
      refine r_get (T := TX12) (N := 20) (ci := 12) (v := .int 4) X hM iX12 rfl 10 (by decide) q_845 (Or.inl rfl) h46 rfl dX12_factor_27 ?_
      refine lv_iconst (v := 5) hx hb dX12_factor_30 (by decide) ?_
      refine lv_icmp_ne (tgt := 38) hx hb dX12_factor_31 (by decide) (fun c_3 => ?_) (fun c_3 => ?_)
      · skip
        refine lv_iconst (v := 0) hx hb dX12_factor_38 (by decide) ?_
        refine r_put (T := TX12) (N := 20) (ci := 12) X hM iX12 tyX12 tyX12_ok nmX12 rfl 9 (by decide) q_844 rfl (Or.inl rfl) h46 rfl rfl (Nat.le_of_ble_eq_true rfl) dX12_factor_39 (fun H locs hM => ?_)
        have hM : MW g (mup M (gA g 46) (mdE g m0 m1 m2 (nI a) (nI (qS q)) (nI en) 0 4 m8 m9 m10 m11)) H locs := hM
        refine lv_aload_n hx hb dX12_factor_42 rfl (lv_at hl 1 rfl) ?_
        refine lv_dup hx hb dX12_factor_43 rfl ?_
        refine r_get (T := TX12) (N := 20) (ci := 12) (v := .int 4) X hM iX12 rfl 10 (by decide) q_845 (Or.inl rfl) (mup_s _ _ _) rfl dX12_factor_44 ?_
        refine lv_iconst (v := 1) hx hb dX12_factor_47 (by decide) ?_
        refine lv_iadd hx hb dX12_factor_48 ?_
        rw [show (4 + 1 : Int32) = 5 from by decide]
        refine r_put (T := TX12) (N := 20) (ci := 12) X hM iX12 tyX12 tyX12_ok nmX12 rfl 10 (by decide) q_845 rfl (Or.inl rfl) (mup_s _ _ _) rfl rfl (Nat.le_of_ble_eq_true rfl) dX12_factor_49 (fun H locs hM => ?_)
        rw [mup_i] at hM
        have hM : MW g (mup M (gA g 46) (mdE g m0 m1 m2 (nI a) (nI (qS q)) (nI en) 0 5 m8 m9 m10 m11)) H locs := hM
        refine lv_aload_n hx hb dX12_factor_52 rfl (lv_at hl 1 rfl) ?_
        refine lv_dup hx hb dX12_factor_53 rfl ?_
        refine r_get (T := TX12) (N := 20) (ci := 12) (v := .int (nI (qS q))) X hM iX12 rfl 7 (by decide) q_842 (Or.inl rfl) (mup_s _ _ _) rfl dX12_factor_54 ?_
        refine lv_aload_n hx hb dX12_factor_57 rfl (lv_at hl 1 rfl) ?_
        refine r_get (T := TX12) (N := 20) (ci := 12) (v := .int 0) X hM iX12 rfl 9 (by decide) q_844 (Or.inl rfl) (mup_s _ _ _) rfl dX12_factor_58 ?_
        refine lv_if_eq (tgt := 68) hx hb dX12_factor_61 (by decide) (fun c_4 => ?_) (fun c_4 => ?_)
        · skip
          refine lv_iconst (v := 1) hx hb dX12_factor_68 (by decide) ?_
          refine lv_iadd hx hb dX12_factor_69 ?_
          rw [show (nI (qS q)) + (1 : Int32) = nI ((qS q) + 1) from nI_add (qS q) 1]
          refine r_put (T := TX12) (N := 20) (ci := 12) X hM iX12 tyX12 tyX12_ok nmX12 rfl 7 (by decide) q_842 rfl (Or.inl rfl) (mup_s _ _ _) rfl rfl (Nat.le_of_ble_eq_true rfl) dX12_factor_70 (fun H locs hM => ?_)
          rw [mup_i] at hM
          have hM : MW g (mup M (gA g 46) (mdE g m0 m1 m2 (nI a) (nI ((qS q) + 1)) (nI en) 0 5 m8 m9 m10 m11)) H locs := hM
          refine lv_iload_n hx hb dX12_factor_73 rfl (lv_at hl 0 rfl) ?_
          refine lv_bipush (v := 33) hx hb dX12_factor_74 (by decide) ?_
          refine lv_icmp_ne (tgt := 91) hx hb dX12_factor_76 (by decide) (fun c_5 => ?_) (fun c_5 => ?_)
          · skip
            exact absurd c_2 c_5
          · skip
            refine lv_aload_n hx hb dX12_factor_79 rfl (lv_at hl 1 rfl) ?_
            refine K_v (G_V (As := []) (rest := []) X hM (c_X12_factor_0 l g _ m0 m1 m2 m8 m9 m10 m11 a en f tu cl ((qS q) + 1, 0, qL q) (mup_s _ _ _) (mup_r (X.2.ne (i := 47) (j := 46) (by decide) (by decide) (by decide)) h47) ⟨(mHe_lt (c_2) (by decide)), Nat.le_trans hV.2.1 (Nat.le_succ _), Or.inl rfl⟩ hen ha hf) lk_X12_85 (mup_s _ _ _) rfl rfl hl.1 rfl (Nat.le_of_ble_eq_true rfl) (by decide) dX12_factor_80 ⟨Nat.le_of_ble_eq_true rfl, Nat.le_of_ble_eq_true rfl⟩) hM (fun M1 H locs hM hp => ?_)
            subst hp
            rw [mup_i] at hM
            have hM : MW g (mup (mup M (gA g 46) (mdE g m0 m1 m2 (nI a) (nI (qS (qFac f en 0 ((qS q) + 1, 0, qL q)))) (nI en) (qZ (qFac f en 0 ((qS q) + 1, 0, qL q))) 5 m8 m9 m10 m11)) (gA g 47) (aI g 929 (cnt f a tu cl (qL (qFac f en 0 ((qS q) + 1, 0, qL q)))))) H locs := hM
            obtain ⟨qn_6, e_qn_6⟩ : ∃ z : Q9, z = qFac f en 0 ((qS q) + 1, 0, qL q) := ⟨_, rfl⟩
            have hM : MW g (mup (mup M (gA g 46) (mdE g m0 m1 m2 (nI a) (nI (qS qn_6)) (nI en) (qZ qn_6) 5 m8 m9 m10 m11)) (gA g 47) (aI g 929 (cnt f a tu cl (qL qn_6)))) H locs := by rw [e_qn_6]; exact hM
            have V_qn_6 : VQ en qn_6 ∧ LQ ((qS q) + 1, 0, qL q) qn_6 := by rw [e_qn_6]; exact (qFac_good 0 _ ⟨(mHe_lt (c_2) (by decide)), Nat.le_trans hV.2.1 (Nat.le_succ _), Or.inl rfl⟩)
            refine lv_aload_n hx hb dX12_factor_83 rfl (lv_at hl 1 rfl) ?_
            refine lv_iconst (v := -1) hx hb dX12_factor_84 (by decide) ?_
            refine K_v (G_V (As := [.int (-1)]) (rest := []) X hM (c_X12_emitsQ l g _ m0 m1 m2 5 m8 m9 m10 m11 a en f tu cl qn_6 (-1) (mup_r (X.2.ne (i := 46) (j := 47) (by decide) (by decide) (by decide)) (mup_s _ _ _)) (mup_s _ _ _) V_qn_6.1 hen ha hf (by have h9 := V_qn_6; have h8 := h9.1; have h7 := h8.1; have h6 := h8.2.1; omega)) lk_X12_88 (mup_r (X.2.ne (i := 46) (j := 47) (by decide) (by decide) (by decide)) (mup_s _ _ _)) rfl rfl hl.1 rfl (Nat.le_of_ble_eq_true rfl) (by decide) dX12_factor_85 ⟨Nat.le_of_ble_eq_true rfl, Nat.le_of_ble_eq_true rfl⟩) hM (fun M1 H locs hM hp => ?_)
            subst hp
            rw [mup_w _ _ _ (X.2.ne (i := 47) (j := 46) (by decide) (by decide) (by decide)), mup_i] at hM
            rw [mup_i] at hM
            have hM : MW g (mup (mup M (gA g 46) (mdE g m0 m1 m2 (nI a) (nI (qS (qEm qn_6 (-1)))) (nI en) (qZ (qEm qn_6 (-1))) 5 m8 m9 m10 m11)) (gA g 47) (aI g 929 (cnt f a tu cl (qL (qEm qn_6 (-1)))))) H locs := hM
            obtain ⟨qn_7, e_qn_7⟩ : ∃ z : Q9, z = qEm qn_6 (-1) := ⟨_, rfl⟩
            have hM : MW g (mup (mup M (gA g 46) (mdE g m0 m1 m2 (nI a) (nI (qS qn_7)) (nI en) (qZ qn_7) 5 m8 m9 m10 m11)) (gA g 47) (aI g 929 (cnt f a tu cl (qL qn_7)))) H locs := by rw [e_qn_7]; exact hM
            refine lv_goto (tgt := 101) hx hb dX12_factor_88 (by decide) ?_
            refine lv_aload_n hx hb dX12_factor_101 rfl (lv_at hl 1 rfl) ?_
            refine lv_dup hx hb dX12_factor_102 rfl ?_
            refine r_get (T := TX12) (N := 20) (ci := 12) (v := .int 5) X hM iX12 rfl 10 (by decide) q_845 (Or.inl rfl) (mup_r (X.2.ne (i := 46) (j := 47) (by decide) (by decide) (by decide)) (mup_s _ _ _)) rfl dX12_factor_103 ?_
            refine lv_iconst (v := 1) hx hb dX12_factor_106 (by decide) ?_
            refine lv_isub hx hb dX12_factor_107 ?_
            rw [show (5 - 1 : Int32) = 4 from by decide]
            refine r_put (T := TX12) (N := 20) (ci := 12) X hM iX12 tyX12 tyX12_ok nmX12 rfl 10 (by decide) q_845 rfl (Or.inl rfl) (mup_r (X.2.ne (i := 46) (j := 47) (by decide) (by decide) (by decide)) (mup_s _ _ _)) rfl rfl (Nat.le_of_ble_eq_true rfl) dX12_factor_108 (fun H locs hM => ?_)
            rw [mup_w _ _ _ (X.2.ne (i := 47) (j := 46) (by decide) (by decide) (by decide)), mup_i] at hM
            have hM : MW g (mup (mup M (gA g 46) (mdE g m0 m1 m2 (nI a) (nI (qS qn_7)) (nI en) (qZ qn_7) 4 m8 m9 m10 m11)) (gA g 47) (aI g 929 (cnt f a tu cl (qL qn_7)))) H locs := hM
            have e9 : qFac f en 1 q = qn_7 := by rw [qFac_s f en 0]; (first | rw [if_pos c_1] | rw [if_neg c_1] | skip); (first | rw [if_pos c_2] | rw [if_neg c_2] | skip); (first | rw [if_pos c_5] | rw [if_neg c_5] | skip); (try rw [← e_qn_6]); (try rw [← e_qn_7]); first | done | rfl | (rw [e_qn_7, e_qn_6]; rfl)
            exact R_v X hr hk hM (by rw [e9] <;> rfl) dX12_factor_111
        · exact absurd c_4 (by decide)
      · exact absurd c_3 (by decide)
    · skip
      refine lv_iload_n hx hb dX12_factor_19 rfl (lv_at hl 0 rfl) ?_
      refine lv_bipush (v := 40) hx hb dX12_factor_20 (by decide) ?_
      refine lv_icmp_ne (tgt := 112) hx hb dX12_factor_22 (by decide) (fun c_8 => ?_) (fun c_8 => ?_)
      · skip
        refine lv_aload_n hx hb dX12_factor_112 rfl (lv_at hl 1 rfl) ?_
        refine va_ldcS hx hb X.1.2.2.2.1 (X.2.2.2.2.2.2.1 7 _ rfl) dX12_factor_113 ?_
        refine K_i (G_V (As := [.ref (gK g 7)]) (rest := []) X hM (c_X12_amongQ l g _ m0 m1 m2 4 m8 m9 m10 m11 a en f tu cl q 7 h46 h47 hV hen ha hf (by decide)) lk_X12_96 h46 rfl rfl hl.1 rfl (Nat.le_of_ble_eq_true rfl) (by decide) dX12_factor_115 ⟨Nat.le_of_ble_eq_true rfl, Nat.le_of_ble_eq_true rfl⟩) hM (fun r M1 H locs hM hp => ?_)
        obtain ⟨rfl, rfl⟩ := hp
        have hM : MW g (mup (mup M (gA g 46) (mdE g m0 m1 m2 (nI a) (nI (qS (qAm f en q 7))) (nI en) (qZ (qAm f en q 7)) 4 m8 m9 m10 m11)) (gA g 47) (aI g 929 (cnt f a tu cl (qL (qAm f en q 7))))) H locs := hM
        obtain ⟨qn_9, e_qn_9⟩ : ∃ z : Q9, z = qAm f en q 7 := ⟨_, rfl⟩
        have hM : MW g (mup (mup M (gA g 46) (mdE g m0 m1 m2 (nI a) (nI (qS qn_9)) (nI en) (qZ qn_9) 4 m8 m9 m10 m11)) (gA g 47) (aI g 929 (cnt f a tu cl (qL qn_9)))) H locs := by rw [e_qn_9]; exact hM
        have V_qn_9 : VQ en qn_9 ∧ LQ q qn_9 := by rw [e_qn_9]; exact (qAm_V hV (by decide))
        refine lv_istore_n (lv' := [(2, .int (amI f en q 7)), (1, .int (qHe f en q)), (0, .ref (gA g 46))]) hx hb dX12_factor_118 rfl hl (by decide) rfl (fun ls hl => ?_)
        refine lv_aload_n hx hb dX12_factor_119 rfl (lv_at hl 2 rfl) ?_
        refine lv_iload_n hx hb dX12_factor_120 rfl (lv_at hl 0 rfl) ?_
        refine lv_iconst (v := -1) hx hb dX12_factor_121 (by decide) ?_
        refine lv_icmp_ne (tgt := 129) hx hb dX12_factor_122 (by decide) (fun c_10 => ?_) (fun c_10 => ?_)
        · skip
          refine lv_iconst (v := 0) hx hb dX12_factor_129 (by decide) ?_
          refine r_put (T := TX12) (N := 20) (ci := 12) X hM iX12 tyX12 tyX12_ok nmX12 rfl 9 (by decide) q_844 rfl (Or.inl rfl) (mup_r (X.2.ne (i := 46) (j := 47) (by decide) (by decide) (by decide)) (mup_s _ _ _)) rfl rfl (Nat.le_of_ble_eq_true rfl) dX12_factor_130 (fun H locs hM => ?_)
          rw [mup_w _ _ _ (X.2.ne (i := 47) (j := 46) (by decide) (by decide) (by decide)), mup_i] at hM
          have hM : MW g (mup (mup M (gA g 46) (mdE g m0 m1 m2 (nI a) (nI (qS qn_9)) (nI en) 0 4 m8 m9 m10 m11)) (gA g 47) (aI g 929 (cnt f a tu cl (qL qn_9)))) H locs := hM
          refine lv_aload_n hx hb dX12_factor_133 rfl (lv_at hl 2 rfl) ?_
          refine r_get (T := TX12) (N := 20) (ci := 12) (v := .int 0) X hM iX12 rfl 9 (by decide) q_844 (Or.inl rfl) (mup_r (X.2.ne (i := 46) (j := 47) (by decide) (by decide) (by decide)) (mup_s _ _ _)) rfl dX12_factor_134 ?_
          refine lv_if_eq (tgt := 144) hx hb dX12_factor_137 (by decide) (fun c_11 => ?_) (fun c_11 => ?_)
          · skip
            refine lv_aload_n hx hb dX12_factor_144 rfl (lv_at hl 2 rfl) ?_
            refine va_ldcS hx hb X.1.2.2.2.1 (X.2.2.2.2.2.2.1 8 _ rfl) dX12_factor_145 ?_
            refine K_i (G_V (As := [.ref (gK g 8)]) (rest := []) X hM (c_X12_amongQ l g _ m0 m1 m2 4 m8 m9 m10 m11 a en f tu cl (qS qn_9, 0, qL qn_9) 8 (mup_r (X.2.ne (i := 46) (j := 47) (by decide) (by decide) (by decide)) (mup_s _ _ _)) (mup_s _ _ _) (VQ.z V_qn_9.1 (Or.inl rfl)) hen ha hf (by decide)) lk_X12_96 (mup_r (X.2.ne (i := 46) (j := 47) (by decide) (by decide) (by decide)) (mup_s _ _ _)) rfl rfl hl.1 rfl (Nat.le_of_ble_eq_true rfl) (by decide) dX12_factor_147 ⟨Nat.le_of_ble_eq_true rfl, Nat.le_of_ble_eq_true rfl⟩) hM (fun r M1 H locs hM hp => ?_)
            obtain ⟨rfl, rfl⟩ := hp
            rw [mup_w _ _ _ (X.2.ne (i := 47) (j := 46) (by decide) (by decide) (by decide)), mup_i] at hM
            rw [mup_i] at hM
            have hM : MW g (mup (mup M (gA g 46) (mdE g m0 m1 m2 (nI a) (nI (qS (qAm f en (qS qn_9, 0, qL qn_9) 8))) (nI en) (qZ (qAm f en (qS qn_9, 0, qL qn_9) 8)) 4 m8 m9 m10 m11)) (gA g 47) (aI g 929 (cnt f a tu cl (qL (qAm f en (qS qn_9, 0, qL qn_9) 8))))) H locs := hM
            obtain ⟨qn_12, e_qn_12⟩ : ∃ z : Q9, z = qAm f en (qS qn_9, 0, qL qn_9) 8 := ⟨_, rfl⟩
            have hM : MW g (mup (mup M (gA g 46) (mdE g m0 m1 m2 (nI a) (nI (qS qn_12)) (nI en) (qZ qn_12) 4 m8 m9 m10 m11)) (gA g 47) (aI g 929 (cnt f a tu cl (qL qn_12)))) H locs := by rw [e_qn_12]; exact hM
            have V_qn_12 : VQ en qn_12 ∧ LQ (qS qn_9, 0, qL qn_9) qn_12 := by rw [e_qn_12]; exact (qAm_V (VQ.z V_qn_9.1 (Or.inl rfl)) (by decide))
            refine lv_istore_n (lv' := [(3, .int (amI f en (qS qn_9, 0, qL qn_9) 8)), (2, .int (amI f en q 7)), (1, .int (qHe f en q)), (0, .ref (gA g 46))]) hx hb dX12_factor_150 rfl hl (by decide) rfl (fun ls hl => ?_)
            refine lv_aload_n hx hb dX12_factor_151 rfl (lv_at hl 3 rfl) ?_
            refine lv_aload_n hx hb dX12_factor_152 rfl (lv_at hl 3 rfl) ?_
            refine r_get (T := TX12) (N := 20) (ci := 12) (v := .int (qZ qn_12)) X hM iX12 rfl 9 (by decide) q_844 (Or.inl rfl) (mup_r (X.2.ne (i := 46) (j := 47) (by decide) (by decide) (by decide)) (mup_s _ _ _)) rfl dX12_factor_153 ?_
            refine lv_if_ne (tgt := 164) hx hb dX12_factor_156 (by decide) (fun c_13 => ?_) (fun c_13 => ?_)
            · skip
              exact absurd (show qZ qn_12 = 0 from by rw [e_qn_12]; rfl) c_13
            · skip
              refine lv_iload_n hx hb dX12_factor_159 rfl (lv_at hl 0 rfl) ?_
              refine lv_iconst (v := -1) hx hb dX12_factor_160 (by decide) ?_
              refine lv_icmp_ne (tgt := 168) hx hb dX12_factor_161 (by decide) (fun c_14 => ?_) (fun c_14 => ?_)
              · skip
                refine lv_iconst (v := 0) hx hb dX12_factor_168 (by decide) ?_
                refine r_put (T := TX12) (N := 20) (ci := 12) X hM iX12 tyX12 tyX12_ok nmX12 rfl 9 (by decide) q_844 rfl (Or.inl rfl) (mup_r (X.2.ne (i := 46) (j := 47) (by decide) (by decide) (by decide)) (mup_s _ _ _)) rfl rfl (Nat.le_of_ble_eq_true rfl) dX12_factor_169 (fun H locs hM => ?_)
                rw [mup_w _ _ _ (X.2.ne (i := 47) (j := 46) (by decide) (by decide) (by decide)), mup_i] at hM
                have hM : MW g (mup (mup M (gA g 46) (mdE g m0 m1 m2 (nI a) (nI (qS qn_12)) (nI en) 0 4 m8 m9 m10 m11)) (gA g 47) (aI g 929 (cnt f a tu cl (qL qn_12)))) H locs := hM
                refine lv_aload_n hx hb dX12_factor_172 rfl (lv_at hl 3 rfl) ?_
                refine K_i (G_V (As := []) (rest := []) X hM (c_X12_figuresQ l g _ m0 m1 m2 4 m8 m9 m10 m11 a en f tu cl (qS qn_12, 0, qL qn_12) (mup_r (X.2.ne (i := 46) (j := 47) (by decide) (by decide) (by decide)) (mup_s _ _ _)) (mup_s _ _ _) (VQ.z V_qn_12.1 (Or.inl rfl)) hen ha hf) lk_X12_102 (mup_r (X.2.ne (i := 46) (j := 47) (by decide) (by decide) (by decide)) (mup_s _ _ _)) rfl rfl hl.1 rfl (Nat.le_of_ble_eq_true rfl) (by decide) dX12_factor_173 ⟨Nat.le_of_ble_eq_true rfl, Nat.le_of_ble_eq_true rfl⟩) hM (fun r M1 H locs hM hp => ?_)
                obtain ⟨rfl, rfl⟩ := hp
                rw [mup_w _ _ _ (X.2.ne (i := 47) (j := 46) (by decide) (by decide) (by decide)), mup_i] at hM
                rw [mup_i] at hM
                have hM : MW g (mup (mup M (gA g 46) (mdE g m0 m1 m2 (nI a) (nI (qS (qFg f en (qS qn_12, 0, qL qn_12)))) (nI en) (qZ (qFg f en (qS qn_12, 0, qL qn_12))) 4 m8 m9 m10 m11)) (gA g 47) (aI g 929 (cnt f a tu cl (qL (qFg f en (qS qn_12, 0, qL qn_12)))))) H locs := hM
                obtain ⟨qn_15, e_qn_15⟩ : ∃ z : Q9, z = qFg f en (qS qn_12, 0, qL qn_12) := ⟨_, rfl⟩
                have hM : MW g (mup (mup M (gA g 46) (mdE g m0 m1 m2 (nI a) (nI (qS qn_15)) (nI en) (qZ qn_15) 4 m8 m9 m10 m11)) (gA g 47) (aI g 929 (cnt f a tu cl (qL qn_15)))) H locs := by rw [e_qn_15]; exact hM
                have V_qn_15 : VQ en qn_15 ∧ LQ (qS qn_12, 0, qL qn_12) qn_15 := by rw [e_qn_15]; exact (qFg_V (VQ.z V_qn_12.1 (Or.inl rfl)))
                refine lv_istore (lv' := [(4, .int (fgI f en (qS qn_12, 0, qL qn_12))), (3, .int (amI f en (qS qn_9, 0, qL qn_9) 8)), (2, .int (amI f en q 7)), (1, .int (qHe f en q)), (0, .ref (gA g 46))]) hx hb dX12_factor_176 hl (by decide) rfl (fun ls hl => ?_)
                refine lv_aload_n hx hb dX12_factor_178 rfl (lv_at hl 4 rfl) ?_
                refine lv_iload_n hx hb dX12_factor_179 rfl (lv_at hl 2 rfl) ?_
                refine lv_bipush (v := 8) hx hb dX12_factor_180 (by decide) ?_
                refine lv_iload_n hx hb dX12_factor_182 rfl (lv_at hl 1 rfl) ?_
                refine lv_imul hx hb dX12_factor_183 ?_
                refine lv_iadd hx hb dX12_factor_184 ?_
                refine lv_bipush (v := 32) hx hb dX12_factor_185 (by decide) ?_
                refine lv_iload hx hb dX12_factor_187 (lv_at hl 0 rfl) ?_
                refine lv_imul hx hb dX12_factor_189 ?_
                refine lv_iadd hx hb dX12_factor_190 ?_
                refine K_v (G_V (As := [.int (((amI f en q 7) + (8 * (amI f en (qS qn_9, 0, qL qn_9) 8))) + (32 * (fgI f en (qS qn_12, 0, qL qn_12))))]) (rest := []) X hM (c_X12_emitsQ l g _ m0 m1 m2 4 m8 m9 m10 m11 a en f tu cl qn_15 (((amI f en q 7) + (8 * (amI f en (qS qn_9, 0, qL qn_9) 8))) + (32 * (fgI f en (qS qn_12, 0, qL qn_12)))) (mup_r (X.2.ne (i := 46) (j := 47) (by decide) (by decide) (by decide)) (mup_s _ _ _)) (mup_s _ _ _) V_qn_15.1 hen ha hf (by have h9 := V_qn_15; have h8 := h9.1; have h7 := h8.1; have h6 := h8.2.1; omega)) lk_X12_88 (mup_r (X.2.ne (i := 46) (j := 47) (by decide) (by decide) (by decide)) (mup_s _ _ _)) rfl rfl hl.1 rfl (Nat.le_of_ble_eq_true rfl) (by decide) dX12_factor_191 ⟨Nat.le_of_ble_eq_true rfl, Nat.le_of_ble_eq_true rfl⟩) hM (fun M1 H locs hM hp => ?_)
                subst hp
                rw [mup_w _ _ _ (X.2.ne (i := 47) (j := 46) (by decide) (by decide) (by decide)), mup_i] at hM
                rw [mup_i] at hM
                have hM : MW g (mup (mup M (gA g 46) (mdE g m0 m1 m2 (nI a) (nI (qS (qEm qn_15 (((amI f en q 7) + (8 * (amI f en (qS qn_9, 0, qL qn_9) 8))) + (32 * (fgI f en (qS qn_12, 0, qL qn_12))))))) (nI en) (qZ (qEm qn_15 (((amI f en q 7) + (8 * (amI f en (qS qn_9, 0, qL qn_9) 8))) + (32 * (fgI f en (qS qn_12, 0, qL qn_12)))))) 4 m8 m9 m10 m11)) (gA g 47) (aI g 929 (cnt f a tu cl (qL (qEm qn_15 (((amI f en q 7) + (8 * (amI f en (qS qn_9, 0, qL qn_9) 8))) + (32 * (fgI f en (qS qn_12, 0, qL qn_12))))))))) H locs := hM
                obtain ⟨qn_16, e_qn_16⟩ : ∃ z : Q9, z = qEm qn_15 (((amI f en q 7) + (8 * (amI f en (qS qn_9, 0, qL qn_9) 8))) + (32 * (fgI f en (qS qn_12, 0, qL qn_12)))) := ⟨_, rfl⟩
                have hM : MW g (mup (mup M (gA g 46) (mdE g m0 m1 m2 (nI a) (nI (qS qn_16)) (nI en) (qZ qn_16) 4 m8 m9 m10 m11)) (gA g 47) (aI g 929 (cnt f a tu cl (qL qn_16)))) H locs := by rw [e_qn_16]; exact hM
                have e9 : qFac f en 1 q = qn_16 := by rw [qFac_s f en 0]; (first | rw [if_pos c_1] | rw [if_neg c_1] | skip); (first | rw [if_pos c_2] | rw [if_neg c_2] | skip); (first | rw [if_pos c_8] | rw [if_neg c_8] | skip); unfold qTs; (try rw [← e_qn_9]); (try rw [← e_qn_12]); (try rw [← e_qn_15]); (try rw [← e_qn_16]); (first | rw [if_pos c_10] | rw [if_neg c_10] | skip); (first | rw [if_pos c_14] | rw [if_neg c_14] | skip); unfold qT2; (try rw [← e_qn_9]); (try rw [← e_qn_12]); (try rw [← e_qn_15]); (try rw [← e_qn_16]); first | done | rfl
                exact R_v X hr hk hM (by rw [e9] <;> rfl) dX12_factor_194
              · skip
                refine lv_iconst (v := 1) hx hb dX12_factor_164 (by decide) ?_
                refine lv_goto (tgt := 169) hx hb dX12_factor_165 (by decide) ?_
                refine r_put (T := TX12) (N := 20) (ci := 12) X hM iX12 tyX12 tyX12_ok nmX12 rfl 9 (by decide) q_844 rfl (Or.inl rfl) (mup_r (X.2.ne (i := 46) (j := 47) (by decide) (by decide) (by decide)) (mup_s _ _ _)) rfl rfl (Nat.le_of_ble_eq_true rfl) dX12_factor_169 (fun H locs hM => ?_)
                rw [mup_w _ _ _ (X.2.ne (i := 47) (j := 46) (by decide) (by decide) (by decide)), mup_i] at hM
                have hM : MW g (mup (mup M (gA g 46) (mdE g m0 m1 m2 (nI a) (nI (qS qn_12)) (nI en) 1 4 m8 m9 m10 m11)) (gA g 47) (aI g 929 (cnt f a tu cl (qL qn_12)))) H locs := hM
                refine lv_aload_n hx hb dX12_factor_172 rfl (lv_at hl 3 rfl) ?_
                refine K_i (G_V (As := []) (rest := []) X hM (c_X12_figuresQ l g _ m0 m1 m2 4 m8 m9 m10 m11 a en f tu cl (qS qn_12, 1, qL qn_12) (mup_r (X.2.ne (i := 46) (j := 47) (by decide) (by decide) (by decide)) (mup_s _ _ _)) (mup_s _ _ _) (VQ.z V_qn_12.1 (Or.inr rfl)) hen ha hf) lk_X12_102 (mup_r (X.2.ne (i := 46) (j := 47) (by decide) (by decide) (by decide)) (mup_s _ _ _)) rfl rfl hl.1 rfl (Nat.le_of_ble_eq_true rfl) (by decide) dX12_factor_173 ⟨Nat.le_of_ble_eq_true rfl, Nat.le_of_ble_eq_true rfl⟩) hM (fun r M1 H locs hM hp => ?_)
                obtain ⟨rfl, rfl⟩ := hp
                rw [mup_w _ _ _ (X.2.ne (i := 47) (j := 46) (by decide) (by decide) (by decide)), mup_i] at hM
                rw [mup_i] at hM
                have hM : MW g (mup (mup M (gA g 46) (mdE g m0 m1 m2 (nI a) (nI (qS (qFg f en (qS qn_12, 1, qL qn_12)))) (nI en) (qZ (qFg f en (qS qn_12, 1, qL qn_12))) 4 m8 m9 m10 m11)) (gA g 47) (aI g 929 (cnt f a tu cl (qL (qFg f en (qS qn_12, 1, qL qn_12)))))) H locs := hM
                obtain ⟨qn_17, e_qn_17⟩ : ∃ z : Q9, z = qFg f en (qS qn_12, 1, qL qn_12) := ⟨_, rfl⟩
                have hM : MW g (mup (mup M (gA g 46) (mdE g m0 m1 m2 (nI a) (nI (qS qn_17)) (nI en) (qZ qn_17) 4 m8 m9 m10 m11)) (gA g 47) (aI g 929 (cnt f a tu cl (qL qn_17)))) H locs := by rw [e_qn_17]; exact hM
                have V_qn_17 : VQ en qn_17 ∧ LQ (qS qn_12, 1, qL qn_12) qn_17 := by rw [e_qn_17]; exact (qFg_V (VQ.z V_qn_12.1 (Or.inr rfl)))
                refine lv_istore (lv' := [(4, .int (fgI f en (qS qn_12, 1, qL qn_12))), (3, .int (amI f en (qS qn_9, 0, qL qn_9) 8)), (2, .int (amI f en q 7)), (1, .int (qHe f en q)), (0, .ref (gA g 46))]) hx hb dX12_factor_176 hl (by decide) rfl (fun ls hl => ?_)
                refine lv_aload_n hx hb dX12_factor_178 rfl (lv_at hl 4 rfl) ?_
                refine lv_iload_n hx hb dX12_factor_179 rfl (lv_at hl 2 rfl) ?_
                refine lv_bipush (v := 8) hx hb dX12_factor_180 (by decide) ?_
                refine lv_iload_n hx hb dX12_factor_182 rfl (lv_at hl 1 rfl) ?_
                refine lv_imul hx hb dX12_factor_183 ?_
                refine lv_iadd hx hb dX12_factor_184 ?_
                refine lv_bipush (v := 32) hx hb dX12_factor_185 (by decide) ?_
                refine lv_iload hx hb dX12_factor_187 (lv_at hl 0 rfl) ?_
                refine lv_imul hx hb dX12_factor_189 ?_
                refine lv_iadd hx hb dX12_factor_190 ?_
                refine K_v (G_V (As := [.int (((amI f en q 7) + (8 * (amI f en (qS qn_9, 0, qL qn_9) 8))) + (32 * (fgI f en (qS qn_12, 1, qL qn_12))))]) (rest := []) X hM (c_X12_emitsQ l g _ m0 m1 m2 4 m8 m9 m10 m11 a en f tu cl qn_17 (((amI f en q 7) + (8 * (amI f en (qS qn_9, 0, qL qn_9) 8))) + (32 * (fgI f en (qS qn_12, 1, qL qn_12)))) (mup_r (X.2.ne (i := 46) (j := 47) (by decide) (by decide) (by decide)) (mup_s _ _ _)) (mup_s _ _ _) V_qn_17.1 hen ha hf (by have h9 := V_qn_17; have h8 := h9.1; have h7 := h8.1; have h6 := h8.2.1; omega)) lk_X12_88 (mup_r (X.2.ne (i := 46) (j := 47) (by decide) (by decide) (by decide)) (mup_s _ _ _)) rfl rfl hl.1 rfl (Nat.le_of_ble_eq_true rfl) (by decide) dX12_factor_191 ⟨Nat.le_of_ble_eq_true rfl, Nat.le_of_ble_eq_true rfl⟩) hM (fun M1 H locs hM hp => ?_)
                subst hp
                rw [mup_w _ _ _ (X.2.ne (i := 47) (j := 46) (by decide) (by decide) (by decide)), mup_i] at hM
                rw [mup_i] at hM
                have hM : MW g (mup (mup M (gA g 46) (mdE g m0 m1 m2 (nI a) (nI (qS (qEm qn_17 (((amI f en q 7) + (8 * (amI f en (qS qn_9, 0, qL qn_9) 8))) + (32 * (fgI f en (qS qn_12, 1, qL qn_12))))))) (nI en) (qZ (qEm qn_17 (((amI f en q 7) + (8 * (amI f en (qS qn_9, 0, qL qn_9) 8))) + (32 * (fgI f en (qS qn_12, 1, qL qn_12)))))) 4 m8 m9 m10 m11)) (gA g 47) (aI g 929 (cnt f a tu cl (qL (qEm qn_17 (((amI f en q 7) + (8 * (amI f en (qS qn_9, 0, qL qn_9) 8))) + (32 * (fgI f en (qS qn_12, 1, qL qn_12))))))))) H locs := hM
                obtain ⟨qn_18, e_qn_18⟩ : ∃ z : Q9, z = qEm qn_17 (((amI f en q 7) + (8 * (amI f en (qS qn_9, 0, qL qn_9) 8))) + (32 * (fgI f en (qS qn_12, 1, qL qn_12)))) := ⟨_, rfl⟩
                have hM : MW g (mup (mup M (gA g 46) (mdE g m0 m1 m2 (nI a) (nI (qS qn_18)) (nI en) (qZ qn_18) 4 m8 m9 m10 m11)) (gA g 47) (aI g 929 (cnt f a tu cl (qL qn_18)))) H locs := by rw [e_qn_18]; exact hM
                have e9 : qFac f en 1 q = qn_18 := by rw [qFac_s f en 0]; (first | rw [if_pos c_1] | rw [if_neg c_1] | skip); (first | rw [if_pos c_2] | rw [if_neg c_2] | skip); (first | rw [if_pos c_8] | rw [if_neg c_8] | skip); unfold qTs; (try rw [← e_qn_9]); (try rw [← e_qn_12]); (try rw [← e_qn_17]); (try rw [← e_qn_18]); (first | rw [if_pos c_10] | rw [if_neg c_10] | skip); (first | rw [if_pos c_14] | rw [if_neg c_14] | skip); unfold qT2; (try rw [← e_qn_9]); (try rw [← e_qn_12]); (try rw [← e_qn_17]); (try rw [← e_qn_18]); first | done | rfl
                exact R_v X hr hk hM (by rw [e9] <;> rfl) dX12_factor_194
          · exact absurd c_11 (by decide)
        · skip
          refine lv_iconst (v := 1) hx hb dX12_factor_125 (by decide) ?_
          refine lv_goto (tgt := 130) hx hb dX12_factor_126 (by decide) ?_
          refine r_put (T := TX12) (N := 20) (ci := 12) X hM iX12 tyX12 tyX12_ok nmX12 rfl 9 (by decide) q_844 rfl (Or.inl rfl) (mup_r (X.2.ne (i := 46) (j := 47) (by decide) (by decide) (by decide)) (mup_s _ _ _)) rfl rfl (Nat.le_of_ble_eq_true rfl) dX12_factor_130 (fun H locs hM => ?_)
          rw [mup_w _ _ _ (X.2.ne (i := 47) (j := 46) (by decide) (by decide) (by decide)), mup_i] at hM
          have hM : MW g (mup (mup M (gA g 46) (mdE g m0 m1 m2 (nI a) (nI (qS qn_9)) (nI en) 1 4 m8 m9 m10 m11)) (gA g 47) (aI g 929 (cnt f a tu cl (qL qn_9)))) H locs := hM
          refine lv_aload_n hx hb dX12_factor_133 rfl (lv_at hl 2 rfl) ?_
          refine r_get (T := TX12) (N := 20) (ci := 12) (v := .int 1) X hM iX12 rfl 9 (by decide) q_844 (Or.inl rfl) (mup_r (X.2.ne (i := 46) (j := 47) (by decide) (by decide) (by decide)) (mup_s _ _ _)) rfl dX12_factor_134 ?_
          refine lv_if_eq (tgt := 144) hx hb dX12_factor_137 (by decide) (fun c_19 => ?_) (fun c_19 => ?_)
          · exact absurd c_19 (by decide)
          · skip
            refine lv_iconst (v := 0) hx hb dX12_factor_140 (by decide) ?_
            refine lv_goto (tgt := 150) hx hb dX12_factor_141 (by decide) ?_
            refine lv_istore_n (lv' := [(3, .int 0), (2, .int (amI f en q 7)), (1, .int (qHe f en q)), (0, .ref (gA g 46))]) hx hb dX12_factor_150 rfl hl (by decide) rfl (fun ls hl => ?_)
            refine lv_aload_n hx hb dX12_factor_151 rfl (lv_at hl 3 rfl) ?_
            refine lv_aload_n hx hb dX12_factor_152 rfl (lv_at hl 3 rfl) ?_
            refine r_get (T := TX12) (N := 20) (ci := 12) (v := .int 1) X hM iX12 rfl 9 (by decide) q_844 (Or.inl rfl) (mup_r (X.2.ne (i := 46) (j := 47) (by decide) (by decide) (by decide)) (mup_s _ _ _)) rfl dX12_factor_153 ?_
            refine lv_if_ne (tgt := 164) hx hb dX12_factor_156 (by decide) (fun c_20 => ?_) (fun c_20 => ?_)
            · skip
              refine lv_iconst (v := 1) hx hb dX12_factor_164 (by decide) ?_
              refine lv_goto (tgt := 169) hx hb dX12_factor_165 (by decide) ?_
              refine r_put (T := TX12) (N := 20) (ci := 12) X hM iX12 tyX12 tyX12_ok nmX12 rfl 9 (by decide) q_844 rfl (Or.inl rfl) (mup_r (X.2.ne (i := 46) (j := 47) (by decide) (by decide) (by decide)) (mup_s _ _ _)) rfl rfl (Nat.le_of_ble_eq_true rfl) dX12_factor_169 (fun H locs hM => ?_)
              rw [mup_w _ _ _ (X.2.ne (i := 47) (j := 46) (by decide) (by decide) (by decide)), mup_i] at hM
              have hM : MW g (mup (mup M (gA g 46) (mdE g m0 m1 m2 (nI a) (nI (qS qn_9)) (nI en) 1 4 m8 m9 m10 m11)) (gA g 47) (aI g 929 (cnt f a tu cl (qL qn_9)))) H locs := hM
              refine lv_aload_n hx hb dX12_factor_172 rfl (lv_at hl 3 rfl) ?_
              refine K_i (G_V (As := []) (rest := []) X hM (c_X12_figuresQ l g _ m0 m1 m2 4 m8 m9 m10 m11 a en f tu cl (qS qn_9, 1, qL qn_9) (mup_r (X.2.ne (i := 46) (j := 47) (by decide) (by decide) (by decide)) (mup_s _ _ _)) (mup_s _ _ _) (VQ.z V_qn_9.1 (Or.inr rfl)) hen ha hf) lk_X12_102 (mup_r (X.2.ne (i := 46) (j := 47) (by decide) (by decide) (by decide)) (mup_s _ _ _)) rfl rfl hl.1 rfl (Nat.le_of_ble_eq_true rfl) (by decide) dX12_factor_173 ⟨Nat.le_of_ble_eq_true rfl, Nat.le_of_ble_eq_true rfl⟩) hM (fun r M1 H locs hM hp => ?_)
              obtain ⟨rfl, rfl⟩ := hp
              rw [mup_w _ _ _ (X.2.ne (i := 47) (j := 46) (by decide) (by decide) (by decide)), mup_i] at hM
              rw [mup_i] at hM
              have hM : MW g (mup (mup M (gA g 46) (mdE g m0 m1 m2 (nI a) (nI (qS (qFg f en (qS qn_9, 1, qL qn_9)))) (nI en) (qZ (qFg f en (qS qn_9, 1, qL qn_9))) 4 m8 m9 m10 m11)) (gA g 47) (aI g 929 (cnt f a tu cl (qL (qFg f en (qS qn_9, 1, qL qn_9)))))) H locs := hM
              obtain ⟨qn_21, e_qn_21⟩ : ∃ z : Q9, z = qFg f en (qS qn_9, 1, qL qn_9) := ⟨_, rfl⟩
              have hM : MW g (mup (mup M (gA g 46) (mdE g m0 m1 m2 (nI a) (nI (qS qn_21)) (nI en) (qZ qn_21) 4 m8 m9 m10 m11)) (gA g 47) (aI g 929 (cnt f a tu cl (qL qn_21)))) H locs := by rw [e_qn_21]; exact hM
              have V_qn_21 : VQ en qn_21 ∧ LQ (qS qn_9, 1, qL qn_9) qn_21 := by rw [e_qn_21]; exact (qFg_V (VQ.z V_qn_9.1 (Or.inr rfl)))
              refine lv_istore (lv' := [(4, .int (fgI f en (qS qn_9, 1, qL qn_9))), (3, .int 0), (2, .int (amI f en q 7)), (1, .int (qHe f en q)), (0, .ref (gA g 46))]) hx hb dX12_factor_176 hl (by decide) rfl (fun ls hl => ?_)
              refine lv_aload_n hx hb dX12_factor_178 rfl (lv_at hl 4 rfl) ?_
              refine lv_iload_n hx hb dX12_factor_179 rfl (lv_at hl 2 rfl) ?_
              refine lv_bipush (v := 8) hx hb dX12_factor_180 (by decide) ?_
              refine lv_iload_n hx hb dX12_factor_182 rfl (lv_at hl 1 rfl) ?_
              refine lv_imul hx hb dX12_factor_183 ?_
              refine lv_iadd hx hb dX12_factor_184 ?_
              refine lv_bipush (v := 32) hx hb dX12_factor_185 (by decide) ?_
              refine lv_iload hx hb dX12_factor_187 (lv_at hl 0 rfl) ?_
              refine lv_imul hx hb dX12_factor_189 ?_
              refine lv_iadd hx hb dX12_factor_190 ?_
              refine K_v (G_V (As := [.int (((amI f en q 7) + (8 * 0)) + (32 * (fgI f en (qS qn_9, 1, qL qn_9))))]) (rest := []) X hM (c_X12_emitsQ l g _ m0 m1 m2 4 m8 m9 m10 m11 a en f tu cl qn_21 (((amI f en q 7) + (8 * 0)) + (32 * (fgI f en (qS qn_9, 1, qL qn_9)))) (mup_r (X.2.ne (i := 46) (j := 47) (by decide) (by decide) (by decide)) (mup_s _ _ _)) (mup_s _ _ _) V_qn_21.1 hen ha hf (by have h9 := V_qn_21; have h8 := h9.1; have h7 := h8.1; have h6 := h8.2.1; omega)) lk_X12_88 (mup_r (X.2.ne (i := 46) (j := 47) (by decide) (by decide) (by decide)) (mup_s _ _ _)) rfl rfl hl.1 rfl (Nat.le_of_ble_eq_true rfl) (by decide) dX12_factor_191 ⟨Nat.le_of_ble_eq_true rfl, Nat.le_of_ble_eq_true rfl⟩) hM (fun M1 H locs hM hp => ?_)
              subst hp
              rw [mup_w _ _ _ (X.2.ne (i := 47) (j := 46) (by decide) (by decide) (by decide)), mup_i] at hM
              rw [mup_i] at hM
              have hM : MW g (mup (mup M (gA g 46) (mdE g m0 m1 m2 (nI a) (nI (qS (qEm qn_21 (((amI f en q 7) + (8 * 0)) + (32 * (fgI f en (qS qn_9, 1, qL qn_9))))))) (nI en) (qZ (qEm qn_21 (((amI f en q 7) + (8 * 0)) + (32 * (fgI f en (qS qn_9, 1, qL qn_9)))))) 4 m8 m9 m10 m11)) (gA g 47) (aI g 929 (cnt f a tu cl (qL (qEm qn_21 (((amI f en q 7) + (8 * 0)) + (32 * (fgI f en (qS qn_9, 1, qL qn_9))))))))) H locs := hM
              obtain ⟨qn_22, e_qn_22⟩ : ∃ z : Q9, z = qEm qn_21 (((amI f en q 7) + (8 * 0)) + (32 * (fgI f en (qS qn_9, 1, qL qn_9)))) := ⟨_, rfl⟩
              have hM : MW g (mup (mup M (gA g 46) (mdE g m0 m1 m2 (nI a) (nI (qS qn_22)) (nI en) (qZ qn_22) 4 m8 m9 m10 m11)) (gA g 47) (aI g 929 (cnt f a tu cl (qL qn_22)))) H locs := by rw [e_qn_22]; exact hM
              have e9 : qFac f en 1 q = qn_22 := by rw [qFac_s f en 0]; (first | rw [if_pos c_1] | rw [if_neg c_1] | skip); (first | rw [if_pos c_2] | rw [if_neg c_2] | skip); (first | rw [if_pos c_8] | rw [if_neg c_8] | skip); unfold qTs; (try rw [← e_qn_9]); (try rw [← e_qn_21]); (try rw [← e_qn_22]); (first | rw [if_pos c_10] | rw [if_neg c_10] | skip); unfold qT2; (try rw [← e_qn_9]); (try rw [← e_qn_21]); (try rw [← e_qn_22]); rw [e_qn_22, c_10]; first | done | rfl
              exact R_v X hr hk hM (by rw [e9] <;> rfl) dX12_factor_194
            · exact absurd c_20 (by decide)
      · skip
        refine lv_aload_n hx hb dX12_factor_25 rfl (lv_at hl 1 rfl) ?_
        refine lv_aload_n hx hb dX12_factor_26 rfl (lv_at hl 1 rfl) ?_
        refine r_get (T := TX12) (N := 20) (ci := 12) (v := .int 4) X hM iX12 rfl 10 (by decide) q_845 (Or.inl rfl) h46 rfl dX12_factor_27 ?_
        refine lv_iconst (v := 5) hx hb dX12_factor_30 (by decide) ?_
        refine lv_icmp_ne (tgt := 38) hx hb dX12_factor_31 (by decide) (fun c_23 => ?_) (fun c_23 => ?_)
        · skip
          refine lv_iconst (v := 0) hx hb dX12_factor_38 (by decide) ?_
          refine r_put (T := TX12) (N := 20) (ci := 12) X hM iX12 tyX12 tyX12_ok nmX12 rfl 9 (by decide) q_844 rfl (Or.inl rfl) h46 rfl rfl (Nat.le_of_ble_eq_true rfl) dX12_factor_39 (fun H locs hM => ?_)
          have hM : MW g (mup M (gA g 46) (mdE g m0 m1 m2 (nI a) (nI (qS q)) (nI en) 0 4 m8 m9 m10 m11)) H locs := hM
          refine lv_aload_n hx hb dX12_factor_42 rfl (lv_at hl 1 rfl) ?_
          refine lv_dup hx hb dX12_factor_43 rfl ?_
          refine r_get (T := TX12) (N := 20) (ci := 12) (v := .int 4) X hM iX12 rfl 10 (by decide) q_845 (Or.inl rfl) (mup_s _ _ _) rfl dX12_factor_44 ?_
          refine lv_iconst (v := 1) hx hb dX12_factor_47 (by decide) ?_
          refine lv_iadd hx hb dX12_factor_48 ?_
          rw [show (4 + 1 : Int32) = 5 from by decide]
          refine r_put (T := TX12) (N := 20) (ci := 12) X hM iX12 tyX12 tyX12_ok nmX12 rfl 10 (by decide) q_845 rfl (Or.inl rfl) (mup_s _ _ _) rfl rfl (Nat.le_of_ble_eq_true rfl) dX12_factor_49 (fun H locs hM => ?_)
          rw [mup_i] at hM
          have hM : MW g (mup M (gA g 46) (mdE g m0 m1 m2 (nI a) (nI (qS q)) (nI en) 0 5 m8 m9 m10 m11)) H locs := hM
          refine lv_aload_n hx hb dX12_factor_52 rfl (lv_at hl 1 rfl) ?_
          refine lv_dup hx hb dX12_factor_53 rfl ?_
          refine r_get (T := TX12) (N := 20) (ci := 12) (v := .int (nI (qS q))) X hM iX12 rfl 7 (by decide) q_842 (Or.inl rfl) (mup_s _ _ _) rfl dX12_factor_54 ?_
          refine lv_aload_n hx hb dX12_factor_57 rfl (lv_at hl 1 rfl) ?_
          refine r_get (T := TX12) (N := 20) (ci := 12) (v := .int 0) X hM iX12 rfl 9 (by decide) q_844 (Or.inl rfl) (mup_s _ _ _) rfl dX12_factor_58 ?_
          refine lv_if_eq (tgt := 68) hx hb dX12_factor_61 (by decide) (fun c_24 => ?_) (fun c_24 => ?_)
          · skip
            refine lv_iconst (v := 1) hx hb dX12_factor_68 (by decide) ?_
            refine lv_iadd hx hb dX12_factor_69 ?_
            rw [show (nI (qS q)) + (1 : Int32) = nI ((qS q) + 1) from nI_add (qS q) 1]
            refine r_put (T := TX12) (N := 20) (ci := 12) X hM iX12 tyX12 tyX12_ok nmX12 rfl 7 (by decide) q_842 rfl (Or.inl rfl) (mup_s _ _ _) rfl rfl (Nat.le_of_ble_eq_true rfl) dX12_factor_70 (fun H locs hM => ?_)
            rw [mup_i] at hM
            have hM : MW g (mup M (gA g 46) (mdE g m0 m1 m2 (nI a) (nI ((qS q) + 1)) (nI en) 0 5 m8 m9 m10 m11)) H locs := hM
            refine lv_iload_n hx hb dX12_factor_73 rfl (lv_at hl 0 rfl) ?_
            refine lv_bipush (v := 33) hx hb dX12_factor_74 (by decide) ?_
            refine lv_icmp_ne (tgt := 91) hx hb dX12_factor_76 (by decide) (fun c_25 => ?_) (fun c_25 => ?_)
            · skip
              refine lv_aload_n hx hb dX12_factor_91 rfl (lv_at hl 1 rfl) ?_
              refine K_v (G_V (As := []) (rest := []) X hM (c_X12_some_0 l g _ m0 m1 m2 m8 m9 m10 m11 a en f tu cl ((qS q) + 1, 0, qL q) (mup_s _ _ _) (mup_r (X.2.ne (i := 47) (j := 46) (by decide) (by decide) (by decide)) h47) ⟨(mHe_lt (c_8) (by decide)), Nat.le_trans hV.2.1 (Nat.le_succ _), Or.inl rfl⟩ hen ha hf) lk_X12_91 (mup_s _ _ _) rfl rfl hl.1 rfl (Nat.le_of_ble_eq_true rfl) (by decide) dX12_factor_92 ⟨Nat.le_of_ble_eq_true rfl, Nat.le_of_ble_eq_true rfl⟩) hM (fun M1 H locs hM hp => ?_)
              subst hp
              rw [mup_i] at hM
              have hM : MW g (mup (mup M (gA g 46) (mdE g m0 m1 m2 (nI a) (nI (qS (qSo f en (qFac f en 0) ((qS q) + 1, 0, qL q)))) (nI en) (qZ (qSo f en (qFac f en 0) ((qS q) + 1, 0, qL q))) 5 m8 m9 m10 m11)) (gA g 47) (aI g 929 (cnt f a tu cl (qL (qSo f en (qFac f en 0) ((qS q) + 1, 0, qL q)))))) H locs := hM
              obtain ⟨qn_26, e_qn_26⟩ : ∃ z : Q9, z = qSo f en (qFac f en 0) ((qS q) + 1, 0, qL q) := ⟨_, rfl⟩
              have hM : MW g (mup (mup M (gA g 46) (mdE g m0 m1 m2 (nI a) (nI (qS qn_26)) (nI en) (qZ qn_26) 5 m8 m9 m10 m11)) (gA g 47) (aI g 929 (cnt f a tu cl (qL qn_26)))) H locs := by rw [e_qn_26]; exact hM
              have V_qn_26 : VQ en qn_26 ∧ LQ ((qS q) + 1, 0, qL q) qn_26 := by rw [e_qn_26]; exact (qSo_good (qFac_good 0) _ ⟨(mHe_lt (c_8) (by decide)), Nat.le_trans hV.2.1 (Nat.le_succ _), Or.inl rfl⟩)
              refine lv_aload_n hx hb dX12_factor_95 rfl (lv_at hl 1 rfl) ?_
              refine lv_bipush (v := 41) hx hb dX12_factor_96 (by decide) ?_
              refine K_v (G_V (As := [.int 41]) (rest := []) X hM (c_X12_mustQ l g _ m0 m1 m2 5 m8 m9 m10 m11 a en f tu cl qn_26 41 (mup_r (X.2.ne (i := 46) (j := 47) (by decide) (by decide) (by decide)) (mup_s _ _ _)) (mup_s _ _ _) V_qn_26.1 hen ha hf) lk_X12_75 (mup_r (X.2.ne (i := 46) (j := 47) (by decide) (by decide) (by decide)) (mup_s _ _ _)) rfl rfl hl.1 rfl (Nat.le_of_ble_eq_true rfl) (by decide) dX12_factor_98 ⟨Nat.le_of_ble_eq_true rfl, Nat.le_of_ble_eq_true rfl⟩) hM (fun M1 H locs hM hp => ?_)
              subst hp
              rw [mup_w _ _ _ (X.2.ne (i := 47) (j := 46) (by decide) (by decide) (by decide)), mup_i] at hM
              rw [mup_i] at hM
              have hM : MW g (mup (mup M (gA g 46) (mdE g m0 m1 m2 (nI a) (nI (qS (qMu f en qn_26 41))) (nI en) (qZ (qMu f en qn_26 41)) 5 m8 m9 m10 m11)) (gA g 47) (aI g 929 (cnt f a tu cl (qL (qMu f en qn_26 41))))) H locs := hM
              obtain ⟨qn_27, e_qn_27⟩ : ∃ z : Q9, z = qMu f en qn_26 41 := ⟨_, rfl⟩
              have hM : MW g (mup (mup M (gA g 46) (mdE g m0 m1 m2 (nI a) (nI (qS qn_27)) (nI en) (qZ qn_27) 5 m8 m9 m10 m11)) (gA g 47) (aI g 929 (cnt f a tu cl (qL qn_27)))) H locs := by rw [e_qn_27]; exact hM
              have V_qn_27 : VQ en qn_27 ∧ LQ qn_26 qn_27 := by rw [e_qn_27]; exact (qMu_V (V_qn_26.1) (by decide))
              refine lv_aload_n hx hb dX12_factor_101 rfl (lv_at hl 1 rfl) ?_
              refine lv_dup hx hb dX12_factor_102 rfl ?_
              refine r_get (T := TX12) (N := 20) (ci := 12) (v := .int 5) X hM iX12 rfl 10 (by decide) q_845 (Or.inl rfl) (mup_r (X.2.ne (i := 46) (j := 47) (by decide) (by decide) (by decide)) (mup_s _ _ _)) rfl dX12_factor_103 ?_
              refine lv_iconst (v := 1) hx hb dX12_factor_106 (by decide) ?_
              refine lv_isub hx hb dX12_factor_107 ?_
              rw [show (5 - 1 : Int32) = 4 from by decide]
              refine r_put (T := TX12) (N := 20) (ci := 12) X hM iX12 tyX12 tyX12_ok nmX12 rfl 10 (by decide) q_845 rfl (Or.inl rfl) (mup_r (X.2.ne (i := 46) (j := 47) (by decide) (by decide) (by decide)) (mup_s _ _ _)) rfl rfl (Nat.le_of_ble_eq_true rfl) dX12_factor_108 (fun H locs hM => ?_)
              rw [mup_w _ _ _ (X.2.ne (i := 47) (j := 46) (by decide) (by decide) (by decide)), mup_i] at hM
              have hM : MW g (mup (mup M (gA g 46) (mdE g m0 m1 m2 (nI a) (nI (qS qn_27)) (nI en) (qZ qn_27) 4 m8 m9 m10 m11)) (gA g 47) (aI g 929 (cnt f a tu cl (qL qn_27)))) H locs := hM
              have e9 : qFac f en 1 q = qn_27 := by rw [qFac_s f en 0]; (first | rw [if_pos c_1] | rw [if_neg c_1] | skip); (first | rw [if_pos c_2] | rw [if_neg c_2] | skip); (first | rw [if_pos c_8] | rw [if_neg c_8] | skip); (first | rw [if_pos c_25] | rw [if_neg c_25] | skip); (try rw [← e_qn_26]); (try rw [← e_qn_27]); first | done | rfl | (rw [e_qn_27, e_qn_26]; rfl)
              exact R_v X hr hk hM (by rw [e9] <;> rfl) dX12_factor_111
            · skip
              exact absurd c_25 c_2
          · exact absurd c_24 (by decide)
        · exact absurd c_23 (by decide)
  · skip
    exact R_v X hr hk hM (by rw [show qFac f en 1 q = q from by rw [qFac_s f en 0]; (first | rw [if_pos c_1] | rw [if_neg c_1] | skip)]; rw [mup_id h46, mup_id h47]) dX12_factor_7
set_option maxHeartbeats 4000000 in
set_option maxRecDepth 100000 in
theorem c_X12_every_1 (l : Launch) (g : Gp) (M : Mem) (m0 m1 m2 m8 m9 m10 m11 : Int32) (a en : Nat) (f : Nat → Int32) (tu cl : Int32) (q : Q9) (h46 : M (gA g 46) = some (mdE g m0 m1 m2 (nI a) (nI (qS q)) (nI en) (qZ q) 4 m8 m9 m10 m11)) (h47 : M (gA g 47) = some (aI g 929 (cnt f a tu cl (qL q)))) (hV : VQ en q) (hen : en ≤ 100) (ha : a < 5) (hf : f (224 + a) = nI 0) : Met l yX12_every (wsM yX12_every cX12_every 1 none) (rmD 10 0 0) (Pre g M [.ref (gA g 46)]) (Qv g (fun M1 => mup (mup M (gA g 46) (mdE g m0 m1 m2 (nI a) (nI (qS (qEv f en (qFac f en 1) q))) (nI en) (qZ (qEv f en (qFac f en 1) q)) 4 m8 m9 m10 m11)) (gA g 47) (aI g 929 (cnt f a tu cl (qL (qEv f en (qFac f en 1) q)))) = M1)) 0 0 (gF g) := M_start (by decide +kernel) (Nat.le_of_ble_eq_true rfl) fun p e s m args below meth c ls X hr hk hnm hM hl => by
  have X : Cx g p m c cX12_every 1 s args RX12 := X
  have hx := X.1.1
  have hb := X.1.2.1
  have hl : lv_has ls 1 [(0, .ref (gA g 46))] := hl
  refine lv_aload_n hx hb dX12_every_0 rfl (lv_at hl 0 rfl) ?_
  refine K_v (G_V (As := []) (rest := []) X hM (c_X12_factor_1 l g _ m0 m1 m2 m8 m9 m10 m11 a en f tu cl q h46 h47 hV hen ha hf) lk_X12_85 h46 rfl rfl hl.1 rfl (Nat.le_of_ble_eq_true rfl) (by decide) dX12_every_1 ⟨Nat.le_of_ble_eq_true rfl, Nat.le_of_ble_eq_true rfl⟩) hM (fun M1 H locs hM hp => ?_)
  subst hp
  have hM : MW g (mup (mup M (gA g 46) (mdE g m0 m1 m2 (nI a) (nI (qS (qFac f en 1 q))) (nI en) (qZ (qFac f en 1 q)) 4 m8 m9 m10 m11)) (gA g 47) (aI g 929 (cnt f a tu cl (qL (qFac f en 1 q))))) H locs := hM
  obtain ⟨qn_1, e_qn_1⟩ : ∃ z : Q9, z = qFac f en 1 q := ⟨_, rfl⟩
  have hM : MW g (mup (mup M (gA g 46) (mdE g m0 m1 m2 (nI a) (nI (qS qn_1)) (nI en) (qZ qn_1) 4 m8 m9 m10 m11)) (gA g 47) (aI g 929 (cnt f a tu cl (qL qn_1)))) H locs := by rw [e_qn_1]; exact hM
  have V_qn_1 : VQ en qn_1 ∧ LQ q qn_1 := by rw [e_qn_1]; exact ((qFac_good 1) _ hV)
  have L4 : ∀ (fu : Nat) (i : Nat) (qb : Q9) (hVb : VQ en qb) (hfu : en ≤ qS qb + i) (kb : qLp f en 38 (-2) (qFac f en 1) i qb = qEv f en (qFac f en 1) q) (H : Heap) (locs : List Loc) (hM : MW g (mup (mup M (gA g 46) (mdE g m0 m1 m2 (nI a) (nI (qS qb)) (nI en) (qZ qb) 4 m8 m9 m10 m11)) (gA g 47) (aI g 929 (cnt f a tu cl (qL qb)))) H locs) (ls : Array Slot) (hl : lv_has ls 1 [(0, .ref (gA g 46))]), i < fu → W p l e (rmD 10 0 0) s m args below meth c H locs 0 0 (MQ below (Qv g (fun M1 => mup (mup M (gA g 46) (mdE g m0 m1 m2 (nI a) (nI (qS (qEv f en (qFac f en 1) q))) (nI en) (qZ (qEv f en (qFac f en 1) q)) 4 m8 m9 m10 m11)) (gA g 47) (aI g 929 (cnt f a tu cl (qL (qEv f en (qFac f en 1) q)))) = M1)) args s 0 0 (gF g)) (F0 m 4 ls []) := by
    intro fu
    induction fu with
    | zero => intro i qb hVb hfu kb H locs hM ls hl hmu; exact absurd hmu (Nat.not_lt_zero _)
    | succ fu ih =>
      intro i qb hVb hfu kb H locs hM ls hl hmu
      refine lv_aload_n hx hb dX12_every_4 rfl (lv_at hl 0 rfl) ?_
      refine r_get (T := TX12) (N := 20) (ci := 12) (v := .int (qZ qb)) X hM iX12 rfl 9 (by decide) q_844 (Or.inl rfl) (mup_r (X.2.ne (i := 46) (j := 47) (by decide) (by decide) (by decide)) (mup_s _ _ _)) rfl dX12_every_5 ?_
      refine lv_if_ne (tgt := 43) hx hb dX12_every_8 (by decide) (fun c_2 => ?_) (fun c_2 => ?_)
      · skip
        exact R_v X hr hk hM (by rw [← kb, qLp_z c_2]) dX12_every_43
      · skip
        refine lv_aload_n hx hb dX12_every_11 rfl (lv_at hl 0 rfl) ?_
        refine K_i (G_V (As := []) (rest := []) X hM (c_X12_hereQ l g _ m0 m1 m2 4 m8 m9 m10 m11 a en f tu cl qb (mup_r (X.2.ne (i := 46) (j := 47) (by decide) (by decide) (by decide)) (mup_s _ _ _)) (mup_s _ _ _) hVb hen ha hf) lk_X12_62 (mup_r (X.2.ne (i := 46) (j := 47) (by decide) (by decide) (by decide)) (mup_s _ _ _)) rfl rfl hl.1 rfl (Nat.le_of_ble_eq_true rfl) (by decide) dX12_every_12 ⟨Nat.le_of_ble_eq_true rfl, Nat.le_of_ble_eq_true rfl⟩) hM (fun r M1 H locs hM hp => ?_)
        obtain ⟨rfl, rfl⟩ := hp
        refine lv_bipush (v := 38) hx hb dX12_every_15 (by decide) ?_
        refine lv_icmp_ne (tgt := 43) hx hb dX12_every_17 (by decide) (fun c_3 => ?_) (fun c_3 => ?_)
        · skip
          exact R_v X hr hk hM (by rw [← kb, qLp_o c_3]) dX12_every_43
        · skip
          refine lv_aload_n hx hb dX12_every_20 rfl (lv_at hl 0 rfl) ?_
          refine lv_dup hx hb dX12_every_21 rfl ?_
          refine r_get (T := TX12) (N := 20) (ci := 12) (v := .int (nI (qS qb))) X hM iX12 rfl 7 (by decide) q_842 (Or.inl rfl) (mup_r (X.2.ne (i := 46) (j := 47) (by decide) (by decide) (by decide)) (mup_s _ _ _)) rfl dX12_every_22 ?_
          refine lv_iconst (v := 1) hx hb dX12_every_25 (by decide) ?_
          refine lv_iadd hx hb dX12_every_26 ?_
          rw [show (nI (qS qb)) + (1 : Int32) = nI ((qS qb) + 1) from nI_add (qS qb) 1]
          refine r_put (T := TX12) (N := 20) (ci := 12) X hM iX12 tyX12 tyX12_ok nmX12 rfl 7 (by decide) q_842 rfl (Or.inl rfl) (mup_r (X.2.ne (i := 46) (j := 47) (by decide) (by decide) (by decide)) (mup_s _ _ _)) rfl rfl (Nat.le_of_ble_eq_true rfl) dX12_every_27 (fun H locs hM => ?_)
          rw [mup_w _ _ _ (X.2.ne (i := 47) (j := 46) (by decide) (by decide) (by decide)), mup_i] at hM
          have hM : MW g (mup (mup M (gA g 46) (mdE g m0 m1 m2 (nI a) (nI ((qS qb) + 1)) (nI en) (qZ qb) 4 m8 m9 m10 m11)) (gA g 47) (aI g 929 (cnt f a tu cl (qL qb)))) H locs := hM
          refine lv_aload_n hx hb dX12_every_30 rfl (lv_at hl 0 rfl) ?_
          refine K_v (G_V (As := []) (rest := []) X hM (c_X12_factor_1 l g _ m0 m1 m2 m8 m9 m10 m11 a en f tu cl ((qS qb) + 1, qZ qb, qL qb) (mup_r (X.2.ne (i := 46) (j := 47) (by decide) (by decide) (by decide)) (mup_s _ _ _)) (mup_s _ _ _) ⟨(mHe_lt (c_3) (by decide)), Nat.le_trans hVb.2.1 (Nat.le_succ _), hVb.2.2⟩ hen ha hf) lk_X12_85 (mup_r (X.2.ne (i := 46) (j := 47) (by decide) (by decide) (by decide)) (mup_s _ _ _)) rfl rfl hl.1 rfl (Nat.le_of_ble_eq_true rfl) (by decide) dX12_every_31 ⟨Nat.le_of_ble_eq_true rfl, Nat.le_of_ble_eq_true rfl⟩) hM (fun M1 H locs hM hp => ?_)
          subst hp
          rw [mup_w _ _ _ (X.2.ne (i := 47) (j := 46) (by decide) (by decide) (by decide)), mup_i] at hM
          rw [mup_i] at hM
          have hM : MW g (mup (mup M (gA g 46) (mdE g m0 m1 m2 (nI a) (nI (qS (qFac f en 1 ((qS qb) + 1, qZ qb, qL qb)))) (nI en) (qZ (qFac f en 1 ((qS qb) + 1, qZ qb, qL qb))) 4 m8 m9 m10 m11)) (gA g 47) (aI g 929 (cnt f a tu cl (qL (qFac f en 1 ((qS qb) + 1, qZ qb, qL qb)))))) H locs := hM
          obtain ⟨qn_4, e_qn_4⟩ : ∃ z : Q9, z = qFac f en 1 ((qS qb) + 1, qZ qb, qL qb) := ⟨_, rfl⟩
          have hM : MW g (mup (mup M (gA g 46) (mdE g m0 m1 m2 (nI a) (nI (qS qn_4)) (nI en) (qZ qn_4) 4 m8 m9 m10 m11)) (gA g 47) (aI g 929 (cnt f a tu cl (qL qn_4)))) H locs := by rw [e_qn_4]; exact hM
          have V_qn_4 : VQ en qn_4 ∧ LQ ((qS qb) + 1, qZ qb, qL qb) qn_4 := by rw [e_qn_4]; exact ((qFac_good 1) _ ⟨(mHe_lt (c_3) (by decide)), Nat.le_trans hVb.2.1 (Nat.le_succ _), hVb.2.2⟩)
          refine lv_aload_n hx hb dX12_every_34 rfl (lv_at hl 0 rfl) ?_
          refine lv_bipush (v := -2) hx hb dX12_every_35 (by decide) ?_
          have hG := V_qn_4
          refine K_v (G_V (As := [.int (-2)]) (rest := []) X hM (c_X12_emitsQ l g _ m0 m1 m2 4 m8 m9 m10 m11 a en f tu cl qn_4 (-2) (mup_r (X.2.ne (i := 46) (j := 47) (by decide) (by decide) (by decide)) (mup_s _ _ _)) (mup_s _ _ _) hG.1 hen ha hf (by have h7 := hG.1.1; have h6 := hG.1.2.1; omega)) lk_X12_88 (mup_r (X.2.ne (i := 46) (j := 47) (by decide) (by decide) (by decide)) (mup_s _ _ _)) rfl rfl hl.1 rfl (Nat.le_of_ble_eq_true rfl) (by decide) dX12_every_37 ⟨Nat.le_of_ble_eq_true rfl, Nat.le_of_ble_eq_true rfl⟩) hM (fun M1 H locs hM hp => ?_)
          subst hp
          rw [mup_w _ _ _ (X.2.ne (i := 47) (j := 46) (by decide) (by decide) (by decide)), mup_i] at hM
          rw [mup_i] at hM
          have hM : MW g (mup (mup M (gA g 46) (mdE g m0 m1 m2 (nI a) (nI (qS (qEm qn_4 (-2)))) (nI en) (qZ (qEm qn_4 (-2))) 4 m8 m9 m10 m11)) (gA g 47) (aI g 929 (cnt f a tu cl (qL (qEm qn_4 (-2)))))) H locs := hM
          obtain ⟨qn_5, e_qn_5⟩ : ∃ z : Q9, z = qEm qn_4 (-2) := ⟨_, rfl⟩
          have hM : MW g (mup (mup M (gA g 46) (mdE g m0 m1 m2 (nI a) (nI (qS qn_5)) (nI en) (qZ qn_5) 4 m8 m9 m10 m11)) (gA g 47) (aI g 929 (cnt f a tu cl (qL qn_5)))) H locs := by rw [e_qn_5]; exact hM
          refine lv_goto (tgt := 4) hx hb dX12_every_40 (by decide) ?_
          have hi0 : 0 < i := by have := mHe_lt (x := 38) c_3 (by decide); omega
          have h8 : qS qb + 1 ≤ qS qn_4 := hG.2.1
          have h7 : (qL qn_4).length + (qS qb + 1) ≤ (qL qb).length + qS qn_4 := hG.2.2
          have h6 : qS qn_5 = qS qn_4 := by rw [e_qn_5]; rfl
          have V9 : VQ en qn_5 ∧ LQ qb qn_5 := by rw [e_qn_5]; exact qEm_V hVb hG.1 (by omega) h7
          exact ih (i - 1) qn_5 V9.1 (by omega) (by rw [← kb, qLp_i c_2 c_3 hi0]; (try rw [← e_qn_1]); (try rw [← e_qn_4]); (try rw [← e_qn_5]); first | done | rfl) _ _ hM _ (lv_sub hl [0] rfl) (by omega)
  exact L4 (101 + 1) 101 qn_1 V_qn_1.1 (by omega) (by unfold qEv; (try rw [← e_qn_1]); first | done | rfl) _ _ hM _ (lv_sub hl [0] rfl) (by first | exact Nat.lt_succ_self _ | omega)
set_option maxHeartbeats 4000000 in
set_option maxRecDepth 100000 in
theorem c_X12_some_1 (l : Launch) (g : Gp) (M : Mem) (m0 m1 m2 m8 m9 m10 m11 : Int32) (a en : Nat) (f : Nat → Int32) (tu cl : Int32) (q : Q9) (h46 : M (gA g 46) = some (mdE g m0 m1 m2 (nI a) (nI (qS q)) (nI en) (qZ q) 4 m8 m9 m10 m11)) (h47 : M (gA g 47) = some (aI g 929 (cnt f a tu cl (qL q)))) (hV : VQ en q) (hen : en ≤ 100) (ha : a < 5) (hf : f (224 + a) = nI 0) : Met l yX12_some (wsM yX12_some cX12_some 1 none) (rmD 11 0 0) (Pre g M [.ref (gA g 46)]) (Qv g (fun M1 => mup (mup M (gA g 46) (mdE g m0 m1 m2 (nI a) (nI (qS (qSo f en (qFac f en 1) q))) (nI en) (qZ (qSo f en (qFac f en 1) q)) 4 m8 m9 m10 m11)) (gA g 47) (aI g 929 (cnt f a tu cl (qL (qSo f en (qFac f en 1) q)))) = M1)) 0 0 (gF g) := M_start (by decide +kernel) (Nat.le_of_ble_eq_true rfl) fun p e s m args below meth c ls X hr hk hnm hM hl => by
  have X : Cx g p m c cX12_some 1 s args RX12 := X
  have hx := X.1.1
  have hb := X.1.2.1
  have hl : lv_has ls 1 [(0, .ref (gA g 46))] := hl
  refine lv_aload_n hx hb dX12_some_0 rfl (lv_at hl 0 rfl) ?_
  refine K_v (G_V (As := []) (rest := []) X hM (c_X12_every_1 l g _ m0 m1 m2 m8 m9 m10 m11 a en f tu cl q h46 h47 hV hen ha hf) lk_X12_105 h46 rfl rfl hl.1 rfl (Nat.le_of_ble_eq_true rfl) (by decide) dX12_some_1 ⟨Nat.le_of_ble_eq_true rfl, Nat.le_of_ble_eq_true rfl⟩) hM (fun M1 H locs hM hp => ?_)
  subst hp
  have hM : MW g (mup (mup M (gA g 46) (mdE g m0 m1 m2 (nI a) (nI (qS (qEv f en (qFac f en 1) q))) (nI en) (qZ (qEv f en (qFac f en 1) q)) 4 m8 m9 m10 m11)) (gA g 47) (aI g 929 (cnt f a tu cl (qL (qEv f en (qFac f en 1) q))))) H locs := hM
  obtain ⟨qn_1, e_qn_1⟩ : ∃ z : Q9, z = qEv f en (qFac f en 1) q := ⟨_, rfl⟩
  have hM : MW g (mup (mup M (gA g 46) (mdE g m0 m1 m2 (nI a) (nI (qS qn_1)) (nI en) (qZ qn_1) 4 m8 m9 m10 m11)) (gA g 47) (aI g 929 (cnt f a tu cl (qL qn_1)))) H locs := by rw [e_qn_1]; exact hM
  have V_qn_1 : VQ en qn_1 ∧ LQ q qn_1 := by rw [e_qn_1]; exact ((qEv_good (qFac_good 1)) _ hV)
  have L4 : ∀ (fu : Nat) (i : Nat) (qb : Q9) (hVb : VQ en qb) (hfu : en ≤ qS qb + i) (kb : qLp f en 124 (-3) (qEv f en (qFac f en 1)) i qb = qSo f en (qFac f en 1) q) (H : Heap) (locs : List Loc) (hM : MW g (mup (mup M (gA g 46) (mdE g m0 m1 m2 (nI a) (nI (qS qb)) (nI en) (qZ qb) 4 m8 m9 m10 m11)) (gA g 47) (aI g 929 (cnt f a tu cl (qL qb)))) H locs) (ls : Array Slot) (hl : lv_has ls 1 [(0, .ref (gA g 46))]), i < fu → W p l e (rmD 11 0 0) s m args below meth c H locs 0 0 (MQ below (Qv g (fun M1 => mup (mup M (gA g 46) (mdE g m0 m1 m2 (nI a) (nI (qS (qSo f en (qFac f en 1) q))) (nI en) (qZ (qSo f en (qFac f en 1) q)) 4 m8 m9 m10 m11)) (gA g 47) (aI g 929 (cnt f a tu cl (qL (qSo f en (qFac f en 1) q)))) = M1)) args s 0 0 (gF g)) (F0 m 4 ls []) := by
    intro fu
    induction fu with
    | zero => intro i qb hVb hfu kb H locs hM ls hl hmu; exact absurd hmu (Nat.not_lt_zero _)
    | succ fu ih =>
      intro i qb hVb hfu kb H locs hM ls hl hmu
      refine lv_aload_n hx hb dX12_some_4 rfl (lv_at hl 0 rfl) ?_
      refine r_get (T := TX12) (N := 20) (ci := 12) (v := .int (qZ qb)) X hM iX12 rfl 9 (by decide) q_844 (Or.inl rfl) (mup_r (X.2.ne (i := 46) (j := 47) (by decide) (by decide) (by decide)) (mup_s _ _ _)) rfl dX12_some_5 ?_
      refine lv_if_ne (tgt := 43) hx hb dX12_some_8 (by decide) (fun c_2 => ?_) (fun c_2 => ?_)
      · skip
        exact R_v X hr hk hM (by rw [← kb, qLp_z c_2]) dX12_some_43
      · skip
        refine lv_aload_n hx hb dX12_some_11 rfl (lv_at hl 0 rfl) ?_
        refine K_i (G_V (As := []) (rest := []) X hM (c_X12_hereQ l g _ m0 m1 m2 4 m8 m9 m10 m11 a en f tu cl qb (mup_r (X.2.ne (i := 46) (j := 47) (by decide) (by decide) (by decide)) (mup_s _ _ _)) (mup_s _ _ _) hVb hen ha hf) lk_X12_62 (mup_r (X.2.ne (i := 46) (j := 47) (by decide) (by decide) (by decide)) (mup_s _ _ _)) rfl rfl hl.1 rfl (Nat.le_of_ble_eq_true rfl) (by decide) dX12_some_12 ⟨Nat.le_of_ble_eq_true rfl, Nat.le_of_ble_eq_true rfl⟩) hM (fun r M1 H locs hM hp => ?_)
        obtain ⟨rfl, rfl⟩ := hp
        refine lv_bipush (v := 124) hx hb dX12_some_15 (by decide) ?_
        refine lv_icmp_ne (tgt := 43) hx hb dX12_some_17 (by decide) (fun c_3 => ?_) (fun c_3 => ?_)
        · skip
          exact R_v X hr hk hM (by rw [← kb, qLp_o c_3]) dX12_some_43
        · skip
          refine lv_aload_n hx hb dX12_some_20 rfl (lv_at hl 0 rfl) ?_
          refine lv_dup hx hb dX12_some_21 rfl ?_
          refine r_get (T := TX12) (N := 20) (ci := 12) (v := .int (nI (qS qb))) X hM iX12 rfl 7 (by decide) q_842 (Or.inl rfl) (mup_r (X.2.ne (i := 46) (j := 47) (by decide) (by decide) (by decide)) (mup_s _ _ _)) rfl dX12_some_22 ?_
          refine lv_iconst (v := 1) hx hb dX12_some_25 (by decide) ?_
          refine lv_iadd hx hb dX12_some_26 ?_
          rw [show (nI (qS qb)) + (1 : Int32) = nI ((qS qb) + 1) from nI_add (qS qb) 1]
          refine r_put (T := TX12) (N := 20) (ci := 12) X hM iX12 tyX12 tyX12_ok nmX12 rfl 7 (by decide) q_842 rfl (Or.inl rfl) (mup_r (X.2.ne (i := 46) (j := 47) (by decide) (by decide) (by decide)) (mup_s _ _ _)) rfl rfl (Nat.le_of_ble_eq_true rfl) dX12_some_27 (fun H locs hM => ?_)
          rw [mup_w _ _ _ (X.2.ne (i := 47) (j := 46) (by decide) (by decide) (by decide)), mup_i] at hM
          have hM : MW g (mup (mup M (gA g 46) (mdE g m0 m1 m2 (nI a) (nI ((qS qb) + 1)) (nI en) (qZ qb) 4 m8 m9 m10 m11)) (gA g 47) (aI g 929 (cnt f a tu cl (qL qb)))) H locs := hM
          refine lv_aload_n hx hb dX12_some_30 rfl (lv_at hl 0 rfl) ?_
          refine K_v (G_V (As := []) (rest := []) X hM (c_X12_every_1 l g _ m0 m1 m2 m8 m9 m10 m11 a en f tu cl ((qS qb) + 1, qZ qb, qL qb) (mup_r (X.2.ne (i := 46) (j := 47) (by decide) (by decide) (by decide)) (mup_s _ _ _)) (mup_s _ _ _) ⟨(mHe_lt (c_3) (by decide)), Nat.le_trans hVb.2.1 (Nat.le_succ _), hVb.2.2⟩ hen ha hf) lk_X12_105 (mup_r (X.2.ne (i := 46) (j := 47) (by decide) (by decide) (by decide)) (mup_s _ _ _)) rfl rfl hl.1 rfl (Nat.le_of_ble_eq_true rfl) (by decide) dX12_some_31 ⟨Nat.le_of_ble_eq_true rfl, Nat.le_of_ble_eq_true rfl⟩) hM (fun M1 H locs hM hp => ?_)
          subst hp
          rw [mup_w _ _ _ (X.2.ne (i := 47) (j := 46) (by decide) (by decide) (by decide)), mup_i] at hM
          rw [mup_i] at hM
          have hM : MW g (mup (mup M (gA g 46) (mdE g m0 m1 m2 (nI a) (nI (qS (qEv f en (qFac f en 1) ((qS qb) + 1, qZ qb, qL qb)))) (nI en) (qZ (qEv f en (qFac f en 1) ((qS qb) + 1, qZ qb, qL qb))) 4 m8 m9 m10 m11)) (gA g 47) (aI g 929 (cnt f a tu cl (qL (qEv f en (qFac f en 1) ((qS qb) + 1, qZ qb, qL qb)))))) H locs := hM
          obtain ⟨qn_4, e_qn_4⟩ : ∃ z : Q9, z = qEv f en (qFac f en 1) ((qS qb) + 1, qZ qb, qL qb) := ⟨_, rfl⟩
          have hM : MW g (mup (mup M (gA g 46) (mdE g m0 m1 m2 (nI a) (nI (qS qn_4)) (nI en) (qZ qn_4) 4 m8 m9 m10 m11)) (gA g 47) (aI g 929 (cnt f a tu cl (qL qn_4)))) H locs := by rw [e_qn_4]; exact hM
          have V_qn_4 : VQ en qn_4 ∧ LQ ((qS qb) + 1, qZ qb, qL qb) qn_4 := by rw [e_qn_4]; exact ((qEv_good (qFac_good 1)) _ ⟨(mHe_lt (c_3) (by decide)), Nat.le_trans hVb.2.1 (Nat.le_succ _), hVb.2.2⟩)
          refine lv_aload_n hx hb dX12_some_34 rfl (lv_at hl 0 rfl) ?_
          refine lv_bipush (v := -3) hx hb dX12_some_35 (by decide) ?_
          have hG := V_qn_4
          refine K_v (G_V (As := [.int (-3)]) (rest := []) X hM (c_X12_emitsQ l g _ m0 m1 m2 4 m8 m9 m10 m11 a en f tu cl qn_4 (-3) (mup_r (X.2.ne (i := 46) (j := 47) (by decide) (by decide) (by decide)) (mup_s _ _ _)) (mup_s _ _ _) hG.1 hen ha hf (by have h7 := hG.1.1; have h6 := hG.1.2.1; omega)) lk_X12_88 (mup_r (X.2.ne (i := 46) (j := 47) (by decide) (by decide) (by decide)) (mup_s _ _ _)) rfl rfl hl.1 rfl (Nat.le_of_ble_eq_true rfl) (by decide) dX12_some_37 ⟨Nat.le_of_ble_eq_true rfl, Nat.le_of_ble_eq_true rfl⟩) hM (fun M1 H locs hM hp => ?_)
          subst hp
          rw [mup_w _ _ _ (X.2.ne (i := 47) (j := 46) (by decide) (by decide) (by decide)), mup_i] at hM
          rw [mup_i] at hM
          have hM : MW g (mup (mup M (gA g 46) (mdE g m0 m1 m2 (nI a) (nI (qS (qEm qn_4 (-3)))) (nI en) (qZ (qEm qn_4 (-3))) 4 m8 m9 m10 m11)) (gA g 47) (aI g 929 (cnt f a tu cl (qL (qEm qn_4 (-3)))))) H locs := hM
          obtain ⟨qn_5, e_qn_5⟩ : ∃ z : Q9, z = qEm qn_4 (-3) := ⟨_, rfl⟩
          have hM : MW g (mup (mup M (gA g 46) (mdE g m0 m1 m2 (nI a) (nI (qS qn_5)) (nI en) (qZ qn_5) 4 m8 m9 m10 m11)) (gA g 47) (aI g 929 (cnt f a tu cl (qL qn_5)))) H locs := by rw [e_qn_5]; exact hM
          refine lv_goto (tgt := 4) hx hb dX12_some_40 (by decide) ?_
          have hi0 : 0 < i := by have := mHe_lt (x := 124) c_3 (by decide); omega
          have h8 : qS qb + 1 ≤ qS qn_4 := hG.2.1
          have h7 : (qL qn_4).length + (qS qb + 1) ≤ (qL qb).length + qS qn_4 := hG.2.2
          have h6 : qS qn_5 = qS qn_4 := by rw [e_qn_5]; rfl
          have V9 : VQ en qn_5 ∧ LQ qb qn_5 := by rw [e_qn_5]; exact qEm_V hVb hG.1 (by omega) h7
          exact ih (i - 1) qn_5 V9.1 (by omega) (by rw [← kb, qLp_i c_2 c_3 hi0]; (try rw [← e_qn_1]); (try rw [← e_qn_4]); (try rw [← e_qn_5]); first | done | rfl) _ _ hM _ (lv_sub hl [0] rfl) (by omega)
  exact L4 (101 + 1) 101 qn_1 V_qn_1.1 (by omega) (by unfold qSo; (try rw [← e_qn_1]); first | done | rfl) _ _ hM _ (lv_sub hl [0] rfl) (by first | exact Nat.lt_succ_self _ | omega)
set_option maxHeartbeats 4000000 in
set_option maxRecDepth 100000 in
theorem c_X12_factor_2 (l : Launch) (g : Gp) (M : Mem) (m0 m1 m2 m8 m9 m10 m11 : Int32) (a en : Nat) (f : Nat → Int32) (tu cl : Int32) (q : Q9) (h46 : M (gA g 46) = some (mdE g m0 m1 m2 (nI a) (nI (qS q)) (nI en) (qZ q) 3 m8 m9 m10 m11)) (h47 : M (gA g 47) = some (aI g 929 (cnt f a tu cl (qL q)))) (hV : VQ en q) (hen : en ≤ 100) (ha : a < 5) (hf : f (224 + a) = nI 0) : Met l yX12_factor (wsM yX12_factor cX12_factor 5 none) (rmD 12 0 0) (Pre g M [.ref (gA g 46)]) (Qv g (fun M1 => mup (mup M (gA g 46) (mdE g m0 m1 m2 (nI a) (nI (qS (qFac f en 2 q))) (nI en) (qZ (qFac f en 2 q)) 3 m8 m9 m10 m11)) (gA g 47) (aI g 929 (cnt f a tu cl (qL (qFac f en 2 q)))) = M1)) 0 0 (gF g) := M_start (by decide +kernel) (Nat.le_of_ble_eq_true rfl) fun p e s m args below meth c ls X hr hk hnm hM hl => by
  have X : Cx g p m c cX12_factor 5 s args RX12 := X
  have hx := X.1.1
  have hb := X.1.2.1
  have hl : lv_has ls 5 [(0, .ref (gA g 46))] := hl
  refine lv_aload_n hx hb dX12_factor_0 rfl (lv_at hl 0 rfl) ?_
  refine r_get (T := TX12) (N := 20) (ci := 12) (v := .int (qZ q)) X hM iX12 rfl 9 (by decide) q_844 (Or.inl rfl) h46 rfl dX12_factor_1 ?_
  refine lv_if_eq (tgt := 8) hx hb dX12_factor_4 (by decide) (fun c_1 => ?_) (fun c_1 => ?_)
  · skip
    refine lv_aload_n hx hb dX12_factor_8 rfl (lv_at hl 0 rfl) ?_
    refine K_i (G_V (As := []) (rest := []) X hM (c_X12_hereQ l g _ m0 m1 m2 3 m8 m9 m10 m11 a en f tu cl q h46 h47 hV hen ha hf) lk_X12_62 h46 rfl rfl hl.1 rfl (Nat.le_of_ble_eq_true rfl) (by decide) dX12_factor_9 ⟨Nat.le_of_ble_eq_true rfl, Nat.le_of_ble_eq_true rfl⟩) hM (fun r M1 H locs hM hp => ?_)
    obtain ⟨rfl, rfl⟩ := hp
    refine lv_istore_n (lv' := [(1, .int (qHe f en q)), (0, .ref (gA g 46))]) hx hb dX12_factor_12 rfl hl (by decide) rfl (fun ls hl => ?_)
    refine lv_iload_n hx hb dX12_factor_13 rfl (lv_at hl 0 rfl) ?_
    refine lv_bipush (v := 33) hx hb dX12_factor_14 (by decide) ?_
    refine lv_icmp_eq (tgt := 25) hx hb dX12_factor_16 (by decide) (fun c_2 => ?_) (fun c_2 => ?_)
    · skip
      refine lv_aload_n hx hb dX12_factor_25 rfl (lv_at hl 1 rfl) ?_
      refine lv_aload_n hx hb dX12_factor_26 rfl (lv_at hl 1 rfl) ?_
      refine r_get (T := TX12) (N := 20) (ci := 12) (v := .int 3) X hM iX12 rfl 10 (by decide) q_845 (Or.inl rfl) h46 rfl dX12_factor_27 ?_
      refine lv_iconst (v := 5) hx hb dX12_factor_30 (by decide) ?_
      refine lv_icmp_ne (tgt := 38) hx hb dX12_factor_31 (by decide) (fun c_3 => ?_) (fun c_3 => ?_)
      · skip
        refine lv_iconst (v := 0) hx hb dX12_factor_38 (by decide) ?_
        refine r_put (T := TX12) (N := 20) (ci := 12) X hM iX12 tyX12 tyX12_ok nmX12 rfl 9 (by decide) q_844 rfl (Or.inl rfl) h46 rfl rfl (Nat.le_of_ble_eq_true rfl) dX12_factor_39 (fun H locs hM => ?_)
        have hM : MW g (mup M (gA g 46) (mdE g m0 m1 m2 (nI a) (nI (qS q)) (nI en) 0 3 m8 m9 m10 m11)) H locs := hM
        refine lv_aload_n hx hb dX12_factor_42 rfl (lv_at hl 1 rfl) ?_
        refine lv_dup hx hb dX12_factor_43 rfl ?_
        refine r_get (T := TX12) (N := 20) (ci := 12) (v := .int 3) X hM iX12 rfl 10 (by decide) q_845 (Or.inl rfl) (mup_s _ _ _) rfl dX12_factor_44 ?_
        refine lv_iconst (v := 1) hx hb dX12_factor_47 (by decide) ?_
        refine lv_iadd hx hb dX12_factor_48 ?_
        rw [show (3 + 1 : Int32) = 4 from by decide]
        refine r_put (T := TX12) (N := 20) (ci := 12) X hM iX12 tyX12 tyX12_ok nmX12 rfl 10 (by decide) q_845 rfl (Or.inl rfl) (mup_s _ _ _) rfl rfl (Nat.le_of_ble_eq_true rfl) dX12_factor_49 (fun H locs hM => ?_)
        rw [mup_i] at hM
        have hM : MW g (mup M (gA g 46) (mdE g m0 m1 m2 (nI a) (nI (qS q)) (nI en) 0 4 m8 m9 m10 m11)) H locs := hM
        refine lv_aload_n hx hb dX12_factor_52 rfl (lv_at hl 1 rfl) ?_
        refine lv_dup hx hb dX12_factor_53 rfl ?_
        refine r_get (T := TX12) (N := 20) (ci := 12) (v := .int (nI (qS q))) X hM iX12 rfl 7 (by decide) q_842 (Or.inl rfl) (mup_s _ _ _) rfl dX12_factor_54 ?_
        refine lv_aload_n hx hb dX12_factor_57 rfl (lv_at hl 1 rfl) ?_
        refine r_get (T := TX12) (N := 20) (ci := 12) (v := .int 0) X hM iX12 rfl 9 (by decide) q_844 (Or.inl rfl) (mup_s _ _ _) rfl dX12_factor_58 ?_
        refine lv_if_eq (tgt := 68) hx hb dX12_factor_61 (by decide) (fun c_4 => ?_) (fun c_4 => ?_)
        · skip
          refine lv_iconst (v := 1) hx hb dX12_factor_68 (by decide) ?_
          refine lv_iadd hx hb dX12_factor_69 ?_
          rw [show (nI (qS q)) + (1 : Int32) = nI ((qS q) + 1) from nI_add (qS q) 1]
          refine r_put (T := TX12) (N := 20) (ci := 12) X hM iX12 tyX12 tyX12_ok nmX12 rfl 7 (by decide) q_842 rfl (Or.inl rfl) (mup_s _ _ _) rfl rfl (Nat.le_of_ble_eq_true rfl) dX12_factor_70 (fun H locs hM => ?_)
          rw [mup_i] at hM
          have hM : MW g (mup M (gA g 46) (mdE g m0 m1 m2 (nI a) (nI ((qS q) + 1)) (nI en) 0 4 m8 m9 m10 m11)) H locs := hM
          refine lv_iload_n hx hb dX12_factor_73 rfl (lv_at hl 0 rfl) ?_
          refine lv_bipush (v := 33) hx hb dX12_factor_74 (by decide) ?_
          refine lv_icmp_ne (tgt := 91) hx hb dX12_factor_76 (by decide) (fun c_5 => ?_) (fun c_5 => ?_)
          · skip
            exact absurd c_2 c_5
          · skip
            refine lv_aload_n hx hb dX12_factor_79 rfl (lv_at hl 1 rfl) ?_
            refine K_v (G_V (As := []) (rest := []) X hM (c_X12_factor_1 l g _ m0 m1 m2 m8 m9 m10 m11 a en f tu cl ((qS q) + 1, 0, qL q) (mup_s _ _ _) (mup_r (X.2.ne (i := 47) (j := 46) (by decide) (by decide) (by decide)) h47) ⟨(mHe_lt (c_2) (by decide)), Nat.le_trans hV.2.1 (Nat.le_succ _), Or.inl rfl⟩ hen ha hf) lk_X12_85 (mup_s _ _ _) rfl rfl hl.1 rfl (Nat.le_of_ble_eq_true rfl) (by decide) dX12_factor_80 ⟨Nat.le_of_ble_eq_true rfl, Nat.le_of_ble_eq_true rfl⟩) hM (fun M1 H locs hM hp => ?_)
            subst hp
            rw [mup_i] at hM
            have hM : MW g (mup (mup M (gA g 46) (mdE g m0 m1 m2 (nI a) (nI (qS (qFac f en 1 ((qS q) + 1, 0, qL q)))) (nI en) (qZ (qFac f en 1 ((qS q) + 1, 0, qL q))) 4 m8 m9 m10 m11)) (gA g 47) (aI g 929 (cnt f a tu cl (qL (qFac f en 1 ((qS q) + 1, 0, qL q)))))) H locs := hM
            obtain ⟨qn_6, e_qn_6⟩ : ∃ z : Q9, z = qFac f en 1 ((qS q) + 1, 0, qL q) := ⟨_, rfl⟩
            have hM : MW g (mup (mup M (gA g 46) (mdE g m0 m1 m2 (nI a) (nI (qS qn_6)) (nI en) (qZ qn_6) 4 m8 m9 m10 m11)) (gA g 47) (aI g 929 (cnt f a tu cl (qL qn_6)))) H locs := by rw [e_qn_6]; exact hM
            have V_qn_6 : VQ en qn_6 ∧ LQ ((qS q) + 1, 0, qL q) qn_6 := by rw [e_qn_6]; exact (qFac_good 1 _ ⟨(mHe_lt (c_2) (by decide)), Nat.le_trans hV.2.1 (Nat.le_succ _), Or.inl rfl⟩)
            refine lv_aload_n hx hb dX12_factor_83 rfl (lv_at hl 1 rfl) ?_
            refine lv_iconst (v := -1) hx hb dX12_factor_84 (by decide) ?_
            refine K_v (G_V (As := [.int (-1)]) (rest := []) X hM (c_X12_emitsQ l g _ m0 m1 m2 4 m8 m9 m10 m11 a en f tu cl qn_6 (-1) (mup_r (X.2.ne (i := 46) (j := 47) (by decide) (by decide) (by decide)) (mup_s _ _ _)) (mup_s _ _ _) V_qn_6.1 hen ha hf (by have h9 := V_qn_6; have h8 := h9.1; have h7 := h8.1; have h6 := h8.2.1; omega)) lk_X12_88 (mup_r (X.2.ne (i := 46) (j := 47) (by decide) (by decide) (by decide)) (mup_s _ _ _)) rfl rfl hl.1 rfl (Nat.le_of_ble_eq_true rfl) (by decide) dX12_factor_85 ⟨Nat.le_of_ble_eq_true rfl, Nat.le_of_ble_eq_true rfl⟩) hM (fun M1 H locs hM hp => ?_)
            subst hp
            rw [mup_w _ _ _ (X.2.ne (i := 47) (j := 46) (by decide) (by decide) (by decide)), mup_i] at hM
            rw [mup_i] at hM
            have hM : MW g (mup (mup M (gA g 46) (mdE g m0 m1 m2 (nI a) (nI (qS (qEm qn_6 (-1)))) (nI en) (qZ (qEm qn_6 (-1))) 4 m8 m9 m10 m11)) (gA g 47) (aI g 929 (cnt f a tu cl (qL (qEm qn_6 (-1)))))) H locs := hM
            obtain ⟨qn_7, e_qn_7⟩ : ∃ z : Q9, z = qEm qn_6 (-1) := ⟨_, rfl⟩
            have hM : MW g (mup (mup M (gA g 46) (mdE g m0 m1 m2 (nI a) (nI (qS qn_7)) (nI en) (qZ qn_7) 4 m8 m9 m10 m11)) (gA g 47) (aI g 929 (cnt f a tu cl (qL qn_7)))) H locs := by rw [e_qn_7]; exact hM
            refine lv_goto (tgt := 101) hx hb dX12_factor_88 (by decide) ?_
            refine lv_aload_n hx hb dX12_factor_101 rfl (lv_at hl 1 rfl) ?_
            refine lv_dup hx hb dX12_factor_102 rfl ?_
            refine r_get (T := TX12) (N := 20) (ci := 12) (v := .int 4) X hM iX12 rfl 10 (by decide) q_845 (Or.inl rfl) (mup_r (X.2.ne (i := 46) (j := 47) (by decide) (by decide) (by decide)) (mup_s _ _ _)) rfl dX12_factor_103 ?_
            refine lv_iconst (v := 1) hx hb dX12_factor_106 (by decide) ?_
            refine lv_isub hx hb dX12_factor_107 ?_
            rw [show (4 - 1 : Int32) = 3 from by decide]
            refine r_put (T := TX12) (N := 20) (ci := 12) X hM iX12 tyX12 tyX12_ok nmX12 rfl 10 (by decide) q_845 rfl (Or.inl rfl) (mup_r (X.2.ne (i := 46) (j := 47) (by decide) (by decide) (by decide)) (mup_s _ _ _)) rfl rfl (Nat.le_of_ble_eq_true rfl) dX12_factor_108 (fun H locs hM => ?_)
            rw [mup_w _ _ _ (X.2.ne (i := 47) (j := 46) (by decide) (by decide) (by decide)), mup_i] at hM
            have hM : MW g (mup (mup M (gA g 46) (mdE g m0 m1 m2 (nI a) (nI (qS qn_7)) (nI en) (qZ qn_7) 3 m8 m9 m10 m11)) (gA g 47) (aI g 929 (cnt f a tu cl (qL qn_7)))) H locs := hM
            have e9 : qFac f en 2 q = qn_7 := by rw [qFac_s f en 1]; (first | rw [if_pos c_1] | rw [if_neg c_1] | skip); (first | rw [if_pos c_2] | rw [if_neg c_2] | skip); (first | rw [if_pos c_5] | rw [if_neg c_5] | skip); (try rw [← e_qn_6]); (try rw [← e_qn_7]); first | done | rfl | (rw [e_qn_7, e_qn_6]; rfl)
            exact R_v X hr hk hM (by rw [e9] <;> rfl) dX12_factor_111
        · exact absurd c_4 (by decide)
      · exact absurd c_3 (by decide)
    · skip
      refine lv_iload_n hx hb dX12_factor_19 rfl (lv_at hl 0 rfl) ?_
      refine lv_bipush (v := 40) hx hb dX12_factor_20 (by decide) ?_
      refine lv_icmp_ne (tgt := 112) hx hb dX12_factor_22 (by decide) (fun c_8 => ?_) (fun c_8 => ?_)
      · skip
        refine lv_aload_n hx hb dX12_factor_112 rfl (lv_at hl 1 rfl) ?_
        refine va_ldcS hx hb X.1.2.2.2.1 (X.2.2.2.2.2.2.1 7 _ rfl) dX12_factor_113 ?_
        refine K_i (G_V (As := [.ref (gK g 7)]) (rest := []) X hM (c_X12_amongQ l g _ m0 m1 m2 3 m8 m9 m10 m11 a en f tu cl q 7 h46 h47 hV hen ha hf (by decide)) lk_X12_96 h46 rfl rfl hl.1 rfl (Nat.le_of_ble_eq_true rfl) (by decide) dX12_factor_115 ⟨Nat.le_of_ble_eq_true rfl, Nat.le_of_ble_eq_true rfl⟩) hM (fun r M1 H locs hM hp => ?_)
        obtain ⟨rfl, rfl⟩ := hp
        have hM : MW g (mup (mup M (gA g 46) (mdE g m0 m1 m2 (nI a) (nI (qS (qAm f en q 7))) (nI en) (qZ (qAm f en q 7)) 3 m8 m9 m10 m11)) (gA g 47) (aI g 929 (cnt f a tu cl (qL (qAm f en q 7))))) H locs := hM
        obtain ⟨qn_9, e_qn_9⟩ : ∃ z : Q9, z = qAm f en q 7 := ⟨_, rfl⟩
        have hM : MW g (mup (mup M (gA g 46) (mdE g m0 m1 m2 (nI a) (nI (qS qn_9)) (nI en) (qZ qn_9) 3 m8 m9 m10 m11)) (gA g 47) (aI g 929 (cnt f a tu cl (qL qn_9)))) H locs := by rw [e_qn_9]; exact hM
        have V_qn_9 : VQ en qn_9 ∧ LQ q qn_9 := by rw [e_qn_9]; exact (qAm_V hV (by decide))
        refine lv_istore_n (lv' := [(2, .int (amI f en q 7)), (1, .int (qHe f en q)), (0, .ref (gA g 46))]) hx hb dX12_factor_118 rfl hl (by decide) rfl (fun ls hl => ?_)
        refine lv_aload_n hx hb dX12_factor_119 rfl (lv_at hl 2 rfl) ?_
        refine lv_iload_n hx hb dX12_factor_120 rfl (lv_at hl 0 rfl) ?_
        refine lv_iconst (v := -1) hx hb dX12_factor_121 (by decide) ?_
        refine lv_icmp_ne (tgt := 129) hx hb dX12_factor_122 (by decide) (fun c_10 => ?_) (fun c_10 => ?_)
        · skip
          refine lv_iconst (v := 0) hx hb dX12_factor_129 (by decide) ?_
          refine r_put (T := TX12) (N := 20) (ci := 12) X hM iX12 tyX12 tyX12_ok nmX12 rfl 9 (by decide) q_844 rfl (Or.inl rfl) (mup_r (X.2.ne (i := 46) (j := 47) (by decide) (by decide) (by decide)) (mup_s _ _ _)) rfl rfl (Nat.le_of_ble_eq_true rfl) dX12_factor_130 (fun H locs hM => ?_)
          rw [mup_w _ _ _ (X.2.ne (i := 47) (j := 46) (by decide) (by decide) (by decide)), mup_i] at hM
          have hM : MW g (mup (mup M (gA g 46) (mdE g m0 m1 m2 (nI a) (nI (qS qn_9)) (nI en) 0 3 m8 m9 m10 m11)) (gA g 47) (aI g 929 (cnt f a tu cl (qL qn_9)))) H locs := hM
          refine lv_aload_n hx hb dX12_factor_133 rfl (lv_at hl 2 rfl) ?_
          refine r_get (T := TX12) (N := 20) (ci := 12) (v := .int 0) X hM iX12 rfl 9 (by decide) q_844 (Or.inl rfl) (mup_r (X.2.ne (i := 46) (j := 47) (by decide) (by decide) (by decide)) (mup_s _ _ _)) rfl dX12_factor_134 ?_
          refine lv_if_eq (tgt := 144) hx hb dX12_factor_137 (by decide) (fun c_11 => ?_) (fun c_11 => ?_)
          · skip
            refine lv_aload_n hx hb dX12_factor_144 rfl (lv_at hl 2 rfl) ?_
            refine va_ldcS hx hb X.1.2.2.2.1 (X.2.2.2.2.2.2.1 8 _ rfl) dX12_factor_145 ?_
            refine K_i (G_V (As := [.ref (gK g 8)]) (rest := []) X hM (c_X12_amongQ l g _ m0 m1 m2 3 m8 m9 m10 m11 a en f tu cl (qS qn_9, 0, qL qn_9) 8 (mup_r (X.2.ne (i := 46) (j := 47) (by decide) (by decide) (by decide)) (mup_s _ _ _)) (mup_s _ _ _) (VQ.z V_qn_9.1 (Or.inl rfl)) hen ha hf (by decide)) lk_X12_96 (mup_r (X.2.ne (i := 46) (j := 47) (by decide) (by decide) (by decide)) (mup_s _ _ _)) rfl rfl hl.1 rfl (Nat.le_of_ble_eq_true rfl) (by decide) dX12_factor_147 ⟨Nat.le_of_ble_eq_true rfl, Nat.le_of_ble_eq_true rfl⟩) hM (fun r M1 H locs hM hp => ?_)
            obtain ⟨rfl, rfl⟩ := hp
            rw [mup_w _ _ _ (X.2.ne (i := 47) (j := 46) (by decide) (by decide) (by decide)), mup_i] at hM
            rw [mup_i] at hM
            have hM : MW g (mup (mup M (gA g 46) (mdE g m0 m1 m2 (nI a) (nI (qS (qAm f en (qS qn_9, 0, qL qn_9) 8))) (nI en) (qZ (qAm f en (qS qn_9, 0, qL qn_9) 8)) 3 m8 m9 m10 m11)) (gA g 47) (aI g 929 (cnt f a tu cl (qL (qAm f en (qS qn_9, 0, qL qn_9) 8))))) H locs := hM
            obtain ⟨qn_12, e_qn_12⟩ : ∃ z : Q9, z = qAm f en (qS qn_9, 0, qL qn_9) 8 := ⟨_, rfl⟩
            have hM : MW g (mup (mup M (gA g 46) (mdE g m0 m1 m2 (nI a) (nI (qS qn_12)) (nI en) (qZ qn_12) 3 m8 m9 m10 m11)) (gA g 47) (aI g 929 (cnt f a tu cl (qL qn_12)))) H locs := by rw [e_qn_12]; exact hM
            have V_qn_12 : VQ en qn_12 ∧ LQ (qS qn_9, 0, qL qn_9) qn_12 := by rw [e_qn_12]; exact (qAm_V (VQ.z V_qn_9.1 (Or.inl rfl)) (by decide))
            refine lv_istore_n (lv' := [(3, .int (amI f en (qS qn_9, 0, qL qn_9) 8)), (2, .int (amI f en q 7)), (1, .int (qHe f en q)), (0, .ref (gA g 46))]) hx hb dX12_factor_150 rfl hl (by decide) rfl (fun ls hl => ?_)
            refine lv_aload_n hx hb dX12_factor_151 rfl (lv_at hl 3 rfl) ?_
            refine lv_aload_n hx hb dX12_factor_152 rfl (lv_at hl 3 rfl) ?_
            refine r_get (T := TX12) (N := 20) (ci := 12) (v := .int (qZ qn_12)) X hM iX12 rfl 9 (by decide) q_844 (Or.inl rfl) (mup_r (X.2.ne (i := 46) (j := 47) (by decide) (by decide) (by decide)) (mup_s _ _ _)) rfl dX12_factor_153 ?_
            refine lv_if_ne (tgt := 164) hx hb dX12_factor_156 (by decide) (fun c_13 => ?_) (fun c_13 => ?_)
            · skip
              exact absurd (show qZ qn_12 = 0 from by rw [e_qn_12]; rfl) c_13
            · skip
              refine lv_iload_n hx hb dX12_factor_159 rfl (lv_at hl 0 rfl) ?_
              refine lv_iconst (v := -1) hx hb dX12_factor_160 (by decide) ?_
              refine lv_icmp_ne (tgt := 168) hx hb dX12_factor_161 (by decide) (fun c_14 => ?_) (fun c_14 => ?_)
              · skip
                refine lv_iconst (v := 0) hx hb dX12_factor_168 (by decide) ?_
                refine r_put (T := TX12) (N := 20) (ci := 12) X hM iX12 tyX12 tyX12_ok nmX12 rfl 9 (by decide) q_844 rfl (Or.inl rfl) (mup_r (X.2.ne (i := 46) (j := 47) (by decide) (by decide) (by decide)) (mup_s _ _ _)) rfl rfl (Nat.le_of_ble_eq_true rfl) dX12_factor_169 (fun H locs hM => ?_)
                rw [mup_w _ _ _ (X.2.ne (i := 47) (j := 46) (by decide) (by decide) (by decide)), mup_i] at hM
                have hM : MW g (mup (mup M (gA g 46) (mdE g m0 m1 m2 (nI a) (nI (qS qn_12)) (nI en) 0 3 m8 m9 m10 m11)) (gA g 47) (aI g 929 (cnt f a tu cl (qL qn_12)))) H locs := hM
                refine lv_aload_n hx hb dX12_factor_172 rfl (lv_at hl 3 rfl) ?_
                refine K_i (G_V (As := []) (rest := []) X hM (c_X12_figuresQ l g _ m0 m1 m2 3 m8 m9 m10 m11 a en f tu cl (qS qn_12, 0, qL qn_12) (mup_r (X.2.ne (i := 46) (j := 47) (by decide) (by decide) (by decide)) (mup_s _ _ _)) (mup_s _ _ _) (VQ.z V_qn_12.1 (Or.inl rfl)) hen ha hf) lk_X12_102 (mup_r (X.2.ne (i := 46) (j := 47) (by decide) (by decide) (by decide)) (mup_s _ _ _)) rfl rfl hl.1 rfl (Nat.le_of_ble_eq_true rfl) (by decide) dX12_factor_173 ⟨Nat.le_of_ble_eq_true rfl, Nat.le_of_ble_eq_true rfl⟩) hM (fun r M1 H locs hM hp => ?_)
                obtain ⟨rfl, rfl⟩ := hp
                rw [mup_w _ _ _ (X.2.ne (i := 47) (j := 46) (by decide) (by decide) (by decide)), mup_i] at hM
                rw [mup_i] at hM
                have hM : MW g (mup (mup M (gA g 46) (mdE g m0 m1 m2 (nI a) (nI (qS (qFg f en (qS qn_12, 0, qL qn_12)))) (nI en) (qZ (qFg f en (qS qn_12, 0, qL qn_12))) 3 m8 m9 m10 m11)) (gA g 47) (aI g 929 (cnt f a tu cl (qL (qFg f en (qS qn_12, 0, qL qn_12)))))) H locs := hM
                obtain ⟨qn_15, e_qn_15⟩ : ∃ z : Q9, z = qFg f en (qS qn_12, 0, qL qn_12) := ⟨_, rfl⟩
                have hM : MW g (mup (mup M (gA g 46) (mdE g m0 m1 m2 (nI a) (nI (qS qn_15)) (nI en) (qZ qn_15) 3 m8 m9 m10 m11)) (gA g 47) (aI g 929 (cnt f a tu cl (qL qn_15)))) H locs := by rw [e_qn_15]; exact hM
                have V_qn_15 : VQ en qn_15 ∧ LQ (qS qn_12, 0, qL qn_12) qn_15 := by rw [e_qn_15]; exact (qFg_V (VQ.z V_qn_12.1 (Or.inl rfl)))
                refine lv_istore (lv' := [(4, .int (fgI f en (qS qn_12, 0, qL qn_12))), (3, .int (amI f en (qS qn_9, 0, qL qn_9) 8)), (2, .int (amI f en q 7)), (1, .int (qHe f en q)), (0, .ref (gA g 46))]) hx hb dX12_factor_176 hl (by decide) rfl (fun ls hl => ?_)
                refine lv_aload_n hx hb dX12_factor_178 rfl (lv_at hl 4 rfl) ?_
                refine lv_iload_n hx hb dX12_factor_179 rfl (lv_at hl 2 rfl) ?_
                refine lv_bipush (v := 8) hx hb dX12_factor_180 (by decide) ?_
                refine lv_iload_n hx hb dX12_factor_182 rfl (lv_at hl 1 rfl) ?_
                refine lv_imul hx hb dX12_factor_183 ?_
                refine lv_iadd hx hb dX12_factor_184 ?_
                refine lv_bipush (v := 32) hx hb dX12_factor_185 (by decide) ?_
                refine lv_iload hx hb dX12_factor_187 (lv_at hl 0 rfl) ?_
                refine lv_imul hx hb dX12_factor_189 ?_
                refine lv_iadd hx hb dX12_factor_190 ?_
                refine K_v (G_V (As := [.int (((amI f en q 7) + (8 * (amI f en (qS qn_9, 0, qL qn_9) 8))) + (32 * (fgI f en (qS qn_12, 0, qL qn_12))))]) (rest := []) X hM (c_X12_emitsQ l g _ m0 m1 m2 3 m8 m9 m10 m11 a en f tu cl qn_15 (((amI f en q 7) + (8 * (amI f en (qS qn_9, 0, qL qn_9) 8))) + (32 * (fgI f en (qS qn_12, 0, qL qn_12)))) (mup_r (X.2.ne (i := 46) (j := 47) (by decide) (by decide) (by decide)) (mup_s _ _ _)) (mup_s _ _ _) V_qn_15.1 hen ha hf (by have h9 := V_qn_15; have h8 := h9.1; have h7 := h8.1; have h6 := h8.2.1; omega)) lk_X12_88 (mup_r (X.2.ne (i := 46) (j := 47) (by decide) (by decide) (by decide)) (mup_s _ _ _)) rfl rfl hl.1 rfl (Nat.le_of_ble_eq_true rfl) (by decide) dX12_factor_191 ⟨Nat.le_of_ble_eq_true rfl, Nat.le_of_ble_eq_true rfl⟩) hM (fun M1 H locs hM hp => ?_)
                subst hp
                rw [mup_w _ _ _ (X.2.ne (i := 47) (j := 46) (by decide) (by decide) (by decide)), mup_i] at hM
                rw [mup_i] at hM
                have hM : MW g (mup (mup M (gA g 46) (mdE g m0 m1 m2 (nI a) (nI (qS (qEm qn_15 (((amI f en q 7) + (8 * (amI f en (qS qn_9, 0, qL qn_9) 8))) + (32 * (fgI f en (qS qn_12, 0, qL qn_12))))))) (nI en) (qZ (qEm qn_15 (((amI f en q 7) + (8 * (amI f en (qS qn_9, 0, qL qn_9) 8))) + (32 * (fgI f en (qS qn_12, 0, qL qn_12)))))) 3 m8 m9 m10 m11)) (gA g 47) (aI g 929 (cnt f a tu cl (qL (qEm qn_15 (((amI f en q 7) + (8 * (amI f en (qS qn_9, 0, qL qn_9) 8))) + (32 * (fgI f en (qS qn_12, 0, qL qn_12))))))))) H locs := hM
                obtain ⟨qn_16, e_qn_16⟩ : ∃ z : Q9, z = qEm qn_15 (((amI f en q 7) + (8 * (amI f en (qS qn_9, 0, qL qn_9) 8))) + (32 * (fgI f en (qS qn_12, 0, qL qn_12)))) := ⟨_, rfl⟩
                have hM : MW g (mup (mup M (gA g 46) (mdE g m0 m1 m2 (nI a) (nI (qS qn_16)) (nI en) (qZ qn_16) 3 m8 m9 m10 m11)) (gA g 47) (aI g 929 (cnt f a tu cl (qL qn_16)))) H locs := by rw [e_qn_16]; exact hM
                have e9 : qFac f en 2 q = qn_16 := by rw [qFac_s f en 1]; (first | rw [if_pos c_1] | rw [if_neg c_1] | skip); (first | rw [if_pos c_2] | rw [if_neg c_2] | skip); (first | rw [if_pos c_8] | rw [if_neg c_8] | skip); unfold qTs; (try rw [← e_qn_9]); (try rw [← e_qn_12]); (try rw [← e_qn_15]); (try rw [← e_qn_16]); (first | rw [if_pos c_10] | rw [if_neg c_10] | skip); (first | rw [if_pos c_14] | rw [if_neg c_14] | skip); unfold qT2; (try rw [← e_qn_9]); (try rw [← e_qn_12]); (try rw [← e_qn_15]); (try rw [← e_qn_16]); first | done | rfl
                exact R_v X hr hk hM (by rw [e9] <;> rfl) dX12_factor_194
              · skip
                refine lv_iconst (v := 1) hx hb dX12_factor_164 (by decide) ?_
                refine lv_goto (tgt := 169) hx hb dX12_factor_165 (by decide) ?_
                refine r_put (T := TX12) (N := 20) (ci := 12) X hM iX12 tyX12 tyX12_ok nmX12 rfl 9 (by decide) q_844 rfl (Or.inl rfl) (mup_r (X.2.ne (i := 46) (j := 47) (by decide) (by decide) (by decide)) (mup_s _ _ _)) rfl rfl (Nat.le_of_ble_eq_true rfl) dX12_factor_169 (fun H locs hM => ?_)
                rw [mup_w _ _ _ (X.2.ne (i := 47) (j := 46) (by decide) (by decide) (by decide)), mup_i] at hM
                have hM : MW g (mup (mup M (gA g 46) (mdE g m0 m1 m2 (nI a) (nI (qS qn_12)) (nI en) 1 3 m8 m9 m10 m11)) (gA g 47) (aI g 929 (cnt f a tu cl (qL qn_12)))) H locs := hM
                refine lv_aload_n hx hb dX12_factor_172 rfl (lv_at hl 3 rfl) ?_
                refine K_i (G_V (As := []) (rest := []) X hM (c_X12_figuresQ l g _ m0 m1 m2 3 m8 m9 m10 m11 a en f tu cl (qS qn_12, 1, qL qn_12) (mup_r (X.2.ne (i := 46) (j := 47) (by decide) (by decide) (by decide)) (mup_s _ _ _)) (mup_s _ _ _) (VQ.z V_qn_12.1 (Or.inr rfl)) hen ha hf) lk_X12_102 (mup_r (X.2.ne (i := 46) (j := 47) (by decide) (by decide) (by decide)) (mup_s _ _ _)) rfl rfl hl.1 rfl (Nat.le_of_ble_eq_true rfl) (by decide) dX12_factor_173 ⟨Nat.le_of_ble_eq_true rfl, Nat.le_of_ble_eq_true rfl⟩) hM (fun r M1 H locs hM hp => ?_)
                obtain ⟨rfl, rfl⟩ := hp
                rw [mup_w _ _ _ (X.2.ne (i := 47) (j := 46) (by decide) (by decide) (by decide)), mup_i] at hM
                rw [mup_i] at hM
                have hM : MW g (mup (mup M (gA g 46) (mdE g m0 m1 m2 (nI a) (nI (qS (qFg f en (qS qn_12, 1, qL qn_12)))) (nI en) (qZ (qFg f en (qS qn_12, 1, qL qn_12))) 3 m8 m9 m10 m11)) (gA g 47) (aI g 929 (cnt f a tu cl (qL (qFg f en (qS qn_12, 1, qL qn_12)))))) H locs := hM
                obtain ⟨qn_17, e_qn_17⟩ : ∃ z : Q9, z = qFg f en (qS qn_12, 1, qL qn_12) := ⟨_, rfl⟩
                have hM : MW g (mup (mup M (gA g 46) (mdE g m0 m1 m2 (nI a) (nI (qS qn_17)) (nI en) (qZ qn_17) 3 m8 m9 m10 m11)) (gA g 47) (aI g 929 (cnt f a tu cl (qL qn_17)))) H locs := by rw [e_qn_17]; exact hM
                have V_qn_17 : VQ en qn_17 ∧ LQ (qS qn_12, 1, qL qn_12) qn_17 := by rw [e_qn_17]; exact (qFg_V (VQ.z V_qn_12.1 (Or.inr rfl)))
                refine lv_istore (lv' := [(4, .int (fgI f en (qS qn_12, 1, qL qn_12))), (3, .int (amI f en (qS qn_9, 0, qL qn_9) 8)), (2, .int (amI f en q 7)), (1, .int (qHe f en q)), (0, .ref (gA g 46))]) hx hb dX12_factor_176 hl (by decide) rfl (fun ls hl => ?_)
                refine lv_aload_n hx hb dX12_factor_178 rfl (lv_at hl 4 rfl) ?_
                refine lv_iload_n hx hb dX12_factor_179 rfl (lv_at hl 2 rfl) ?_
                refine lv_bipush (v := 8) hx hb dX12_factor_180 (by decide) ?_
                refine lv_iload_n hx hb dX12_factor_182 rfl (lv_at hl 1 rfl) ?_
                refine lv_imul hx hb dX12_factor_183 ?_
                refine lv_iadd hx hb dX12_factor_184 ?_
                refine lv_bipush (v := 32) hx hb dX12_factor_185 (by decide) ?_
                refine lv_iload hx hb dX12_factor_187 (lv_at hl 0 rfl) ?_
                refine lv_imul hx hb dX12_factor_189 ?_
                refine lv_iadd hx hb dX12_factor_190 ?_
                refine K_v (G_V (As := [.int (((amI f en q 7) + (8 * (amI f en (qS qn_9, 0, qL qn_9) 8))) + (32 * (fgI f en (qS qn_12, 1, qL qn_12))))]) (rest := []) X hM (c_X12_emitsQ l g _ m0 m1 m2 3 m8 m9 m10 m11 a en f tu cl qn_17 (((amI f en q 7) + (8 * (amI f en (qS qn_9, 0, qL qn_9) 8))) + (32 * (fgI f en (qS qn_12, 1, qL qn_12)))) (mup_r (X.2.ne (i := 46) (j := 47) (by decide) (by decide) (by decide)) (mup_s _ _ _)) (mup_s _ _ _) V_qn_17.1 hen ha hf (by have h9 := V_qn_17; have h8 := h9.1; have h7 := h8.1; have h6 := h8.2.1; omega)) lk_X12_88 (mup_r (X.2.ne (i := 46) (j := 47) (by decide) (by decide) (by decide)) (mup_s _ _ _)) rfl rfl hl.1 rfl (Nat.le_of_ble_eq_true rfl) (by decide) dX12_factor_191 ⟨Nat.le_of_ble_eq_true rfl, Nat.le_of_ble_eq_true rfl⟩) hM (fun M1 H locs hM hp => ?_)
                subst hp
                rw [mup_w _ _ _ (X.2.ne (i := 47) (j := 46) (by decide) (by decide) (by decide)), mup_i] at hM
                rw [mup_i] at hM
                have hM : MW g (mup (mup M (gA g 46) (mdE g m0 m1 m2 (nI a) (nI (qS (qEm qn_17 (((amI f en q 7) + (8 * (amI f en (qS qn_9, 0, qL qn_9) 8))) + (32 * (fgI f en (qS qn_12, 1, qL qn_12))))))) (nI en) (qZ (qEm qn_17 (((amI f en q 7) + (8 * (amI f en (qS qn_9, 0, qL qn_9) 8))) + (32 * (fgI f en (qS qn_12, 1, qL qn_12)))))) 3 m8 m9 m10 m11)) (gA g 47) (aI g 929 (cnt f a tu cl (qL (qEm qn_17 (((amI f en q 7) + (8 * (amI f en (qS qn_9, 0, qL qn_9) 8))) + (32 * (fgI f en (qS qn_12, 1, qL qn_12))))))))) H locs := hM
                obtain ⟨qn_18, e_qn_18⟩ : ∃ z : Q9, z = qEm qn_17 (((amI f en q 7) + (8 * (amI f en (qS qn_9, 0, qL qn_9) 8))) + (32 * (fgI f en (qS qn_12, 1, qL qn_12)))) := ⟨_, rfl⟩
                have hM : MW g (mup (mup M (gA g 46) (mdE g m0 m1 m2 (nI a) (nI (qS qn_18)) (nI en) (qZ qn_18) 3 m8 m9 m10 m11)) (gA g 47) (aI g 929 (cnt f a tu cl (qL qn_18)))) H locs := by rw [e_qn_18]; exact hM
                have e9 : qFac f en 2 q = qn_18 := by rw [qFac_s f en 1]; (first | rw [if_pos c_1] | rw [if_neg c_1] | skip); (first | rw [if_pos c_2] | rw [if_neg c_2] | skip); (first | rw [if_pos c_8] | rw [if_neg c_8] | skip); unfold qTs; (try rw [← e_qn_9]); (try rw [← e_qn_12]); (try rw [← e_qn_17]); (try rw [← e_qn_18]); (first | rw [if_pos c_10] | rw [if_neg c_10] | skip); (first | rw [if_pos c_14] | rw [if_neg c_14] | skip); unfold qT2; (try rw [← e_qn_9]); (try rw [← e_qn_12]); (try rw [← e_qn_17]); (try rw [← e_qn_18]); first | done | rfl
                exact R_v X hr hk hM (by rw [e9] <;> rfl) dX12_factor_194
          · exact absurd c_11 (by decide)
        · skip
          refine lv_iconst (v := 1) hx hb dX12_factor_125 (by decide) ?_
          refine lv_goto (tgt := 130) hx hb dX12_factor_126 (by decide) ?_
          refine r_put (T := TX12) (N := 20) (ci := 12) X hM iX12 tyX12 tyX12_ok nmX12 rfl 9 (by decide) q_844 rfl (Or.inl rfl) (mup_r (X.2.ne (i := 46) (j := 47) (by decide) (by decide) (by decide)) (mup_s _ _ _)) rfl rfl (Nat.le_of_ble_eq_true rfl) dX12_factor_130 (fun H locs hM => ?_)
          rw [mup_w _ _ _ (X.2.ne (i := 47) (j := 46) (by decide) (by decide) (by decide)), mup_i] at hM
          have hM : MW g (mup (mup M (gA g 46) (mdE g m0 m1 m2 (nI a) (nI (qS qn_9)) (nI en) 1 3 m8 m9 m10 m11)) (gA g 47) (aI g 929 (cnt f a tu cl (qL qn_9)))) H locs := hM
          refine lv_aload_n hx hb dX12_factor_133 rfl (lv_at hl 2 rfl) ?_
          refine r_get (T := TX12) (N := 20) (ci := 12) (v := .int 1) X hM iX12 rfl 9 (by decide) q_844 (Or.inl rfl) (mup_r (X.2.ne (i := 46) (j := 47) (by decide) (by decide) (by decide)) (mup_s _ _ _)) rfl dX12_factor_134 ?_
          refine lv_if_eq (tgt := 144) hx hb dX12_factor_137 (by decide) (fun c_19 => ?_) (fun c_19 => ?_)
          · exact absurd c_19 (by decide)
          · skip
            refine lv_iconst (v := 0) hx hb dX12_factor_140 (by decide) ?_
            refine lv_goto (tgt := 150) hx hb dX12_factor_141 (by decide) ?_
            refine lv_istore_n (lv' := [(3, .int 0), (2, .int (amI f en q 7)), (1, .int (qHe f en q)), (0, .ref (gA g 46))]) hx hb dX12_factor_150 rfl hl (by decide) rfl (fun ls hl => ?_)
            refine lv_aload_n hx hb dX12_factor_151 rfl (lv_at hl 3 rfl) ?_
            refine lv_aload_n hx hb dX12_factor_152 rfl (lv_at hl 3 rfl) ?_
            refine r_get (T := TX12) (N := 20) (ci := 12) (v := .int 1) X hM iX12 rfl 9 (by decide) q_844 (Or.inl rfl) (mup_r (X.2.ne (i := 46) (j := 47) (by decide) (by decide) (by decide)) (mup_s _ _ _)) rfl dX12_factor_153 ?_
            refine lv_if_ne (tgt := 164) hx hb dX12_factor_156 (by decide) (fun c_20 => ?_) (fun c_20 => ?_)
            · skip
              refine lv_iconst (v := 1) hx hb dX12_factor_164 (by decide) ?_
              refine lv_goto (tgt := 169) hx hb dX12_factor_165 (by decide) ?_
              refine r_put (T := TX12) (N := 20) (ci := 12) X hM iX12 tyX12 tyX12_ok nmX12 rfl 9 (by decide) q_844 rfl (Or.inl rfl) (mup_r (X.2.ne (i := 46) (j := 47) (by decide) (by decide) (by decide)) (mup_s _ _ _)) rfl rfl (Nat.le_of_ble_eq_true rfl) dX12_factor_169 (fun H locs hM => ?_)
              rw [mup_w _ _ _ (X.2.ne (i := 47) (j := 46) (by decide) (by decide) (by decide)), mup_i] at hM
              have hM : MW g (mup (mup M (gA g 46) (mdE g m0 m1 m2 (nI a) (nI (qS qn_9)) (nI en) 1 3 m8 m9 m10 m11)) (gA g 47) (aI g 929 (cnt f a tu cl (qL qn_9)))) H locs := hM
              refine lv_aload_n hx hb dX12_factor_172 rfl (lv_at hl 3 rfl) ?_
              refine K_i (G_V (As := []) (rest := []) X hM (c_X12_figuresQ l g _ m0 m1 m2 3 m8 m9 m10 m11 a en f tu cl (qS qn_9, 1, qL qn_9) (mup_r (X.2.ne (i := 46) (j := 47) (by decide) (by decide) (by decide)) (mup_s _ _ _)) (mup_s _ _ _) (VQ.z V_qn_9.1 (Or.inr rfl)) hen ha hf) lk_X12_102 (mup_r (X.2.ne (i := 46) (j := 47) (by decide) (by decide) (by decide)) (mup_s _ _ _)) rfl rfl hl.1 rfl (Nat.le_of_ble_eq_true rfl) (by decide) dX12_factor_173 ⟨Nat.le_of_ble_eq_true rfl, Nat.le_of_ble_eq_true rfl⟩) hM (fun r M1 H locs hM hp => ?_)
              obtain ⟨rfl, rfl⟩ := hp
              rw [mup_w _ _ _ (X.2.ne (i := 47) (j := 46) (by decide) (by decide) (by decide)), mup_i] at hM
              rw [mup_i] at hM
              have hM : MW g (mup (mup M (gA g 46) (mdE g m0 m1 m2 (nI a) (nI (qS (qFg f en (qS qn_9, 1, qL qn_9)))) (nI en) (qZ (qFg f en (qS qn_9, 1, qL qn_9))) 3 m8 m9 m10 m11)) (gA g 47) (aI g 929 (cnt f a tu cl (qL (qFg f en (qS qn_9, 1, qL qn_9)))))) H locs := hM
              obtain ⟨qn_21, e_qn_21⟩ : ∃ z : Q9, z = qFg f en (qS qn_9, 1, qL qn_9) := ⟨_, rfl⟩
              have hM : MW g (mup (mup M (gA g 46) (mdE g m0 m1 m2 (nI a) (nI (qS qn_21)) (nI en) (qZ qn_21) 3 m8 m9 m10 m11)) (gA g 47) (aI g 929 (cnt f a tu cl (qL qn_21)))) H locs := by rw [e_qn_21]; exact hM
              have V_qn_21 : VQ en qn_21 ∧ LQ (qS qn_9, 1, qL qn_9) qn_21 := by rw [e_qn_21]; exact (qFg_V (VQ.z V_qn_9.1 (Or.inr rfl)))
              refine lv_istore (lv' := [(4, .int (fgI f en (qS qn_9, 1, qL qn_9))), (3, .int 0), (2, .int (amI f en q 7)), (1, .int (qHe f en q)), (0, .ref (gA g 46))]) hx hb dX12_factor_176 hl (by decide) rfl (fun ls hl => ?_)
              refine lv_aload_n hx hb dX12_factor_178 rfl (lv_at hl 4 rfl) ?_
              refine lv_iload_n hx hb dX12_factor_179 rfl (lv_at hl 2 rfl) ?_
              refine lv_bipush (v := 8) hx hb dX12_factor_180 (by decide) ?_
              refine lv_iload_n hx hb dX12_factor_182 rfl (lv_at hl 1 rfl) ?_
              refine lv_imul hx hb dX12_factor_183 ?_
              refine lv_iadd hx hb dX12_factor_184 ?_
              refine lv_bipush (v := 32) hx hb dX12_factor_185 (by decide) ?_
              refine lv_iload hx hb dX12_factor_187 (lv_at hl 0 rfl) ?_
              refine lv_imul hx hb dX12_factor_189 ?_
              refine lv_iadd hx hb dX12_factor_190 ?_
              refine K_v (G_V (As := [.int (((amI f en q 7) + (8 * 0)) + (32 * (fgI f en (qS qn_9, 1, qL qn_9))))]) (rest := []) X hM (c_X12_emitsQ l g _ m0 m1 m2 3 m8 m9 m10 m11 a en f tu cl qn_21 (((amI f en q 7) + (8 * 0)) + (32 * (fgI f en (qS qn_9, 1, qL qn_9)))) (mup_r (X.2.ne (i := 46) (j := 47) (by decide) (by decide) (by decide)) (mup_s _ _ _)) (mup_s _ _ _) V_qn_21.1 hen ha hf (by have h9 := V_qn_21; have h8 := h9.1; have h7 := h8.1; have h6 := h8.2.1; omega)) lk_X12_88 (mup_r (X.2.ne (i := 46) (j := 47) (by decide) (by decide) (by decide)) (mup_s _ _ _)) rfl rfl hl.1 rfl (Nat.le_of_ble_eq_true rfl) (by decide) dX12_factor_191 ⟨Nat.le_of_ble_eq_true rfl, Nat.le_of_ble_eq_true rfl⟩) hM (fun M1 H locs hM hp => ?_)
              subst hp
              rw [mup_w _ _ _ (X.2.ne (i := 47) (j := 46) (by decide) (by decide) (by decide)), mup_i] at hM
              rw [mup_i] at hM
              have hM : MW g (mup (mup M (gA g 46) (mdE g m0 m1 m2 (nI a) (nI (qS (qEm qn_21 (((amI f en q 7) + (8 * 0)) + (32 * (fgI f en (qS qn_9, 1, qL qn_9))))))) (nI en) (qZ (qEm qn_21 (((amI f en q 7) + (8 * 0)) + (32 * (fgI f en (qS qn_9, 1, qL qn_9)))))) 3 m8 m9 m10 m11)) (gA g 47) (aI g 929 (cnt f a tu cl (qL (qEm qn_21 (((amI f en q 7) + (8 * 0)) + (32 * (fgI f en (qS qn_9, 1, qL qn_9))))))))) H locs := hM
              obtain ⟨qn_22, e_qn_22⟩ : ∃ z : Q9, z = qEm qn_21 (((amI f en q 7) + (8 * 0)) + (32 * (fgI f en (qS qn_9, 1, qL qn_9)))) := ⟨_, rfl⟩
              have hM : MW g (mup (mup M (gA g 46) (mdE g m0 m1 m2 (nI a) (nI (qS qn_22)) (nI en) (qZ qn_22) 3 m8 m9 m10 m11)) (gA g 47) (aI g 929 (cnt f a tu cl (qL qn_22)))) H locs := by rw [e_qn_22]; exact hM
              have e9 : qFac f en 2 q = qn_22 := by rw [qFac_s f en 1]; (first | rw [if_pos c_1] | rw [if_neg c_1] | skip); (first | rw [if_pos c_2] | rw [if_neg c_2] | skip); (first | rw [if_pos c_8] | rw [if_neg c_8] | skip); unfold qTs; (try rw [← e_qn_9]); (try rw [← e_qn_21]); (try rw [← e_qn_22]); (first | rw [if_pos c_10] | rw [if_neg c_10] | skip); unfold qT2; (try rw [← e_qn_9]); (try rw [← e_qn_21]); (try rw [← e_qn_22]); rw [e_qn_22, c_10]; first | done | rfl
              exact R_v X hr hk hM (by rw [e9] <;> rfl) dX12_factor_194
            · exact absurd c_20 (by decide)
      · skip
        refine lv_aload_n hx hb dX12_factor_25 rfl (lv_at hl 1 rfl) ?_
        refine lv_aload_n hx hb dX12_factor_26 rfl (lv_at hl 1 rfl) ?_
        refine r_get (T := TX12) (N := 20) (ci := 12) (v := .int 3) X hM iX12 rfl 10 (by decide) q_845 (Or.inl rfl) h46 rfl dX12_factor_27 ?_
        refine lv_iconst (v := 5) hx hb dX12_factor_30 (by decide) ?_
        refine lv_icmp_ne (tgt := 38) hx hb dX12_factor_31 (by decide) (fun c_23 => ?_) (fun c_23 => ?_)
        · skip
          refine lv_iconst (v := 0) hx hb dX12_factor_38 (by decide) ?_
          refine r_put (T := TX12) (N := 20) (ci := 12) X hM iX12 tyX12 tyX12_ok nmX12 rfl 9 (by decide) q_844 rfl (Or.inl rfl) h46 rfl rfl (Nat.le_of_ble_eq_true rfl) dX12_factor_39 (fun H locs hM => ?_)
          have hM : MW g (mup M (gA g 46) (mdE g m0 m1 m2 (nI a) (nI (qS q)) (nI en) 0 3 m8 m9 m10 m11)) H locs := hM
          refine lv_aload_n hx hb dX12_factor_42 rfl (lv_at hl 1 rfl) ?_
          refine lv_dup hx hb dX12_factor_43 rfl ?_
          refine r_get (T := TX12) (N := 20) (ci := 12) (v := .int 3) X hM iX12 rfl 10 (by decide) q_845 (Or.inl rfl) (mup_s _ _ _) rfl dX12_factor_44 ?_
          refine lv_iconst (v := 1) hx hb dX12_factor_47 (by decide) ?_
          refine lv_iadd hx hb dX12_factor_48 ?_
          rw [show (3 + 1 : Int32) = 4 from by decide]
          refine r_put (T := TX12) (N := 20) (ci := 12) X hM iX12 tyX12 tyX12_ok nmX12 rfl 10 (by decide) q_845 rfl (Or.inl rfl) (mup_s _ _ _) rfl rfl (Nat.le_of_ble_eq_true rfl) dX12_factor_49 (fun H locs hM => ?_)
          rw [mup_i] at hM
          have hM : MW g (mup M (gA g 46) (mdE g m0 m1 m2 (nI a) (nI (qS q)) (nI en) 0 4 m8 m9 m10 m11)) H locs := hM
          refine lv_aload_n hx hb dX12_factor_52 rfl (lv_at hl 1 rfl) ?_
          refine lv_dup hx hb dX12_factor_53 rfl ?_
          refine r_get (T := TX12) (N := 20) (ci := 12) (v := .int (nI (qS q))) X hM iX12 rfl 7 (by decide) q_842 (Or.inl rfl) (mup_s _ _ _) rfl dX12_factor_54 ?_
          refine lv_aload_n hx hb dX12_factor_57 rfl (lv_at hl 1 rfl) ?_
          refine r_get (T := TX12) (N := 20) (ci := 12) (v := .int 0) X hM iX12 rfl 9 (by decide) q_844 (Or.inl rfl) (mup_s _ _ _) rfl dX12_factor_58 ?_
          refine lv_if_eq (tgt := 68) hx hb dX12_factor_61 (by decide) (fun c_24 => ?_) (fun c_24 => ?_)
          · skip
            refine lv_iconst (v := 1) hx hb dX12_factor_68 (by decide) ?_
            refine lv_iadd hx hb dX12_factor_69 ?_
            rw [show (nI (qS q)) + (1 : Int32) = nI ((qS q) + 1) from nI_add (qS q) 1]
            refine r_put (T := TX12) (N := 20) (ci := 12) X hM iX12 tyX12 tyX12_ok nmX12 rfl 7 (by decide) q_842 rfl (Or.inl rfl) (mup_s _ _ _) rfl rfl (Nat.le_of_ble_eq_true rfl) dX12_factor_70 (fun H locs hM => ?_)
            rw [mup_i] at hM
            have hM : MW g (mup M (gA g 46) (mdE g m0 m1 m2 (nI a) (nI ((qS q) + 1)) (nI en) 0 4 m8 m9 m10 m11)) H locs := hM
            refine lv_iload_n hx hb dX12_factor_73 rfl (lv_at hl 0 rfl) ?_
            refine lv_bipush (v := 33) hx hb dX12_factor_74 (by decide) ?_
            refine lv_icmp_ne (tgt := 91) hx hb dX12_factor_76 (by decide) (fun c_25 => ?_) (fun c_25 => ?_)
            · skip
              refine lv_aload_n hx hb dX12_factor_91 rfl (lv_at hl 1 rfl) ?_
              refine K_v (G_V (As := []) (rest := []) X hM (c_X12_some_1 l g _ m0 m1 m2 m8 m9 m10 m11 a en f tu cl ((qS q) + 1, 0, qL q) (mup_s _ _ _) (mup_r (X.2.ne (i := 47) (j := 46) (by decide) (by decide) (by decide)) h47) ⟨(mHe_lt (c_8) (by decide)), Nat.le_trans hV.2.1 (Nat.le_succ _), Or.inl rfl⟩ hen ha hf) lk_X12_91 (mup_s _ _ _) rfl rfl hl.1 rfl (Nat.le_of_ble_eq_true rfl) (by decide) dX12_factor_92 ⟨Nat.le_of_ble_eq_true rfl, Nat.le_of_ble_eq_true rfl⟩) hM (fun M1 H locs hM hp => ?_)
              subst hp
              rw [mup_i] at hM
              have hM : MW g (mup (mup M (gA g 46) (mdE g m0 m1 m2 (nI a) (nI (qS (qSo f en (qFac f en 1) ((qS q) + 1, 0, qL q)))) (nI en) (qZ (qSo f en (qFac f en 1) ((qS q) + 1, 0, qL q))) 4 m8 m9 m10 m11)) (gA g 47) (aI g 929 (cnt f a tu cl (qL (qSo f en (qFac f en 1) ((qS q) + 1, 0, qL q)))))) H locs := hM
              obtain ⟨qn_26, e_qn_26⟩ : ∃ z : Q9, z = qSo f en (qFac f en 1) ((qS q) + 1, 0, qL q) := ⟨_, rfl⟩
              have hM : MW g (mup (mup M (gA g 46) (mdE g m0 m1 m2 (nI a) (nI (qS qn_26)) (nI en) (qZ qn_26) 4 m8 m9 m10 m11)) (gA g 47) (aI g 929 (cnt f a tu cl (qL qn_26)))) H locs := by rw [e_qn_26]; exact hM
              have V_qn_26 : VQ en qn_26 ∧ LQ ((qS q) + 1, 0, qL q) qn_26 := by rw [e_qn_26]; exact (qSo_good (qFac_good 1) _ ⟨(mHe_lt (c_8) (by decide)), Nat.le_trans hV.2.1 (Nat.le_succ _), Or.inl rfl⟩)
              refine lv_aload_n hx hb dX12_factor_95 rfl (lv_at hl 1 rfl) ?_
              refine lv_bipush (v := 41) hx hb dX12_factor_96 (by decide) ?_
              refine K_v (G_V (As := [.int 41]) (rest := []) X hM (c_X12_mustQ l g _ m0 m1 m2 4 m8 m9 m10 m11 a en f tu cl qn_26 41 (mup_r (X.2.ne (i := 46) (j := 47) (by decide) (by decide) (by decide)) (mup_s _ _ _)) (mup_s _ _ _) V_qn_26.1 hen ha hf) lk_X12_75 (mup_r (X.2.ne (i := 46) (j := 47) (by decide) (by decide) (by decide)) (mup_s _ _ _)) rfl rfl hl.1 rfl (Nat.le_of_ble_eq_true rfl) (by decide) dX12_factor_98 ⟨Nat.le_of_ble_eq_true rfl, Nat.le_of_ble_eq_true rfl⟩) hM (fun M1 H locs hM hp => ?_)
              subst hp
              rw [mup_w _ _ _ (X.2.ne (i := 47) (j := 46) (by decide) (by decide) (by decide)), mup_i] at hM
              rw [mup_i] at hM
              have hM : MW g (mup (mup M (gA g 46) (mdE g m0 m1 m2 (nI a) (nI (qS (qMu f en qn_26 41))) (nI en) (qZ (qMu f en qn_26 41)) 4 m8 m9 m10 m11)) (gA g 47) (aI g 929 (cnt f a tu cl (qL (qMu f en qn_26 41))))) H locs := hM
              obtain ⟨qn_27, e_qn_27⟩ : ∃ z : Q9, z = qMu f en qn_26 41 := ⟨_, rfl⟩
              have hM : MW g (mup (mup M (gA g 46) (mdE g m0 m1 m2 (nI a) (nI (qS qn_27)) (nI en) (qZ qn_27) 4 m8 m9 m10 m11)) (gA g 47) (aI g 929 (cnt f a tu cl (qL qn_27)))) H locs := by rw [e_qn_27]; exact hM
              have V_qn_27 : VQ en qn_27 ∧ LQ qn_26 qn_27 := by rw [e_qn_27]; exact (qMu_V (V_qn_26.1) (by decide))
              refine lv_aload_n hx hb dX12_factor_101 rfl (lv_at hl 1 rfl) ?_
              refine lv_dup hx hb dX12_factor_102 rfl ?_
              refine r_get (T := TX12) (N := 20) (ci := 12) (v := .int 4) X hM iX12 rfl 10 (by decide) q_845 (Or.inl rfl) (mup_r (X.2.ne (i := 46) (j := 47) (by decide) (by decide) (by decide)) (mup_s _ _ _)) rfl dX12_factor_103 ?_
              refine lv_iconst (v := 1) hx hb dX12_factor_106 (by decide) ?_
              refine lv_isub hx hb dX12_factor_107 ?_
              rw [show (4 - 1 : Int32) = 3 from by decide]
              refine r_put (T := TX12) (N := 20) (ci := 12) X hM iX12 tyX12 tyX12_ok nmX12 rfl 10 (by decide) q_845 rfl (Or.inl rfl) (mup_r (X.2.ne (i := 46) (j := 47) (by decide) (by decide) (by decide)) (mup_s _ _ _)) rfl rfl (Nat.le_of_ble_eq_true rfl) dX12_factor_108 (fun H locs hM => ?_)
              rw [mup_w _ _ _ (X.2.ne (i := 47) (j := 46) (by decide) (by decide) (by decide)), mup_i] at hM
              have hM : MW g (mup (mup M (gA g 46) (mdE g m0 m1 m2 (nI a) (nI (qS qn_27)) (nI en) (qZ qn_27) 3 m8 m9 m10 m11)) (gA g 47) (aI g 929 (cnt f a tu cl (qL qn_27)))) H locs := hM
              have e9 : qFac f en 2 q = qn_27 := by rw [qFac_s f en 1]; (first | rw [if_pos c_1] | rw [if_neg c_1] | skip); (first | rw [if_pos c_2] | rw [if_neg c_2] | skip); (first | rw [if_pos c_8] | rw [if_neg c_8] | skip); (first | rw [if_pos c_25] | rw [if_neg c_25] | skip); (try rw [← e_qn_26]); (try rw [← e_qn_27]); first | done | rfl | (rw [e_qn_27, e_qn_26]; rfl)
              exact R_v X hr hk hM (by rw [e9] <;> rfl) dX12_factor_111
            · skip
              exact absurd c_25 c_2
          · exact absurd c_24 (by decide)
        · exact absurd c_23 (by decide)
  · skip
    exact R_v X hr hk hM (by rw [show qFac f en 2 q = q from by rw [qFac_s f en 1]; (first | rw [if_pos c_1] | rw [if_neg c_1] | skip)]; rw [mup_id h46, mup_id h47]) dX12_factor_7
set_option maxHeartbeats 4000000 in
set_option maxRecDepth 100000 in
theorem c_X12_every_2 (l : Launch) (g : Gp) (M : Mem) (m0 m1 m2 m8 m9 m10 m11 : Int32) (a en : Nat) (f : Nat → Int32) (tu cl : Int32) (q : Q9) (h46 : M (gA g 46) = some (mdE g m0 m1 m2 (nI a) (nI (qS q)) (nI en) (qZ q) 3 m8 m9 m10 m11)) (h47 : M (gA g 47) = some (aI g 929 (cnt f a tu cl (qL q)))) (hV : VQ en q) (hen : en ≤ 100) (ha : a < 5) (hf : f (224 + a) = nI 0) : Met l yX12_every (wsM yX12_every cX12_every 1 none) (rmD 13 0 0) (Pre g M [.ref (gA g 46)]) (Qv g (fun M1 => mup (mup M (gA g 46) (mdE g m0 m1 m2 (nI a) (nI (qS (qEv f en (qFac f en 2) q))) (nI en) (qZ (qEv f en (qFac f en 2) q)) 3 m8 m9 m10 m11)) (gA g 47) (aI g 929 (cnt f a tu cl (qL (qEv f en (qFac f en 2) q)))) = M1)) 0 0 (gF g) := M_start (by decide +kernel) (Nat.le_of_ble_eq_true rfl) fun p e s m args below meth c ls X hr hk hnm hM hl => by
  have X : Cx g p m c cX12_every 1 s args RX12 := X
  have hx := X.1.1
  have hb := X.1.2.1
  have hl : lv_has ls 1 [(0, .ref (gA g 46))] := hl
  refine lv_aload_n hx hb dX12_every_0 rfl (lv_at hl 0 rfl) ?_
  refine K_v (G_V (As := []) (rest := []) X hM (c_X12_factor_2 l g _ m0 m1 m2 m8 m9 m10 m11 a en f tu cl q h46 h47 hV hen ha hf) lk_X12_85 h46 rfl rfl hl.1 rfl (Nat.le_of_ble_eq_true rfl) (by decide) dX12_every_1 ⟨Nat.le_of_ble_eq_true rfl, Nat.le_of_ble_eq_true rfl⟩) hM (fun M1 H locs hM hp => ?_)
  subst hp
  have hM : MW g (mup (mup M (gA g 46) (mdE g m0 m1 m2 (nI a) (nI (qS (qFac f en 2 q))) (nI en) (qZ (qFac f en 2 q)) 3 m8 m9 m10 m11)) (gA g 47) (aI g 929 (cnt f a tu cl (qL (qFac f en 2 q))))) H locs := hM
  obtain ⟨qn_1, e_qn_1⟩ : ∃ z : Q9, z = qFac f en 2 q := ⟨_, rfl⟩
  have hM : MW g (mup (mup M (gA g 46) (mdE g m0 m1 m2 (nI a) (nI (qS qn_1)) (nI en) (qZ qn_1) 3 m8 m9 m10 m11)) (gA g 47) (aI g 929 (cnt f a tu cl (qL qn_1)))) H locs := by rw [e_qn_1]; exact hM
  have V_qn_1 : VQ en qn_1 ∧ LQ q qn_1 := by rw [e_qn_1]; exact ((qFac_good 2) _ hV)
  have L4 : ∀ (fu : Nat) (i : Nat) (qb : Q9) (hVb : VQ en qb) (hfu : en ≤ qS qb + i) (kb : qLp f en 38 (-2) (qFac f en 2) i qb = qEv f en (qFac f en 2) q) (H : Heap) (locs : List Loc) (hM : MW g (mup (mup M (gA g 46) (mdE g m0 m1 m2 (nI a) (nI (qS qb)) (nI en) (qZ qb) 3 m8 m9 m10 m11)) (gA g 47) (aI g 929 (cnt f a tu cl (qL qb)))) H locs) (ls : Array Slot) (hl : lv_has ls 1 [(0, .ref (gA g 46))]), i < fu → W p l e (rmD 13 0 0) s m args below meth c H locs 0 0 (MQ below (Qv g (fun M1 => mup (mup M (gA g 46) (mdE g m0 m1 m2 (nI a) (nI (qS (qEv f en (qFac f en 2) q))) (nI en) (qZ (qEv f en (qFac f en 2) q)) 3 m8 m9 m10 m11)) (gA g 47) (aI g 929 (cnt f a tu cl (qL (qEv f en (qFac f en 2) q)))) = M1)) args s 0 0 (gF g)) (F0 m 4 ls []) := by
    intro fu
    induction fu with
    | zero => intro i qb hVb hfu kb H locs hM ls hl hmu; exact absurd hmu (Nat.not_lt_zero _)
    | succ fu ih =>
      intro i qb hVb hfu kb H locs hM ls hl hmu
      refine lv_aload_n hx hb dX12_every_4 rfl (lv_at hl 0 rfl) ?_
      refine r_get (T := TX12) (N := 20) (ci := 12) (v := .int (qZ qb)) X hM iX12 rfl 9 (by decide) q_844 (Or.inl rfl) (mup_r (X.2.ne (i := 46) (j := 47) (by decide) (by decide) (by decide)) (mup_s _ _ _)) rfl dX12_every_5 ?_
      refine lv_if_ne (tgt := 43) hx hb dX12_every_8 (by decide) (fun c_2 => ?_) (fun c_2 => ?_)
      · skip
        exact R_v X hr hk hM (by rw [← kb, qLp_z c_2]) dX12_every_43
      · skip
        refine lv_aload_n hx hb dX12_every_11 rfl (lv_at hl 0 rfl) ?_
        refine K_i (G_V (As := []) (rest := []) X hM (c_X12_hereQ l g _ m0 m1 m2 3 m8 m9 m10 m11 a en f tu cl qb (mup_r (X.2.ne (i := 46) (j := 47) (by decide) (by decide) (by decide)) (mup_s _ _ _)) (mup_s _ _ _) hVb hen ha hf) lk_X12_62 (mup_r (X.2.ne (i := 46) (j := 47) (by decide) (by decide) (by decide)) (mup_s _ _ _)) rfl rfl hl.1 rfl (Nat.le_of_ble_eq_true rfl) (by decide) dX12_every_12 ⟨Nat.le_of_ble_eq_true rfl, Nat.le_of_ble_eq_true rfl⟩) hM (fun r M1 H locs hM hp => ?_)
        obtain ⟨rfl, rfl⟩ := hp
        refine lv_bipush (v := 38) hx hb dX12_every_15 (by decide) ?_
        refine lv_icmp_ne (tgt := 43) hx hb dX12_every_17 (by decide) (fun c_3 => ?_) (fun c_3 => ?_)
        · skip
          exact R_v X hr hk hM (by rw [← kb, qLp_o c_3]) dX12_every_43
        · skip
          refine lv_aload_n hx hb dX12_every_20 rfl (lv_at hl 0 rfl) ?_
          refine lv_dup hx hb dX12_every_21 rfl ?_
          refine r_get (T := TX12) (N := 20) (ci := 12) (v := .int (nI (qS qb))) X hM iX12 rfl 7 (by decide) q_842 (Or.inl rfl) (mup_r (X.2.ne (i := 46) (j := 47) (by decide) (by decide) (by decide)) (mup_s _ _ _)) rfl dX12_every_22 ?_
          refine lv_iconst (v := 1) hx hb dX12_every_25 (by decide) ?_
          refine lv_iadd hx hb dX12_every_26 ?_
          rw [show (nI (qS qb)) + (1 : Int32) = nI ((qS qb) + 1) from nI_add (qS qb) 1]
          refine r_put (T := TX12) (N := 20) (ci := 12) X hM iX12 tyX12 tyX12_ok nmX12 rfl 7 (by decide) q_842 rfl (Or.inl rfl) (mup_r (X.2.ne (i := 46) (j := 47) (by decide) (by decide) (by decide)) (mup_s _ _ _)) rfl rfl (Nat.le_of_ble_eq_true rfl) dX12_every_27 (fun H locs hM => ?_)
          rw [mup_w _ _ _ (X.2.ne (i := 47) (j := 46) (by decide) (by decide) (by decide)), mup_i] at hM
          have hM : MW g (mup (mup M (gA g 46) (mdE g m0 m1 m2 (nI a) (nI ((qS qb) + 1)) (nI en) (qZ qb) 3 m8 m9 m10 m11)) (gA g 47) (aI g 929 (cnt f a tu cl (qL qb)))) H locs := hM
          refine lv_aload_n hx hb dX12_every_30 rfl (lv_at hl 0 rfl) ?_
          refine K_v (G_V (As := []) (rest := []) X hM (c_X12_factor_2 l g _ m0 m1 m2 m8 m9 m10 m11 a en f tu cl ((qS qb) + 1, qZ qb, qL qb) (mup_r (X.2.ne (i := 46) (j := 47) (by decide) (by decide) (by decide)) (mup_s _ _ _)) (mup_s _ _ _) ⟨(mHe_lt (c_3) (by decide)), Nat.le_trans hVb.2.1 (Nat.le_succ _), hVb.2.2⟩ hen ha hf) lk_X12_85 (mup_r (X.2.ne (i := 46) (j := 47) (by decide) (by decide) (by decide)) (mup_s _ _ _)) rfl rfl hl.1 rfl (Nat.le_of_ble_eq_true rfl) (by decide) dX12_every_31 ⟨Nat.le_of_ble_eq_true rfl, Nat.le_of_ble_eq_true rfl⟩) hM (fun M1 H locs hM hp => ?_)
          subst hp
          rw [mup_w _ _ _ (X.2.ne (i := 47) (j := 46) (by decide) (by decide) (by decide)), mup_i] at hM
          rw [mup_i] at hM
          have hM : MW g (mup (mup M (gA g 46) (mdE g m0 m1 m2 (nI a) (nI (qS (qFac f en 2 ((qS qb) + 1, qZ qb, qL qb)))) (nI en) (qZ (qFac f en 2 ((qS qb) + 1, qZ qb, qL qb))) 3 m8 m9 m10 m11)) (gA g 47) (aI g 929 (cnt f a tu cl (qL (qFac f en 2 ((qS qb) + 1, qZ qb, qL qb)))))) H locs := hM
          obtain ⟨qn_4, e_qn_4⟩ : ∃ z : Q9, z = qFac f en 2 ((qS qb) + 1, qZ qb, qL qb) := ⟨_, rfl⟩
          have hM : MW g (mup (mup M (gA g 46) (mdE g m0 m1 m2 (nI a) (nI (qS qn_4)) (nI en) (qZ qn_4) 3 m8 m9 m10 m11)) (gA g 47) (aI g 929 (cnt f a tu cl (qL qn_4)))) H locs := by rw [e_qn_4]; exact hM
          have V_qn_4 : VQ en qn_4 ∧ LQ ((qS qb) + 1, qZ qb, qL qb) qn_4 := by rw [e_qn_4]; exact ((qFac_good 2) _ ⟨(mHe_lt (c_3) (by decide)), Nat.le_trans hVb.2.1 (Nat.le_succ _), hVb.2.2⟩)
          refine lv_aload_n hx hb dX12_every_34 rfl (lv_at hl 0 rfl) ?_
          refine lv_bipush (v := -2) hx hb dX12_every_35 (by decide) ?_
          have hG := V_qn_4
          refine K_v (G_V (As := [.int (-2)]) (rest := []) X hM (c_X12_emitsQ l g _ m0 m1 m2 3 m8 m9 m10 m11 a en f tu cl qn_4 (-2) (mup_r (X.2.ne (i := 46) (j := 47) (by decide) (by decide) (by decide)) (mup_s _ _ _)) (mup_s _ _ _) hG.1 hen ha hf (by have h7 := hG.1.1; have h6 := hG.1.2.1; omega)) lk_X12_88 (mup_r (X.2.ne (i := 46) (j := 47) (by decide) (by decide) (by decide)) (mup_s _ _ _)) rfl rfl hl.1 rfl (Nat.le_of_ble_eq_true rfl) (by decide) dX12_every_37 ⟨Nat.le_of_ble_eq_true rfl, Nat.le_of_ble_eq_true rfl⟩) hM (fun M1 H locs hM hp => ?_)
          subst hp
          rw [mup_w _ _ _ (X.2.ne (i := 47) (j := 46) (by decide) (by decide) (by decide)), mup_i] at hM
          rw [mup_i] at hM
          have hM : MW g (mup (mup M (gA g 46) (mdE g m0 m1 m2 (nI a) (nI (qS (qEm qn_4 (-2)))) (nI en) (qZ (qEm qn_4 (-2))) 3 m8 m9 m10 m11)) (gA g 47) (aI g 929 (cnt f a tu cl (qL (qEm qn_4 (-2)))))) H locs := hM
          obtain ⟨qn_5, e_qn_5⟩ : ∃ z : Q9, z = qEm qn_4 (-2) := ⟨_, rfl⟩
          have hM : MW g (mup (mup M (gA g 46) (mdE g m0 m1 m2 (nI a) (nI (qS qn_5)) (nI en) (qZ qn_5) 3 m8 m9 m10 m11)) (gA g 47) (aI g 929 (cnt f a tu cl (qL qn_5)))) H locs := by rw [e_qn_5]; exact hM
          refine lv_goto (tgt := 4) hx hb dX12_every_40 (by decide) ?_
          have hi0 : 0 < i := by have := mHe_lt (x := 38) c_3 (by decide); omega
          have h8 : qS qb + 1 ≤ qS qn_4 := hG.2.1
          have h7 : (qL qn_4).length + (qS qb + 1) ≤ (qL qb).length + qS qn_4 := hG.2.2
          have h6 : qS qn_5 = qS qn_4 := by rw [e_qn_5]; rfl
          have V9 : VQ en qn_5 ∧ LQ qb qn_5 := by rw [e_qn_5]; exact qEm_V hVb hG.1 (by omega) h7
          exact ih (i - 1) qn_5 V9.1 (by omega) (by rw [← kb, qLp_i c_2 c_3 hi0]; (try rw [← e_qn_1]); (try rw [← e_qn_4]); (try rw [← e_qn_5]); first | done | rfl) _ _ hM _ (lv_sub hl [0] rfl) (by omega)
  exact L4 (101 + 1) 101 qn_1 V_qn_1.1 (by omega) (by unfold qEv; (try rw [← e_qn_1]); first | done | rfl) _ _ hM _ (lv_sub hl [0] rfl) (by first | exact Nat.lt_succ_self _ | omega)
set_option maxHeartbeats 4000000 in
set_option maxRecDepth 100000 in
theorem c_X12_some_2 (l : Launch) (g : Gp) (M : Mem) (m0 m1 m2 m8 m9 m10 m11 : Int32) (a en : Nat) (f : Nat → Int32) (tu cl : Int32) (q : Q9) (h46 : M (gA g 46) = some (mdE g m0 m1 m2 (nI a) (nI (qS q)) (nI en) (qZ q) 3 m8 m9 m10 m11)) (h47 : M (gA g 47) = some (aI g 929 (cnt f a tu cl (qL q)))) (hV : VQ en q) (hen : en ≤ 100) (ha : a < 5) (hf : f (224 + a) = nI 0) : Met l yX12_some (wsM yX12_some cX12_some 1 none) (rmD 14 0 0) (Pre g M [.ref (gA g 46)]) (Qv g (fun M1 => mup (mup M (gA g 46) (mdE g m0 m1 m2 (nI a) (nI (qS (qSo f en (qFac f en 2) q))) (nI en) (qZ (qSo f en (qFac f en 2) q)) 3 m8 m9 m10 m11)) (gA g 47) (aI g 929 (cnt f a tu cl (qL (qSo f en (qFac f en 2) q)))) = M1)) 0 0 (gF g) := M_start (by decide +kernel) (Nat.le_of_ble_eq_true rfl) fun p e s m args below meth c ls X hr hk hnm hM hl => by
  have X : Cx g p m c cX12_some 1 s args RX12 := X
  have hx := X.1.1
  have hb := X.1.2.1
  have hl : lv_has ls 1 [(0, .ref (gA g 46))] := hl
  refine lv_aload_n hx hb dX12_some_0 rfl (lv_at hl 0 rfl) ?_
  refine K_v (G_V (As := []) (rest := []) X hM (c_X12_every_2 l g _ m0 m1 m2 m8 m9 m10 m11 a en f tu cl q h46 h47 hV hen ha hf) lk_X12_105 h46 rfl rfl hl.1 rfl (Nat.le_of_ble_eq_true rfl) (by decide) dX12_some_1 ⟨Nat.le_of_ble_eq_true rfl, Nat.le_of_ble_eq_true rfl⟩) hM (fun M1 H locs hM hp => ?_)
  subst hp
  have hM : MW g (mup (mup M (gA g 46) (mdE g m0 m1 m2 (nI a) (nI (qS (qEv f en (qFac f en 2) q))) (nI en) (qZ (qEv f en (qFac f en 2) q)) 3 m8 m9 m10 m11)) (gA g 47) (aI g 929 (cnt f a tu cl (qL (qEv f en (qFac f en 2) q))))) H locs := hM
  obtain ⟨qn_1, e_qn_1⟩ : ∃ z : Q9, z = qEv f en (qFac f en 2) q := ⟨_, rfl⟩
  have hM : MW g (mup (mup M (gA g 46) (mdE g m0 m1 m2 (nI a) (nI (qS qn_1)) (nI en) (qZ qn_1) 3 m8 m9 m10 m11)) (gA g 47) (aI g 929 (cnt f a tu cl (qL qn_1)))) H locs := by rw [e_qn_1]; exact hM
  have V_qn_1 : VQ en qn_1 ∧ LQ q qn_1 := by rw [e_qn_1]; exact ((qEv_good (qFac_good 2)) _ hV)
  have L4 : ∀ (fu : Nat) (i : Nat) (qb : Q9) (hVb : VQ en qb) (hfu : en ≤ qS qb + i) (kb : qLp f en 124 (-3) (qEv f en (qFac f en 2)) i qb = qSo f en (qFac f en 2) q) (H : Heap) (locs : List Loc) (hM : MW g (mup (mup M (gA g 46) (mdE g m0 m1 m2 (nI a) (nI (qS qb)) (nI en) (qZ qb) 3 m8 m9 m10 m11)) (gA g 47) (aI g 929 (cnt f a tu cl (qL qb)))) H locs) (ls : Array Slot) (hl : lv_has ls 1 [(0, .ref (gA g 46))]), i < fu → W p l e (rmD 14 0 0) s m args below meth c H locs 0 0 (MQ below (Qv g (fun M1 => mup (mup M (gA g 46) (mdE g m0 m1 m2 (nI a) (nI (qS (qSo f en (qFac f en 2) q))) (nI en) (qZ (qSo f en (qFac f en 2) q)) 3 m8 m9 m10 m11)) (gA g 47) (aI g 929 (cnt f a tu cl (qL (qSo f en (qFac f en 2) q)))) = M1)) args s 0 0 (gF g)) (F0 m 4 ls []) := by
    intro fu
    induction fu with
    | zero => intro i qb hVb hfu kb H locs hM ls hl hmu; exact absurd hmu (Nat.not_lt_zero _)
    | succ fu ih =>
      intro i qb hVb hfu kb H locs hM ls hl hmu
      refine lv_aload_n hx hb dX12_some_4 rfl (lv_at hl 0 rfl) ?_
      refine r_get (T := TX12) (N := 20) (ci := 12) (v := .int (qZ qb)) X hM iX12 rfl 9 (by decide) q_844 (Or.inl rfl) (mup_r (X.2.ne (i := 46) (j := 47) (by decide) (by decide) (by decide)) (mup_s _ _ _)) rfl dX12_some_5 ?_
      refine lv_if_ne (tgt := 43) hx hb dX12_some_8 (by decide) (fun c_2 => ?_) (fun c_2 => ?_)
      · skip
        exact R_v X hr hk hM (by rw [← kb, qLp_z c_2]) dX12_some_43
      · skip
        refine lv_aload_n hx hb dX12_some_11 rfl (lv_at hl 0 rfl) ?_
        refine K_i (G_V (As := []) (rest := []) X hM (c_X12_hereQ l g _ m0 m1 m2 3 m8 m9 m10 m11 a en f tu cl qb (mup_r (X.2.ne (i := 46) (j := 47) (by decide) (by decide) (by decide)) (mup_s _ _ _)) (mup_s _ _ _) hVb hen ha hf) lk_X12_62 (mup_r (X.2.ne (i := 46) (j := 47) (by decide) (by decide) (by decide)) (mup_s _ _ _)) rfl rfl hl.1 rfl (Nat.le_of_ble_eq_true rfl) (by decide) dX12_some_12 ⟨Nat.le_of_ble_eq_true rfl, Nat.le_of_ble_eq_true rfl⟩) hM (fun r M1 H locs hM hp => ?_)
        obtain ⟨rfl, rfl⟩ := hp
        refine lv_bipush (v := 124) hx hb dX12_some_15 (by decide) ?_
        refine lv_icmp_ne (tgt := 43) hx hb dX12_some_17 (by decide) (fun c_3 => ?_) (fun c_3 => ?_)
        · skip
          exact R_v X hr hk hM (by rw [← kb, qLp_o c_3]) dX12_some_43
        · skip
          refine lv_aload_n hx hb dX12_some_20 rfl (lv_at hl 0 rfl) ?_
          refine lv_dup hx hb dX12_some_21 rfl ?_
          refine r_get (T := TX12) (N := 20) (ci := 12) (v := .int (nI (qS qb))) X hM iX12 rfl 7 (by decide) q_842 (Or.inl rfl) (mup_r (X.2.ne (i := 46) (j := 47) (by decide) (by decide) (by decide)) (mup_s _ _ _)) rfl dX12_some_22 ?_
          refine lv_iconst (v := 1) hx hb dX12_some_25 (by decide) ?_
          refine lv_iadd hx hb dX12_some_26 ?_
          rw [show (nI (qS qb)) + (1 : Int32) = nI ((qS qb) + 1) from nI_add (qS qb) 1]
          refine r_put (T := TX12) (N := 20) (ci := 12) X hM iX12 tyX12 tyX12_ok nmX12 rfl 7 (by decide) q_842 rfl (Or.inl rfl) (mup_r (X.2.ne (i := 46) (j := 47) (by decide) (by decide) (by decide)) (mup_s _ _ _)) rfl rfl (Nat.le_of_ble_eq_true rfl) dX12_some_27 (fun H locs hM => ?_)
          rw [mup_w _ _ _ (X.2.ne (i := 47) (j := 46) (by decide) (by decide) (by decide)), mup_i] at hM
          have hM : MW g (mup (mup M (gA g 46) (mdE g m0 m1 m2 (nI a) (nI ((qS qb) + 1)) (nI en) (qZ qb) 3 m8 m9 m10 m11)) (gA g 47) (aI g 929 (cnt f a tu cl (qL qb)))) H locs := hM
          refine lv_aload_n hx hb dX12_some_30 rfl (lv_at hl 0 rfl) ?_
          refine K_v (G_V (As := []) (rest := []) X hM (c_X12_every_2 l g _ m0 m1 m2 m8 m9 m10 m11 a en f tu cl ((qS qb) + 1, qZ qb, qL qb) (mup_r (X.2.ne (i := 46) (j := 47) (by decide) (by decide) (by decide)) (mup_s _ _ _)) (mup_s _ _ _) ⟨(mHe_lt (c_3) (by decide)), Nat.le_trans hVb.2.1 (Nat.le_succ _), hVb.2.2⟩ hen ha hf) lk_X12_105 (mup_r (X.2.ne (i := 46) (j := 47) (by decide) (by decide) (by decide)) (mup_s _ _ _)) rfl rfl hl.1 rfl (Nat.le_of_ble_eq_true rfl) (by decide) dX12_some_31 ⟨Nat.le_of_ble_eq_true rfl, Nat.le_of_ble_eq_true rfl⟩) hM (fun M1 H locs hM hp => ?_)
          subst hp
          rw [mup_w _ _ _ (X.2.ne (i := 47) (j := 46) (by decide) (by decide) (by decide)), mup_i] at hM
          rw [mup_i] at hM
          have hM : MW g (mup (mup M (gA g 46) (mdE g m0 m1 m2 (nI a) (nI (qS (qEv f en (qFac f en 2) ((qS qb) + 1, qZ qb, qL qb)))) (nI en) (qZ (qEv f en (qFac f en 2) ((qS qb) + 1, qZ qb, qL qb))) 3 m8 m9 m10 m11)) (gA g 47) (aI g 929 (cnt f a tu cl (qL (qEv f en (qFac f en 2) ((qS qb) + 1, qZ qb, qL qb)))))) H locs := hM
          obtain ⟨qn_4, e_qn_4⟩ : ∃ z : Q9, z = qEv f en (qFac f en 2) ((qS qb) + 1, qZ qb, qL qb) := ⟨_, rfl⟩
          have hM : MW g (mup (mup M (gA g 46) (mdE g m0 m1 m2 (nI a) (nI (qS qn_4)) (nI en) (qZ qn_4) 3 m8 m9 m10 m11)) (gA g 47) (aI g 929 (cnt f a tu cl (qL qn_4)))) H locs := by rw [e_qn_4]; exact hM
          have V_qn_4 : VQ en qn_4 ∧ LQ ((qS qb) + 1, qZ qb, qL qb) qn_4 := by rw [e_qn_4]; exact ((qEv_good (qFac_good 2)) _ ⟨(mHe_lt (c_3) (by decide)), Nat.le_trans hVb.2.1 (Nat.le_succ _), hVb.2.2⟩)
          refine lv_aload_n hx hb dX12_some_34 rfl (lv_at hl 0 rfl) ?_
          refine lv_bipush (v := -3) hx hb dX12_some_35 (by decide) ?_
          have hG := V_qn_4
          refine K_v (G_V (As := [.int (-3)]) (rest := []) X hM (c_X12_emitsQ l g _ m0 m1 m2 3 m8 m9 m10 m11 a en f tu cl qn_4 (-3) (mup_r (X.2.ne (i := 46) (j := 47) (by decide) (by decide) (by decide)) (mup_s _ _ _)) (mup_s _ _ _) hG.1 hen ha hf (by have h7 := hG.1.1; have h6 := hG.1.2.1; omega)) lk_X12_88 (mup_r (X.2.ne (i := 46) (j := 47) (by decide) (by decide) (by decide)) (mup_s _ _ _)) rfl rfl hl.1 rfl (Nat.le_of_ble_eq_true rfl) (by decide) dX12_some_37 ⟨Nat.le_of_ble_eq_true rfl, Nat.le_of_ble_eq_true rfl⟩) hM (fun M1 H locs hM hp => ?_)
          subst hp
          rw [mup_w _ _ _ (X.2.ne (i := 47) (j := 46) (by decide) (by decide) (by decide)), mup_i] at hM
          rw [mup_i] at hM
          have hM : MW g (mup (mup M (gA g 46) (mdE g m0 m1 m2 (nI a) (nI (qS (qEm qn_4 (-3)))) (nI en) (qZ (qEm qn_4 (-3))) 3 m8 m9 m10 m11)) (gA g 47) (aI g 929 (cnt f a tu cl (qL (qEm qn_4 (-3)))))) H locs := hM
          obtain ⟨qn_5, e_qn_5⟩ : ∃ z : Q9, z = qEm qn_4 (-3) := ⟨_, rfl⟩
          have hM : MW g (mup (mup M (gA g 46) (mdE g m0 m1 m2 (nI a) (nI (qS qn_5)) (nI en) (qZ qn_5) 3 m8 m9 m10 m11)) (gA g 47) (aI g 929 (cnt f a tu cl (qL qn_5)))) H locs := by rw [e_qn_5]; exact hM
          refine lv_goto (tgt := 4) hx hb dX12_some_40 (by decide) ?_
          have hi0 : 0 < i := by have := mHe_lt (x := 124) c_3 (by decide); omega
          have h8 : qS qb + 1 ≤ qS qn_4 := hG.2.1
          have h7 : (qL qn_4).length + (qS qb + 1) ≤ (qL qb).length + qS qn_4 := hG.2.2
          have h6 : qS qn_5 = qS qn_4 := by rw [e_qn_5]; rfl
          have V9 : VQ en qn_5 ∧ LQ qb qn_5 := by rw [e_qn_5]; exact qEm_V hVb hG.1 (by omega) h7
          exact ih (i - 1) qn_5 V9.1 (by omega) (by rw [← kb, qLp_i c_2 c_3 hi0]; (try rw [← e_qn_1]); (try rw [← e_qn_4]); (try rw [← e_qn_5]); first | done | rfl) _ _ hM _ (lv_sub hl [0] rfl) (by omega)
  exact L4 (101 + 1) 101 qn_1 V_qn_1.1 (by omega) (by unfold qSo; (try rw [← e_qn_1]); first | done | rfl) _ _ hM _ (lv_sub hl [0] rfl) (by first | exact Nat.lt_succ_self _ | omega)
