def mTh (f : Nat → Int32) (t : Nat) : Nat := (mTrn f (nI t)).toNatClampNeg
theorem StOk.div {f : Nat → Int32} (h : StOk f) : ∃ d : Nat, 1 ≤ d ∧ d ≤ 99 ∧ (if mTel f 214 1 = 0 then 1 else mTel f 214 1) = nI d := by
  rcases h with h | ⟨a, n, tu, cl, h⟩
  · refine ⟨1, by omega, by omega, ?_⟩
    rw [mTel, if_pos h]
    decide
  · obtain ⟨h1, h2, -, -, h5, h6, -⟩ := h
    have e : mTel f 214 1 = nI tu := by rw [mTel, h2, if_neg (nI_m1 (by omega)), nI_clamp (by omega), h5]
    rw [e]
    by_cases q : tu = 0
    · subst q
      exact ⟨1, by omega, by omega, rfl⟩
    · exact ⟨tu, by omega, h6, if_neg (nI_ne0 (by omega) (by omega))⟩
theorem mTrn_th {f : Nat → Int32} (h : StOk f) {t : Nat} (ht : t < 20000) : mTrn f (nI t) = nI (mTh f t) ∧ mTh f t ≤ 1 := by
  obtain ⟨d, h1, h2, e⟩ := h.div
  have e2 : mTrn f (nI t) = nI (t / d % 2) := by
    rw [mTrn, e, pk_div (by omega) (by omega) (by omega)]
    have := Nat.div_le_self t d
    exact iR_nI (d := 2) (by omega) (by decide) (by decide)
  have e3 : mTh f t = t / d % 2 := by rw [mTh, e2, nI_clamp (by omega)]
  exact ⟨by rw [e3, e2], by omega⟩
def mGo (f : Nat → Int32) (L : Nat) (cl : Int32) (t : Nat) : Nat → Int32 := upd (upd f (1 + mTh f t) (f (1 + mTh f t) + mHas f L cl t (nI (mTh f t)))) 0 (nI (t + 1))
def mGoN (f : Nat → Int32) (L : Nat) (cl : Int32) (t : Nat) : Nat → (Nat → Int32)
  | 0 => f
  | i + 1 => mGo (mGoN f L cl t i) L cl (t + i)
theorem mGo_0 (f : Nat → Int32) (L : Nat) (cl : Int32) (t : Nat) : mGo f L cl t 0 = nI (t + 1) := upd_eq
theorem mGo_hi {f : Nat → Int32} (L : Nat) (cl : Int32) {t : Nat} (h : mTh f t ≤ 1) {q : Nat} (hq : 3 ≤ q) : mGo f L cl t q = f q := by
  unfold mGo
  rw [upd_ne (by omega), upd_ne (by omega)]
theorem mTop_congr {g h : Nat → Int32} : ∀ n, (∀ i, i < n → g i = h i) → mTop g n = mTop h n := fun n => by
  induction n with
  | zero => intro _; rfl
  | succ n ih =>
    intro e
    show tpN (g n) (mTop g n) = tpN (h n) (mTop h n)
    rw [ih (fun i hi => e i (by omega)), e n (by omega)]
theorem mCo_congr {f f' : Nat → Int32} (h : ∀ k, 9 ≤ k → f' k = f k) (a : Nat) : mCo f' a = mCo f a := funext fun i => h _ (by omega)
theorem HdOk.lo {f f' : Nat → Int32} {a n tu cl : Nat} (h : HdOk f a n tu cl) (e : ∀ k, 9 ≤ k → f' k = f k) : HdOk f' a n tu cl := by
  obtain ⟨h1, h2, h3, h4, h5, h6, h7, h8, h9⟩ := h
  exact ⟨h1, by rw [e _ (by omega)]; exact h2, by rw [e _ (by omega)]; exact h3, h4, by rw [e _ (by omega)]; exact h5, h6, by rw [e _ (by omega)]; exact h7, h8, by rw [mCo_congr e a]; exact h9⟩
theorem StOk.lo {f f' : Nat → Int32} (h : StOk f) (e : ∀ k, 9 ≤ k → f' k = f k) : StOk f' := by
  rcases h with h | ⟨a, n, tu, cl, h⟩
  · exact Or.inl (by rw [e _ (by omega)]; exact h)
  · exact Or.inr ⟨a, n, tu, cl, h.lo e⟩
theorem MOk.lo {f f' : Nat → Int32} {L : Nat} (h : MOk f L) (e : ∀ k, 9 ≤ k → f' k = f k) : MOk f' L := ⟨by rw [e _ (by omega)]; exact h.1, h.2.1, fun j hj => by rw [e _ (by omega)]; exact h.2.2.1 j hj, h.2.2.2.lo e⟩
theorem mGoN_ok {f : Nat → Int32} {L : Nat} (hO : MOk f L) (cl : Int32) {t : Nat} (h0 : f 0 = nI t) (ht : t < 10100) : ∀ i, i ≤ 900 → mGoN f L cl t i 0 = nI (t + i) ∧ (∀ q, 3 ≤ q → mGoN f L cl t i q = f q) ∧ MOk (mGoN f L cl t i) L := fun i => by
  induction i with
  | zero => exact fun _ => ⟨h0, fun _ _ => rfl, hO⟩
  | succ i ih =>
    intro hi
    obtain ⟨h1, h2, h3⟩ := ih (by omega)
    have h4 := (mTrn_th h3.2.2.2 (t := t + i) (by omega)).2
    have h5 : ∀ q, 3 ≤ q → mGoN f L cl t (i + 1) q = f q := fun q hq => (mGo_hi L cl h4 hq).trans (h2 q hq)
    exact ⟨mGo_0 _ _ _ _, h5, hO.lo fun k hk => h5 k (by omega)⟩
def mWi (x : Int32) : Int32 := if 0 ≤ x then (if x ≤ 9999999 then x else 9999999) else 0
def mPaS (h : Nat → Int32) : Nat → Int32 := upd (upd h 1 (mWi (h 1))) 2 (mWi (upd h 1 (mWi (h 1)) 2))
def mPa (f : Nat → Int32) (L : Nat) (cl : Int32) (t : Nat) : Nat → (Nat → Int32)
  | 0 => f
  | i + 1 => mPaS (mGo (mPa f L cl t i) L cl (t + i))
theorem mPa_ok {f : Nat → Int32} {L : Nat} (hO : MOk f L) (cl : Int32) {t : Nat} (h0 : f 0 = nI t) (ht : t < 10100) : ∀ i, i ≤ 900 → mPa f L cl t i 0 = nI (t + i) ∧ (∀ q, 3 ≤ q → mPa f L cl t i q = f q) ∧ MOk (mPa f L cl t i) L := fun i => by
  induction i with
  | zero => exact fun _ => ⟨h0, fun _ _ => rfl, hO⟩
  | succ i ih =>
    intro hi
    obtain ⟨h1, h2, h3⟩ := ih (by omega)
    have h4 := (mTrn_th h3.2.2.2 (t := t + i) (by omega)).2
    have h5 : ∀ q, 3 ≤ q → mPa f L cl t (i + 1) q = f q := fun q hq => by
      show mPaS _ q = _
      unfold mPaS
      rw [upd_ne (by omega), upd_ne (by omega)]
      exact (mGo_hi L cl h4 hq).trans (h2 q hq)
    refine ⟨?_, h5, hO.lo fun k hk => h5 k (by omega)⟩
    show mPaS _ 0 = _
    unfold mPaS
    rw [upd_ne (by omega), upd_ne (by omega)]
    exact mGo_0 _ _ _ _
def mCl (f : Nat → Int32) : Int32 := mTel f 219 0
def mPass (f : Nat → Int32) (L t : Nat) (n : Int32) : Int32 × (Nat → Int32) := if fIn n 0 60 = 0 then (-2, f) else if nI (t + n.toNatClampNeg) ≤ 9999 then (nI (t + n.toNatClampNeg), mPa f L (mCl f) t n.toNatClampNeg) else (-3, f)

theorem lk_X12_165 : LkV RX12 165 yX12_hasOn cX12_hasOn 5 (some .int) 2 := lkV_of q_1040 q_1042 qs_32 q_7 q_1043 ⟨by decide, by decide, by decide +kernel⟩ (by decide)
theorem lk_X12_168 : LkV RX12 168 yX12_goes cX12_goes 2 none 0 := lkV_of q_1048 q_1050 qs_33 q_7 q_1051 ⟨by decide, by decide, by decide +kernel⟩ (by decide)
theorem lk_X12_155 : LkV RX12 155 yX12_asItIs cX12_asItIs 1 none 0 := lkV_of q_1024 q_1026 qs_28 q_7 q_1027 ⟨by decide, by decide, by decide +kernel⟩ (by decide)
theorem lk_X12_172 : LkS RX12 172 yX12_within cX12_within 3 (some .int) 3 := lkS_of q_1053 q_1054 q_7 q_1055 ⟨rfl, by decide, by decide, by decide +kernel⟩ (by decide)
set_option maxHeartbeats 4000000 in
set_option maxRecDepth 100000 in
theorem c_X12_goes (l : Launch) (g : Gp) (M : Mem) (m0 m1 m2 m3 m4 m5 m6 m7 m8 m9 m10 m11 : Int32) (f : Nat → Int32) (L : Nat) (t : Nat) (by_ tr : Nat → Int32) (h46 : M (gA g 46) = some (mdE g m0 m1 m2 m3 m4 m5 m6 m7 m8 m9 m10 m11)) (h47 : M (gA g 47) = some (aI g 929 f)) (h50 : M (gA g 50) = some (aI g 6 by_)) (h51 : M (gA g 51) = some (aZ g 64 tr)) (hO : MOk f L) (h0 : f 0 = nI t) (ht : t < 20000) : Met l yX12_goes (wsM yX12_goes cX12_goes 2 none) (rmD 5 0 0) (Pre g M [.ref (gA g 46)]) (Qv g (fun M1 => ∃ (y0 : Nat → Int32) (y1 : Nat → Int32), mup (mup (mup M (gA g 50) (aI g 6 y0)) (gA g 51) (aZ g 64 y1)) (gA g 47) (aI g 929 (mGo f L m2 t)) = M1)) 0 0 (gF g) := M_start (by decide +kernel) (Nat.le_of_ble_eq_true rfl) fun p e s m args below meth c ls X hr hk hnm hM hl => by
  have X : Cx g p m c cX12_goes 2 s args RX12 := X
  have hx := X.1.1
  have hb := X.1.2.1
  have hl : lv_has ls 2 [(0, .ref (gA g 46))] := hl
  obtain ⟨h9, hL, hR, hS⟩ := id hO
  have hth := mTrn_th hS ht
  have hth2 := hth.2
  refine lv_aload_n hx hb dX12_goes_0 rfl (lv_at hl 0 rfl) ?_
  refine lv_aload_n hx hb dX12_goes_1 rfl (lv_at hl 0 rfl) ?_
  refine r_get (T := TX12) (N := 20) (ci := 12) (v := .ref (gA g 47)) X hM iX12 rfl 1 (by decide) q_836 (Or.inl rfl) h46 rfl dX12_goes_2 ?_
  refine lv_iconst (v := 0) hx hb dX12_goes_5 (by decide) ?_
  refine r_iald (i := 0) X hM h47 (vp_in_nI (n := 0) (by decide) (by decide)) dX12_goes_6 ?_
  rw [show ((0 : Int32)).toNatClampNeg = 0 from by decide]
  rw [h0]
  refine K_i (G_V (As := [.int (nI t)]) (rest := []) X hM (c_X12_turnOn l g _ m0 m1 m2 m3 m4 m5 m6 m7 m8 m9 m10 m11 f (nI t) h46 h47 hS.hd) lk_X12_158 h46 rfl rfl hl.1 rfl (Nat.le_of_ble_eq_true rfl) (by decide) dX12_goes_7 ⟨Nat.le_of_ble_eq_true rfl, Nat.le_of_ble_eq_true rfl⟩) hM (fun r M1 H locs hM hp => ?_)
  obtain ⟨rfl, rfl⟩ := hp
  rw [show mTrn f (nI t) = nI (mTh f t) from hth.1]
  refine lv_istore_n (lv' := [(1, .int (nI (mTh f t))), (0, .ref (gA g 46))]) hx hb dX12_goes_10 rfl hl (by decide) rfl (fun ls hl => ?_)
  refine lv_aload_n hx hb dX12_goes_11 rfl (lv_at hl 1 rfl) ?_
  refine r_get (T := TX12) (N := 20) (ci := 12) (v := .ref (gA g 47)) X hM iX12 rfl 1 (by decide) q_836 (Or.inl rfl) h46 rfl dX12_goes_12 ?_
  refine lv_iconst (v := 1) hx hb dX12_goes_15 (by decide) ?_
  refine lv_iload_n hx hb dX12_goes_16 rfl (lv_at hl 0 rfl) ?_
  refine lv_iadd hx hb dX12_goes_17 ?_
  rw [show (1 : Int32) + (nI (mTh f t)) = nI (1 + (mTh f t)) from nI_add 1 (mTh f t)]
  refine lv_dup2_11 hx hb dX12_goes_18 rfl rfl ?_
  refine r_iald (i := nI (1 + (mTh f t))) X hM h47 (vp_in_nI (by omega) (by decide)) dX12_goes_19 ?_
  rw [nI_clamp (show 1 + (mTh f t) < 2147483648 by omega)]
  refine lv_aload_n hx hb dX12_goes_20 rfl (lv_at hl 1 rfl) ?_
  refine lv_aload_n hx hb dX12_goes_21 rfl (lv_at hl 1 rfl) ?_
  refine r_get (T := TX12) (N := 20) (ci := 12) (v := .ref (gA g 47)) X hM iX12 rfl 1 (by decide) q_836 (Or.inl rfl) h46 rfl dX12_goes_22 ?_
  refine lv_iconst (v := 0) hx hb dX12_goes_25 (by decide) ?_
  refine r_iald (i := 0) X hM h47 (vp_in_nI (n := 0) (by decide) (by decide)) dX12_goes_26 ?_
  rw [show ((0 : Int32)).toNatClampNeg = 0 from by decide]
  rw [h0]
  refine lv_iload_n hx hb dX12_goes_27 rfl (lv_at hl 0 rfl) ?_
  refine K_i (G_V (As := [.int (nI t), .int (nI (mTh f t))]) (rest := [.int (f (1 + (mTh f t))), .int (nI (1 + (mTh f t))), .ref (gA g 47)]) X hM (c_X12_hasOn l g _ m0 m1 m2 m3 m4 m5 m6 m7 m8 m9 m10 m11 f L t (nI (mTh f t)) by_ tr h46 h47 h50 h51 hO ht) lk_X12_165 h46 rfl rfl hl.1 rfl (Nat.le_of_ble_eq_true rfl) (by decide) dX12_goes_28 ⟨Nat.le_of_ble_eq_true rfl, Nat.le_of_ble_eq_true rfl⟩) hM (fun r M1 H locs hM hp => ?_)
  obtain ⟨y0_1, y1_2, rfl, rfl⟩ := hp
  have hM : MW g (mup (mup M (gA g 50) (aI g 6 y0_1)) (gA g 51) (aZ g 64 y1_2)) H locs := hM
  refine lv_iadd hx hb dX12_goes_31 ?_
  refine r_iast (i := nI (1 + (mTh f t))) (x := (f (1 + (mTh f t))) + (mHas f L m2 t (nI (mTh f t)))) X hM (mup_r (X.2.ne (i := 47) (j := 51) (by decide) (by decide) (by decide)) (mup_r (X.2.ne (i := 47) (j := 50) (by decide) (by decide) (by decide)) h47)) (vp_in_nI (by omega) (by decide)) dX12_goes_32 (fun H locs hM => ?_)
  rw [nI_clamp (show 1 + (mTh f t) < 2147483648 by omega)] at hM
  have hM : MW g (mup (mup (mup M (gA g 50) (aI g 6 y0_1)) (gA g 51) (aZ g 64 y1_2)) (gA g 47) (aI g 929 (upd f (1 + (mTh f t)) ((f (1 + (mTh f t))) + (mHas f L m2 t (nI (mTh f t))))))) H locs := hM
  refine lv_aload_n hx hb dX12_goes_33 rfl (lv_at hl 1 rfl) ?_
  refine r_get (T := TX12) (N := 20) (ci := 12) (v := .ref (gA g 47)) X hM iX12 rfl 1 (by decide) q_836 (Or.inl rfl) (mup_r (X.2.ne (i := 46) (j := 47) (by decide) (by decide) (by decide)) (mup_r (X.2.ne (i := 46) (j := 51) (by decide) (by decide) (by decide)) (mup_r (X.2.ne (i := 46) (j := 50) (by decide) (by decide) (by decide)) h46))) rfl dX12_goes_34 ?_
  refine lv_iconst (v := 0) hx hb dX12_goes_37 (by decide) ?_
  refine lv_dup2_11 hx hb dX12_goes_38 rfl rfl ?_
  refine r_iald (i := 0) X hM (mup_s _ _ _) (vp_in_nI (n := 0) (by decide) (by decide)) dX12_goes_39 ?_
  rw [show ((0 : Int32)).toNatClampNeg = 0 from by decide]
  rw [show upd f (1 + mTh f t) (f (1 + mTh f t) + mHas f L m2 t (nI (mTh f t))) 0 = nI t from by rw [upd_ne (by omega)]; exact h0]
  refine lv_iconst (v := 1) hx hb dX12_goes_40 (by decide) ?_
  refine lv_iadd hx hb dX12_goes_41 ?_
  rw [show (nI t) + (1 : Int32) = nI (t + 1) from nI_add t 1]
  refine r_iast (i := 0) (x := nI (t + 1)) X hM (mup_s _ _ _) (vp_in_nI (n := 0) (by decide) (by decide)) dX12_goes_42 (fun H locs hM => ?_)
  rw [show ((0 : Int32)).toNatClampNeg = 0 from by decide] at hM
  rw [mup_i] at hM
  have hM : MW g (mup (mup (mup M (gA g 50) (aI g 6 y0_1)) (gA g 51) (aZ g 64 y1_2)) (gA g 47) (aI g 929 (upd (upd f (1 + (mTh f t)) ((f (1 + (mTh f t))) + (mHas f L m2 t (nI (mTh f t))))) 0 (nI (t + 1))))) H locs := hM
  exact R_v X hr hk hM ⟨_, _, rfl⟩ dX12_goes_43
set_option maxHeartbeats 4000000 in
set_option maxRecDepth 100000 in
theorem c_X12_goesOn (l : Launch) (g : Gp) (M : Mem) (m0 m1 m2 m3 m4 m5 m6 m7 m8 m9 m10 m11 : Int32) (f : Nat → Int32) (L : Nat) (t : Nat) (by_ tr : Nat → Int32) (k : Nat) (h46 : M (gA g 46) = some (mdE g m0 m1 m2 m3 m4 m5 m6 m7 m8 m9 m10 m11)) (h47 : M (gA g 47) = some (aI g 929 f)) (h50 : M (gA g 50) = some (aI g 6 by_)) (h51 : M (gA g 51) = some (aZ g 64 tr)) (hO : MOk f L) (h0 : f 0 = nI t) (ht : t < 10100) (hk9 : k ≤ 60) : Met l yX12_goesOn (wsM yX12_goesOn cX12_goesOn 3 none) (rmD 6 0 0) (Pre g M [.ref (gA g 46), .int (nI k)]) (Qv g (fun M1 => ∃ (y0 : Nat → Int32) (y1 : Nat → Int32), mup (mup (mup M (gA g 50) (aI g 6 y0)) (gA g 51) (aZ g 64 y1)) (gA g 47) (aI g 929 (mGoN f L m2 t k)) = M1)) 0 0 (gF g) := M_start (by decide +kernel) (Nat.le_of_ble_eq_true rfl) fun p e s m args below meth c ls X hr hk hnm hM hl => by
  have X : Cx g p m c cX12_goesOn 3 s args RX12 := X
  have hx := X.1.1
  have hb := X.1.2.1
  have hl : lv_has ls 3 [(0, .ref (gA g 46)), (1, .int (nI k))] := hl
  refine lv_iconst (v := 0) hx hb dX12_goesOn_0 (by decide) ?_
  refine lv_istore_n (lv' := [(2, .int 0), (0, .ref (gA g 46)), (1, .int (nI k))]) hx hb dX12_goesOn_1 rfl hl (by decide) rfl (fun ls hl => ?_)
  have L2 : ∀ (fu : Nat) (i : Nat) (b0 b1 : Nat → Int32) (hi : i ≤ k) (H : Heap) (locs : List Loc) (hM : MW g (mup (mup (mup M (gA g 50) (aI g 6 b0)) (gA g 51) (aZ g 64 b1)) (gA g 47) (aI g 929 (mGoN f L m2 t i))) H locs) (ls : Array Slot) (hl : lv_has ls 3 [(0, .ref (gA g 46)), (1, .int (nI k)), (2, .int (nI i))]), k - i < fu → W p l e (rmD 6 0 0) s m args below meth c H locs 0 0 (MQ below (Qv g (fun M1 => ∃ (y0 : Nat → Int32) (y1 : Nat → Int32), mup (mup (mup M (gA g 50) (aI g 6 y0)) (gA g 51) (aZ g 64 y1)) (gA g 47) (aI g 929 (mGoN f L m2 t k)) = M1)) args s 0 0 (gF g)) (F0 m 2 ls []) := by
    intro fu
    induction fu with
    | zero => intro i b0 b1 hi H locs hM ls hl hmu; exact absurd hmu (Nat.not_lt_zero _)
    | succ fu ih =>
      intro i b0 b1 hi H locs hM ls hl hmu
      refine lv_iload_n hx hb dX12_goesOn_2 rfl (lv_at hl 2 rfl) ?_
      refine lv_iload_n hx hb dX12_goesOn_3 rfl (lv_at hl 1 rfl) ?_
      refine lv_icmp_ge (tgt := 17) hx hb dX12_goesOn_4 (by decide) (fun c_1 => ?_) (fun c_1 => ?_)
      · skip
        have hz1 : k ≤ i := (nI_leI (by omega) (by omega)).mp c_1
        have hz2 : i = k := by omega
        exact R_v X hr hk hM ⟨_, _, (by rw [hz2])⟩ dX12_goesOn_17
      · skip
        have hz1 : i < k := by
          rcases Nat.lt_or_ge i (k) with q | q
          · exact q
          · exact absurd ((nI_leI (by omega) (by omega)).mpr q) c_1
        refine lv_aload_n hx hb dX12_goesOn_7 rfl (lv_at hl 0 rfl) ?_
        refine K_v (G_V (As := []) (rest := []) X hM (c_X12_goes l g _ m0 m1 m2 m3 m4 m5 m6 m7 m8 m9 m10 m11 (mGoN f L m2 t i) L (t + i) b0 b1 (mup_r (X.2.ne (i := 46) (j := 47) (by decide) (by decide) (by decide)) (mup_r (X.2.ne (i := 46) (j := 51) (by decide) (by decide) (by decide)) (mup_r (X.2.ne (i := 46) (j := 50) (by decide) (by decide) (by decide)) h46))) (mup_s _ _ _) (mup_r (X.2.ne (i := 50) (j := 47) (by decide) (by decide) (by decide)) (mup_r (X.2.ne (i := 50) (j := 51) (by decide) (by decide) (by decide)) (mup_s _ _ _))) (mup_r (X.2.ne (i := 51) (j := 47) (by decide) (by decide) (by decide)) (mup_s _ _ _)) (mGoN_ok hO _ h0 (by omega) i (by omega)).2.2 (mGoN_ok hO _ h0 (by omega) i (by omega)).1 (by omega)) lk_X12_168 (mup_r (X.2.ne (i := 46) (j := 47) (by decide) (by decide) (by decide)) (mup_r (X.2.ne (i := 46) (j := 51) (by decide) (by decide) (by decide)) (mup_r (X.2.ne (i := 46) (j := 50) (by decide) (by decide) (by decide)) h46))) rfl rfl hl.1 rfl (Nat.le_of_ble_eq_true rfl) (by decide) dX12_goesOn_8 ⟨Nat.le_of_ble_eq_true rfl, Nat.le_of_ble_eq_true rfl⟩) hM (fun M1 H locs hM hp => ?_)
        obtain ⟨y0_2, y1_3, rfl⟩ := hp
        rw [mup_w _ _ _ (X.2.ne (i := 47) (j := 50) (by decide) (by decide) (by decide)), mup_w _ _ _ (X.2.ne (i := 51) (j := 50) (by decide) (by decide) (by decide)), mup_i] at hM
        rw [mup_w _ _ _ (X.2.ne (i := 47) (j := 51) (by decide) (by decide) (by decide)), mup_i] at hM
        rw [mup_i] at hM
        have hM : MW g (mup (mup (mup M (gA g 50) (aI g 6 y0_2)) (gA g 51) (aZ g 64 y1_3)) (gA g 47) (aI g 929 (mGo (mGoN f L m2 t i) L m2 (t + i)))) H locs := hM
        refine lv_iinc (v := (nI i) + 1) (lv' := [(2, .int ((nI i) + 1)), (0, .ref (gA g 46)), (1, .int (nI k))]) hx hb dX12_goesOn_11 hl (k := 2) rfl rfl (by decide) rfl (fun ls hl => ?_)
        refine lv_goto (tgt := 2) hx hb dX12_goesOn_14 (by decide) ?_
        exact ih (i + 1) y0_2 y1_3 (by omega) _ _ hM _ ((by rw [← nI_1]; exact lv_sub hl [1, 2, 0] rfl)) (by omega)
  exact L2 (k + 1) 0 by_ tr (Nat.zero_le _) _ _ (by show MW g (mup (mup (mup M (gA g 50) (aI g 6 by_)) (gA g 51) (aZ g 64 tr)) (gA g 47) (aI g 929 f)) _ _; rw [mup_id h50, mup_id h51, mup_id h47]; exact hM) _ (lv_sub hl [1, 2, 0] rfl) (by first | exact Nat.lt_succ_self _ | omega)
set_option maxHeartbeats 4000000 in
set_option maxRecDepth 100000 in
theorem c_X12_within (l : Launch) (g : Gp) (M : Mem) (x a b : Int32) : Met l yX12_within (wsM yX12_within cX12_within 3 (some .int)) (rmD 1 0 0) (Pre g M [.int x, .int a, .int b]) (Qi g (fun r M1 => (if a ≤ x then (if x ≤ b then x else b) else a) = r ∧ M = M1)) 0 0 (gF g) := M_start (by decide +kernel) (Nat.le_of_ble_eq_true rfl) fun p e s m args below meth c ls X hr hk hnm hM hl => by
  have X : Cx g p m c cX12_within 3 s args RX12 := X
  have hx := X.1.1
  have hb := X.1.2.1
  have hl : lv_has ls 3 [(0, .int x), (1, .int a), (2, .int b)] := hl
  refine lv_iload_n hx hb dX12_within_0 rfl (lv_at hl 0 rfl) ?_
  refine lv_iload_n hx hb dX12_within_1 rfl (lv_at hl 1 rfl) ?_
  refine lv_icmp_ge (tgt := 9) hx hb dX12_within_2 (by decide) (fun c_1 => ?_) (fun c_1 => ?_)
  · skip
    refine lv_iload_n hx hb dX12_within_9 rfl (lv_at hl 0 rfl) ?_
    refine lv_iload_n hx hb dX12_within_10 rfl (lv_at hl 2 rfl) ?_
    refine lv_icmp_le (tgt := 18) hx hb dX12_within_11 (by decide) (fun c_2 => ?_) (fun c_2 => ?_)
    · skip
      refine lv_iload_n hx hb dX12_within_18 rfl (lv_at hl 0 rfl) ?_
      exact R_i X hr hk hM ⟨(by (first | rw [if_pos c_1] | rw [if_neg c_1] | skip); (first | rw [if_pos c_2] | rw [if_neg c_2] | skip)), rfl⟩ dX12_within_19
    · skip
      refine lv_iload_n hx hb dX12_within_14 rfl (lv_at hl 2 rfl) ?_
      refine lv_goto (tgt := 19) hx hb dX12_within_15 (by decide) ?_
      exact R_i X hr hk hM ⟨(by (first | rw [if_pos c_1] | rw [if_neg c_1] | skip); (first | rw [if_pos c_2] | rw [if_neg c_2] | skip)), rfl⟩ dX12_within_19
  · skip
    refine lv_iload_n hx hb dX12_within_5 rfl (lv_at hl 1 rfl) ?_
    refine lv_goto (tgt := 19) hx hb dX12_within_6 (by decide) ?_
    exact R_i X hr hk hM ⟨(by (first | rw [if_pos c_1] | rw [if_neg c_1] | skip)), rfl⟩ dX12_within_19
set_option maxHeartbeats 4000000 in
set_option maxRecDepth 100000 in
theorem c_X12_pass (l : Launch) (g : Gp) (M : Mem) (m0 m1 m2 m3 m4 m5 m6 m7 m8 m9 m10 m11 : Int32) (f : Nat → Int32) (L : Nat) (t : Nat) (by_ tr : Nat → Int32) (n : Int32) (h46 : M (gA g 46) = some (mdE g m0 m1 m2 m3 m4 m5 m6 m7 m8 m9 m10 m11)) (h47 : M (gA g 47) = some (aI g 929 f)) (h50 : M (gA g 50) = some (aI g 6 by_)) (h51 : M (gA g 51) = some (aZ g 64 tr)) (hO : MOk f L) (h0 : f 0 = nI t) (ht : t < 10000) : Met l yX12_pass (wsM yX12_pass cX12_pass 3 (some .int)) (rmD 6 0 0) (Pre g M [.ref (gA g 46), .int n]) (Qi g (fun r M1 => ∃ (y2 : Int32) (y0 : Nat → Int32) (y1 : Nat → Int32), ((mPass f L t n).1) = r ∧ mup (mup (mup (mup M (gA g 46) (mdE g m0 m1 y2 m3 m4 m5 m6 m7 m8 m9 m10 m11)) (gA g 50) (aI g 6 y0)) (gA g 51) (aZ g 64 y1)) (gA g 47) (aI g 929 ((mPass f L t n).2)) = M1)) 0 0 (gF g) := M_start (by decide +kernel) (Nat.le_of_ble_eq_true rfl) fun p e s m args below meth c ls X hr hk hnm hM hl => by
  have X : Cx g p m c cX12_pass 3 s args RX12 := X
  have hx := X.1.1
  have hb := X.1.2.1
  have hl : lv_has ls 3 [(0, .ref (gA g 46)), (1, .int n)] := hl
  obtain ⟨h9, hL, hR, hS⟩ := id hO
  refine lv_iload_n hx hb dX12_pass_0 rfl (lv_at hl 1 rfl) ?_
  refine lv_iconst (v := 0) hx hb dX12_pass_1 (by decide) ?_
  refine lv_bipush (v := 60) hx hb dX12_pass_2 (by decide) ?_
  refine K_i (G_S (As := [.int n, .int 0, .int 60]) (rest := []) X hM (c_X12_in l g _ n 0 60  ) lk_X12_41 rfl hl.1 rfl (Nat.le_of_ble_eq_true rfl) (by decide) dX12_pass_4 ⟨Nat.le_of_ble_eq_true rfl, Nat.le_of_ble_eq_true rfl⟩) hM (fun r M1 H locs hM hp => ?_)
  obtain ⟨rfl, rfl⟩ := hp
  refine lv_if_ne (tgt := 13) hx hb dX12_pass_7 (by decide) (fun c_1 => ?_) (fun c_1 => ?_)
  · skip
    obtain ⟨k, bk, rfl⟩ := fIn_k (K := 60) (by decide) c_1
    have hcq : (nI k).toNatClampNeg = k := nI_clamp (by omega)
    refine lv_aload_n hx hb dX12_pass_13 rfl (lv_at hl 0 rfl) ?_
    refine r_get (T := TX12) (N := 20) (ci := 12) (v := .ref (gA g 47)) X hM iX12 rfl 1 (by decide) q_836 (Or.inl rfl) h46 rfl dX12_pass_14 ?_
    refine lv_iconst (v := 0) hx hb dX12_pass_17 (by decide) ?_
    refine r_iald (i := 0) X hM h47 (vp_in_nI (n := 0) (by decide) (by decide)) dX12_pass_18 ?_
    rw [show ((0 : Int32)).toNatClampNeg = 0 from by decide]
    rw [h0]
    refine lv_iload_n hx hb dX12_pass_19 rfl (lv_at hl 1 rfl) ?_
    refine lv_iadd hx hb dX12_pass_20 ?_
    rw [show (nI t) + (nI k) = nI (t + k) from nI_add t k]
    refine lv_sipush (v := 9999) hx hb dX12_pass_21 (by decide) ?_
    refine lv_icmp_le (tgt := 30) hx hb dX12_pass_24 (by decide) (fun c_2 => ?_) (fun c_2 => ?_)
    · skip
      refine lv_aload_n hx hb dX12_pass_30 rfl (lv_at hl 0 rfl) ?_
      refine K_v (G_V (As := []) (rest := []) X hM (c_X12_asItIs l g _ m0 m1 m2 m3 m4 m5 m6 m7 m8 m9 m10 m11 f h46 h47 hS.hd) lk_X12_155 h46 rfl rfl hl.1 rfl (Nat.le_of_ble_eq_true rfl) (by decide) dX12_pass_31 ⟨Nat.le_of_ble_eq_true rfl, Nat.le_of_ble_eq_true rfl⟩) hM (fun M1 H locs hM hp => ?_)
      subst hp
      have hM : MW g (mup M (gA g 46) (mdE g m0 m1 (mTel f 219 0) m3 m4 m5 m6 m7 m8 m9 m10 m11)) H locs := hM
      refine lv_iconst (v := 0) hx hb dX12_pass_34 (by decide) ?_
      refine lv_istore_n (lv' := [(2, .int 0), (0, .ref (gA g 46)), (1, .int (nI k))]) hx hb dX12_pass_35 rfl hl (by decide) rfl (fun ls hl => ?_)
      have L36 : ∀ (fu : Nat) (i : Nat) (b0 b1 : Nat → Int32) (hi : i ≤ k) (H : Heap) (locs : List Loc) (hM : MW g (mup (mup (mup (mup M (gA g 46) (mdE g m0 m1 (mCl f) m3 m4 m5 m6 m7 m8 m9 m10 m11)) (gA g 50) (aI g 6 b0)) (gA g 51) (aZ g 64 b1)) (gA g 47) (aI g 929 (mPa f L (mCl f) t i))) H locs) (ls : Array Slot) (hl : lv_has ls 3 [(0, .ref (gA g 46)), (1, .int (nI k)), (2, .int (nI i))]), k - i < fu → W p l e (rmD 6 0 0) s m args below meth c H locs 0 0 (MQ below (Qi g (fun r M1 => ∃ (y2 : Int32) (y0 : Nat → Int32) (y1 : Nat → Int32), ((mPass f L t (nI k)).1) = r ∧ mup (mup (mup (mup M (gA g 46) (mdE g m0 m1 y2 m3 m4 m5 m6 m7 m8 m9 m10 m11)) (gA g 50) (aI g 6 y0)) (gA g 51) (aZ g 64 y1)) (gA g 47) (aI g 929 ((mPass f L t (nI k)).2)) = M1)) args s 0 0 (gF g)) (F0 m 36 ls []) := by
        intro fu
        induction fu with
        | zero => intro i b0 b1 hi H locs hM ls hl hmu; exact absurd hmu (Nat.not_lt_zero _)
        | succ fu ih =>
          intro i b0 b1 hi H locs hM ls hl hmu
          refine lv_iload_n hx hb dX12_pass_36 rfl (lv_at hl 2 rfl) ?_
          refine lv_iload_n hx hb dX12_pass_37 rfl (lv_at hl 1 rfl) ?_
          refine lv_icmp_ge (tgt := 87) hx hb dX12_pass_38 (by decide) (fun c_3 => ?_) (fun c_3 => ?_)
          · skip
            have hz1 : k ≤ i := (nI_leI (by omega) (by omega)).mp c_3
            have hz2 : i = k := by omega
            refine lv_aload_n hx hb dX12_pass_87 rfl (lv_at hl 0 rfl) ?_
            refine r_get (T := TX12) (N := 20) (ci := 12) (v := .ref (gA g 47)) X hM iX12 rfl 1 (by decide) q_836 (Or.inl rfl) (mup_r (X.2.ne (i := 46) (j := 47) (by decide) (by decide) (by decide)) (mup_r (X.2.ne (i := 46) (j := 51) (by decide) (by decide) (by decide)) (mup_r (X.2.ne (i := 46) (j := 50) (by decide) (by decide) (by decide)) (mup_s _ _ _)))) rfl dX12_pass_88 ?_
            refine lv_iconst (v := 0) hx hb dX12_pass_91 (by decide) ?_
            refine r_iald (i := 0) X hM (mup_s _ _ _) (vp_in_nI (n := 0) (by decide) (by decide)) dX12_pass_92 ?_
            rw [show ((0 : Int32)).toNatClampNeg = 0 from by decide]
            rw [show mPa f L (mCl f) t i 0 = nI (t + k) from by rw [hz2]; exact (mPa_ok hO _ h0 (by omega) k (by omega)).1]
            exact R_i X hr hk hM ⟨_, _, _, (by unfold mPass; simp only [hcq]; rw [if_neg c_1, if_pos c_2]), (by rw [show mPass f L t (nI k) = (nI (t + k), mPa f L (mCl f) t k) from (by unfold mPass; simp only [hcq]; rw [if_neg c_1, if_pos c_2])]; rw [hz2]; first | done | rfl)⟩ dX12_pass_93
          · skip
            have hz1 : i < k := by
              rcases Nat.lt_or_ge i (k) with q | q
              · exact q
              · exact absurd ((nI_leI (by omega) (by omega)).mpr q) c_3
            refine lv_aload_n hx hb dX12_pass_41 rfl (lv_at hl 0 rfl) ?_
            refine K_v (G_V (As := []) (rest := []) X hM (c_X12_goes l g _ m0 m1 (mCl f) m3 m4 m5 m6 m7 m8 m9 m10 m11 (mPa f L (mCl f) t i) L (t + i) b0 b1 (mup_r (X.2.ne (i := 46) (j := 47) (by decide) (by decide) (by decide)) (mup_r (X.2.ne (i := 46) (j := 51) (by decide) (by decide) (by decide)) (mup_r (X.2.ne (i := 46) (j := 50) (by decide) (by decide) (by decide)) (mup_s _ _ _)))) (mup_s _ _ _) (mup_r (X.2.ne (i := 50) (j := 47) (by decide) (by decide) (by decide)) (mup_r (X.2.ne (i := 50) (j := 51) (by decide) (by decide) (by decide)) (mup_s _ _ _))) (mup_r (X.2.ne (i := 51) (j := 47) (by decide) (by decide) (by decide)) (mup_s _ _ _)) (mPa_ok hO _ h0 (by omega) i (by omega)).2.2 (mPa_ok hO _ h0 (by omega) i (by omega)).1 (by omega)) lk_X12_168 (mup_r (X.2.ne (i := 46) (j := 47) (by decide) (by decide) (by decide)) (mup_r (X.2.ne (i := 46) (j := 51) (by decide) (by decide) (by decide)) (mup_r (X.2.ne (i := 46) (j := 50) (by decide) (by decide) (by decide)) (mup_s _ _ _)))) rfl rfl hl.1 rfl (Nat.le_of_ble_eq_true rfl) (by decide) dX12_pass_42 ⟨Nat.le_of_ble_eq_true rfl, Nat.le_of_ble_eq_true rfl⟩) hM (fun M1 H locs hM hp => ?_)
            obtain ⟨y0_4, y1_5, rfl⟩ := hp
            rw [mup_w _ _ _ (X.2.ne (i := 47) (j := 50) (by decide) (by decide) (by decide)), mup_w _ _ _ (X.2.ne (i := 51) (j := 50) (by decide) (by decide) (by decide)), mup_i] at hM
            rw [mup_w _ _ _ (X.2.ne (i := 47) (j := 51) (by decide) (by decide) (by decide)), mup_i] at hM
            rw [mup_i] at hM
            have hM : MW g (mup (mup (mup (mup M (gA g 46) (mdE g m0 m1 (mCl f) m3 m4 m5 m6 m7 m8 m9 m10 m11)) (gA g 50) (aI g 6 y0_4)) (gA g 51) (aZ g 64 y1_5)) (gA g 47) (aI g 929 (mGo (mPa f L (mCl f) t i) L (mCl f) (t + i)))) H locs := hM
            refine lv_aload_n hx hb dX12_pass_45 rfl (lv_at hl 0 rfl) ?_
            refine r_get (T := TX12) (N := 20) (ci := 12) (v := .ref (gA g 47)) X hM iX12 rfl 1 (by decide) q_836 (Or.inl rfl) (mup_r (X.2.ne (i := 46) (j := 47) (by decide) (by decide) (by decide)) (mup_r (X.2.ne (i := 46) (j := 51) (by decide) (by decide) (by decide)) (mup_r (X.2.ne (i := 46) (j := 50) (by decide) (by decide) (by decide)) (mup_s _ _ _)))) rfl dX12_pass_46 ?_
            refine lv_iconst (v := 1) hx hb dX12_pass_49 (by decide) ?_
            refine lv_aload_n hx hb dX12_pass_50 rfl (lv_at hl 0 rfl) ?_
            refine r_get (T := TX12) (N := 20) (ci := 12) (v := .ref (gA g 47)) X hM iX12 rfl 1 (by decide) q_836 (Or.inl rfl) (mup_r (X.2.ne (i := 46) (j := 47) (by decide) (by decide) (by decide)) (mup_r (X.2.ne (i := 46) (j := 51) (by decide) (by decide) (by decide)) (mup_r (X.2.ne (i := 46) (j := 50) (by decide) (by decide) (by decide)) (mup_s _ _ _)))) rfl dX12_pass_51 ?_
            refine lv_iconst (v := 1) hx hb dX12_pass_54 (by decide) ?_
            refine r_iald (i := 1) X hM (mup_s _ _ _) (vp_in_nI (n := 1) (by decide) (by decide)) dX12_pass_55 ?_
            rw [show ((1 : Int32)).toNatClampNeg = 1 from by decide]
            refine lv_iconst (v := 0) hx hb dX12_pass_56 (by decide) ?_
            refine lv_ldc (v := 9999999) hx hb X.1.2.2.2.1 (X.1.2.2.2.2 _ q_1052) dX12_pass_57 ?_
            refine K_i (G_S (As := [.int ((mGo (mPa f L (mCl f) t i) L (mCl f) (t + i)) 1), .int 0, .int 9999999]) (rest := [.int 1, .ref (gA g 47)]) X hM (c_X12_within l g _ ((mGo (mPa f L (mCl f) t i) L (mCl f) (t + i)) 1) 0 9999999  ) lk_X12_172 rfl hl.1 rfl (Nat.le_of_ble_eq_true rfl) (by decide) dX12_pass_59 ⟨Nat.le_of_ble_eq_true rfl, Nat.le_of_ble_eq_true rfl⟩) hM (fun r M1 H locs hM hp => ?_)
            obtain ⟨rfl, rfl⟩ := hp
            refine r_iast (i := 1) (x := if 0 ≤ ((mGo (mPa f L (mCl f) t i) L (mCl f) (t + i)) 1) then (if ((mGo (mPa f L (mCl f) t i) L (mCl f) (t + i)) 1) ≤ 9999999 then ((mGo (mPa f L (mCl f) t i) L (mCl f) (t + i)) 1) else 9999999) else 0) X hM (mup_s _ _ _) (vp_in_nI (n := 1) (by decide) (by decide)) dX12_pass_62 (fun H locs hM => ?_)
            rw [show ((1 : Int32)).toNatClampNeg = 1 from by decide] at hM
            rw [mup_i] at hM
            have hM : MW g (mup (mup (mup (mup M (gA g 46) (mdE g m0 m1 (mCl f) m3 m4 m5 m6 m7 m8 m9 m10 m11)) (gA g 50) (aI g 6 y0_4)) (gA g 51) (aZ g 64 y1_5)) (gA g 47) (aI g 929 (upd (mGo (mPa f L (mCl f) t i) L (mCl f) (t + i)) 1 (if 0 ≤ ((mGo (mPa f L (mCl f) t i) L (mCl f) (t + i)) 1) then (if ((mGo (mPa f L (mCl f) t i) L (mCl f) (t + i)) 1) ≤ 9999999 then ((mGo (mPa f L (mCl f) t i) L (mCl f) (t + i)) 1) else 9999999) else 0)))) H locs := hM
            refine lv_aload_n hx hb dX12_pass_63 rfl (lv_at hl 0 rfl) ?_
            refine r_get (T := TX12) (N := 20) (ci := 12) (v := .ref (gA g 47)) X hM iX12 rfl 1 (by decide) q_836 (Or.inl rfl) (mup_r (X.2.ne (i := 46) (j := 47) (by decide) (by decide) (by decide)) (mup_r (X.2.ne (i := 46) (j := 51) (by decide) (by decide) (by decide)) (mup_r (X.2.ne (i := 46) (j := 50) (by decide) (by decide) (by decide)) (mup_s _ _ _)))) rfl dX12_pass_64 ?_
            refine lv_iconst (v := 2) hx hb dX12_pass_67 (by decide) ?_
            refine lv_aload_n hx hb dX12_pass_68 rfl (lv_at hl 0 rfl) ?_
            refine r_get (T := TX12) (N := 20) (ci := 12) (v := .ref (gA g 47)) X hM iX12 rfl 1 (by decide) q_836 (Or.inl rfl) (mup_r (X.2.ne (i := 46) (j := 47) (by decide) (by decide) (by decide)) (mup_r (X.2.ne (i := 46) (j := 51) (by decide) (by decide) (by decide)) (mup_r (X.2.ne (i := 46) (j := 50) (by decide) (by decide) (by decide)) (mup_s _ _ _)))) rfl dX12_pass_69 ?_
            refine lv_iconst (v := 2) hx hb dX12_pass_72 (by decide) ?_
            refine r_iald (i := 2) X hM (mup_s _ _ _) (vp_in_nI (n := 2) (by decide) (by decide)) dX12_pass_73 ?_
            rw [show ((2 : Int32)).toNatClampNeg = 2 from by decide]
            refine lv_iconst (v := 0) hx hb dX12_pass_74 (by decide) ?_
            refine lv_ldc (v := 9999999) hx hb X.1.2.2.2.1 (X.1.2.2.2.2 _ q_1052) dX12_pass_75 ?_
            refine K_i (G_S (As := [.int ((upd (mGo (mPa f L (mCl f) t i) L (mCl f) (t + i)) 1 (if 0 ≤ ((mGo (mPa f L (mCl f) t i) L (mCl f) (t + i)) 1) then (if ((mGo (mPa f L (mCl f) t i) L (mCl f) (t + i)) 1) ≤ 9999999 then ((mGo (mPa f L (mCl f) t i) L (mCl f) (t + i)) 1) else 9999999) else 0)) 2), .int 0, .int 9999999]) (rest := [.int 2, .ref (gA g 47)]) X hM (c_X12_within l g _ ((upd (mGo (mPa f L (mCl f) t i) L (mCl f) (t + i)) 1 (if 0 ≤ ((mGo (mPa f L (mCl f) t i) L (mCl f) (t + i)) 1) then (if ((mGo (mPa f L (mCl f) t i) L (mCl f) (t + i)) 1) ≤ 9999999 then ((mGo (mPa f L (mCl f) t i) L (mCl f) (t + i)) 1) else 9999999) else 0)) 2) 0 9999999  ) lk_X12_172 rfl hl.1 rfl (Nat.le_of_ble_eq_true rfl) (by decide) dX12_pass_77 ⟨Nat.le_of_ble_eq_true rfl, Nat.le_of_ble_eq_true rfl⟩) hM (fun r M1 H locs hM hp => ?_)
            obtain ⟨rfl, rfl⟩ := hp
            refine r_iast (i := 2) (x := if 0 ≤ ((upd (mGo (mPa f L (mCl f) t i) L (mCl f) (t + i)) 1 (if 0 ≤ ((mGo (mPa f L (mCl f) t i) L (mCl f) (t + i)) 1) then (if ((mGo (mPa f L (mCl f) t i) L (mCl f) (t + i)) 1) ≤ 9999999 then ((mGo (mPa f L (mCl f) t i) L (mCl f) (t + i)) 1) else 9999999) else 0)) 2) then (if ((upd (mGo (mPa f L (mCl f) t i) L (mCl f) (t + i)) 1 (if 0 ≤ ((mGo (mPa f L (mCl f) t i) L (mCl f) (t + i)) 1) then (if ((mGo (mPa f L (mCl f) t i) L (mCl f) (t + i)) 1) ≤ 9999999 then ((mGo (mPa f L (mCl f) t i) L (mCl f) (t + i)) 1) else 9999999) else 0)) 2) ≤ 9999999 then ((upd (mGo (mPa f L (mCl f) t i) L (mCl f) (t + i)) 1 (if 0 ≤ ((mGo (mPa f L (mCl f) t i) L (mCl f) (t + i)) 1) then (if ((mGo (mPa f L (mCl f) t i) L (mCl f) (t + i)) 1) ≤ 9999999 then ((mGo (mPa f L (mCl f) t i) L (mCl f) (t + i)) 1) else 9999999) else 0)) 2) else 9999999) else 0) X hM (mup_s _ _ _) (vp_in_nI (n := 2) (by decide) (by decide)) dX12_pass_80 (fun H locs hM => ?_)
            rw [show ((2 : Int32)).toNatClampNeg = 2 from by decide] at hM
            rw [mup_i] at hM
            have hM : MW g (mup (mup (mup (mup M (gA g 46) (mdE g m0 m1 (mCl f) m3 m4 m5 m6 m7 m8 m9 m10 m11)) (gA g 50) (aI g 6 y0_4)) (gA g 51) (aZ g 64 y1_5)) (gA g 47) (aI g 929 (upd (upd (mGo (mPa f L (mCl f) t i) L (mCl f) (t + i)) 1 (if 0 ≤ ((mGo (mPa f L (mCl f) t i) L (mCl f) (t + i)) 1) then (if ((mGo (mPa f L (mCl f) t i) L (mCl f) (t + i)) 1) ≤ 9999999 then ((mGo (mPa f L (mCl f) t i) L (mCl f) (t + i)) 1) else 9999999) else 0)) 2 (if 0 ≤ ((upd (mGo (mPa f L (mCl f) t i) L (mCl f) (t + i)) 1 (if 0 ≤ ((mGo (mPa f L (mCl f) t i) L (mCl f) (t + i)) 1) then (if ((mGo (mPa f L (mCl f) t i) L (mCl f) (t + i)) 1) ≤ 9999999 then ((mGo (mPa f L (mCl f) t i) L (mCl f) (t + i)) 1) else 9999999) else 0)) 2) then (if ((upd (mGo (mPa f L (mCl f) t i) L (mCl f) (t + i)) 1 (if 0 ≤ ((mGo (mPa f L (mCl f) t i) L (mCl f) (t + i)) 1) then (if ((mGo (mPa f L (mCl f) t i) L (mCl f) (t + i)) 1) ≤ 9999999 then ((mGo (mPa f L (mCl f) t i) L (mCl f) (t + i)) 1) else 9999999) else 0)) 2) ≤ 9999999 then ((upd (mGo (mPa f L (mCl f) t i) L (mCl f) (t + i)) 1 (if 0 ≤ ((mGo (mPa f L (mCl f) t i) L (mCl f) (t + i)) 1) then (if ((mGo (mPa f L (mCl f) t i) L (mCl f) (t + i)) 1) ≤ 9999999 then ((mGo (mPa f L (mCl f) t i) L (mCl f) (t + i)) 1) else 9999999) else 0)) 2) else 9999999) else 0)))) H locs := hM
            refine lv_iinc (v := (nI i) + 1) (lv' := [(2, .int ((nI i) + 1)), (0, .ref (gA g 46)), (1, .int (nI k))]) hx hb dX12_pass_81 hl (k := 2) rfl rfl (by decide) rfl (fun ls hl => ?_)
            refine lv_goto (tgt := 36) hx hb dX12_pass_84 (by decide) ?_
            exact ih (i + 1) y0_4 y1_5 (by omega) _ _ hM _ ((by rw [← nI_1]; exact lv_sub hl [1, 2, 0] rfl)) (by omega)
      exact L36 (k + 1) 0 by_ tr (Nat.zero_le _) _ _ (by show MW g (mup (mup (mup (mup M (gA g 46) (mdE g m0 m1 (mCl f) m3 m4 m5 m6 m7 m8 m9 m10 m11)) (gA g 50) (aI g 6 by_)) (gA g 51) (aZ g 64 tr)) (gA g 47) (aI g 929 f)) _ _; rw [mup_id (a := gA g 50) (mup_r (X.2.ne (i := 50) (j := 46) (by decide) (by decide) (by decide)) h50), mup_id (a := gA g 51) (mup_r (X.2.ne (i := 51) (j := 46) (by decide) (by decide) (by decide)) h51), mup_id (a := gA g 47) (mup_r (X.2.ne (i := 47) (j := 46) (by decide) (by decide) (by decide)) h47)]; exact hM) _ (lv_sub hl [1, 2, 0] rfl) (by first | exact Nat.lt_succ_self _ | omega)
    · skip
      refine lv_bipush (v := -3) hx hb dX12_pass_27 (by decide) ?_
      exact R_i X hr hk hM ⟨m2, by_, tr, (by unfold mPass; (try simp only [hcq]); (first | rw [if_pos c_1] | rw [if_neg c_1] | skip); (first | rw [if_pos c_2] | rw [if_neg c_2] | skip)), (by rw [show mPass f L t (nI k) = (-3, f) from (by unfold mPass; (try simp only [hcq]); (first | rw [if_pos c_1] | rw [if_neg c_1] | skip); (first | rw [if_pos c_2] | rw [if_neg c_2] | skip))]; dsimp only; rw [mup_id h46, mup_id h50, mup_id h51, mup_id h47])⟩ dX12_pass_29
  · skip
    refine lv_bipush (v := -2) hx hb dX12_pass_10 (by decide) ?_
    exact R_i X hr hk hM ⟨m2, by_, tr, (by unfold mPass; (try simp only [hcq]); (first | rw [if_pos c_1] | rw [if_neg c_1] | skip)), (by rw [show mPass f L t n = (-2, f) from (by unfold mPass; (try simp only [hcq]); (first | rw [if_pos c_1] | rw [if_neg c_1] | skip))]; dsimp only; rw [mup_id h46, mup_id h50, mup_id h51, mup_id h47])⟩ dX12_pass_12
