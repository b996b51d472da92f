/-- the reader: place, next sign, fault; its sky: (size, turn, cloud), steps, signs, numbers -/
abbrev R1 : Type := Int32 × Int32 × Int32
abbrev S1 : Type := (Int32 × Int32 × Int32) × (Nat → Int32) × (Nat → Int32) × (Nat → Int32)
def pP (ra : R1) : Int32 := ra.1
def pN (ra : R1) : Int32 := ra.2.1
def pF (ra : R1) : Int32 := ra.2.2
def zZ (sa : S1) : Int32 := sa.1.1
def zT (sa : S1) : Int32 := sa.1.2.1
def zC (sa : S1) : Int32 := sa.1.2.2
def zA (sa : S1) : Nat → Int32 := sa.2.1
def zB (sa : S1) : Nat → Int32 := sa.2.2.1
def zD (sa : S1) : Nat → Int32 := sa.2.2.2
def rGo (tc : Int32) (tf : Nat → Int32) (ra : R1) (x : Int32) : R1 := (x, (if tc ≤ x then -1 else fAt 100 tf x), pF ra)
def rFail (ra : R1) : R1 := (pP ra, -1, if pF ra = -1 then pP ra else pF ra)
def rTake (tc : Int32) (tf : Nat → Int32) (ra : R1) (x : Int32) : R1 := if pN ra = x then rGo tc tf ra (pP ra + 1) else rFail ra
def rWd (tc : Int32) (tf : Nat → Int32) (k : Nat) (ra : R1) : Nat → R1
  | 0 => ra
  | i + 1 => rTake tc tf (rWd tc tf k ra i) (chS k i)
def rNum (tc : Int32) (tf : Nat → Int32) (ra : R1) : Int32 × R1 :=
  if pN ra < 48 then (0, rFail ra) else if pN ra ≤ 57 then (
  if pN ra - 48 = 0 then (pN ra - 48, rGo tc tf ra (pP ra + 1)) else if pN (rGo tc tf ra (pP ra + 1)) < 48 then (pN ra - 48, rGo tc tf ra (pP ra + 1)) else if 57 < pN (rGo tc tf ra (pP ra + 1)) then (pN ra - 48, rGo tc tf ra (pP ra + 1)) else
  ((pN ra - 48) * 10 + pN (rGo tc tf ra (pP ra + 1)) - 48, rGo tc tf (rGo tc tf ra (pP ra + 1)) (pP (rGo tc tf ra (pP ra + 1)) + 1))) else (0, rFail ra)
def sAdd (sa : S1) (x y z : Int32) : S1 := ((zZ sa + 1, zT sa, zC sa), fPut 100 (zA sa) (zZ sa) x, fPut 100 (zB sa) (zZ sa) y, fPut 100 (zD sa) (zZ sa) z)
def rSg (tc : Int32) (tf : Nat → Int32) (ra : R1) : R1 := if pN ra = 112 ∨ pN ra = 107 ∨ pN ra = 118 ∨ pN ra = 104 ∨ pN ra = 110 ∨ pN ra = 109 then rGo tc tf ra (pP ra + 1) else rFail ra
def stO (x : Int32) : Int32 := if x = 60 then 0 else if x = 62 then 2 else 1
def stS (x : Int32) : Int32 := if x = 0 then 60 else if x = 2 then 62 else 61
def rTest (tc : Int32) (tf : Nat → Int32) (ra : R1) (sa : S1) : R1 × S1 := ((rNum tc tf (rTake tc tf (rSg tc tf ra) (stS (stO (pN (rSg tc tf ra)))))).2, sAdd sa (stO (pN (rSg tc tf ra))) (pN ra) (rNum tc tf (rTake tc tf (rSg tc tf ra) (stS (stO (pN (rSg tc tf ra)))))).1)
def lopN (x st : Int32) (tc : Int32) (tf : Nat → Int32) (f : R1 → S1 → R1 × S1) : Nat → R1 → S1 → R1 × S1
  | 0, ra, sa => (ra, sa)
  | n + 1, ra, sa => if pN ra = x then lopN x st tc tf f n (f (rGo tc tf ra (pP ra + 1)) sa).1 (sAdd (f (rGo tc tf ra (pP ra + 1)) sa).2 st 0 0) else (ra, sa)
def botG (tc : Int32) (tf : Nat → Int32) (f : R1 → S1 → R1 × S1) (ra : R1) (sa : S1) : R1 × S1 := lopN 38 4 tc tf f 100 (f ra sa).1 (f ra sa).2
def eitG (tc : Int32) (tf : Nat → Int32) (f : R1 → S1 → R1 × S1) (ra : R1) (sa : S1) : R1 × S1 := lopN 124 5 tc tf (botG tc tf f) 100 (botG tc tf f ra sa).1 (botG tc tf f ra sa).2
def facN (tc : Int32) (tf : Nat → Int32) : Nat → R1 → S1 → R1 × S1
  | 0, ra, sa => if pN ra = 33 then (rFail ra, sa) else if pN ra = 40 then (rFail ra, sa) else rTest tc tf ra sa
  | k + 1, ra, sa => if pN ra = 33 then ((facN tc tf k (rGo tc tf ra (pP ra + 1)) sa).1, sAdd (facN tc tf k (rGo tc tf ra (pP ra + 1)) sa).2 3 0 0) else if pN ra = 40 then (rTake tc tf (eitG tc tf (facN tc tf k) (rGo tc tf ra (pP ra + 1)) sa).1 41, (eitG tc tf (facN tc tf k) (rGo tc tf ra (pP ra + 1)) sa).2) else rTest tc tf ra sa
theorem lopN_out {x st tc : Int32} {tf : Nat → Int32} {f : R1 → S1 → R1 × S1} {ra : R1} {sa : S1} (h : ¬ pN ra = x) : ∀ n, lopN x st tc tf f n ra sa = (ra, sa) := fun n => by
  cases n with
  | zero => rfl
  | succ n => exact if_neg h
theorem lopN_in {x st tc : Int32} {tf : Nat → Int32} {f : R1 → S1 → R1 × S1} {ra : R1} {sa : S1} (h : pN ra = x) {n i : Nat} (hi : i < n) : lopN x st tc tf f (n - i) ra sa = lopN x st tc tf f (n - (i + 1)) (f (rGo tc tf ra (pP ra + 1)) sa).1 (sAdd (f (rGo tc tf ra (pP ra + 1)) sa).2 st 0 0) := by
  obtain ⟨k, hk⟩ : ∃ k, n - i = k + 1 := ⟨n - i - 1, by omega⟩
  rw [hk, show n - (i + 1) = k by omega]
  exact if_pos h

theorem lk_X7_54 : LkN RX7 54 yX11_at RX11 cX11_at 2 (some .int) 2 := lkNS_of (by decide +kernel) q_230 q_1 q_231 ⟨by decide, by decide, by decide +kernel⟩ (by decide)
theorem lk_X7_42 : LkV RX7 42 yX7_fail cX7_fail 1 none 0 := lkV_of q_293 q_294 q_295 q_6 q_296 ⟨by decide, by decide, by decide +kernel⟩ (by decide)
theorem lk_X7_35 : LkV RX7 35 yX7_goTo cX7_goTo 2 none 1 := lkV_of q_225 q_226 q_227 q_6 q_228 ⟨by decide, by decide, by decide +kernel⟩ (by decide)
theorem lk_X7_58 : LkV RX7 58 yJ0_length_8abf5 cJ0_length_8abf5 1 (some .int) 0 := lkV_of q_241 q_242 q_243 q_8 q_244 ⟨by decide, by decide, by decide +kernel⟩ (by decide)
theorem lk_X7_64 : LkV RX7 64 yJ0_charAt_5068e cJ0_charAt_5068e 2 (some .char) 1 := lkV_of q_251 q_252 q_253 q_8 q_254 ⟨by decide, by decide, by decide +kernel⟩ (by decide)
theorem lk_X7_68 : LkV RX7 68 yX7_take cX7_take 2 none 1 := lkV_of q_289 q_290 q_291 q_6 q_292 ⟨by decide, by decide, by decide +kernel⟩ (by decide)
set_option maxHeartbeats 4000000 in
set_option maxRecDepth 100000 in
theorem c_X7_goTo (l : Launch) (g : Gp) (M : Mem) (tc : Int32) (tf : Nat → Int32) (ra : R1) (x : Int32) (h39 : M (gA g 39) = some (rdrE g (pP ra) (pN ra) (pF ra))) (h13 : M (gA g 13) = some (rowsE (gA g 14) 100 1 tc)) (h14 : M (gA g 14) = some (aI g 100 tf)) : Met l yX7_goTo (wsM yX7_goTo cX7_goTo 2 none) (rmD 2 0 0) (Pre g M [.ref (gA g 39), .int x]) (Qv g (fun M1 => mup M (gA g 39) (rdrE g (pP (rGo tc tf ra x)) (pN (rGo tc tf ra x)) (pF (rGo tc tf ra x))) = M1)) 0 0 (gF g) := M_start (by decide +kernel) (Nat.le_of_ble_eq_true rfl) fun p e s m args below meth c ls X hr hk hnm hM hl => by
  have X : Cx g p m c cX7_goTo 2 s args RX7 := X
  have hx := X.1.1
  have hb := X.1.2.1
  have hl : lv_has ls 2 [(0, .ref (gA g 39)), (1, .int x)] := hl
  refine lv_aload_n hx hb dX7_goTo_0 rfl (lv_at hl 0 rfl) ?_
  refine lv_iload_n hx hb dX7_goTo_1 rfl (lv_at hl 1 rfl) ?_
  refine r_put (T := TX7) (N := 5) (ci := 7) X hM iX7 tyX7 tyX7_ok nmX7 rfl 2 (by decide) q_162 rfl (Or.inl rfl) h39 rfl rfl (Nat.le_of_ble_eq_true rfl) dX7_goTo_2 (fun H locs hM => ?_)
  have hM : MW g (mup M (gA g 39) (rdrE g x (pN ra) (pF ra))) H locs := hM
  refine lv_aload_n hx hb dX7_goTo_5 rfl (lv_at hl 0 rfl) ?_
  refine lv_aload_n hx hb dX7_goTo_6 rfl (lv_at hl 0 rfl) ?_
  refine r_get (T := TX7) (N := 5) (ci := 7) (v := .int x) X hM iX7 rfl 2 (by decide) q_162 (Or.inl rfl) (mup_s _ _ _) rfl dX7_goTo_7 ?_
  refine lv_aload_n hx hb dX7_goTo_10 rfl (lv_at hl 0 rfl) ?_
  refine r_get (T := TX7) (N := 5) (ci := 7) (v := .ref (gA g 13)) X hM iX7 rfl 0 (by decide) q_159 (Or.inl rfl) (mup_s _ _ _) rfl dX7_goTo_11 ?_
  refine r_get (T := TX5) (N := 4) (ci := 5) (v := .int tc) X hM iX5 rfl 3 (by decide) q_43 (Or.inl rfl) (mup_r (X.2.ne (i := 13) (j := 39) (by decide) (by decide) (by decide)) h13) rfl dX7_goTo_14 ?_
  refine l_joinM (ls := ls) hM 38 (if tc ≤ x then -1 else fAt 100 tf x) [.ref (gA g 39)] (fun H locs hM => ?_) (fun J17 => ?_)
  · skip
    refine r_put (T := TX7) (N := 5) (ci := 7) X hM iX7 tyX7 tyX7_ok nmX7 rfl 3 (by decide) q_163 rfl (Or.inl rfl) (mup_s _ _ _) rfl rfl (Nat.le_of_ble_eq_true rfl) dX7_goTo_38 (fun H locs hM => ?_)
    rw [mup_i] at hM
    have hM : MW g (mup M (gA g 39) (rdrE g x (if tc ≤ x then -1 else fAt 100 tf x) (pF ra))) H locs := hM
    exact R_v X hr hk hM rfl dX7_goTo_41
  refine lv_icmp_ge (tgt := 37) hx hb dX7_goTo_17 (by decide) (fun c_1 => ?_) (fun c_1 => ?_)
  · skip
    refine lv_iconst (v := -1) hx hb dX7_goTo_37 (by decide) ?_
    exact J17 _ _ _ hM (by (first | rw [if_pos c_1] | rw [if_neg c_1] | skip); all_goals (first | rfl | simp [*]))
  · skip
    refine lv_aload_n hx hb dX7_goTo_20 rfl (lv_at hl 0 rfl) ?_
    refine r_get (T := TX7) (N := 5) (ci := 7) (v := .ref (gA g 13)) X hM iX7 rfl 0 (by decide) q_159 (Or.inl rfl) (mup_s _ _ _) rfl dX7_goTo_21 ?_
    refine r_get (T := TX5) (N := 4) (ci := 5) (v := .ref (gA g 14)) X hM iX5 rfl 0 (by decide) q_39 (Or.inl rfl) (mup_r (X.2.ne (i := 13) (j := 39) (by decide) (by decide) (by decide)) h13) rfl dX7_goTo_24 ?_
    refine lv_aload_n hx hb dX7_goTo_27 rfl (lv_at hl 0 rfl) ?_
    refine r_get (T := TX7) (N := 5) (ci := 7) (v := .int x) X hM iX7 rfl 2 (by decide) q_162 (Or.inl rfl) (mup_s _ _ _) rfl dX7_goTo_28 ?_
    refine K_i (G_SN (As := [.ref (gA g 14), .int x]) (rest := [.ref (gA g 39)]) X hM (c_X11_at l g _ (gA g 14) 100 tf x (mup_r (X.2.ne (i := 14) (j := 39) (by decide) (by decide) (by decide)) h14) (by decide)) lk_X7_54 q_230 rfl hl.1 rfl (Nat.le_of_ble_eq_true rfl) (by decide) dX7_goTo_31 ⟨Nat.le_of_ble_eq_true rfl, Nat.le_of_ble_eq_true rfl⟩) hM (fun r M1 H locs hM hp => ?_)
    obtain ⟨rfl, rfl⟩ := hp
    refine lv_goto (tgt := 38) hx hb dX7_goTo_34 (by decide) ?_
    exact J17 _ _ _ hM (by (first | rw [if_pos c_1] | rw [if_neg c_1] | skip); all_goals (first | rfl | simp [*]))
set_option maxHeartbeats 4000000 in
set_option maxRecDepth 100000 in
theorem c_X7_fail (l : Launch) (g : Gp) (M : Mem) (ra : R1) (h39 : M (gA g 39) = some (rdrE g (pP ra) (pN ra) (pF ra))) : Met l yX7_fail (wsM yX7_fail cX7_fail 1 none) (rmD 1 0 0) (Pre g M [.ref (gA g 39)]) (Qv g (fun M1 => mup M (gA g 39) (rdrE g (pP (rFail ra)) (pN (rFail ra)) (pF (rFail ra))) = M1)) 0 0 (gF g) := M_start (by decide +kernel) (Nat.le_of_ble_eq_true rfl) fun p e s m args below meth c ls X hr hk hnm hM hl => by
  have X : Cx g p m c cX7_fail 1 s args RX7 := X
  have hx := X.1.1
  have hb := X.1.2.1
  have hl : lv_has ls 1 [(0, .ref (gA g 39))] := hl
  refine lv_aload_n hx hb dX7_fail_0 rfl (lv_at hl 0 rfl) ?_
  refine lv_aload_n hx hb dX7_fail_1 rfl (lv_at hl 0 rfl) ?_
  refine r_get (T := TX7) (N := 5) (ci := 7) (v := .int (pF ra)) X hM iX7 rfl 4 (by decide) q_164 (Or.inl rfl) h39 rfl dX7_fail_2 ?_
  refine lv_iconst (v := -1) hx hb dX7_fail_5 (by decide) ?_
  refine l_joinM (ls := ls) hM 20 (if pF ra = -1 then pP ra else pF ra) [.ref (gA g 39)] (fun H locs hM => ?_) (fun J6 => ?_)
  · skip
    refine r_put (T := TX7) (N := 5) (ci := 7) X hM iX7 tyX7 tyX7_ok nmX7 rfl 4 (by decide) q_164 rfl (Or.inl rfl) h39 rfl rfl (Nat.le_of_ble_eq_true rfl) dX7_fail_20 (fun H locs hM => ?_)
    have hM : MW g (mup M (gA g 39) (rdrE g (pP ra) (pN ra) (if pF ra = -1 then pP ra else pF ra))) H locs := hM
    refine lv_aload_n hx hb dX7_fail_23 rfl (lv_at hl 0 rfl) ?_
    refine lv_iconst (v := -1) hx hb dX7_fail_24 (by decide) ?_
    refine r_put (T := TX7) (N := 5) (ci := 7) X hM iX7 tyX7 tyX7_ok nmX7 rfl 3 (by decide) q_163 rfl (Or.inl rfl) (mup_s _ _ _) rfl rfl (Nat.le_of_ble_eq_true rfl) dX7_fail_25 (fun H locs hM => ?_)
    rw [mup_i] at hM
    have hM : MW g (mup M (gA g 39) (rdrE g (pP ra) (-1) (if pF ra = -1 then pP ra else pF ra))) H locs := hM
    exact R_v X hr hk hM rfl dX7_fail_28
  refine lv_icmp_ne (tgt := 16) hx hb dX7_fail_6 (by decide) (fun c_1 => ?_) (fun c_1 => ?_)
  · skip
    refine lv_aload_n hx hb dX7_fail_16 rfl (lv_at hl 0 rfl) ?_
    refine r_get (T := TX7) (N := 5) (ci := 7) (v := .int (pF ra)) X hM iX7 rfl 4 (by decide) q_164 (Or.inl rfl) h39 rfl dX7_fail_17 ?_
    exact J6 _ _ _ hM (by (first | rw [if_pos c_1] | rw [if_neg c_1] | skip); all_goals (first | rfl | simp [*]))
  · skip
    refine lv_aload_n hx hb dX7_fail_9 rfl (lv_at hl 0 rfl) ?_
    refine r_get (T := TX7) (N := 5) (ci := 7) (v := .int (pP ra)) X hM iX7 rfl 2 (by decide) q_162 (Or.inl rfl) h39 rfl dX7_fail_10 ?_
    refine lv_goto (tgt := 20) hx hb dX7_fail_13 (by decide) ?_
    exact J6 _ _ _ hM (by (first | rw [if_pos c_1] | rw [if_neg c_1] | skip); all_goals (first | rfl | simp [*]))
set_option maxHeartbeats 4000000 in
set_option maxRecDepth 100000 in
theorem c_X7_take (l : Launch) (g : Gp) (M : Mem) (tc : Int32) (tf : Nat → Int32) (ra : R1) (x : Int32) (h39 : M (gA g 39) = some (rdrE g (pP ra) (pN ra) (pF ra))) (h13 : M (gA g 13) = some (rowsE (gA g 14) 100 1 tc)) (h14 : M (gA g 14) = some (aI g 100 tf)) : Met l yX7_take (wsM yX7_take cX7_take 2 none) (rmD 3 0 0) (Pre g M [.ref (gA g 39), .int x]) (Qv g (fun M1 => mup M (gA g 39) (rdrE g (pP (rTake tc tf ra x)) (pN (rTake tc tf ra x)) (pF (rTake tc tf ra x))) = M1)) 0 0 (gF g) := M_start (by decide +kernel) (Nat.le_of_ble_eq_true rfl) fun p e s m args below meth c ls X hr hk hnm hM hl => by
  have X : Cx g p m c cX7_take 2 s args RX7 := X
  have hx := X.1.1
  have hb := X.1.2.1
  have hl : lv_has ls 2 [(0, .ref (gA g 39)), (1, .int x)] := hl
  refine lv_aload_n hx hb dX7_take_0 rfl (lv_at hl 0 rfl) ?_
  refine r_get (T := TX7) (N := 5) (ci := 7) (v := .int (pN ra)) X hM iX7 rfl 3 (by decide) q_163 (Or.inl rfl) h39 rfl dX7_take_1 ?_
  refine lv_iload_n hx hb dX7_take_4 rfl (lv_at hl 1 rfl) ?_
  refine lv_icmp_ne (tgt := 21) hx hb dX7_take_5 (by decide) (fun c_1 => ?_) (fun c_1 => ?_)
  · skip
    refine lv_aload_n hx hb dX7_take_21 rfl (lv_at hl 0 rfl) ?_
    refine K_v (G_V (As := []) (rest := []) X hM (c_X7_fail l g _ ra h39 ) lk_X7_42 h39 rfl rfl hl.1 rfl (Nat.le_of_ble_eq_true rfl) (by decide) dX7_take_22 ⟨Nat.le_of_ble_eq_true rfl, Nat.le_of_ble_eq_true rfl⟩) hM (fun M1 H locs hM hp => ?_)
    subst hp
    have hM : MW g (mup M (gA g 39) (rdrE g (pP (rFail ra)) (pN (rFail ra)) (pF (rFail ra)))) H locs := hM
    obtain ⟨ra_2, e_ra_2⟩ : ∃ z : R1, z = rFail ra := ⟨_, rfl⟩
    have hM : MW g (mup M (gA g 39) (rdrE g (pP ra_2) (pN ra_2) (pF ra_2))) H locs := by rw [e_ra_2]; exact hM
    have e9 : rTake tc tf ra x = ra_2 := by
      unfold rTake; (try rw [← e_ra_2]); (first | rw [if_pos c_1] | rw [if_neg c_1] | skip); all_goals rfl
    exact R_v X hr hk hM (by rw [e9]) dX7_take_25
  · skip
    refine lv_aload_n hx hb dX7_take_8 rfl (lv_at hl 0 rfl) ?_
    refine lv_aload_n hx hb dX7_take_9 rfl (lv_at hl 0 rfl) ?_
    refine r_get (T := TX7) (N := 5) (ci := 7) (v := .int (pP ra)) X hM iX7 rfl 2 (by decide) q_162 (Or.inl rfl) h39 rfl dX7_take_10 ?_
    refine lv_iconst (v := 1) hx hb dX7_take_13 (by decide) ?_
    refine lv_iadd hx hb dX7_take_14 ?_
    refine K_v (G_V (As := [.int ((pP ra) + 1)]) (rest := []) X hM (c_X7_goTo l g _ tc tf ra ((pP ra) + 1) h39 h13 h14 ) lk_X7_35 h39 rfl rfl hl.1 rfl (Nat.le_of_ble_eq_true rfl) (by decide) dX7_take_15 ⟨Nat.le_of_ble_eq_true rfl, Nat.le_of_ble_eq_true rfl⟩) hM (fun M1 H locs hM hp => ?_)
    subst hp
    have hM : MW g (mup M (gA g 39) (rdrE g (pP (rGo tc tf ra ((pP ra) + 1))) (pN (rGo tc tf ra ((pP ra) + 1))) (pF (rGo tc tf ra ((pP ra) + 1))))) H locs := hM
    obtain ⟨ra_3, e_ra_3⟩ : ∃ z : R1, z = rGo tc tf ra ((pP ra) + 1) := ⟨_, rfl⟩
    have hM : MW g (mup M (gA g 39) (rdrE g (pP ra_3) (pN ra_3) (pF ra_3))) H locs := by rw [e_ra_3]; exact hM
    refine lv_goto (tgt := 25) hx hb dX7_take_18 (by decide) ?_
    have e9 : rTake tc tf ra x = ra_3 := by
      unfold rTake; (try rw [← e_ra_3]); (first | rw [if_pos c_1] | rw [if_neg c_1] | skip); all_goals rfl
    exact R_v X hr hk hM (by rw [e9]) dX7_take_25
set_option maxHeartbeats 4000000 in
set_option maxRecDepth 100000 in
theorem c_X7_takeNumber (l : Launch) (g : Gp) (M : Mem) (tc : Int32) (tf : Nat → Int32) (ra : R1) (h39 : M (gA g 39) = some (rdrE g (pP ra) (pN ra) (pF ra))) (h13 : M (gA g 13) = some (rowsE (gA g 14) 100 1 tc)) (h14 : M (gA g 14) = some (aI g 100 tf)) : Met l yX7_takeNumber (wsM yX7_takeNumber cX7_takeNumber 2 (some .int)) (rmD 3 0 0) (Pre g M [.ref (gA g 39)]) (Qi g (fun r M1 => ((rNum tc tf ra).1) = r ∧ mup M (gA g 39) (rdrE g (pP ((rNum tc tf ra).2)) (pN ((rNum tc tf ra).2)) (pF ((rNum tc tf ra).2))) = M1)) 0 0 (gF g) := M_start (by decide +kernel) (Nat.le_of_ble_eq_true rfl) fun p e s m args below meth c ls X hr hk hnm hM hl => by
  have X : Cx g p m c cX7_takeNumber 2 s args RX7 := X
  have hx := X.1.1
  have hb := X.1.2.1
  have hl : lv_has ls 2 [(0, .ref (gA g 39))] := hl
  refine lv_aload_n hx hb dX7_takeNumber_0 rfl (lv_at hl 0 rfl) ?_
  refine r_get (T := TX7) (N := 5) (ci := 7) (v := .int (pN ra)) X hM iX7 rfl 3 (by decide) q_163 (Or.inl rfl) h39 rfl dX7_takeNumber_1 ?_
  refine lv_bipush (v := 48) hx hb dX7_takeNumber_4 (by decide) ?_
  refine lv_icmp_lt (tgt := 18) hx hb dX7_takeNumber_6 (by decide) (fun c_1 => ?_) (fun c_1 => ?_)
  · skip
    refine lv_aload_n hx hb dX7_takeNumber_18 rfl (lv_at hl 0 rfl) ?_
    refine K_v (G_V (As := []) (rest := []) X hM (c_X7_fail l g _ ra h39 ) lk_X7_42 h39 rfl rfl hl.1 rfl (Nat.le_of_ble_eq_true rfl) (by decide) dX7_takeNumber_19 ⟨Nat.le_of_ble_eq_true rfl, Nat.le_of_ble_eq_true rfl⟩) hM (fun M1 H locs hM hp => ?_)
    subst hp
    have hM : MW g (mup M (gA g 39) (rdrE g (pP (rFail ra)) (pN (rFail ra)) (pF (rFail ra)))) H locs := hM
    obtain ⟨ra_2, e_ra_2⟩ : ∃ z : R1, z = rFail ra := ⟨_, rfl⟩
    have hM : MW g (mup M (gA g 39) (rdrE g (pP ra_2) (pN ra_2) (pF ra_2))) H locs := by rw [e_ra_2]; exact hM
    refine lv_iconst (v := 0) hx hb dX7_takeNumber_22 (by decide) ?_
    have e9 : rNum tc tf ra = (0, ra_2) := by
      unfold rNum; (try rw [← e_ra_2]); (first | rw [if_pos c_1] | rw [if_neg c_1] | skip); all_goals rfl
    exact R_i X hr hk hM ⟨(by rw [e9]), (by rw [e9])⟩ dX7_takeNumber_23
  · skip
    refine lv_aload_n hx hb dX7_takeNumber_9 rfl (lv_at hl 0 rfl) ?_
    refine r_get (T := TX7) (N := 5) (ci := 7) (v := .int (pN ra)) X hM iX7 rfl 3 (by decide) q_163 (Or.inl rfl) h39 rfl dX7_takeNumber_10 ?_
    refine lv_bipush (v := 57) hx hb dX7_takeNumber_13 (by decide) ?_
    refine lv_icmp_le (tgt := 24) hx hb dX7_takeNumber_15 (by decide) (fun c_3 => ?_) (fun c_3 => ?_)
    · skip
      refine lv_aload_n hx hb dX7_takeNumber_24 rfl (lv_at hl 0 rfl) ?_
      refine r_get (T := TX7) (N := 5) (ci := 7) (v := .int (pN ra)) X hM iX7 rfl 3 (by decide) q_163 (Or.inl rfl) h39 rfl dX7_takeNumber_25 ?_
      refine lv_bipush (v := 48) hx hb dX7_takeNumber_28 (by decide) ?_
      refine lv_isub hx hb dX7_takeNumber_30 ?_
      refine lv_istore_n (lv' := [(1, .int ((pN ra) - 48)), (0, .ref (gA g 39))]) hx hb dX7_takeNumber_31 rfl hl (by decide) rfl (fun ls hl => ?_)
      refine lv_aload_n hx hb dX7_takeNumber_32 rfl (lv_at hl 1 rfl) ?_
      refine lv_aload_n hx hb dX7_takeNumber_33 rfl (lv_at hl 1 rfl) ?_
      refine r_get (T := TX7) (N := 5) (ci := 7) (v := .int (pP ra)) X hM iX7 rfl 2 (by decide) q_162 (Or.inl rfl) h39 rfl dX7_takeNumber_34 ?_
      refine lv_iconst (v := 1) hx hb dX7_takeNumber_37 (by decide) ?_
      refine lv_iadd hx hb dX7_takeNumber_38 ?_
      refine K_v (G_V (As := [.int ((pP ra) + 1)]) (rest := []) X hM (c_X7_goTo l g _ tc tf ra ((pP ra) + 1) h39 h13 h14 ) lk_X7_35 h39 rfl rfl hl.1 rfl (Nat.le_of_ble_eq_true rfl) (by decide) dX7_takeNumber_39 ⟨Nat.le_of_ble_eq_true rfl, Nat.le_of_ble_eq_true rfl⟩) hM (fun M1 H locs hM hp => ?_)
      subst hp
      have hM : MW g (mup M (gA g 39) (rdrE g (pP (rGo tc tf ra ((pP ra) + 1))) (pN (rGo tc tf ra ((pP ra) + 1))) (pF (rGo tc tf ra ((pP ra) + 1))))) H locs := hM
      obtain ⟨ra_4, e_ra_4⟩ : ∃ z : R1, z = rGo tc tf ra ((pP ra) + 1) := ⟨_, rfl⟩
      have hM : MW g (mup M (gA g 39) (rdrE g (pP ra_4) (pN ra_4) (pF ra_4))) H locs := by rw [e_ra_4]; exact hM
      refine lv_iload_n hx hb dX7_takeNumber_42 rfl (lv_at hl 0 rfl) ?_
      refine lv_if_eq (tgt := 87) hx hb dX7_takeNumber_43 (by decide) (fun c_5 => ?_) (fun c_5 => ?_)
      · skip
        refine lv_iload_n hx hb dX7_takeNumber_87 rfl (lv_at hl 0 rfl) ?_
        have e9 : rNum tc tf ra = ((pN ra) - 48, ra_4) := by
          unfold rNum; (try rw [← e_ra_4]); (first | rw [if_pos c_1] | rw [if_neg c_1] | skip); (first | rw [if_pos c_3] | rw [if_neg c_3] | skip); (first | rw [if_pos c_5] | rw [if_neg c_5] | skip); all_goals rfl
        exact R_i X hr hk hM ⟨(by rw [e9]), (by rw [e9])⟩ dX7_takeNumber_88
      · skip
        refine lv_aload_n hx hb dX7_takeNumber_46 rfl (lv_at hl 1 rfl) ?_
        refine r_get (T := TX7) (N := 5) (ci := 7) (v := .int (pN ra_4)) X hM iX7 rfl 3 (by decide) q_163 (Or.inl rfl) (mup_s _ _ _) rfl dX7_takeNumber_47 ?_
        refine lv_bipush (v := 48) hx hb dX7_takeNumber_50 (by decide) ?_
        refine lv_icmp_lt (tgt := 87) hx hb dX7_takeNumber_52 (by decide) (fun c_6 => ?_) (fun c_6 => ?_)
        · skip
          refine lv_iload_n hx hb dX7_takeNumber_87 rfl (lv_at hl 0 rfl) ?_
          have e9 : rNum tc tf ra = ((pN ra) - 48, ra_4) := by
            unfold rNum; (try rw [← e_ra_4]); (first | rw [if_pos c_1] | rw [if_neg c_1] | skip); (first | rw [if_pos c_3] | rw [if_neg c_3] | skip); (first | rw [if_pos c_5] | rw [if_neg c_5] | skip); (first | rw [if_pos c_6] | rw [if_neg c_6] | skip); all_goals rfl
          exact R_i X hr hk hM ⟨(by rw [e9]), (by rw [e9])⟩ dX7_takeNumber_88
        · skip
          refine lv_aload_n hx hb dX7_takeNumber_55 rfl (lv_at hl 1 rfl) ?_
          refine r_get (T := TX7) (N := 5) (ci := 7) (v := .int (pN ra_4)) X hM iX7 rfl 3 (by decide) q_163 (Or.inl rfl) (mup_s _ _ _) rfl dX7_takeNumber_56 ?_
          refine lv_bipush (v := 57) hx hb dX7_takeNumber_59 (by decide) ?_
          refine lv_icmp_gt (tgt := 87) hx hb dX7_takeNumber_61 (by decide) (fun c_7 => ?_) (fun c_7 => ?_)
          · skip
            refine lv_iload_n hx hb dX7_takeNumber_87 rfl (lv_at hl 0 rfl) ?_
            have e9 : rNum tc tf ra = ((pN ra) - 48, ra_4) := by
              unfold rNum; (try rw [← e_ra_4]); (first | rw [if_pos c_1] | rw [if_neg c_1] | skip); (first | rw [if_pos c_3] | rw [if_neg c_3] | skip); (first | rw [if_pos c_5] | rw [if_neg c_5] | skip); (first | rw [if_pos c_6] | rw [if_neg c_6] | skip); (first | rw [if_pos c_7] | rw [if_neg c_7] | skip); all_goals rfl
            exact R_i X hr hk hM ⟨(by rw [e9]), (by rw [e9])⟩ dX7_takeNumber_88
          · skip
            refine lv_iload_n hx hb dX7_takeNumber_64 rfl (lv_at hl 0 rfl) ?_
            refine lv_bipush (v := 10) hx hb dX7_takeNumber_65 (by decide) ?_
            refine lv_imul hx hb dX7_takeNumber_67 ?_
            refine lv_aload_n hx hb dX7_takeNumber_68 rfl (lv_at hl 1 rfl) ?_
            refine r_get (T := TX7) (N := 5) (ci := 7) (v := .int (pN ra_4)) X hM iX7 rfl 3 (by decide) q_163 (Or.inl rfl) (mup_s _ _ _) rfl dX7_takeNumber_69 ?_
            refine lv_iadd hx hb dX7_takeNumber_72 ?_
            refine lv_bipush (v := 48) hx hb dX7_takeNumber_73 (by decide) ?_
            refine lv_isub hx hb dX7_takeNumber_75 ?_
            refine lv_istore_n (lv' := [(1, .int (((((pN ra) - 48) * 10) + (pN ra_4)) - 48)), (0, .ref (gA g 39))]) hx hb dX7_takeNumber_76 rfl hl (by decide) rfl (fun ls hl => ?_)
            refine lv_aload_n hx hb dX7_takeNumber_77 rfl (lv_at hl 1 rfl) ?_
            refine lv_aload_n hx hb dX7_takeNumber_78 rfl (lv_at hl 1 rfl) ?_
            refine r_get (T := TX7) (N := 5) (ci := 7) (v := .int (pP ra_4)) X hM iX7 rfl 2 (by decide) q_162 (Or.inl rfl) (mup_s _ _ _) rfl dX7_takeNumber_79 ?_
            refine lv_iconst (v := 1) hx hb dX7_takeNumber_82 (by decide) ?_
            refine lv_iadd hx hb dX7_takeNumber_83 ?_
            refine K_v (G_V (As := [.int ((pP ra_4) + 1)]) (rest := []) X hM (c_X7_goTo l g _ tc tf ra_4 ((pP ra_4) + 1) (mup_s _ _ _) (mup_r (X.2.ne (i := 13) (j := 39) (by decide) (by decide) (by decide)) h13) (mup_r (X.2.ne (i := 14) (j := 39) (by decide) (by decide) (by decide)) h14) ) lk_X7_35 (mup_s _ _ _) rfl rfl hl.1 rfl (Nat.le_of_ble_eq_true rfl) (by decide) dX7_takeNumber_84 ⟨Nat.le_of_ble_eq_true rfl, Nat.le_of_ble_eq_true rfl⟩) hM (fun M1 H locs hM hp => ?_)
            subst hp
            rw [mup_i] at hM
            have hM : MW g (mup M (gA g 39) (rdrE g (pP (rGo tc tf ra_4 ((pP ra_4) + 1))) (pN (rGo tc tf ra_4 ((pP ra_4) + 1))) (pF (rGo tc tf ra_4 ((pP ra_4) + 1))))) H locs := hM
            obtain ⟨ra_8, e_ra_8⟩ : ∃ z : R1, z = rGo tc tf ra_4 ((pP ra_4) + 1) := ⟨_, rfl⟩
            have hM : MW g (mup M (gA g 39) (rdrE g (pP ra_8) (pN ra_8) (pF ra_8))) H locs := by rw [e_ra_8]; exact hM
            refine lv_iload_n hx hb dX7_takeNumber_87 rfl (lv_at hl 0 rfl) ?_
            have e9 : rNum tc tf ra = (((((pN ra) - 48) * 10) + (pN ra_4)) - 48, ra_8) := by
              unfold rNum; (try rw [← e_ra_4]); (try rw [← e_ra_8]); (first | rw [if_pos c_1] | rw [if_neg c_1] | skip); (first | rw [if_pos c_3] | rw [if_neg c_3] | skip); (first | rw [if_pos c_5] | rw [if_neg c_5] | skip); (first | rw [if_pos c_6] | rw [if_neg c_6] | skip); (first | rw [if_pos c_7] | rw [if_neg c_7] | skip); all_goals rfl
            exact R_i X hr hk hM ⟨(by rw [e9]), (by rw [e9])⟩ dX7_takeNumber_88
    · skip
      refine lv_aload_n hx hb dX7_takeNumber_18 rfl (lv_at hl 0 rfl) ?_
      refine K_v (G_V (As := []) (rest := []) X hM (c_X7_fail l g _ ra h39 ) lk_X7_42 h39 rfl rfl hl.1 rfl (Nat.le_of_ble_eq_true rfl) (by decide) dX7_takeNumber_19 ⟨Nat.le_of_ble_eq_true rfl, Nat.le_of_ble_eq_true rfl⟩) hM (fun M1 H locs hM hp => ?_)
      subst hp
      have hM : MW g (mup M (gA g 39) (rdrE g (pP (rFail ra)) (pN (rFail ra)) (pF (rFail ra)))) H locs := hM
      obtain ⟨ra_9, e_ra_9⟩ : ∃ z : R1, z = rFail ra := ⟨_, rfl⟩
      have hM : MW g (mup M (gA g 39) (rdrE g (pP ra_9) (pN ra_9) (pF ra_9))) H locs := by rw [e_ra_9]; exact hM
      refine lv_iconst (v := 0) hx hb dX7_takeNumber_22 (by decide) ?_
      have e9 : rNum tc tf ra = (0, ra_9) := by
        unfold rNum; (try rw [← e_ra_9]); (first | rw [if_pos c_1] | rw [if_neg c_1] | skip); (first | rw [if_pos c_3] | rw [if_neg c_3] | skip); all_goals rfl
      exact R_i X hr hk hM ⟨(by rw [e9]), (by rw [e9])⟩ dX7_takeNumber_23
set_option maxHeartbeats 4000000 in
set_option maxRecDepth 100000 in
theorem c_X7_takeWord (l : Launch) (g : Gp) (M : Mem) (tc : Int32) (tf : Nat → Int32) (ra : R1) (k : Nat) (h39 : M (gA g 39) = some (rdrE g (pP ra) (pN ra) (pF ra))) (h13 : M (gA g 13) = some (rowsE (gA g 14) 100 1 tc)) (h14 : M (gA g 14) = some (aI g 100 tf)) (hK : k < 10) : Met l yX7_takeWord (wsM yX7_takeWord cX7_takeWord 3 none) (rmD 5 0 0) (Pre g M [.ref (gA g 39), .ref (gK g k)]) (Qv g (fun M1 => mup M (gA g 39) (rdrE g (pP (rWd tc tf k ra (lenS.getD k 0))) (pN (rWd tc tf k ra (lenS.getD k 0))) (pF (rWd tc tf k ra (lenS.getD k 0)))) = M1)) 0 0 (gF g) := M_start (by decide +kernel) (Nat.le_of_ble_eq_true rfl) fun p e s m args below meth c ls X hr hk hnm hM hl => by
  have X : Cx g p m c cX7_takeWord 3 s args RX7 := X
  have hx := X.1.1
  have hb := X.1.2.1
  have hl : lv_has ls 3 [(0, .ref (gA g 39)), (1, .ref (gK g k))] := hl
  refine lv_iconst (v := 0) hx hb dX7_takeWord_0 (by decide) ?_
  refine lv_istore_n (lv' := [(2, .int 0), (0, .ref (gA g 39)), (1, .ref (gK g k))]) hx hb dX7_takeWord_1 rfl hl (by decide) rfl (fun ls hl => ?_)
  have L2 : ∀ (fu : Nat) (i : Nat) (rb : R1) (hi : i ≤ lenS.getD k 0) (kb : rb = rWd tc tf k ra i) (H : Heap) (locs : List Loc) (hM : MW g (mup M (gA g 39) (rdrE g (pP rb) (pN rb) (pF rb))) H locs) (ls : Array Slot) (hl : lv_has ls 3 [(0, .ref (gA g 39)), (1, .ref (gK g k)), (2, .int (nI i))]), lenS.getD k 0 - i < fu → W p l e (rmD 5 0 0) s m args below meth c H locs 0 0 (MQ below (Qv g (fun M1 => mup M (gA g 39) (rdrE g (pP (rWd tc tf k ra (lenS.getD k 0))) (pN (rWd tc tf k ra (lenS.getD k 0))) (pF (rWd tc tf k ra (lenS.getD k 0)))) = M1)) args s 0 0 (gF g)) (F0 m 2 ls []) := by
    intro fu
    induction fu with
    | zero => intro i rb hi kb H locs hM ls hl hmu; exact absurd hmu (Nat.not_lt_zero _)
    | succ fu ih =>
      intro i rb hi kb H locs hM ls hl hmu
      refine lv_iload_n hx hb dX7_takeWord_2 rfl (lv_at hl 2 rfl) ?_
      refine lv_aload_n hx hb dX7_takeWord_3 rfl (lv_at hl 1 rfl) ?_
      refine K_i (G_K (k := k) (As := []) (rest := [.int (nI i)]) X hM (c_J0_length_8abf5 l g _ k  hK) lk_X7_58 hK rfl rfl hl.1 rfl (Nat.le_of_ble_eq_true rfl) (by decide) dX7_takeWord_4 ⟨Nat.le_of_ble_eq_true rfl, Nat.le_of_ble_eq_true rfl⟩) hM (fun r M1 H locs hM hp => ?_)
      obtain ⟨rfl, rfl⟩ := hp
      refine lv_icmp_ge (tgt := 25) hx hb dX7_takeWord_7 (by decide) (fun c_1 => ?_) (fun c_1 => ?_)
      · skip
        have hz1 : lenS.getD k 0 ≤ i := (nI_leI (by have := lenS_le k hK; omega) (by have := lenS_le k hK; omega)).mp c_1
        have hz2 : i = lenS.getD k 0 := by omega
        exact R_v X hr hk hM (by rw [kb, hz2]) dX7_takeWord_25
      · skip
        have hz1 : i < lenS.getD k 0 := by
          rcases Nat.lt_or_ge i (lenS.getD k 0) with q | q
          · exact q
          · exact absurd ((nI_leI (by have := lenS_le k hK; omega) (by have := lenS_le k hK; omega)).mpr q) c_1
        refine lv_aload_n hx hb dX7_takeWord_10 rfl (lv_at hl 0 rfl) ?_
        refine lv_aload_n hx hb dX7_takeWord_11 rfl (lv_at hl 1 rfl) ?_
        refine lv_iload_n hx hb dX7_takeWord_12 rfl (lv_at hl 2 rfl) ?_
        refine K_i (G_K (k := k) (As := [.int (nI i)]) (rest := [.ref (gA g 39)]) X hM (c_J0_charAt_5068e l g _ k i  hK hz1) lk_X7_64 hK rfl rfl hl.1 rfl (Nat.le_of_ble_eq_true rfl) (by decide) dX7_takeWord_13 ⟨Nat.le_of_ble_eq_true rfl, Nat.le_of_ble_eq_true rfl⟩) hM (fun r M1 H locs hM hp => ?_)
        obtain ⟨rfl, rfl⟩ := hp
        refine K_v (G_V (As := [.int (chS k i)]) (rest := []) X hM (c_X7_take l g _ tc tf rb (chS k i) (mup_s _ _ _) (mup_r (X.2.ne (i := 13) (j := 39) (by decide) (by decide) (by decide)) h13) (mup_r (X.2.ne (i := 14) (j := 39) (by decide) (by decide) (by decide)) h14) ) lk_X7_68 (mup_s _ _ _) rfl rfl hl.1 rfl (Nat.le_of_ble_eq_true rfl) (by decide) dX7_takeWord_16 ⟨Nat.le_of_ble_eq_true rfl, Nat.le_of_ble_eq_true rfl⟩) hM (fun M1 H locs hM hp => ?_)
        subst hp
        rw [mup_i] at hM
        have hM : MW g (mup M (gA g 39) (rdrE g (pP (rTake tc tf rb (chS k i))) (pN (rTake tc tf rb (chS k i))) (pF (rTake tc tf rb (chS k i))))) H locs := hM
        obtain ⟨ra_2, e_ra_2⟩ : ∃ z : R1, z = rTake tc tf rb (chS k i) := ⟨_, rfl⟩
        have hM : MW g (mup M (gA g 39) (rdrE g (pP ra_2) (pN ra_2) (pF ra_2))) H locs := by rw [e_ra_2]; exact hM
        refine lv_iinc (v := (nI i) + 1) (lv' := [(2, .int ((nI i) + 1)), (0, .ref (gA g 39)), (1, .ref (gK g k))]) hx hb dX7_takeWord_19 hl (k := 2) rfl rfl (by decide) rfl (fun ls hl => ?_)
        refine lv_goto (tgt := 2) hx hb dX7_takeWord_22 (by decide) ?_
        exact ih (i + 1) ra_2 (by omega) (by rw [e_ra_2, kb]; rfl) _ _ hM _ ((by rw [← nI_1]; exact lv_sub hl [1, 2, 0] rfl)) (by omega)
  exact L2 (lenS.getD k 0 + 1) 0 ra (Nat.zero_le _) rfl _ _ (by rw [mup_id h39]; exact hM) _ (lv_sub hl [1, 2, 0] rfl) (by first | exact Nat.lt_succ_self _ | omega)
