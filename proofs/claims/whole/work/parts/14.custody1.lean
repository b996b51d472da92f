/-- the first i of k, from i on, for which P i isn't 0; else -5 -/
def till (P : Nat → Int32) : Nat → Nat → Int32
  | 0, _ => -5
  | k + 1, i => if P i = 0 then till P k (i + 1) else nI i
theorem shl1 : ∀ z, z < 10 → (1 : Int32) <<< (nI z &&& 31) = nI (2 ^ z) := by decide +kernel
theorem pow10 {z : Nat} (h : z < 10) : 2 ^ z < 1024 := Nat.pow_lt_pow_right (by decide) h
def fBoth (en : En) (a b : Nat) (i : Nat) : Int32 := if fUpN en a (eNi en + nI i) (eHi en) = 0 then 0 else if fUpN en b (eNi en + nI i) (eHi en) = 0 then 0 else 1
def givN (n : Nat) (f : Nat → Int32) (way ow : Int32) : Nat → Int32
  | 0 => 0
  | i + 1 => if fBit way (nI i) = ow then givN n f way ow i + fAt n f (nI i) else givN n f way ow i
def fulN (n : Nat) (f0 f1 : Nat → Int32) : Nat → Int32
  | 0 => 0
  | i + 1 => fWith (fulN n f0 f1 i) (nI i) (if fAt n f1 (nI i) ≤ fAt n f0 (nI i) then 0 else 1)
def evL (n z : Nat) (f0 f1 : Nat → Int32) (w : Int32) : Int32 := if givN n f1 w 1 z < givN n f0 w 0 z then givN n f1 w 1 z else givN n f0 w 0 z
def evS (n z : Nat) (f0 f1 : Nat → Int32) (w : Int32) : Int32 := givN n f0 w 0 z + givN n f1 w 1 z
def evN (n z : Nat) (f0 f1 : Nat → Int32) : Nat → Int32 × Int32 × Int32
  | 0 => (0, -1, -1)
  | w + 1 => if (evN n z f0 f1 w).2.1 < evL n z f0 f1 (nI w) then (nI w, evL n z f0 f1 (nI w), evS n z f0 f1 (nI w)) else if evL n z f0 f1 (nI w) = (evN n z f0 f1 w).2.1 then (if evS n z f0 f1 (nI w) ≤ (evN n z f0 f1 w).2.2 then evN n z f0 f1 w else (nI w, evL n z f0 f1 (nI w), evS n z f0 f1 (nI w))) else evN n z f0 f1 w
def fEnvy (n z : Nat) (f0 f1 : Nat → Int32) (w : Nat) : Int32 := if givN n f0 (nI w) 0 z < givN n f0 (nI w) 1 z then 0 else if givN n f1 (nI w) 1 z < givN n f1 (nI w) 0 z then 0 else 1
def monN (en : En) (j : Nat) (ho : Int32) : Nat → Int32
  | 0 => 0
  | i + 1 => if fUpN en j (eNi en + nI i) (eHi en) = 0 then monN en j ho i else monN en j ho i + fWoN en j ho (eNi en + nI i)
def sunN (n : Nat) (f : Nat → Int32) (ni cl : Int32) : Nat → Int32
  | 0 => 0
  | i + 1 => sunN n f ni cl i + (if fCl (ni + nI i) cl = 0 then fAt n f (nI i) else 0)
def lowD (a : Int32) (b : Nat) : Nat → Int32
  | 0 => 1
  | i + 1 => if i < 2 then 1 else if iR a (nI i) = 0 then (if iR (nI b) (nI i) = 0 then nI i else lowD a b i) else lowD a b i
theorem lowD_ne (a : Int32) (b : Nat) : ∀ i, i < 2147483648 → ¬ lowD a b i = 0
  | 0, _ => by simp [lowD]
  | i + 1, h => by
    have ih := lowD_ne a b i (by omega)
    unfold lowD
    split
    · decide
    · split
      · split
        · exact nI_ne0 (by omega) (by omega)
        · exact ih
      · exact ih
/-- what is noted: rows of three in f, c of them -/
def fNoU (en : En) (j : Nat) (f : Nat → Int32) (v ro ph : Int32) (i : Nat) : Int32 := if fBit (eHi en) (nI j) = 1 then 0 else if fOver (eKd en j) (eNi en + fAt 18 f (nI i * 3 + 1)) v ro ph = 0 then 0 else 1
def noN (en : En) (j : Nat) (f : Nat → Int32) (v ro ph : Int32) : Nat → Nat → Int32
  | 0, _ => 1
  | k + 1, i => if fAt 18 f (nI i * 3 + 0) = nI j then (if fNoU en j f v ro ph i = (if fAt 18 f (nI i * 3 + 2) = 1 then 1 else 0) then noN en j f v ro ph k (i + 1) else 0) else noN en j f v ro ph k (i + 1)
def fAsN (en : En) (j : Nat) (f : Nat → Int32) (c : Nat) (fi x : Int32) : Int32 := noN en j f (if fi = 1 then x else eVv en j) (if fi = 2 then x else eRo en j) (if fi = 3 then x else ePh en j) c 0
def fitN (P : Int32 → Int32) (a : Nat) : Nat → Int32 × Int32
  | 0 => (0, -5)
  | i + 1 => if P (nI (i + a)) = 0 then fitN P a i else ((fitN P a i).1 + 1, if (fitN P a i).1 = 0 then nI (i + a) else (fitN P a i).2)

theorem lk_X11_130 : LkV RX11 130 yX4_isUp cX4_isUp 5 (some .boolean) 3 := lkV_of q_484 q_485 q_486 q_4 q_487 ⟨by decide, by decide, by decide +kernel⟩ (by decide)
theorem lk_X11_123 : LkS RX11 123 yX11_bitOf cX11_bitOf 2 (some .int) 2 := lkS_of q_481 q_482 q_1 q_483 ⟨rfl, by decide, by decide, by decide +kernel⟩ (by decide)
theorem lk_X11_148 : LkS RX11 148 yX11_withBit cX11_withBit 3 (some .int) 3 := lkS_of q_578 q_579 q_1 q_580 ⟨rfl, by decide, by decide, by decide +kernel⟩ (by decide)
theorem lk_X11_200 : LkS RX11 200 yX11_given cX11_given 6 (some .int) 4 := lkS_of q_641 q_642 q_1 q_643 ⟨rfl, by decide, by decide, by decide +kernel⟩ (by decide)
theorem lk_X11_98 : LkV RX11 98 yX4_starAt cX4_starAt 2 (some (.object "StarCustody$Star")) 1 := lkV_of q_476 q_477 q_478 q_4 q_479 ⟨by decide, by decide, by decide +kernel⟩ (by decide)
theorem lk_X11_138 : LkV RX11 138 yX4_worthOf cX4_worthOf 5 (some .int) 3 := lkV_of q_530 q_531 q_532 q_4 q_533 ⟨by decide, by decide, by decide +kernel⟩ (by decide)
theorem lk_X11_161 : LkS RX11 161 yX11_isClouded cX11_isClouded 2 (some .boolean) 2 := lkS_of q_589 q_590 q_1 q_591 ⟨rfl, by decide, by decide, by decide +kernel⟩ (by decide)
set_option maxHeartbeats 4000000 in
set_option maxRecDepth 100000 in
theorem c_X11_nightsTill (l : Launch) (g : Gp) (M : Mem) (ik : Int32) (en : En) (xa xb : Int32) (ja jb : Nat) (h0 : M (gA g 0) = some (custE g ik)) (h3 : M (gA g 3) = some (roofN g (eNi en) (nI (eL en)) (eSk en) (eHi en))) (h5 : M (gA g 5) = some (aS g 6 (eS en))) (h6 : M (gA g 6) = some (aI g 6 (eRo en))) (h7 : M (gA g 7) = some (aI g 6 (ePh en))) (hE : EnOk g M en) (ea : xa = nI ja) (hja : ja < eL en) (eb : xb = nI jb) (hjb : jb < eL en) : Met l yX11_nightsTill (wsM yX11_nightsTill cX11_nightsTill 5 (some .int)) (rmD 6 0 0) (Pre g M [.ref (gA g 0), .int xa, .int xb]) (Qi g (fun r M1 => (till (fBoth en ja jb) 901 0) = r ∧ M = M1)) 0 0 (gF g) := M_start (by decide +kernel) (Nat.le_of_ble_eq_true rfl) fun p e s m args below meth c ls X hr hk hnm hM hl => by
  have X : Cx g p m c cX11_nightsTill 5 s args RX11 := X
  have hx := X.1.1
  have hb := X.1.2.1
  have hl : lv_has ls 5 [(0, .ref (gA g 0)), (1, .int xa), (2, .int xb)] := hl
  refine lv_iconst (v := 0) hx hb dX11_nightsTill_0 (by decide) ?_
  refine lv_istore_n (lv' := [(3, .int 0), (0, .ref (gA g 0)), (1, .int xa), (2, .int xb)]) hx hb dX11_nightsTill_1 rfl hl (by decide) rfl (fun ls hl => ?_)
  have L2 : ∀ (fu : Nat) (i : Nat) (hi : i ≤ 901) (hr2 : till (fBoth en ja jb) 901 0 = till (fBoth en ja jb) (901 - i) i) (H : Heap) (locs : List Loc) (hM : MW g (M) H locs) (ls : Array Slot) (hl : lv_has ls 5 [(0, .ref (gA g 0)), (1, .int xa), (2, .int xb), (3, .int (nI i))]), 901 - i < fu → W p l e (rmD 6 0 0) s m args below meth c H locs 0 0 (MQ below (Qi g (fun r M1 => (till (fBoth en ja jb) 901 0) = r ∧ M = M1)) args s 0 0 (gF g)) (F0 m 2 ls []) := by
    intro fu
    induction fu with
    | zero => intro i hi hr2 H locs hM ls hl hmu; exact absurd hmu (Nat.not_lt_zero _)
    | succ fu ih =>
      intro i hi hr2 H locs hM ls hl hmu
      refine lv_iload_n hx hb dX11_nightsTill_2 rfl (lv_at hl 3 rfl) ?_
      refine lv_sipush (v := 900) hx hb dX11_nightsTill_3 (by decide) ?_
      refine lv_icmp_gt (tgt := 68) hx hb dX11_nightsTill_6 (by decide) (fun c_1 => ?_) (fun c_1 => ?_)
      · skip
        have hz1 : i = 901 := by
          rcases Nat.lt_or_ge 900 i with q | q
          · omega
          · exact absurd (nI_leI (by omega) (by omega) |>.mpr q) (Int32.not_le.mpr c_1)
        refine lv_bipush (v := -5) hx hb dX11_nightsTill_68 (by decide) ?_
        exact R_i X hr hk hM ⟨(by rw [hr2, hz1]; rfl), rfl⟩ dX11_nightsTill_70
      · skip
        have hz1 : i < 901 := by
          rcases Nat.lt_or_ge 900 i with q | q
          · exact absurd ((nI_ltI (by omega) (by omega)).mpr q) c_1
          · omega
        refine lv_aload_n hx hb dX11_nightsTill_9 rfl (lv_at hl 0 rfl) ?_
        refine r_get (T := TX11) (N := 7) (ci := 11) (v := .ref (gA g 3)) X hM iX11 rfl 1 (by decide) q_177 (Or.inl rfl) h0 rfl dX11_nightsTill_10 ?_
        refine r_get (T := TX4) (N := 14) (ci := 4) (v := .int (eNi en)) X hM iX4 rfl 0 (by decide) q_96 (Or.inl rfl) h3 rfl dX11_nightsTill_13 ?_
        refine lv_iload_n hx hb dX11_nightsTill_16 rfl (lv_at hl 3 rfl) ?_
        refine lv_iadd hx hb dX11_nightsTill_17 ?_
        refine lv_istore (lv' := [(4, .int ((eNi en) + (nI i))), (0, .ref (gA g 0)), (1, .int xa), (2, .int xb), (3, .int (nI i))]) hx hb dX11_nightsTill_18 hl (by decide) rfl (fun ls hl => ?_)
        refine lv_aload_n hx hb dX11_nightsTill_20 rfl (lv_at hl 1 rfl) ?_
        refine r_get (T := TX11) (N := 7) (ci := 11) (v := .ref (gA g 3)) X hM iX11 rfl 1 (by decide) q_177 (Or.inl rfl) h0 rfl dX11_nightsTill_21 ?_
        refine lv_iload_n hx hb dX11_nightsTill_24 rfl (lv_at hl 2 rfl) ?_
        refine lv_iload hx hb dX11_nightsTill_25 (lv_at hl 0 rfl) ?_
        refine lv_aload_n hx hb dX11_nightsTill_27 rfl (lv_at hl 1 rfl) ?_
        refine r_get (T := TX11) (N := 7) (ci := 11) (v := .ref (gA g 3)) X hM iX11 rfl 1 (by decide) q_177 (Or.inl rfl) h0 rfl dX11_nightsTill_28 ?_
        refine r_get (T := TX4) (N := 14) (ci := 4) (v := .int (eHi en)) X hM iX4 rfl 3 (by decide) q_102 (Or.inl rfl) h3 rfl dX11_nightsTill_31 ?_
        refine K_i (G_V (As := [.int xa, .int ((eNi en) + (nI i)), .int (eHi en)]) (rest := []) X hM (c_X4_isUp l g _ en (eNi en) (eSk en) (eHi en) xa ja ((eNi en) + (nI i)) (eHi en) h3 h5 h6 h7 hE ea hja) lk_X11_130 h3 rfl rfl hl.1 rfl (Nat.le_of_ble_eq_true rfl) (by decide) dX11_nightsTill_34 ⟨Nat.le_of_ble_eq_true rfl, Nat.le_of_ble_eq_true rfl⟩) hM (fun r M1 H locs hM hp => ?_)
        obtain ⟨rfl, rfl⟩ := hp
        refine lv_if_eq (tgt := 62) hx hb dX11_nightsTill_37 (by decide) (fun c_2 => ?_) (fun c_2 => ?_)
        · skip
          refine lv_iinc (v := (nI i) + 1) (lv' := [(3, .int ((nI i) + 1)), (4, .int ((eNi en) + (nI i))), (0, .ref (gA g 0)), (1, .int xa), (2, .int xb)]) hx hb dX11_nightsTill_62 hl (k := 4) rfl rfl (by decide) rfl (fun ls hl => ?_)
          refine lv_goto (tgt := 2) hx hb dX11_nightsTill_65 (by decide) ?_
          exact ih (i + 1) (by omega) (by rw [hr2, show 901 - i = (901 - (i + 1)) + 1 by omega, till]; simp [fBoth, *]) _ _ hM _ ((by rw [← nI_1]; exact lv_sub hl [2, 3, 4, 0] rfl)) (by omega)
        · skip
          refine lv_aload_n hx hb dX11_nightsTill_40 rfl (lv_at hl 1 rfl) ?_
          refine r_get (T := TX11) (N := 7) (ci := 11) (v := .ref (gA g 3)) X hM iX11 rfl 1 (by decide) q_177 (Or.inl rfl) h0 rfl dX11_nightsTill_41 ?_
          refine lv_iload_n hx hb dX11_nightsTill_44 rfl (lv_at hl 3 rfl) ?_
          refine lv_iload hx hb dX11_nightsTill_45 (lv_at hl 0 rfl) ?_
          refine lv_aload_n hx hb dX11_nightsTill_47 rfl (lv_at hl 1 rfl) ?_
          refine r_get (T := TX11) (N := 7) (ci := 11) (v := .ref (gA g 3)) X hM iX11 rfl 1 (by decide) q_177 (Or.inl rfl) h0 rfl dX11_nightsTill_48 ?_
          refine r_get (T := TX4) (N := 14) (ci := 4) (v := .int (eHi en)) X hM iX4 rfl 3 (by decide) q_102 (Or.inl rfl) h3 rfl dX11_nightsTill_51 ?_
          refine K_i (G_V (As := [.int xb, .int ((eNi en) + (nI i)), .int (eHi en)]) (rest := []) X hM (c_X4_isUp l g _ en (eNi en) (eSk en) (eHi en) xb jb ((eNi en) + (nI i)) (eHi en) h3 h5 h6 h7 hE eb hjb) lk_X11_130 h3 rfl rfl hl.1 rfl (Nat.le_of_ble_eq_true rfl) (by decide) dX11_nightsTill_54 ⟨Nat.le_of_ble_eq_true rfl, Nat.le_of_ble_eq_true rfl⟩) hM (fun r M1 H locs hM hp => ?_)
          obtain ⟨rfl, rfl⟩ := hp
          refine lv_if_eq (tgt := 62) hx hb dX11_nightsTill_57 (by decide) (fun c_3 => ?_) (fun c_3 => ?_)
          · skip
            refine lv_iinc (v := (nI i) + 1) (lv' := [(3, .int ((nI i) + 1)), (4, .int ((eNi en) + (nI i))), (0, .ref (gA g 0)), (1, .int xa), (2, .int xb)]) hx hb dX11_nightsTill_62 hl (k := 4) rfl rfl (by decide) rfl (fun ls hl => ?_)
            refine lv_goto (tgt := 2) hx hb dX11_nightsTill_65 (by decide) ?_
            exact ih (i + 1) (by omega) (by rw [hr2, show 901 - i = (901 - (i + 1)) + 1 by omega, till]; simp [fBoth, *]) _ _ hM _ ((by rw [← nI_1]; exact lv_sub hl [2, 3, 4, 0] rfl)) (by omega)
          · skip
            refine lv_iload_n hx hb dX11_nightsTill_60 rfl (lv_at hl 4 rfl) ?_
            exact R_i X hr hk hM ⟨(by rw [hr2, show 901 - i = (900 - i) + 1 by omega, till]; simp [fBoth, *]), rfl⟩ dX11_nightsTill_61
  exact L2 (901 + 1) 0 (by decide) rfl _ _ hM _ (lv_sub hl [1, 2, 3, 0] rfl) (by first | exact Nat.lt_succ_self _ | omega)
set_option maxHeartbeats 4000000 in
set_option maxRecDepth 100000 in
theorem c_X11_given (l : Launch) (g : Gp) (M : Mem) (a n z : Nat) (f : Nat → Int32) (way ow : Int32) (h_a : M a = some (aI g n f)) (hn : n < 2147483648) (hz : z < 2147483648) : Met l yX11_given (wsM yX11_given cX11_given 6 (some .int)) (rmD 2 0 0) (Pre g M [.ref a, .int (nI z), .int way, .int ow]) (Qi g (fun r M1 => (givN n f way ow z) = r ∧ M = M1)) 0 0 (gF g) := M_start (by decide +kernel) (Nat.le_of_ble_eq_true rfl) fun p e s m args below meth c ls X hr hk hnm hM hl => by
  have X : Cx g p m c cX11_given 6 s args RX11 := X
  have hx := X.1.1
  have hb := X.1.2.1
  have hl : lv_has ls 6 [(0, .ref a), (1, .int (nI z)), (2, .int way), (3, .int ow)] := hl
  refine lv_iconst (v := 0) hx hb dX11_given_0 (by decide) ?_
  refine lv_istore (lv' := [(4, .int 0), (0, .ref a), (1, .int (nI z)), (2, .int way), (3, .int ow)]) hx hb dX11_given_1 hl (by decide) rfl (fun ls hl => ?_)
  refine lv_iconst (v := 0) hx hb dX11_given_3 (by decide) ?_
  refine lv_istore (lv' := [(5, .int 0), (4, .int 0), (0, .ref a), (1, .int (nI z)), (2, .int way), (3, .int ow)]) hx hb dX11_given_4 hl (by decide) rfl (fun ls hl => ?_)
  have L6 : ∀ (fu : Nat) (i : Nat) (x4 : Int32) (hi : i ≤ z) (k4 : x4 = givN n f way ow i) (H : Heap) (locs : List Loc) (hM : MW g (M) H locs) (ls : Array Slot) (hl : lv_has ls 6 [(0, .ref a), (1, .int (nI z)), (2, .int way), (3, .int ow), (4, .int x4), (5, .int (nI i))]), z - i < fu → W p l e (rmD 2 0 0) s m args below meth c H locs 0 0 (MQ below (Qi g (fun r M1 => (givN n f way ow z) = r ∧ M = M1)) args s 0 0 (gF g)) (F0 m 6 ls []) := by
    intro fu
    induction fu with
    | zero => intro i x4 hi k4 H locs hM ls hl hmu; exact absurd hmu (Nat.not_lt_zero _)
    | succ fu ih =>
      intro i x4 hi k4 H locs hM ls hl hmu
      refine lv_iload hx hb dX11_given_6 (lv_at hl 5 rfl) ?_
      refine lv_iload_n hx hb dX11_given_8 rfl (lv_at hl 1 rfl) ?_
      refine lv_icmp_ge (tgt := 39) hx hb dX11_given_9 (by decide) (fun c_1 => ?_) (fun c_1 => ?_)
      · skip
        have hz1 : z ≤ i := (nI_leI (by omega) (by omega)).mp c_1
        have hz2 : i = z := by omega
        rw [hz2] at k4
        refine lv_iload hx hb dX11_given_39 (lv_at hl 4 rfl) ?_
        exact R_i X hr hk hM ⟨k4.symm, rfl⟩ dX11_given_41
      · skip
        have hz1 : i < z := by
          rcases Nat.lt_or_ge i (z) with q | q
          · exact q
          · exact absurd ((nI_leI (by omega) (by omega)).mpr q) c_1
        refine lv_iload_n hx hb dX11_given_12 rfl (lv_at hl 2 rfl) ?_
        refine lv_iload hx hb dX11_given_13 (lv_at hl 5 rfl) ?_
        refine K_i (G_S (As := [.int way, .int (nI i)]) (rest := []) X hM (c_X11_bitOf l g _ way (nI i)  ) lk_X11_123 rfl hl.1 rfl (Nat.le_of_ble_eq_true rfl) (by decide) dX11_given_15 ⟨Nat.le_of_ble_eq_true rfl, Nat.le_of_ble_eq_true rfl⟩) hM (fun r M1 H locs hM hp => ?_)
        obtain ⟨rfl, rfl⟩ := hp
        refine lv_iload_n hx hb dX11_given_18 rfl (lv_at hl 3 rfl) ?_
        refine lv_icmp_ne (tgt := 33) hx hb dX11_given_19 (by decide) (fun c_2 => ?_) (fun c_2 => ?_)
        · skip
          refine lv_iinc (v := (nI i) + 1) (lv' := [(5, .int ((nI i) + 1)), (0, .ref a), (1, .int (nI z)), (2, .int way), (3, .int ow), (4, .int x4)]) hx hb dX11_given_33 hl (k := 5) rfl rfl (by decide) rfl (fun ls hl => ?_)
          refine lv_goto (tgt := 6) hx hb dX11_given_36 (by decide) ?_
          exact ih (i + 1) x4 (by omega) (by rw [k4, givN]; simp [*]) _ _ hM _ ((by rw [← nI_1]; exact lv_sub hl [1, 2, 3, 4, 5, 0] rfl)) (by omega)
        · skip
          refine lv_iload hx hb dX11_given_22 (lv_at hl 4 rfl) ?_
          refine lv_aload_n hx hb dX11_given_24 rfl (lv_at hl 0 rfl) ?_
          refine lv_iload hx hb dX11_given_25 (lv_at hl 5 rfl) ?_
          refine K_i (G_S (As := [.ref a, .int (nI i)]) (rest := [.int x4]) X hM (c_X11_at l g _ a n f (nI i) h_a hn) lk_X11_113 rfl hl.1 rfl (Nat.le_of_ble_eq_true rfl) (by decide) dX11_given_27 ⟨Nat.le_of_ble_eq_true rfl, Nat.le_of_ble_eq_true rfl⟩) hM (fun r M1 H locs hM hp => ?_)
          obtain ⟨rfl, rfl⟩ := hp
          refine lv_iadd hx hb dX11_given_30 ?_
          refine lv_istore (lv' := [(4, .int (x4 + (fAt n f (nI i)))), (0, .ref a), (1, .int (nI z)), (2, .int way), (3, .int ow), (5, .int (nI i))]) hx hb dX11_given_31 hl (by decide) rfl (fun ls hl => ?_)
          refine lv_iinc (v := (nI i) + 1) (lv' := [(5, .int ((nI i) + 1)), (4, .int (x4 + (fAt n f (nI i)))), (0, .ref a), (1, .int (nI z)), (2, .int way), (3, .int ow)]) hx hb dX11_given_33 hl (k := 5) rfl rfl (by decide) rfl (fun ls hl => ?_)
          refine lv_goto (tgt := 6) hx hb dX11_given_36 (by decide) ?_
          exact ih (i + 1) (x4 + (fAt n f (nI i))) (by omega) (by rw [k4, givN]; simp [*]) _ _ hM _ ((by rw [← nI_1]; exact lv_sub hl [2, 3, 4, 5, 1, 0] rfl)) (by omega)
  exact L6 (z + 1) 0 0 (Nat.zero_le _) rfl _ _ hM _ (lv_sub hl [2, 3, 4, 5, 1, 0] rfl) (by first | exact Nat.lt_succ_self _ | omega)
set_option maxHeartbeats 4000000 in
set_option maxRecDepth 100000 in
theorem c_X11_fullestWay (l : Launch) (g : Gp) (M : Mem) (a b n z : Nat) (f0 f1 : Nat → Int32) (h_a : M a = some (aI g n f0)) (h_b : M b = some (aI g n f1)) (hn : n < 2147483648) (hz : z < 2147483648) : Met l yX11_fullestWay (wsM yX11_fullestWay cX11_fullestWay 5 (some .int)) (rmD 2 0 0) (Pre g M [.ref a, .ref b, .int (nI z)]) (Qi g (fun r M1 => (fulN n f0 f1 z) = r ∧ M = M1)) 0 0 (gF g) := M_start (by decide +kernel) (Nat.le_of_ble_eq_true rfl) fun p e s m args below meth c ls X hr hk hnm hM hl => by
  have X : Cx g p m c cX11_fullestWay 5 s args RX11 := X
  have hx := X.1.1
  have hb := X.1.2.1
  have hl : lv_has ls 5 [(0, .ref a), (1, .ref b), (2, .int (nI z))] := hl
  refine lv_iconst (v := 0) hx hb dX11_fullestWay_0 (by decide) ?_
  refine lv_istore_n (lv' := [(3, .int 0), (0, .ref a), (1, .ref b), (2, .int (nI z))]) hx hb dX11_fullestWay_1 rfl hl (by decide) rfl (fun ls hl => ?_)
  refine lv_iconst (v := 0) hx hb dX11_fullestWay_2 (by decide) ?_
  refine lv_istore (lv' := [(4, .int 0), (3, .int 0), (0, .ref a), (1, .ref b), (2, .int (nI z))]) hx hb dX11_fullestWay_3 hl (by decide) rfl (fun ls hl => ?_)
  have L5 : ∀ (fu : Nat) (i : Nat) (x3 : Int32) (hi : i ≤ z) (k3 : x3 = fulN n f0 f1 i) (H : Heap) (locs : List Loc) (hM : MW g (M) H locs) (ls : Array Slot) (hl : lv_has ls 5 [(0, .ref a), (1, .ref b), (2, .int (nI z)), (3, .int x3), (4, .int (nI i))]), z - i < fu → W p l e (rmD 2 0 0) s m args below meth c H locs 0 0 (MQ below (Qi g (fun r M1 => (fulN n f0 f1 z) = r ∧ M = M1)) args s 0 0 (gF g)) (F0 m 5 ls []) := by
    intro fu
    induction fu with
    | zero => intro i x3 hi k3 H locs hM ls hl hmu; exact absurd hmu (Nat.not_lt_zero _)
    | succ fu ih =>
      intro i x3 hi k3 H locs hM ls hl hmu
      refine lv_iload hx hb dX11_fullestWay_5 (lv_at hl 4 rfl) ?_
      refine lv_iload_n hx hb dX11_fullestWay_7 rfl (lv_at hl 2 rfl) ?_
      refine lv_icmp_ge (tgt := 44) hx hb dX11_fullestWay_8 (by decide) (fun c_1 => ?_) (fun c_1 => ?_)
      · skip
        have hz1 : z ≤ i := (nI_leI (by omega) (by omega)).mp c_1
        have hz2 : i = z := by omega
        rw [hz2] at k3
        refine lv_iload_n hx hb dX11_fullestWay_44 rfl (lv_at hl 3 rfl) ?_
        exact R_i X hr hk hM ⟨k3.symm, rfl⟩ dX11_fullestWay_45
      · skip
        have hz1 : i < z := by
          rcases Nat.lt_or_ge i (z) with q | q
          · exact q
          · exact absurd ((nI_leI (by omega) (by omega)).mpr q) c_1
        refine lv_iload_n hx hb dX11_fullestWay_11 rfl (lv_at hl 3 rfl) ?_
        refine lv_iload hx hb dX11_fullestWay_12 (lv_at hl 4 rfl) ?_
        refine lv_aload_n hx hb dX11_fullestWay_14 rfl (lv_at hl 1 rfl) ?_
        refine lv_iload hx hb dX11_fullestWay_15 (lv_at hl 4 rfl) ?_
        refine K_i (G_S (As := [.ref b, .int (nI i)]) (rest := [.int (nI i), .int x3]) X hM (c_X11_at l g _ b n f1 (nI i) h_b hn) lk_X11_113 rfl hl.1 rfl (Nat.le_of_ble_eq_true rfl) (by decide) dX11_fullestWay_17 ⟨Nat.le_of_ble_eq_true rfl, Nat.le_of_ble_eq_true rfl⟩) hM (fun r M1 H locs hM hp => ?_)
        obtain ⟨rfl, rfl⟩ := hp
        refine lv_aload_n hx hb dX11_fullestWay_20 rfl (lv_at hl 0 rfl) ?_
        refine lv_iload hx hb dX11_fullestWay_21 (lv_at hl 4 rfl) ?_
        refine K_i (G_S (As := [.ref a, .int (nI i)]) (rest := [.int (fAt n f1 (nI i)), .int (nI i), .int x3]) X hM (c_X11_at l g _ a n f0 (nI i) h_a hn) lk_X11_113 rfl hl.1 rfl (Nat.le_of_ble_eq_true rfl) (by decide) dX11_fullestWay_23 ⟨Nat.le_of_ble_eq_true rfl, Nat.le_of_ble_eq_true rfl⟩) hM (fun r M1 H locs hM hp => ?_)
        obtain ⟨rfl, rfl⟩ := hp
        refine lv_icmp_le (tgt := 33) hx hb dX11_fullestWay_26 (by decide) (fun c_2 => ?_) (fun c_2 => ?_)
        · skip
          refine lv_iconst (v := 0) hx hb dX11_fullestWay_33 (by decide) ?_
          refine K_i (G_S (As := [.int x3, .int (nI i), .int 0]) (rest := []) X hM (c_X11_withBit l g _ x3 (nI i) 0  ) lk_X11_148 rfl hl.1 rfl (Nat.le_of_ble_eq_true rfl) (by decide) dX11_fullestWay_34 ⟨Nat.le_of_ble_eq_true rfl, Nat.le_of_ble_eq_true rfl⟩) hM (fun r M1 H locs hM hp => ?_)
          obtain ⟨rfl, rfl⟩ := hp
          refine lv_istore_n (lv' := [(3, .int (fWith x3 (nI i) 0)), (0, .ref a), (1, .ref b), (2, .int (nI z)), (4, .int (nI i))]) hx hb dX11_fullestWay_37 rfl hl (by decide) rfl (fun ls hl => ?_)
          refine lv_iinc (v := (nI i) + 1) (lv' := [(4, .int ((nI i) + 1)), (3, .int (fWith x3 (nI i) 0)), (0, .ref a), (1, .ref b), (2, .int (nI z))]) hx hb dX11_fullestWay_38 hl (k := 4) rfl rfl (by decide) rfl (fun ls hl => ?_)
          refine lv_goto (tgt := 5) hx hb dX11_fullestWay_41 (by decide) ?_
          exact ih (i + 1) (fWith x3 (nI i) 0) (by omega) (by rw [k3, fulN]; simp [*]) _ _ hM _ ((by rw [← nI_1]; exact lv_sub hl [2, 3, 4, 1, 0] rfl)) (by omega)
        · skip
          refine lv_iconst (v := 1) hx hb dX11_fullestWay_29 (by decide) ?_
          refine lv_goto (tgt := 34) hx hb dX11_fullestWay_30 (by decide) ?_
          refine K_i (G_S (As := [.int x3, .int (nI i), .int 1]) (rest := []) X hM (c_X11_withBit l g _ x3 (nI i) 1  ) lk_X11_148 rfl hl.1 rfl (Nat.le_of_ble_eq_true rfl) (by decide) dX11_fullestWay_34 ⟨Nat.le_of_ble_eq_true rfl, Nat.le_of_ble_eq_true rfl⟩) hM (fun r M1 H locs hM hp => ?_)
          obtain ⟨rfl, rfl⟩ := hp
          refine lv_istore_n (lv' := [(3, .int (fWith x3 (nI i) 1)), (0, .ref a), (1, .ref b), (2, .int (nI z)), (4, .int (nI i))]) hx hb dX11_fullestWay_37 rfl hl (by decide) rfl (fun ls hl => ?_)
          refine lv_iinc (v := (nI i) + 1) (lv' := [(4, .int ((nI i) + 1)), (3, .int (fWith x3 (nI i) 1)), (0, .ref a), (1, .ref b), (2, .int (nI z))]) hx hb dX11_fullestWay_38 hl (k := 4) rfl rfl (by decide) rfl (fun ls hl => ?_)
          refine lv_goto (tgt := 5) hx hb dX11_fullestWay_41 (by decide) ?_
          exact ih (i + 1) (fWith x3 (nI i) 1) (by omega) (by rw [k3, fulN]; simp [*]) _ _ hM _ ((by rw [← nI_1]; exact lv_sub hl [2, 3, 4, 1, 0] rfl)) (by omega)
  exact L5 (z + 1) 0 0 (Nat.zero_le _) rfl _ _ hM _ (lv_sub hl [2, 3, 4, 1, 0] rfl) (by first | exact Nat.lt_succ_self _ | omega)
set_option maxHeartbeats 4000000 in
set_option maxRecDepth 100000 in
theorem c_X11_evenestWay (l : Launch) (g : Gp) (M : Mem) (a b n z : Nat) (f0 f1 : Nat → Int32) (h_a : M a = some (aI g n f0)) (h_b : M b = some (aI g n f1)) (hn : n < 2147483648) (hz : z < 10) : Met l yX11_evenestWay (wsM yX11_evenestWay cX11_evenestWay 10 (some .int)) (rmD 3 0 0) (Pre g M [.ref a, .ref b, .int (nI z)]) (Qi g (fun r M1 => ((evN n z f0 f1 (2 ^ z)).1) = r ∧ M = M1)) 0 0 (gF g) := M_start (by decide +kernel) (Nat.le_of_ble_eq_true rfl) fun p e s m args below meth c ls X hr hk hnm hM hl => by
  have X : Cx g p m c cX11_evenestWay 10 s args RX11 := X
  have hx := X.1.1
  have hb := X.1.2.1
  have hl : lv_has ls 10 [(0, .ref a), (1, .ref b), (2, .int (nI z))] := hl
  have h10 := pow10 hz
  refine lv_iconst (v := 0) hx hb dX11_evenestWay_0 (by decide) ?_
  refine lv_istore_n (lv' := [(3, .int 0), (0, .ref a), (1, .ref b), (2, .int (nI z))]) hx hb dX11_evenestWay_1 rfl hl (by decide) rfl (fun ls hl => ?_)
  refine lv_iconst (v := -1) hx hb dX11_evenestWay_2 (by decide) ?_
  refine lv_istore (lv' := [(4, .int (-1)), (3, .int 0), (0, .ref a), (1, .ref b), (2, .int (nI z))]) hx hb dX11_evenestWay_3 hl (by decide) rfl (fun ls hl => ?_)
  refine lv_iconst (v := -1) hx hb dX11_evenestWay_5 (by decide) ?_
  refine lv_istore (lv' := [(5, .int (-1)), (4, .int (-1)), (3, .int 0), (0, .ref a), (1, .ref b), (2, .int (nI z))]) hx hb dX11_evenestWay_6 hl (by decide) rfl (fun ls hl => ?_)
  refine lv_iconst (v := 0) hx hb dX11_evenestWay_8 (by decide) ?_
  refine lv_istore (lv' := [(6, .int 0), (5, .int (-1)), (4, .int (-1)), (3, .int 0), (0, .ref a), (1, .ref b), (2, .int (nI z))]) hx hb dX11_evenestWay_9 hl (by decide) rfl (fun ls hl => ?_)
  have L11 : ∀ (fu : Nat) (w : Nat) (x3 x4 x5 : Int32) (hi : w ≤ 2 ^ z) (k : (x3, x4, x5) = evN n z f0 f1 w) (H : Heap) (locs : List Loc) (hM : MW g (M) H locs) (ls : Array Slot) (hl : lv_has ls 10 [(0, .ref a), (1, .ref b), (2, .int (nI z)), (3, .int x3), (4, .int x4), (5, .int x5), (6, .int (nI w))]), 2 ^ z - w < fu → W p l e (rmD 3 0 0) s m args below meth c H locs 0 0 (MQ below (Qi g (fun r M1 => ((evN n z f0 f1 (2 ^ z)).1) = r ∧ M = M1)) args s 0 0 (gF g)) (F0 m 11 ls []) := by
    intro fu
    induction fu with
    | zero => intro w x3 x4 x5 hi k H locs hM ls hl hmu; exact absurd hmu (Nat.not_lt_zero _)
    | succ fu ih =>
      intro w x3 x4 x5 hi k H locs hM ls hl hmu
      refine lv_iload hx hb dX11_evenestWay_11 (lv_at hl 6 rfl) ?_
      refine lv_iconst (v := 1) hx hb dX11_evenestWay_13 (by decide) ?_
      refine lv_iload_n hx hb dX11_evenestWay_14 rfl (lv_at hl 2 rfl) ?_
      refine lv_ishl hx hb dX11_evenestWay_15 ?_
      refine lv_icmp_ge (tgt := 92) hx hb dX11_evenestWay_16 (by decide) (fun c_1 => ?_) (fun c_1 => ?_)
      · skip
        rw [shl1 z hz] at c_1
        have hz1 : 2 ^ z ≤ w := (nI_leI (by omega) (by omega)).mp c_1
        have hz2 : w = 2 ^ z := by omega
        rw [hz2] at k
        refine lv_iload_n hx hb dX11_evenestWay_92 rfl (lv_at hl 3 rfl) ?_
        exact R_i X hr hk hM ⟨(by rw [← k]), rfl⟩ dX11_evenestWay_93
      · skip
        rw [shl1 z hz] at c_1
        have hz1 : w < 2 ^ z := by
          rcases Nat.lt_or_ge w (2 ^ z) with q | q
          · exact q
          · exact absurd ((nI_leI (by omega) (by omega)).mpr q) c_1
        refine lv_aload_n hx hb dX11_evenestWay_19 rfl (lv_at hl 0 rfl) ?_
        refine lv_iload_n hx hb dX11_evenestWay_20 rfl (lv_at hl 2 rfl) ?_
        refine lv_iload hx hb dX11_evenestWay_21 (lv_at hl 6 rfl) ?_
        refine lv_iconst (v := 0) hx hb dX11_evenestWay_23 (by decide) ?_
        refine K_i (G_S (As := [.ref a, .int (nI z), .int (nI w), .int 0]) (rest := []) X hM (c_X11_given l g _ a n z f0 (nI w) 0 h_a hn (by omega)) lk_X11_200 rfl hl.1 rfl (Nat.le_of_ble_eq_true rfl) (by decide) dX11_evenestWay_24 ⟨Nat.le_of_ble_eq_true rfl, Nat.le_of_ble_eq_true rfl⟩) hM (fun r M1 H locs hM hp => ?_)
        obtain ⟨rfl, rfl⟩ := hp
        refine lv_istore (lv' := [(7, .int (givN n f0 (nI w) 0 z)), (0, .ref a), (1, .ref b), (2, .int (nI z)), (3, .int x3), (4, .int x4), (5, .int x5), (6, .int (nI w))]) hx hb dX11_evenestWay_27 hl (by decide) rfl (fun ls hl => ?_)
        refine lv_aload_n hx hb dX11_evenestWay_29 rfl (lv_at hl 2 rfl) ?_
        refine lv_iload_n hx hb dX11_evenestWay_30 rfl (lv_at hl 3 rfl) ?_
        refine lv_iload hx hb dX11_evenestWay_31 (lv_at hl 7 rfl) ?_
        refine lv_iconst (v := 1) hx hb dX11_evenestWay_33 (by decide) ?_
        refine K_i (G_S (As := [.ref b, .int (nI z), .int (nI w), .int 1]) (rest := []) X hM (c_X11_given l g _ b n z f1 (nI w) 1 h_b hn (by omega)) lk_X11_200 rfl hl.1 rfl (Nat.le_of_ble_eq_true rfl) (by decide) dX11_evenestWay_34 ⟨Nat.le_of_ble_eq_true rfl, Nat.le_of_ble_eq_true rfl⟩) hM (fun r M1 H locs hM hp => ?_)
        obtain ⟨rfl, rfl⟩ := hp
        refine lv_istore (lv' := [(8, .int (givN n f1 (nI w) 1 z)), (7, .int (givN n f0 (nI w) 0 z)), (0, .ref a), (1, .ref b), (2, .int (nI z)), (3, .int x3), (4, .int x4), (5, .int x5), (6, .int (nI w))]) hx hb dX11_evenestWay_37 hl (by decide) rfl (fun ls hl => ?_)
        refine lv_iload hx hb dX11_evenestWay_39 (lv_at hl 1 rfl) ?_
        refine lv_iload hx hb dX11_evenestWay_41 (lv_at hl 0 rfl) ?_
        refine r_min X hl.1 q_339 q_340 q_3 q_341 (by decide) (Nat.le_of_ble_eq_true rfl) (Nat.le_of_ble_eq_true rfl) (Nat.le_of_ble_eq_true rfl) dX11_evenestWay_43 ?_
        refine lv_istore (lv' := [(9, .int (if givN n f1 (nI w) 1 z < givN n f0 (nI w) 0 z then givN n f1 (nI w) 1 z else givN n f0 (nI w) 0 z)), (8, .int (givN n f1 (nI w) 1 z)), (7, .int (givN n f0 (nI w) 0 z)), (0, .ref a), (1, .ref b), (2, .int (nI z)), (3, .int x3), (4, .int x4), (5, .int x5), (6, .int (nI w))]) hx hb dX11_evenestWay_46 hl (by decide) rfl (fun ls hl => ?_)
        refine lv_iload hx hb dX11_evenestWay_48 (lv_at hl 0 rfl) ?_
        refine lv_iload hx hb dX11_evenestWay_50 (lv_at hl 7 rfl) ?_
        refine lv_icmp_gt (tgt := 72) hx hb dX11_evenestWay_52 (by decide) (fun c_2 => ?_) (fun c_2 => ?_)
        · skip
          refine lv_iload hx hb dX11_evenestWay_72 (lv_at hl 9 rfl) ?_
          refine lv_istore_n (lv' := [(3, .int (nI w)), (9, .int (if givN n f1 (nI w) 1 z < givN n f0 (nI w) 0 z then givN n f1 (nI w) 1 z else givN n f0 (nI w) 0 z)), (8, .int (givN n f1 (nI w) 1 z)), (7, .int (givN n f0 (nI w) 0 z)), (0, .ref a), (1, .ref b), (2, .int (nI z)), (4, .int x4), (5, .int x5), (6, .int (nI w))]) hx hb dX11_evenestWay_74 rfl hl (by decide) rfl (fun ls hl => ?_)
          refine lv_iload hx hb dX11_evenestWay_75 (lv_at hl 1 rfl) ?_
          refine lv_istore (lv' := [(4, .int (if givN n f1 (nI w) 1 z < givN n f0 (nI w) 0 z then givN n f1 (nI w) 1 z else givN n f0 (nI w) 0 z)), (3, .int (nI w)), (9, .int (if givN n f1 (nI w) 1 z < givN n f0 (nI w) 0 z then givN n f1 (nI w) 1 z else givN n f0 (nI w) 0 z)), (8, .int (givN n f1 (nI w) 1 z)), (7, .int (givN n f0 (nI w) 0 z)), (0, .ref a), (1, .ref b), (2, .int (nI z)), (5, .int x5), (6, .int (nI w))]) hx hb dX11_evenestWay_77 hl (by decide) rfl (fun ls hl => ?_)
          refine lv_iload hx hb dX11_evenestWay_79 (lv_at hl 4 rfl) ?_
          refine lv_iload hx hb dX11_evenestWay_81 (lv_at hl 3 rfl) ?_
          refine lv_iadd hx hb dX11_evenestWay_83 ?_
          refine lv_istore (lv' := [(5, .int ((givN n f0 (nI w) 0 z) + (givN n f1 (nI w) 1 z))), (4, .int (if givN n f1 (nI w) 1 z < givN n f0 (nI w) 0 z then givN n f1 (nI w) 1 z else givN n f0 (nI w) 0 z)), (3, .int (nI w)), (9, .int (if givN n f1 (nI w) 1 z < givN n f0 (nI w) 0 z then givN n f1 (nI w) 1 z else givN n f0 (nI w) 0 z)), (8, .int (givN n f1 (nI w) 1 z)), (7, .int (givN n f0 (nI w) 0 z)), (0, .ref a), (1, .ref b), (2, .int (nI z)), (6, .int (nI w))]) hx hb dX11_evenestWay_84 hl (by decide) rfl (fun ls hl => ?_)
          refine lv_iinc (v := (nI w) + 1) (lv' := [(6, .int ((nI w) + 1)), (5, .int ((givN n f0 (nI w) 0 z) + (givN n f1 (nI w) 1 z))), (4, .int (if givN n f1 (nI w) 1 z < givN n f0 (nI w) 0 z then givN n f1 (nI w) 1 z else givN n f0 (nI w) 0 z)), (3, .int (nI w)), (9, .int (if givN n f1 (nI w) 1 z < givN n f0 (nI w) 0 z then givN n f1 (nI w) 1 z else givN n f0 (nI w) 0 z)), (8, .int (givN n f1 (nI w) 1 z)), (7, .int (givN n f0 (nI w) 0 z)), (0, .ref a), (1, .ref b), (2, .int (nI z))]) hx hb dX11_evenestWay_86 hl (k := 9) rfl rfl (by decide) rfl (fun ls hl => ?_)
          refine lv_goto (tgt := 11) hx hb dX11_evenestWay_89 (by decide) ?_
          exact ih (w + 1) (nI w) (if givN n f1 (nI w) 1 z < givN n f0 (nI w) 0 z then givN n f1 (nI w) 1 z else givN n f0 (nI w) 0 z) ((givN n f0 (nI w) 0 z) + (givN n f1 (nI w) 1 z)) (by omega) (by rw [evN, ← k]; simp [evL, evS, *]) _ _ hM _ ((by rw [← nI_1]; exact lv_sub hl [7, 8, 9, 3, 2, 1, 0] rfl)) (by omega)
        · skip
          refine lv_iload hx hb dX11_evenestWay_55 (lv_at hl 0 rfl) ?_
          refine lv_iload hx hb dX11_evenestWay_57 (lv_at hl 7 rfl) ?_
          refine lv_icmp_ne (tgt := 86) hx hb dX11_evenestWay_59 (by decide) (fun c_3 => ?_) (fun c_3 => ?_)
          · skip
            refine lv_iinc (v := (nI w) + 1) (lv' := [(6, .int ((nI w) + 1)), (9, .int (if givN n f1 (nI w) 1 z < givN n f0 (nI w) 0 z then givN n f1 (nI w) 1 z else givN n f0 (nI w) 0 z)), (8, .int (givN n f1 (nI w) 1 z)), (7, .int (givN n f0 (nI w) 0 z)), (0, .ref a), (1, .ref b), (2, .int (nI z)), (3, .int x3), (4, .int x4), (5, .int x5)]) hx hb dX11_evenestWay_86 hl (k := 9) rfl rfl (by decide) rfl (fun ls hl => ?_)
            refine lv_goto (tgt := 11) hx hb dX11_evenestWay_89 (by decide) ?_
            exact ih (w + 1) x3 x4 x5 (by omega) (by rw [evN, ← k]; simp [evL, evS, *]) _ _ hM _ ((by rw [← nI_1]; exact lv_sub hl [4, 5, 6, 7, 8, 9, 0] rfl)) (by omega)
          · skip
            refine lv_iload hx hb dX11_evenestWay_62 (lv_at hl 2 rfl) ?_
            refine lv_iload hx hb dX11_evenestWay_64 (lv_at hl 1 rfl) ?_
            refine lv_iadd hx hb dX11_evenestWay_66 ?_
            refine lv_iload hx hb dX11_evenestWay_67 (lv_at hl 8 rfl) ?_
            refine lv_icmp_le (tgt := 86) hx hb dX11_evenestWay_69 (by decide) (fun c_4 => ?_) (fun c_4 => ?_)
            · skip
              refine lv_iinc (v := (nI w) + 1) (lv' := [(6, .int ((nI w) + 1)), (9, .int (if givN n f1 (nI w) 1 z < givN n f0 (nI w) 0 z then givN n f1 (nI w) 1 z else givN n f0 (nI w) 0 z)), (8, .int (givN n f1 (nI w) 1 z)), (7, .int (givN n f0 (nI w) 0 z)), (0, .ref a), (1, .ref b), (2, .int (nI z)), (3, .int x3), (4, .int x4), (5, .int x5)]) hx hb dX11_evenestWay_86 hl (k := 9) rfl rfl (by decide) rfl (fun ls hl => ?_)
              refine lv_goto (tgt := 11) hx hb dX11_evenestWay_89 (by decide) ?_
              exact ih (w + 1) x3 x4 x5 (by omega) (by rw [evN, ← k]; simp [evL, evS, *]) _ _ hM _ ((by rw [← nI_1]; exact lv_sub hl [4, 5, 6, 7, 8, 9, 0] rfl)) (by omega)
            · skip
              refine lv_iload hx hb dX11_evenestWay_72 (lv_at hl 9 rfl) ?_
              refine lv_istore_n (lv' := [(3, .int (nI w)), (9, .int (if givN n f1 (nI w) 1 z < givN n f0 (nI w) 0 z then givN n f1 (nI w) 1 z else givN n f0 (nI w) 0 z)), (8, .int (givN n f1 (nI w) 1 z)), (7, .int (givN n f0 (nI w) 0 z)), (0, .ref a), (1, .ref b), (2, .int (nI z)), (4, .int x4), (5, .int x5), (6, .int (nI w))]) hx hb dX11_evenestWay_74 rfl hl (by decide) rfl (fun ls hl => ?_)
              refine lv_iload hx hb dX11_evenestWay_75 (lv_at hl 1 rfl) ?_
              refine lv_istore (lv' := [(4, .int (if givN n f1 (nI w) 1 z < givN n f0 (nI w) 0 z then givN n f1 (nI w) 1 z else givN n f0 (nI w) 0 z)), (3, .int (nI w)), (9, .int (if givN n f1 (nI w) 1 z < givN n f0 (nI w) 0 z then givN n f1 (nI w) 1 z else givN n f0 (nI w) 0 z)), (8, .int (givN n f1 (nI w) 1 z)), (7, .int (givN n f0 (nI w) 0 z)), (0, .ref a), (1, .ref b), (2, .int (nI z)), (5, .int x5), (6, .int (nI w))]) hx hb dX11_evenestWay_77 hl (by decide) rfl (fun ls hl => ?_)
              refine lv_iload hx hb dX11_evenestWay_79 (lv_at hl 4 rfl) ?_
              refine lv_iload hx hb dX11_evenestWay_81 (lv_at hl 3 rfl) ?_
              refine lv_iadd hx hb dX11_evenestWay_83 ?_
              refine lv_istore (lv' := [(5, .int ((givN n f0 (nI w) 0 z) + (givN n f1 (nI w) 1 z))), (4, .int (if givN n f1 (nI w) 1 z < givN n f0 (nI w) 0 z then givN n f1 (nI w) 1 z else givN n f0 (nI w) 0 z)), (3, .int (nI w)), (9, .int (if givN n f1 (nI w) 1 z < givN n f0 (nI w) 0 z then givN n f1 (nI w) 1 z else givN n f0 (nI w) 0 z)), (8, .int (givN n f1 (nI w) 1 z)), (7, .int (givN n f0 (nI w) 0 z)), (0, .ref a), (1, .ref b), (2, .int (nI z)), (6, .int (nI w))]) hx hb dX11_evenestWay_84 hl (by decide) rfl (fun ls hl => ?_)
              refine lv_iinc (v := (nI w) + 1) (lv' := [(6, .int ((nI w) + 1)), (5, .int ((givN n f0 (nI w) 0 z) + (givN n f1 (nI w) 1 z))), (4, .int (if givN n f1 (nI w) 1 z < givN n f0 (nI w) 0 z then givN n f1 (nI w) 1 z else givN n f0 (nI w) 0 z)), (3, .int (nI w)), (9, .int (if givN n f1 (nI w) 1 z < givN n f0 (nI w) 0 z then givN n f1 (nI w) 1 z else givN n f0 (nI w) 0 z)), (8, .int (givN n f1 (nI w) 1 z)), (7, .int (givN n f0 (nI w) 0 z)), (0, .ref a), (1, .ref b), (2, .int (nI z))]) hx hb dX11_evenestWay_86 hl (k := 9) rfl rfl (by decide) rfl (fun ls hl => ?_)
              refine lv_goto (tgt := 11) hx hb dX11_evenestWay_89 (by decide) ?_
              exact ih (w + 1) (nI w) (if givN n f1 (nI w) 1 z < givN n f0 (nI w) 0 z then givN n f1 (nI w) 1 z else givN n f0 (nI w) 0 z) ((givN n f0 (nI w) 0 z) + (givN n f1 (nI w) 1 z)) (by omega) (by rw [evN, ← k]; simp [evL, evS, *]) _ _ hM _ ((by rw [← nI_1]; exact lv_sub hl [7, 8, 9, 3, 2, 1, 0] rfl)) (by omega)
  exact L11 (2 ^ z + 1) 0 0 (-1) (-1) (Nat.zero_le _) rfl _ _ hM _ (lv_sub hl [4, 5, 6, 3, 2, 1, 0] rfl) (by first | exact Nat.lt_succ_self _ | omega)
set_option maxHeartbeats 4000000 in
set_option maxRecDepth 100000 in
theorem c_X11_noEnvyWay (l : Launch) (g : Gp) (M : Mem) (a b n z : Nat) (f0 f1 : Nat → Int32) (h_a : M a = some (aI g n f0)) (h_b : M b = some (aI g n f1)) (hn : n < 2147483648) (hz : z < 10) : Met l yX11_noEnvyWay (wsM yX11_noEnvyWay cX11_noEnvyWay 4 (some .int)) (rmD 3 0 0) (Pre g M [.ref a, .ref b, .int (nI z)]) (Qi g (fun r M1 => (till (fEnvy n z f0 f1) (2 ^ z) 0) = r ∧ M = M1)) 0 0 (gF g) := M_start (by decide +kernel) (Nat.le_of_ble_eq_true rfl) fun p e s m args below meth c ls X hr hk hnm hM hl => by
  have X : Cx g p m c cX11_noEnvyWay 4 s args RX11 := X
  have hx := X.1.1
  have hb := X.1.2.1
  have hl : lv_has ls 4 [(0, .ref a), (1, .ref b), (2, .int (nI z))] := hl
  have h10 := pow10 hz
  refine lv_iconst (v := 0) hx hb dX11_noEnvyWay_0 (by decide) ?_
  refine lv_istore_n (lv' := [(3, .int 0), (0, .ref a), (1, .ref b), (2, .int (nI z))]) hx hb dX11_noEnvyWay_1 rfl hl (by decide) rfl (fun ls hl => ?_)
  have L2 : ∀ (fu : Nat) (w : Nat) (hi : w ≤ 2 ^ z) (hr2 : till (fEnvy n z f0 f1) (2 ^ z) 0 = till (fEnvy n z f0 f1) (2 ^ z - w) w) (H : Heap) (locs : List Loc) (hM : MW g (M) H locs) (ls : Array Slot) (hl : lv_has ls 4 [(0, .ref a), (1, .ref b), (2, .int (nI z)), (3, .int (nI w))]), 2 ^ z - w < fu → W p l e (rmD 3 0 0) s m args below meth c H locs 0 0 (MQ below (Qi g (fun r M1 => (till (fEnvy n z f0 f1) (2 ^ z) 0) = r ∧ M = M1)) args s 0 0 (gF g)) (F0 m 2 ls []) := by
    intro fu
    induction fu with
    | zero => intro w hi hr2 H locs hM ls hl hmu; exact absurd hmu (Nat.not_lt_zero _)
    | succ fu ih =>
      intro w hi hr2 H locs hM ls hl hmu
      refine lv_iload_n hx hb dX11_noEnvyWay_2 rfl (lv_at hl 3 rfl) ?_
      refine lv_iconst (v := 1) hx hb dX11_noEnvyWay_3 (by decide) ?_
      refine lv_iload_n hx hb dX11_noEnvyWay_4 rfl (lv_at hl 2 rfl) ?_
      refine lv_ishl hx hb dX11_noEnvyWay_5 ?_
      refine lv_icmp_ge (tgt := 51) hx hb dX11_noEnvyWay_6 (by decide) (fun c_1 => ?_) (fun c_1 => ?_)
      · skip
        rw [shl1 z hz] at c_1
        have hz1 : 2 ^ z ≤ w := (nI_leI (by omega) (by omega)).mp c_1
        have hz2 : w = 2 ^ z := by omega
        refine lv_bipush (v := -5) hx hb dX11_noEnvyWay_51 (by decide) ?_
        exact R_i X hr hk hM ⟨(by rw [hr2, hz2, Nat.sub_self]; rfl), rfl⟩ dX11_noEnvyWay_53
      · skip
        rw [shl1 z hz] at c_1
        have hz1 : w < 2 ^ z := by
          rcases Nat.lt_or_ge w (2 ^ z) with q | q
          · exact q
          · exact absurd ((nI_leI (by omega) (by omega)).mpr q) c_1
        refine lv_aload_n hx hb dX11_noEnvyWay_9 rfl (lv_at hl 0 rfl) ?_
        refine lv_iload_n hx hb dX11_noEnvyWay_10 rfl (lv_at hl 2 rfl) ?_
        refine lv_iload_n hx hb dX11_noEnvyWay_11 rfl (lv_at hl 3 rfl) ?_
        refine lv_iconst (v := 0) hx hb dX11_noEnvyWay_12 (by decide) ?_
        refine K_i (G_S (As := [.ref a, .int (nI z), .int (nI w), .int 0]) (rest := []) X hM (c_X11_given l g _ a n z f0 (nI w) 0 h_a hn (by omega)) lk_X11_200 rfl hl.1 rfl (Nat.le_of_ble_eq_true rfl) (by decide) dX11_noEnvyWay_13 ⟨Nat.le_of_ble_eq_true rfl, Nat.le_of_ble_eq_true rfl⟩) hM (fun r M1 H locs hM hp => ?_)
        obtain ⟨rfl, rfl⟩ := hp
        refine lv_aload_n hx hb dX11_noEnvyWay_16 rfl (lv_at hl 0 rfl) ?_
        refine lv_iload_n hx hb dX11_noEnvyWay_17 rfl (lv_at hl 2 rfl) ?_
        refine lv_iload_n hx hb dX11_noEnvyWay_18 rfl (lv_at hl 3 rfl) ?_
        refine lv_iconst (v := 1) hx hb dX11_noEnvyWay_19 (by decide) ?_
        refine K_i (G_S (As := [.ref a, .int (nI z), .int (nI w), .int 1]) (rest := [.int (givN n f0 (nI w) 0 z)]) X hM (c_X11_given l g _ a n z f0 (nI w) 1 h_a hn (by omega)) lk_X11_200 rfl hl.1 rfl (Nat.le_of_ble_eq_true rfl) (by decide) dX11_noEnvyWay_20 ⟨Nat.le_of_ble_eq_true rfl, Nat.le_of_ble_eq_true rfl⟩) hM (fun r M1 H locs hM hp => ?_)
        obtain ⟨rfl, rfl⟩ := hp
        refine lv_icmp_lt (tgt := 45) hx hb dX11_noEnvyWay_23 (by decide) (fun c_2 => ?_) (fun c_2 => ?_)
        · skip
          refine lv_iinc (v := (nI w) + 1) (lv' := [(3, .int ((nI w) + 1)), (0, .ref a), (1, .ref b), (2, .int (nI z))]) hx hb dX11_noEnvyWay_45 hl (k := 3) rfl rfl (by decide) rfl (fun ls hl => ?_)
          refine lv_goto (tgt := 2) hx hb dX11_noEnvyWay_48 (by decide) ?_
          exact ih (w + 1) (by omega) (by rw [hr2, show 2 ^ z - w = (2 ^ z - (w + 1)) + 1 by omega, till]; simp [fEnvy, *]) _ _ hM _ ((by rw [← nI_1]; exact lv_sub hl [1, 2, 3, 0] rfl)) (by omega)
        · skip
          refine lv_aload_n hx hb dX11_noEnvyWay_26 rfl (lv_at hl 1 rfl) ?_
          refine lv_iload_n hx hb dX11_noEnvyWay_27 rfl (lv_at hl 2 rfl) ?_
          refine lv_iload_n hx hb dX11_noEnvyWay_28 rfl (lv_at hl 3 rfl) ?_
          refine lv_iconst (v := 1) hx hb dX11_noEnvyWay_29 (by decide) ?_
          refine K_i (G_S (As := [.ref b, .int (nI z), .int (nI w), .int 1]) (rest := []) X hM (c_X11_given l g _ b n z f1 (nI w) 1 h_b hn (by omega)) lk_X11_200 rfl hl.1 rfl (Nat.le_of_ble_eq_true rfl) (by decide) dX11_noEnvyWay_30 ⟨Nat.le_of_ble_eq_true rfl, Nat.le_of_ble_eq_true rfl⟩) hM (fun r M1 H locs hM hp => ?_)
          obtain ⟨rfl, rfl⟩ := hp
          refine lv_aload_n hx hb dX11_noEnvyWay_33 rfl (lv_at hl 1 rfl) ?_
          refine lv_iload_n hx hb dX11_noEnvyWay_34 rfl (lv_at hl 2 rfl) ?_
          refine lv_iload_n hx hb dX11_noEnvyWay_35 rfl (lv_at hl 3 rfl) ?_
          refine lv_iconst (v := 0) hx hb dX11_noEnvyWay_36 (by decide) ?_
          refine K_i (G_S (As := [.ref b, .int (nI z), .int (nI w), .int 0]) (rest := [.int (givN n f1 (nI w) 1 z)]) X hM (c_X11_given l g _ b n z f1 (nI w) 0 h_b hn (by omega)) lk_X11_200 rfl hl.1 rfl (Nat.le_of_ble_eq_true rfl) (by decide) dX11_noEnvyWay_37 ⟨Nat.le_of_ble_eq_true rfl, Nat.le_of_ble_eq_true rfl⟩) hM (fun r M1 H locs hM hp => ?_)
          obtain ⟨rfl, rfl⟩ := hp
          refine lv_icmp_lt (tgt := 45) hx hb dX11_noEnvyWay_40 (by decide) (fun c_3 => ?_) (fun c_3 => ?_)
          · skip
            refine lv_iinc (v := (nI w) + 1) (lv' := [(3, .int ((nI w) + 1)), (0, .ref a), (1, .ref b), (2, .int (nI z))]) hx hb dX11_noEnvyWay_45 hl (k := 3) rfl rfl (by decide) rfl (fun ls hl => ?_)
            refine lv_goto (tgt := 2) hx hb dX11_noEnvyWay_48 (by decide) ?_
            exact ih (w + 1) (by omega) (by rw [hr2, show 2 ^ z - w = (2 ^ z - (w + 1)) + 1 by omega, till]; simp [fEnvy, *]) _ _ hM _ ((by rw [← nI_1]; exact lv_sub hl [1, 2, 3, 0] rfl)) (by omega)
          · skip
            refine lv_iload_n hx hb dX11_noEnvyWay_43 rfl (lv_at hl 3 rfl) ?_
            exact R_i X hr hk hM ⟨(by rw [hr2, show 2 ^ z - w = (2 ^ z - (w + 1)) + 1 by omega, till]; simp [fEnvy, *]), rfl⟩ dX11_noEnvyWay_44
  exact L2 (2 ^ z + 1) 0 (Nat.zero_le _) rfl _ _ hM _ (lv_sub hl [1, 2, 3, 0] rfl) (by first | exact Nat.lt_succ_self _ | omega)
set_option maxHeartbeats 4000000 in
set_option maxRecDepth 100000 in
theorem c_X11_monthOf (l : Launch) (g : Gp) (M : Mem) (ik : Int32) (en : En) (x ho : Int32) (j : Nat) (h0 : M (gA g 0) = some (custE g ik)) (h3 : M (gA g 3) = some (roofN g (eNi en) (nI (eL en)) (eSk en) (eHi en))) (h5 : M (gA g 5) = some (aS g 6 (eS en))) (h6 : M (gA g 6) = some (aI g 6 (eRo en))) (h7 : M (gA g 7) = some (aI g 6 (ePh en))) (h8 : M (gA g 8) = some (aI g 24 (eRw en))) (h9 : M (gA g 9) = some (skyE (gA g 10) (gA g 11) (gA g 12) (nI (eZ en)) (eTu en) (eCl en))) (h10 : M (gA g 10) = some (aI g 100 (eF1 en))) (h11 : M (gA g 11) = some (aI g 100 (eF2 en))) (h12 : M (gA g 12) = some (aI g 100 (eF3 en))) (hE : EnOk g M en) (ej : x = nI j) (hj : j < eL en) : Met l yX11_monthOf (wsM yX11_monthOf cX11_monthOf 7 (some .int)) (rmD 6 0 0) (Pre g M [.ref (gA g 0), .int x, .int ho]) (Qi g (fun r M1 => (monN en j ho 28) = r ∧ M = M1)) 0 0 (gF g) := M_start (by decide +kernel) (Nat.le_of_ble_eq_true rfl) fun p e s m args below meth c ls X hr hk hnm hM hl => by
  have X : Cx g p m c cX11_monthOf 7 s args RX11 := X
  have hx := X.1.1
  have hb := X.1.2.1
  have hl : lv_has ls 7 [(0, .ref (gA g 0)), (1, .int x), (2, .int ho)] := hl
  refine lv_aload_n hx hb dX11_monthOf_0 rfl (lv_at hl 0 rfl) ?_
  refine r_get (T := TX11) (N := 7) (ci := 11) (v := .ref (gA g 3)) X hM iX11 rfl 1 (by decide) q_177 (Or.inl rfl) h0 rfl dX11_monthOf_1 ?_
  refine lv_iload_n hx hb dX11_monthOf_4 rfl (lv_at hl 1 rfl) ?_
  refine K_q (G_V (As := [.int x]) (rest := []) X hM (c_X4_starAt l g _ en (eNi en) (eSk en) (eHi en) x h3 h5 ) lk_X11_98 h3 rfl rfl hl.1 rfl (Nat.le_of_ble_eq_true rfl) (by decide) dX11_monthOf_5 ⟨Nat.le_of_ble_eq_true rfl, Nat.le_of_ble_eq_true rfl⟩) hM (fun r M1 H locs hM hp => ?_)
  obtain ⟨rfl, rfl⟩ := hp
  rcases fStar_cases hE (x) with ⟨e_j_1, h_j_1⟩ | ⟨j_1, h_j_1, x_j_1, e_j_1⟩
  · rw [e_j_1]
    exact (no_null h_j_1 ej hj hE.1).elim
  · rw [e_j_1]
    have e9 : j = j_1 := nI_j_inj ej x_j_1 (by have := hE.1; omega) (by have := hE.1; omega)
    subst e9
    obtain ⟨s_j_1, m_j_1, hkd⟩ := hE.2.2 j h_j_1
    refine lv_astore_n (lv' := [(3, .ref (eSt en j)), (0, .ref (gA g 0)), (1, .int x), (2, .int ho)]) hx hb dX11_monthOf_8 rfl hl (by decide) rfl (fun ls hl => ?_)
    refine lv_iconst (v := 0) hx hb dX11_monthOf_9 (by decide) ?_
    refine lv_istore (lv' := [(4, .int 0), (3, .ref (eSt en j)), (0, .ref (gA g 0)), (1, .int x), (2, .int ho)]) hx hb dX11_monthOf_10 hl (by decide) rfl (fun ls hl => ?_)
    refine lv_iconst (v := 0) hx hb dX11_monthOf_12 (by decide) ?_
    refine lv_istore (lv' := [(5, .int 0), (4, .int 0), (3, .ref (eSt en j)), (0, .ref (gA g 0)), (1, .int x), (2, .int ho)]) hx hb dX11_monthOf_13 hl (by decide) rfl (fun ls hl => ?_)
    have L15 : ∀ (fu : Nat) (i : Nat) (x4 : Int32) (hi : i ≤ 28) (k4 : x4 = monN en j ho i) (H : Heap) (locs : List Loc) (hM : MW g (M) H locs) (ls : Array Slot) (hl : lv_has ls 7 [(0, .ref (gA g 0)), (1, .int x), (2, .int ho), (3, .ref (eSt en j)), (4, .int x4), (5, .int (nI i))]), 28 - i < fu → W p l e (rmD 6 0 0) s m args below meth c H locs 0 0 (MQ below (Qi g (fun r M1 => (monN en j ho 28) = r ∧ M = M1)) args s 0 0 (gF g)) (F0 m 15 ls []) := by
      intro fu
      induction fu with
      | zero => intro i x4 hi k4 H locs hM ls hl hmu; exact absurd hmu (Nat.not_lt_zero _)
      | succ fu ih =>
        intro i x4 hi k4 H locs hM ls hl hmu
        refine lv_iload hx hb dX11_monthOf_15 (lv_at hl 5 rfl) ?_
        refine lv_bipush (v := 28) hx hb dX11_monthOf_17 (by decide) ?_
        refine lv_icmp_ge (tgt := 80) hx hb dX11_monthOf_19 (by decide) (fun c_2 => ?_) (fun c_2 => ?_)
        · skip
          have hz1 : 28 ≤ i := (nI_leI (by omega) (by omega)).mp c_2
          have hz2 : i = 28 := by omega
          rw [hz2] at k4
          refine lv_iload hx hb dX11_monthOf_80 (lv_at hl 4 rfl) ?_
          exact R_i X hr hk hM ⟨k4.symm, rfl⟩ dX11_monthOf_82
        · skip
          have hz1 : i < 28 := by
            rcases Nat.lt_or_ge i (28) with q | q
            · exact q
            · exact absurd ((nI_leI (by omega) (by omega)).mpr q) c_2
          refine lv_aload_n hx hb dX11_monthOf_22 rfl (lv_at hl 3 rfl) ?_
          refine lv_ifnull hx hb dX11_monthOf_23 ?_
          refine lv_aload_n hx hb dX11_monthOf_26 rfl (lv_at hl 0 rfl) ?_
          refine r_get (T := TX11) (N := 7) (ci := 11) (v := .ref (gA g 3)) X hM iX11 rfl 1 (by decide) q_177 (Or.inl rfl) h0 rfl dX11_monthOf_27 ?_
          refine r_get (T := TX4) (N := 14) (ci := 4) (v := .int (eNi en)) X hM iX4 rfl 0 (by decide) q_96 (Or.inl rfl) h3 rfl dX11_monthOf_30 ?_
          refine lv_iload hx hb dX11_monthOf_33 (lv_at hl 5 rfl) ?_
          refine lv_iadd hx hb dX11_monthOf_35 ?_
          refine lv_istore (lv' := [(6, .int ((eNi en) + (nI i))), (0, .ref (gA g 0)), (1, .int x), (2, .int ho), (3, .ref (eSt en j)), (4, .int x4), (5, .int (nI i))]) hx hb dX11_monthOf_36 hl (by decide) rfl (fun ls hl => ?_)
          refine lv_aload_n hx hb dX11_monthOf_38 rfl (lv_at hl 1 rfl) ?_
          refine r_get (T := TX11) (N := 7) (ci := 11) (v := .ref (gA g 3)) X hM iX11 rfl 1 (by decide) q_177 (Or.inl rfl) h0 rfl dX11_monthOf_39 ?_
          refine lv_iload_n hx hb dX11_monthOf_42 rfl (lv_at hl 2 rfl) ?_
          refine lv_iload hx hb dX11_monthOf_43 (lv_at hl 0 rfl) ?_
          refine lv_aload_n hx hb dX11_monthOf_45 rfl (lv_at hl 1 rfl) ?_
          refine r_get (T := TX11) (N := 7) (ci := 11) (v := .ref (gA g 3)) X hM iX11 rfl 1 (by decide) q_177 (Or.inl rfl) h0 rfl dX11_monthOf_46 ?_
          refine r_get (T := TX4) (N := 14) (ci := 4) (v := .int (eHi en)) X hM iX4 rfl 3 (by decide) q_102 (Or.inl rfl) h3 rfl dX11_monthOf_49 ?_
          refine K_i (G_V (As := [.int x, .int ((eNi en) + (nI i)), .int (eHi en)]) (rest := []) X hM (c_X4_isUp l g _ en (eNi en) (eSk en) (eHi en) x j ((eNi en) + (nI i)) (eHi en) h3 h5 h6 h7 hE ej hj) lk_X11_130 h3 rfl rfl hl.1 rfl (Nat.le_of_ble_eq_true rfl) (by decide) dX11_monthOf_52 ⟨Nat.le_of_ble_eq_true rfl, Nat.le_of_ble_eq_true rfl⟩) hM (fun r M1 H locs hM hp => ?_)
          obtain ⟨rfl, rfl⟩ := hp
          refine lv_if_eq (tgt := 74) hx hb dX11_monthOf_55 (by decide) (fun c_3 => ?_) (fun c_3 => ?_)
          · skip
            refine lv_iinc (v := (nI i) + 1) (lv' := [(5, .int ((nI i) + 1)), (6, .int ((eNi en) + (nI i))), (0, .ref (gA g 0)), (1, .int x), (2, .int ho), (3, .ref (eSt en j)), (4, .int x4)]) hx hb dX11_monthOf_74 hl (k := 6) rfl rfl (by decide) rfl (fun ls hl => ?_)
            refine lv_goto (tgt := 15) hx hb dX11_monthOf_77 (by decide) ?_
            exact ih (i + 1) x4 (by omega) (by rw [k4, monN]; simp [*]) _ _ hM _ ((by rw [← nI_1]; exact lv_sub hl [2, 3, 4, 5, 6, 0] rfl)) (by omega)
          · skip
            refine lv_iload hx hb dX11_monthOf_58 (lv_at hl 5 rfl) ?_
            refine lv_aload_n hx hb dX11_monthOf_60 rfl (lv_at hl 1 rfl) ?_
            refine r_get (T := TX11) (N := 7) (ci := 11) (v := .ref (gA g 3)) X hM iX11 rfl 1 (by decide) q_177 (Or.inl rfl) h0 rfl dX11_monthOf_61 ?_
            refine lv_aload_n hx hb dX11_monthOf_64 rfl (lv_at hl 4 rfl) ?_
            refine lv_iload_n hx hb dX11_monthOf_65 rfl (lv_at hl 3 rfl) ?_
            refine lv_iload hx hb dX11_monthOf_66 (lv_at hl 0 rfl) ?_
            refine K_i (G_V (As := [.ref (eSt en j), .int ho, .int ((eNi en) + (nI i))]) (rest := [.int x4]) X hM (c_X4_worthOf l g _ en (eNi en) (nI (eL en)) (eSk en) (eHi en) j ho ((eNi en) + (nI i)) h3 h8 h9 h10 h11 h12 hE hj) lk_X11_138 h3 rfl rfl hl.1 rfl (Nat.le_of_ble_eq_true rfl) (by decide) dX11_monthOf_68 ⟨Nat.le_of_ble_eq_true rfl, Nat.le_of_ble_eq_true rfl⟩) hM (fun r M1 H locs hM hp => ?_)
            obtain ⟨rfl, rfl⟩ := hp
            refine lv_iadd hx hb dX11_monthOf_71 ?_
            refine lv_istore (lv' := [(4, .int (x4 + (fWoN en j ho ((eNi en) + (nI i))))), (6, .int ((eNi en) + (nI i))), (0, .ref (gA g 0)), (1, .int x), (2, .int ho), (3, .ref (eSt en j)), (5, .int (nI i))]) hx hb dX11_monthOf_72 hl (by decide) rfl (fun ls hl => ?_)
            refine lv_iinc (v := (nI i) + 1) (lv' := [(5, .int ((nI i) + 1)), (4, .int (x4 + (fWoN en j ho ((eNi en) + (nI i))))), (6, .int ((eNi en) + (nI i))), (0, .ref (gA g 0)), (1, .int x), (2, .int ho), (3, .ref (eSt en j))]) hx hb dX11_monthOf_74 hl (k := 6) rfl rfl (by decide) rfl (fun ls hl => ?_)
            refine lv_goto (tgt := 15) hx hb dX11_monthOf_77 (by decide) ?_
            exact ih (i + 1) (x4 + (fWoN en j ho ((eNi en) + (nI i)))) (by omega) (by rw [k4, monN]; simp [*]) _ _ hM _ ((by rw [← nI_1]; exact lv_sub hl [3, 4, 5, 6, 1, 0] rfl)) (by omega)
    exact L15 (28 + 1) 0 0 (Nat.zero_le _) rfl _ _ hM _ (lv_sub hl [3, 4, 5, 2, 1, 0] rfl) (by first | exact Nat.lt_succ_self _ | omega)
set_option maxHeartbeats 4000000 in
set_option maxRecDepth 100000 in
theorem c_X11_seenUnder (l : Launch) (g : Gp) (M : Mem) (ik : Int32) (en : En) (tz : Nat → Int32) (z : Nat) (cl : Int32) (h0 : M (gA g 0) = some (custE g ik)) (h3 : M (gA g 3) = some (roofN g (eNi en) (nI (eL en)) (eSk en) (eHi en))) (h44 : M (gA g 44) = some (aI g 60 tz)) (hz : z < 2147483648) : Met l yX11_seenUnder (wsM yX11_seenUnder cX11_seenUnder 5 (some .int)) (rmD 2 0 0) (Pre g M [.ref (gA g 0), .int cl, .int (nI z)]) (Qi g (fun r M1 => (sunN 60 tz (eNi en) cl z) = r ∧ M = M1)) 0 0 (gF g) := M_start (by decide +kernel) (Nat.le_of_ble_eq_true rfl) fun p e s m args below meth c ls X hr hk hnm hM hl => by
  have X : Cx g p m c cX11_seenUnder 5 s args RX11 := X
  have hx := X.1.1
  have hb := X.1.2.1
  have hl : lv_has ls 5 [(0, .ref (gA g 0)), (1, .int cl), (2, .int (nI z))] := hl
  refine lv_iconst (v := 0) hx hb dX11_seenUnder_0 (by decide) ?_
  refine lv_istore_n (lv' := [(3, .int 0), (0, .ref (gA g 0)), (1, .int cl), (2, .int (nI z))]) hx hb dX11_seenUnder_1 rfl hl (by decide) rfl (fun ls hl => ?_)
  refine lv_iconst (v := 0) hx hb dX11_seenUnder_2 (by decide) ?_
  refine lv_istore (lv' := [(4, .int 0), (3, .int 0), (0, .ref (gA g 0)), (1, .int cl), (2, .int (nI z))]) hx hb dX11_seenUnder_3 hl (by decide) rfl (fun ls hl => ?_)
  have L5 : ∀ (fu : Nat) (i : Nat) (x3 : Int32) (hi : i ≤ z) (k3 : x3 = sunN 60 tz (eNi en) cl i) (H : Heap) (locs : List Loc) (hM : MW g (M) H locs) (ls : Array Slot) (hl : lv_has ls 5 [(0, .ref (gA g 0)), (1, .int cl), (2, .int (nI z)), (3, .int x3), (4, .int (nI i))]), z - i < fu → W p l e (rmD 2 0 0) s m args below meth c H locs 0 0 (MQ below (Qi g (fun r M1 => (sunN 60 tz (eNi en) cl z) = r ∧ M = M1)) args s 0 0 (gF g)) (F0 m 5 ls []) := by
    intro fu
    induction fu with
    | zero => intro i x3 hi k3 H locs hM ls hl hmu; exact absurd hmu (Nat.not_lt_zero _)
    | succ fu ih =>
      intro i x3 hi k3 H locs hM ls hl hmu
      refine lv_iload hx hb dX11_seenUnder_5 (lv_at hl 4 rfl) ?_
      refine lv_iload_n hx hb dX11_seenUnder_7 rfl (lv_at hl 2 rfl) ?_
      refine lv_icmp_ge (tgt := 50) hx hb dX11_seenUnder_8 (by decide) (fun c_1 => ?_) (fun c_1 => ?_)
      · skip
        have hz1 : z ≤ i := (nI_leI (by omega) (by omega)).mp c_1
        have hz2 : i = z := by omega
        rw [hz2] at k3
        refine lv_iload_n hx hb dX11_seenUnder_50 rfl (lv_at hl 3 rfl) ?_
        exact R_i X hr hk hM ⟨k3.symm, rfl⟩ dX11_seenUnder_51
      · skip
        have hz1 : i < z := by
          rcases Nat.lt_or_ge i (z) with q | q
          · exact q
          · exact absurd ((nI_leI (by omega) (by omega)).mpr q) c_1
        refine lv_iload_n hx hb dX11_seenUnder_11 rfl (lv_at hl 3 rfl) ?_
        refine lv_aload_n hx hb dX11_seenUnder_12 rfl (lv_at hl 0 rfl) ?_
        refine r_get (T := TX11) (N := 7) (ci := 11) (v := .ref (gA g 3)) X hM iX11 rfl 1 (by decide) q_177 (Or.inl rfl) h0 rfl dX11_seenUnder_13 ?_
        refine r_get (T := TX4) (N := 14) (ci := 4) (v := .int (eNi en)) X hM iX4 rfl 0 (by decide) q_96 (Or.inl rfl) h3 rfl dX11_seenUnder_16 ?_
        refine lv_iload hx hb dX11_seenUnder_19 (lv_at hl 4 rfl) ?_
        refine lv_iadd hx hb dX11_seenUnder_21 ?_
        refine lv_iload_n hx hb dX11_seenUnder_22 rfl (lv_at hl 1 rfl) ?_
        refine K_i (G_S (As := [.int ((eNi en) + (nI i)), .int cl]) (rest := [.int x3]) X hM (c_X11_isClouded l g _ ((eNi en) + (nI i)) cl  ) lk_X11_161 rfl hl.1 rfl (Nat.le_of_ble_eq_true rfl) (by decide) dX11_seenUnder_23 ⟨Nat.le_of_ble_eq_true rfl, Nat.le_of_ble_eq_true rfl⟩) hM (fun r M1 H locs hM hp => ?_)
        obtain ⟨rfl, rfl⟩ := hp
        refine lv_if_eq (tgt := 33) hx hb dX11_seenUnder_26 (by decide) (fun c_2 => ?_) (fun c_2 => ?_)
        · skip
          refine lv_aload_n hx hb dX11_seenUnder_33 rfl (lv_at hl 0 rfl) ?_
          refine r_get (T := TX11) (N := 7) (ci := 11) (v := .ref (gA g 44)) X hM iX11 rfl 4 (by decide) q_180 (Or.inl rfl) h0 rfl dX11_seenUnder_34 ?_
          refine lv_iload hx hb dX11_seenUnder_37 (lv_at hl 4 rfl) ?_
          refine K_i (G_S (As := [.ref (gA g 44), .int (nI i)]) (rest := [.int x3]) X hM (c_X11_at l g _ (gA g 44) 60 tz (nI i) h44 (by decide)) lk_X11_113 rfl hl.1 rfl (Nat.le_of_ble_eq_true rfl) (by decide) dX11_seenUnder_39 ⟨Nat.le_of_ble_eq_true rfl, Nat.le_of_ble_eq_true rfl⟩) hM (fun r M1 H locs hM hp => ?_)
          obtain ⟨rfl, rfl⟩ := hp
          refine lv_iadd hx hb dX11_seenUnder_42 ?_
          refine lv_istore_n (lv' := [(3, .int (x3 + (fAt 60 tz (nI i)))), (0, .ref (gA g 0)), (1, .int cl), (2, .int (nI z)), (4, .int (nI i))]) hx hb dX11_seenUnder_43 rfl hl (by decide) rfl (fun ls hl => ?_)
          refine lv_iinc (v := (nI i) + 1) (lv' := [(4, .int ((nI i) + 1)), (3, .int (x3 + (fAt 60 tz (nI i)))), (0, .ref (gA g 0)), (1, .int cl), (2, .int (nI z))]) hx hb dX11_seenUnder_44 hl (k := 4) rfl rfl (by decide) rfl (fun ls hl => ?_)
          refine lv_goto (tgt := 5) hx hb dX11_seenUnder_47 (by decide) ?_
          exact ih (i + 1) (x3 + (fAt 60 tz (nI i))) (by omega) (by rw [k3, sunN]; simp [*]) _ _ hM _ ((by rw [← nI_1]; exact lv_sub hl [2, 3, 4, 1, 0] rfl)) (by omega)
        · skip
          refine lv_iconst (v := 0) hx hb dX11_seenUnder_29 (by decide) ?_
          refine lv_goto (tgt := 42) hx hb dX11_seenUnder_30 (by decide) ?_
          refine lv_iadd hx hb dX11_seenUnder_42 ?_
          refine lv_istore_n (lv' := [(3, .int (x3 + 0)), (0, .ref (gA g 0)), (1, .int cl), (2, .int (nI z)), (4, .int (nI i))]) hx hb dX11_seenUnder_43 rfl hl (by decide) rfl (fun ls hl => ?_)
          refine lv_iinc (v := (nI i) + 1) (lv' := [(4, .int ((nI i) + 1)), (3, .int (x3 + 0)), (0, .ref (gA g 0)), (1, .int cl), (2, .int (nI z))]) hx hb dX11_seenUnder_44 hl (k := 4) rfl rfl (by decide) rfl (fun ls hl => ?_)
          refine lv_goto (tgt := 5) hx hb dX11_seenUnder_47 (by decide) ?_
          exact ih (i + 1) (x3 + 0) (by omega) (by rw [k3, sunN]; simp [*]) _ _ hM _ ((by rw [← nI_1]; exact lv_sub hl [2, 3, 4, 1, 0] rfl)) (by omega)
  exact L5 (z + 1) 0 0 (Nat.zero_le _) rfl _ _ hM _ (lv_sub hl [2, 3, 4, 1, 0] rfl) (by first | exact Nat.lt_succ_self _ | omega)
set_option maxHeartbeats 4000000 in
set_option maxRecDepth 100000 in
theorem c_X11_lowest (l : Launch) (g : Gp) (M : Mem) (x : Int32) (b : Nat) (pt : Int32) (hb1 : 1 ≤ b) (hb2 : b < 1000) : Met l yX11_lowest (wsM yX11_lowest cX11_lowest 5 (some .long)) (rmD 1 0 0) (Pre g M [.int x, .int (nI b), .int pt]) (Ql g (fun r M1 => (((if pt = 0 then x else nI b) / lowD x b (b + 1)).toInt64) = r ∧ M = M1)) 0 0 (gF g) := M_start (by decide +kernel) (Nat.le_of_ble_eq_true rfl) fun p e s m args below meth c ls X hr hk hnm hM hl => by
  have X : Cx g p m c cX11_lowest 5 s args RX11 := X
  have hx := X.1.1
  have hb := X.1.2.1
  have hl : lv_has ls 5 [(0, .int x), (1, .int (nI b)), (2, .int pt)] := hl
  refine lv_iconst (v := 1) hx hb dX11_lowest_0 (by decide) ?_
  refine lv_istore_n (lv' := [(3, .int 1), (0, .int x), (1, .int (nI b)), (2, .int pt)]) hx hb dX11_lowest_1 rfl hl (by decide) rfl (fun ls hl => ?_)
  refine lv_iconst (v := 2) hx hb dX11_lowest_2 (by decide) ?_
  refine lv_istore (lv' := [(4, .int 2), (3, .int 1), (0, .int x), (1, .int (nI b)), (2, .int pt)]) hx hb dX11_lowest_3 hl (by decide) rfl (fun ls hl => ?_)
  have L5 : ∀ (fu : Nat) (i : Nat) (x3 : Int32) (hi : i ≤ b + 1) (hi2 : 2 ≤ i) (k3 : x3 = lowD x b i) (H : Heap) (locs : List Loc) (hM : MW g (M) H locs) (ls : Array Slot) (hl : lv_has ls 5 [(0, .int x), (1, .int (nI b)), (2, .int pt), (3, .int x3), (4, .int (nI i))]), b + 1 - i < fu → W p l e (rmD 1 0 0) s m args below meth c H locs 0 0 (MQ below (Ql g (fun r M1 => (((if pt = 0 then x else nI b) / lowD x b (b + 1)).toInt64) = r ∧ M = M1)) args s 0 0 (gF g)) (F0 m 5 ls []) := by
    intro fu
    induction fu with
    | zero => intro i x3 hi hi2 k3 H locs hM ls hl hmu; exact absurd hmu (Nat.not_lt_zero _)
    | succ fu ih =>
      intro i x3 hi hi2 k3 H locs hM ls hl hmu
      refine lv_iload hx hb dX11_lowest_5 (lv_at hl 4 rfl) ?_
      refine lv_iload_n hx hb dX11_lowest_7 rfl (lv_at hl 1 rfl) ?_
      refine lv_icmp_gt (tgt := 34) hx hb dX11_lowest_8 (by decide) (fun c_1 => ?_) (fun c_1 => ?_)
      · skip
        have hz1 : i = b + 1 := by
          rcases Nat.lt_or_ge b i with q | q
          · omega
          · exact absurd ((nI_leI (by omega) (by omega)).mpr q) (Int32.not_le.mpr c_1)
        rw [hz1] at k3
        have hne := lowD_ne x b (b + 1) (by omega)
        rw [← k3] at hne
        refine lv_iload_n hx hb dX11_lowest_34 rfl (lv_at hl 2 rfl) ?_
        refine lv_if_ne (tgt := 42) hx hb dX11_lowest_35 (by decide) (fun c_2 => ?_) (fun c_2 => ?_)
        · skip
          refine lv_iload_n hx hb dX11_lowest_42 rfl (lv_at hl 1 rfl) ?_
          refine lv_iload_n hx hb dX11_lowest_43 rfl (lv_at hl 3 rfl) ?_
          refine lv_idiv hx hb dX11_lowest_44 hne ?_
          refine lv_i2l (v := ((nI b) / x3).toInt64) hx hb dX11_lowest_45 rfl ?_
          exact R_l X hr hk hM ⟨(by rw [← k3]; clear k3; simp [*]), rfl⟩ dX11_lowest_46
        · skip
          refine lv_iload_n hx hb dX11_lowest_38 rfl (lv_at hl 0 rfl) ?_
          refine lv_goto (tgt := 43) hx hb dX11_lowest_39 (by decide) ?_
          refine lv_iload_n hx hb dX11_lowest_43 rfl (lv_at hl 3 rfl) ?_
          refine lv_idiv hx hb dX11_lowest_44 hne ?_
          refine lv_i2l (v := (x / x3).toInt64) hx hb dX11_lowest_45 rfl ?_
          exact R_l X hr hk hM ⟨(by rw [← k3]; clear k3; simp [*]), rfl⟩ dX11_lowest_46
      · skip
        have hz1 : i ≤ b := by
          rcases Nat.lt_or_ge b i with q | q
          · exact absurd ((nI_ltI (by omega) (by omega)).mpr q) c_1
          · exact q
        have hine : ¬ nI i = 0 := nI_ne0 (by omega) (by omega)
        refine lv_iload_n hx hb dX11_lowest_11 rfl (lv_at hl 0 rfl) ?_
        refine lv_iload hx hb dX11_lowest_12 (lv_at hl 4 rfl) ?_
        refine l_irem hx hb dX11_lowest_14 hine ?_
        refine lv_if_ne (tgt := 28) hx hb dX11_lowest_15 (by decide) (fun c_3 => ?_) (fun c_3 => ?_)
        · skip
          refine lv_iinc (v := (nI i) + 1) (lv' := [(4, .int ((nI i) + 1)), (0, .int x), (1, .int (nI b)), (2, .int pt), (3, .int x3)]) hx hb dX11_lowest_28 hl (k := 4) rfl rfl (by decide) rfl (fun ls hl => ?_)
          refine lv_goto (tgt := 5) hx hb dX11_lowest_31 (by decide) ?_
          exact ih (i + 1) x3 (by omega) (by omega) (by rw [lowD, if_neg (by omega)]; simp [*]) _ _ hM _ ((by rw [← nI_1]; exact lv_sub hl [1, 2, 3, 4, 0] rfl)) (by omega)
        · skip
          refine lv_iload_n hx hb dX11_lowest_18 rfl (lv_at hl 1 rfl) ?_
          refine lv_iload hx hb dX11_lowest_19 (lv_at hl 4 rfl) ?_
          refine l_irem hx hb dX11_lowest_21 hine ?_
          refine lv_if_ne (tgt := 28) hx hb dX11_lowest_22 (by decide) (fun c_4 => ?_) (fun c_4 => ?_)
          · skip
            refine lv_iinc (v := (nI i) + 1) (lv' := [(4, .int ((nI i) + 1)), (0, .int x), (1, .int (nI b)), (2, .int pt), (3, .int x3)]) hx hb dX11_lowest_28 hl (k := 4) rfl rfl (by decide) rfl (fun ls hl => ?_)
            refine lv_goto (tgt := 5) hx hb dX11_lowest_31 (by decide) ?_
            exact ih (i + 1) x3 (by omega) (by omega) (by rw [lowD, if_neg (by omega)]; simp [*]) _ _ hM _ ((by rw [← nI_1]; exact lv_sub hl [1, 2, 3, 4, 0] rfl)) (by omega)
          · skip
            refine lv_iload hx hb dX11_lowest_25 (lv_at hl 4 rfl) ?_
            refine lv_istore_n (lv' := [(3, .int (nI i)), (0, .int x), (1, .int (nI b)), (2, .int pt), (4, .int (nI i))]) hx hb dX11_lowest_27 rfl hl (by decide) rfl (fun ls hl => ?_)
            refine lv_iinc (v := (nI i) + 1) (lv' := [(4, .int ((nI i) + 1)), (3, .int (nI i)), (0, .int x), (1, .int (nI b)), (2, .int pt)]) hx hb dX11_lowest_28 hl (k := 4) rfl rfl (by decide) rfl (fun ls hl => ?_)
            refine lv_goto (tgt := 5) hx hb dX11_lowest_31 (by decide) ?_
            exact ih (i + 1) (nI i) (by omega) (by omega) (by rw [lowD, if_neg (by omega)]; simp [*]) _ _ hM _ ((by rw [← nI_1]; exact lv_sub hl [2, 3, 4, 1, 0] rfl)) (by omega)
  exact L5 (b + 1) 2 1 (by omega) (by decide) rfl _ _ hM _ (lv_sub hl [2, 3, 4, 1, 0] rfl) (by first | exact Nat.lt_succ_self _ | omega)
