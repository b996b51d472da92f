def fIn (x a b : Int32) : Int32 := if x < a then 0 else if b < x then 0 else 1
def fBit (b i : Int32) : Int32 := (b >>> (i &&& 31)) &&& 1
def fWith (b i is : Int32) : Int32 := if is = 0 then b &&& ((1 <<< (i &&& 31)) ^^^ (-1)) else b ||| (1 <<< (i &&& 31))
def fAt (n : Nat) (f : Nat → Int32) (i : Int32) : Int32 := if i < 0 then 0 else if nI n ≤ i then 0 else f i.toNatClampNeg
def fPut (n : Nat) (f : Nat → Int32) (i x : Int32) : Nat → Int32 := if i < 0 then f else if nI n ≤ i then f else upd f i.toNatClampNeg x
def fCl (night cloud : Int32) : Int32 := if cloud ≤ 0 then 0 else if iR night cloud = cloud - 1 then 1 else 0
def fCopy (n0 n1 : Nat) (f h : Nat → Int32) : Nat → Int32 := va_cpy f h 0 0 (min n0 n1)
theorem vp_in_of2 {i : Int32} {n : Nat} (h0 : ¬ i < 0) (h1 : ¬ nI n ≤ i) (hn : n < 2147483648) : vp_in i n := by
  obtain ⟨j, hj, e⟩ := nI_of h0
  subst e
  refine vp_in_nI ?_ hn
  rcases Nat.lt_or_ge j n with q | q
  · exact q
  · exact absurd (nI_le q hj) h1
theorem fIn_01 (x a b : Int32) : fIn x a b = 0 ∨ fIn x a b = 1 := by
  unfold fIn
  split
  · exact Or.inl rfl
  · split
    · exact Or.inl rfl
    · exact Or.inr rfl
theorem fBit_01 (b i : Int32) : fBit b i = 0 ∨ fBit b i = 1 := by
  have h : ∀ x : BitVec 32, x &&& 1#32 = 0#32 ∨ x &&& 1#32 = 1#32 := by
    intro x
    rw [BitVec.and_one_eq_setWidth_ofBool_getLsbD]
    cases x.getLsbD 0 <;> simp
  unfold fBit
  rcases h ((b >>> (i &&& 31)).toBitVec) with h | h
  · exact Or.inl (Int32.toBitVec_inj.mp h)
  · exact Or.inr (Int32.toBitVec_inj.mp h)
theorem nImin (a b : Nat) (ha : a < 2147483648) (hb : b < 2147483648) : (if nI b < nI a then nI b else nI a) = nI (min a b) := by
  by_cases h : b < a
  · rw [if_pos (nI_lt h ha), Nat.min_eq_right (Nat.le_of_lt h)]
  · rw [if_neg (nI_nlt (Nat.le_of_not_lt h) hb), Nat.min_eq_left (Nat.le_of_not_lt h)]

theorem lk_X11_113 : LkS RX11 113 yX11_at cX11_at 2 (some .int) 2 := lkS_of q_480 q_230 q_1 q_231 ⟨rfl, by decide, by decide, by decide +kernel⟩ (by decide)
theorem lk_X11_181 : LkS RX11 181 yX11_put cX11_put 3 none 3 := lkS_of q_569 q_326 q_1 q_327 ⟨rfl, by decide, by decide, by decide +kernel⟩ (by decide)
theorem lk_X5_29 : LkN RX5 29 yX11_put RX11 cX11_put 3 none 3 := lkNS_of (by decide +kernel) q_326 q_1 q_327 ⟨by decide, by decide, by decide +kernel⟩ (by decide)
theorem lk_X5_35 : LkN RX5 35 yX11_at RX11 cX11_at 2 (some .int) 2 := lkNS_of (by decide +kernel) q_230 q_1 q_231 ⟨by decide, by decide, by decide +kernel⟩ (by decide)
theorem lk_X5_39 : LkN RX5 39 yX11_copy RX11 cX11_copy 2 none 2 := lkNS_of (by decide +kernel) q_337 q_1 q_338 ⟨by decide, by decide, by decide +kernel⟩ (by decide)
set_option maxHeartbeats 4000000 in
set_option maxRecDepth 100000 in
theorem c_X11_isIn (l : Launch) (g : Gp) (M : Mem) (x a b : Int32) : Met l yX11_isIn (wsM yX11_isIn cX11_isIn 3 (some .boolean)) (rmD 1 0 0) (Pre g M [.int x, .int a, .int b]) (Qi g (fun r M1 => (fIn x a b) = r ∧ M = M1)) 0 0 (gF g) := M_start (by decide +kernel) (Nat.le_of_ble_eq_true rfl) fun p e s m args below meth c ls X hr hk hnm hM hl => by
  have X : Cx g p m c cX11_isIn 3 s args RX11 := X
  have hx := X.1.1
  have hb := X.1.2.1
  have hl : lv_has ls 3 [(0, .int x), (1, .int a), (2, .int b)] := hl
  refine lv_iload_n hx hb dX11_isIn_0 rfl (lv_at hl 0 rfl) ?_
  refine lv_iload_n hx hb dX11_isIn_1 rfl (lv_at hl 1 rfl) ?_
  refine lv_icmp_lt (tgt := 14) hx hb dX11_isIn_2 (by decide) (fun c_1 => ?_) (fun c_1 => ?_)
  · skip
    refine lv_iconst (v := 0) hx hb dX11_isIn_14 (by decide) ?_
    exact R_z X hr hk (Or.inl rfl) hM ⟨(by simp [fIn, *]), rfl⟩ dX11_isIn_15
  · skip
    refine lv_iload_n hx hb dX11_isIn_5 rfl (lv_at hl 0 rfl) ?_
    refine lv_iload_n hx hb dX11_isIn_6 rfl (lv_at hl 2 rfl) ?_
    refine lv_icmp_gt (tgt := 14) hx hb dX11_isIn_7 (by decide) (fun c_2 => ?_) (fun c_2 => ?_)
    · skip
      refine lv_iconst (v := 0) hx hb dX11_isIn_14 (by decide) ?_
      exact R_z X hr hk (Or.inl rfl) hM ⟨(by simp [fIn, *]), rfl⟩ dX11_isIn_15
    · skip
      refine lv_iconst (v := 1) hx hb dX11_isIn_10 (by decide) ?_
      refine lv_goto (tgt := 15) hx hb dX11_isIn_11 (by decide) ?_
      exact R_z X hr hk (Or.inr rfl) hM ⟨(by simp [fIn, *]), rfl⟩ dX11_isIn_15
set_option maxHeartbeats 4000000 in
set_option maxRecDepth 100000 in
theorem c_X11_bitOf (l : Launch) (g : Gp) (M : Mem) (b i : Int32) : Met l yX11_bitOf (wsM yX11_bitOf cX11_bitOf 2 (some .int)) (rmD 1 0 0) (Pre g M [.int b, .int i]) (Qi g (fun r M1 => (fBit b i) = r ∧ M = M1)) 0 0 (gF g) := M_start (by decide +kernel) (Nat.le_of_ble_eq_true rfl) fun p e s m args below meth c ls X hr hk hnm hM hl => by
  have X : Cx g p m c cX11_bitOf 2 s args RX11 := X
  have hx := X.1.1
  have hb := X.1.2.1
  have hl : lv_has ls 2 [(0, .int b), (1, .int i)] := hl
  refine lv_iload_n hx hb dX11_bitOf_0 rfl (lv_at hl 0 rfl) ?_
  refine lv_iload_n hx hb dX11_bitOf_1 rfl (lv_at hl 1 rfl) ?_
  refine lv_ishr hx hb dX11_bitOf_2 ?_
  refine lv_iconst (v := 1) hx hb dX11_bitOf_3 (by decide) ?_
  refine lv_iand hx hb dX11_bitOf_4 ?_
  exact R_i X hr hk hM ⟨rfl, rfl⟩ dX11_bitOf_5
set_option maxHeartbeats 4000000 in
set_option maxRecDepth 100000 in
theorem c_X11_withBit (l : Launch) (g : Gp) (M : Mem) (b i z : Int32) : Met l yX11_withBit (wsM yX11_withBit cX11_withBit 3 (some .int)) (rmD 1 0 0) (Pre g M [.int b, .int i, .int z]) (Qi g (fun r M1 => (fWith b i z) = r ∧ M = M1)) 0 0 (gF g) := M_start (by decide +kernel) (Nat.le_of_ble_eq_true rfl) fun p e s m args below meth c ls X hr hk hnm hM hl => by
  have X : Cx g p m c cX11_withBit 3 s args RX11 := X
  have hx := X.1.1
  have hb := X.1.2.1
  have hl : lv_has ls 3 [(0, .int b), (1, .int i), (2, .int z)] := hl
  refine lv_iload_n hx hb dX11_withBit_0 rfl (lv_at hl 2 rfl) ?_
  refine lv_if_eq (tgt := 12) hx hb dX11_withBit_1 (by decide) (fun c_1 => ?_) (fun c_1 => ?_)
  · skip
    refine lv_iload_n hx hb dX11_withBit_12 rfl (lv_at hl 0 rfl) ?_
    refine lv_iconst (v := 1) hx hb dX11_withBit_13 (by decide) ?_
    refine lv_iload_n hx hb dX11_withBit_14 rfl (lv_at hl 1 rfl) ?_
    refine lv_ishl hx hb dX11_withBit_15 ?_
    refine lv_iconst (v := -1) hx hb dX11_withBit_16 (by decide) ?_
    refine lv_ixor hx hb dX11_withBit_17 ?_
    refine lv_iand hx hb dX11_withBit_18 ?_
    exact R_i X hr hk hM ⟨(by simp [fWith, *]), rfl⟩ dX11_withBit_19
  · skip
    refine lv_iload_n hx hb dX11_withBit_4 rfl (lv_at hl 0 rfl) ?_
    refine lv_iconst (v := 1) hx hb dX11_withBit_5 (by decide) ?_
    refine lv_iload_n hx hb dX11_withBit_6 rfl (lv_at hl 1 rfl) ?_
    refine lv_ishl hx hb dX11_withBit_7 ?_
    refine lv_ior hx hb dX11_withBit_8 ?_
    refine lv_goto (tgt := 19) hx hb dX11_withBit_9 (by decide) ?_
    exact R_i X hr hk hM ⟨(by simp [fWith, *]), rfl⟩ dX11_withBit_19
set_option maxHeartbeats 4000000 in
set_option maxRecDepth 100000 in
theorem c_X11_isClouded (l : Launch) (g : Gp) (M : Mem) (x z : Int32) : Met l yX11_isClouded (wsM yX11_isClouded cX11_isClouded 2 (some .boolean)) (rmD 1 0 0) (Pre g M [.int x, .int z]) (Qi g (fun r M1 => (fCl x z) = r ∧ M = M1)) 0 0 (gF g) := M_start (by decide +kernel) (Nat.le_of_ble_eq_true rfl) fun p e s m args below meth c ls X hr hk hnm hM hl => by
  have X : Cx g p m c cX11_isClouded 2 s args RX11 := X
  have hx := X.1.1
  have hb := X.1.2.1
  have hl : lv_has ls 2 [(0, .int x), (1, .int z)] := hl
  refine lv_iload_n hx hb dX11_isClouded_0 rfl (lv_at hl 1 rfl) ?_
  refine lv_if_le (tgt := 17) hx hb dX11_isClouded_1 (by decide) (fun c_1 => ?_) (fun c_1 => ?_)
  · skip
    refine lv_iconst (v := 0) hx hb dX11_isClouded_17 (by decide) ?_
    exact R_z X hr hk (Or.inl rfl) hM ⟨(by simp [fCl, *]), rfl⟩ dX11_isClouded_18
  · skip
    refine lv_iload_n hx hb dX11_isClouded_4 rfl (lv_at hl 0 rfl) ?_
    refine lv_iload_n hx hb dX11_isClouded_5 rfl (lv_at hl 1 rfl) ?_
    refine l_irem hx hb dX11_isClouded_6 (fun hz => by subst hz; exact absurd (by decide) c_1) ?_
    refine lv_iload_n hx hb dX11_isClouded_7 rfl (lv_at hl 1 rfl) ?_
    refine lv_iconst (v := 1) hx hb dX11_isClouded_8 (by decide) ?_
    refine lv_isub hx hb dX11_isClouded_9 ?_
    refine lv_icmp_ne (tgt := 17) hx hb dX11_isClouded_10 (by decide) (fun c_2 => ?_) (fun c_2 => ?_)
    · skip
      refine lv_iconst (v := 0) hx hb dX11_isClouded_17 (by decide) ?_
      exact R_z X hr hk (Or.inl rfl) hM ⟨(by simp [fCl, *]), rfl⟩ dX11_isClouded_18
    · skip
      refine lv_iconst (v := 1) hx hb dX11_isClouded_13 (by decide) ?_
      refine lv_goto (tgt := 18) hx hb dX11_isClouded_14 (by decide) ?_
      exact R_z X hr hk (Or.inr rfl) hM ⟨(by simp [fCl, *]), rfl⟩ dX11_isClouded_18
set_option maxHeartbeats 4000000 in
set_option maxRecDepth 100000 in
theorem c_X11_at (l : Launch) (g : Gp) (M : Mem) (a n : Nat) (f : Nat → Int32) (i : Int32) (h_a : M a = some (aI g n f)) (hn : n < 2147483648) : Met l yX11_at (wsM yX11_at cX11_at 2 (some .int)) (rmD 1 0 0) (Pre g M [.ref a, .int i]) (Qi g (fun r M1 => (fAt n f i) = r ∧ M = M1)) 0 0 (gF g) := M_start (by decide +kernel) (Nat.le_of_ble_eq_true rfl) fun p e s m args below meth c ls X hr hk hnm hM hl => by
  have X : Cx g p m c cX11_at 2 s args RX11 := X
  have hx := X.1.1
  have hb := X.1.2.1
  have hl : lv_has ls 2 [(0, .ref a), (1, .int i)] := hl
  refine lv_iload_n hx hb dX11_at_0 rfl (lv_at hl 1 rfl) ?_
  refine lv_if_lt (tgt := 16) hx hb dX11_at_1 (by decide) (fun c_1 => ?_) (fun c_1 => ?_)
  · skip
    refine lv_iconst (v := 0) hx hb dX11_at_16 (by decide) ?_
    exact R_i X hr hk hM ⟨(by simp [fAt, *]), rfl⟩ dX11_at_17
  · skip
    refine lv_iload_n hx hb dX11_at_4 rfl (lv_at hl 1 rfl) ?_
    refine lv_aload_n hx hb dX11_at_5 rfl (lv_at hl 0 rfl) ?_
    refine r_alen (v := nI n) 0 X hM h_a rfl rfl dX11_at_6 ?_
    refine lv_icmp_ge (tgt := 16) hx hb dX11_at_7 (by decide) (fun c_2 => ?_) (fun c_2 => ?_)
    · skip
      refine lv_iconst (v := 0) hx hb dX11_at_16 (by decide) ?_
      exact R_i X hr hk hM ⟨(by simp [fAt, *]), rfl⟩ dX11_at_17
    · skip
      have hin := vp_in_of2 c_1 c_2 hn
      refine lv_aload_n hx hb dX11_at_10 rfl (lv_at hl 0 rfl) ?_
      refine lv_iload_n hx hb dX11_at_11 rfl (lv_at hl 1 rfl) ?_
      refine r_iald (i := i) X hM h_a hin dX11_at_12 ?_
      refine lv_goto (tgt := 17) hx hb dX11_at_13 (by decide) ?_
      exact R_i X hr hk hM ⟨(by simp [fAt, *]), rfl⟩ dX11_at_17
set_option maxHeartbeats 4000000 in
set_option maxRecDepth 100000 in
theorem c_X11_put (l : Launch) (g : Gp) (M : Mem) (a n : Nat) (f : Nat → Int32) (i x : Int32) (h_a : M a = some (aI g n f)) (hn : n < 2147483648) : Met l yX11_put (wsM yX11_put cX11_put 3 none) (rmD 1 0 0) (Pre g M [.ref a, .int i, .int x]) (Qv g (fun M1 => mup M a (aI g n (fPut n f i x)) = M1)) 0 0 (gF g) := M_start (by decide +kernel) (Nat.le_of_ble_eq_true rfl) fun p e s m args below meth c ls X hr hk hnm hM hl => by
  have X : Cx g p m c cX11_put 3 s args RX11 := X
  have hx := X.1.1
  have hb := X.1.2.1
  have hl : lv_has ls 3 [(0, .ref a), (1, .int i), (2, .int x)] := hl
  refine lv_iload_n hx hb dX11_put_0 rfl (lv_at hl 1 rfl) ?_
  refine lv_if_lt (tgt := 14) hx hb dX11_put_1 (by decide) (fun c_1 => ?_) (fun c_1 => ?_)
  · skip
    exact R_v X hr hk hM (by simp [fPut, *, mup_id]) dX11_put_14
  · skip
    refine lv_iload_n hx hb dX11_put_4 rfl (lv_at hl 1 rfl) ?_
    refine lv_aload_n hx hb dX11_put_5 rfl (lv_at hl 0 rfl) ?_
    refine r_alen (v := nI n) 0 X hM h_a rfl rfl dX11_put_6 ?_
    refine lv_icmp_ge (tgt := 14) hx hb dX11_put_7 (by decide) (fun c_2 => ?_) (fun c_2 => ?_)
    · skip
      exact R_v X hr hk hM (by simp [fPut, *, mup_id]) dX11_put_14
    · skip
      have hin := vp_in_of2 c_1 c_2 hn
      refine lv_aload_n hx hb dX11_put_10 rfl (lv_at hl 0 rfl) ?_
      refine lv_iload_n hx hb dX11_put_11 rfl (lv_at hl 1 rfl) ?_
      refine lv_iload_n hx hb dX11_put_12 rfl (lv_at hl 2 rfl) ?_
      refine r_iast (i := i) (x := x) X hM h_a hin dX11_put_13 (fun H locs hM => ?_)
      have hM : MW g (mup M a (aI g n (upd f i.toNatClampNeg x))) H locs := hM
      exact R_v X hr hk hM (by simp [fPut, *]) dX11_put_14
set_option maxHeartbeats 4000000 in
set_option maxRecDepth 100000 in
theorem c_X11_swap (l : Launch) (g : Gp) (M : Mem) (a n : Nat) (f : Nat → Int32) (i x : Int32) (h_a : M a = some (aI g n f)) (hn : n < 2147483648) : Met l yX11_swap (wsM yX11_swap cX11_swap 4 (some .int)) (rmD 2 0 0) (Pre g M [.ref a, .int i, .int x]) (Qi g (fun r M1 => (fAt n f i) = r ∧ mup M a (aI g n (fPut n f i x)) = M1)) 0 0 (gF g) := M_start (by decide +kernel) (Nat.le_of_ble_eq_true rfl) fun p e s m args below meth c ls X hr hk hnm hM hl => by
  have X : Cx g p m c cX11_swap 4 s args RX11 := X
  have hx := X.1.1
  have hb := X.1.2.1
  have hl : lv_has ls 4 [(0, .ref a), (1, .int i), (2, .int x)] := hl
  refine lv_aload_n hx hb dX11_swap_0 rfl (lv_at hl 0 rfl) ?_
  refine lv_iload_n hx hb dX11_swap_1 rfl (lv_at hl 1 rfl) ?_
  refine K_i (G_S (As := [.ref a, .int i]) (rest := []) X hM (c_X11_at l g _ a n f i h_a hn) lk_X11_113 rfl hl.1 rfl (Nat.le_of_ble_eq_true rfl) (by decide) dX11_swap_2 ⟨Nat.le_of_ble_eq_true rfl, Nat.le_of_ble_eq_true rfl⟩) hM (fun r M1 H locs hM hp => ?_)
  obtain ⟨rfl, rfl⟩ := hp
  refine lv_istore_n (lv' := [(3, .int (fAt n f i)), (0, .ref a), (1, .int i), (2, .int x)]) hx hb dX11_swap_5 rfl hl (by decide) rfl (fun ls hl => ?_)
  refine lv_aload_n hx hb dX11_swap_6 rfl (lv_at hl 1 rfl) ?_
  refine lv_iload_n hx hb dX11_swap_7 rfl (lv_at hl 2 rfl) ?_
  refine lv_iload_n hx hb dX11_swap_8 rfl (lv_at hl 3 rfl) ?_
  refine K_v (G_S (As := [.ref a, .int i, .int x]) (rest := []) X hM (c_X11_put l g _ a n f i x h_a hn) lk_X11_181 rfl hl.1 rfl (Nat.le_of_ble_eq_true rfl) (by decide) dX11_swap_9 ⟨Nat.le_of_ble_eq_true rfl, Nat.le_of_ble_eq_true rfl⟩) hM (fun M1 H locs hM hp => ?_)
  subst hp
  have hM : MW g (mup M a (aI g n (fPut n f i x))) H locs := hM
  refine lv_iload_n hx hb dX11_swap_12 rfl (lv_at hl 0 rfl) ?_
  exact R_i X hr hk hM ⟨rfl, rfl⟩ dX11_swap_13
set_option maxHeartbeats 4000000 in
set_option maxRecDepth 100000 in
theorem c_X11_copy (l : Launch) (g : Gp) (M : Mem) (a b n0 n1 : Nat) (f h : Nat → Int32) (h_a : M a = some (aI g n0 f)) (h_b : M b = some (aI g n1 h)) (hn0 : n0 < 2147483648) (hn1 : n1 < 2147483648) (hab : a ≠ b) : Met l yX11_copy (wsM yX11_copy cX11_copy 2 none) (rmD 2 0 0) (Pre g M [.ref a, .ref b]) (Qv g (fun M1 => mup M b (aI g n1 (fCopy n0 n1 f h)) = M1)) 0 0 (gF g) := M_start (by decide +kernel) (Nat.le_of_ble_eq_true rfl) fun p e s m args below meth c ls X hr hk hnm hM hl => by
  have X : Cx g p m c cX11_copy 2 s args RX11 := X
  have hx := X.1.1
  have hb := X.1.2.1
  have hl : lv_has ls 2 [(0, .ref a), (1, .ref b)] := hl
  refine lv_aload_n hx hb dX11_copy_0 rfl (lv_at hl 0 rfl) ?_
  refine lv_iconst (v := 0) hx hb dX11_copy_1 (by decide) ?_
  refine lv_aload_n hx hb dX11_copy_2 rfl (lv_at hl 1 rfl) ?_
  refine lv_iconst (v := 0) hx hb dX11_copy_3 (by decide) ?_
  refine lv_aload_n hx hb dX11_copy_4 rfl (lv_at hl 0 rfl) ?_
  refine r_alen (v := nI n0) 0 X hM h_a rfl rfl dX11_copy_5 ?_
  refine lv_aload_n hx hb dX11_copy_6 rfl (lv_at hl 1 rfl) ?_
  refine r_alen (v := nI n1) 0 X hM h_b rfl rfl dX11_copy_7 ?_
  refine r_min X hl.1 q_339 q_340 q_3 q_341 (by decide) (Nat.le_of_ble_eq_true rfl) (Nat.le_of_ble_eq_true rfl) (Nat.le_of_ble_eq_true rfl) dX11_copy_8 ?_
  refine r_copy X hM hl.1 h_a h_b q_342 q_344 q_343 q_12 (by decide) (by decide) (by rw [nImin _ _ hn0 hn1]; exact nI_pos (by omega)) (by rw [nImin _ _ hn0 hn1, nI_clamp (by omega)]; simp; omega) (by rw [nImin _ _ hn0 hn1, nI_clamp (by omega)]; simp; omega) hab (by decide) (Nat.le_of_ble_eq_true rfl) dX11_copy_11 (fun H locs hM => ?_)
  have hM : MW g (mup M b (aI g n1 (va_cpy f h (0 : Int32).toNatClampNeg (0 : Int32).toNatClampNeg (if nI n1 < nI n0 then nI n1 else nI n0).toNatClampNeg))) H locs := hM
  exact R_v X hr hk hM (by rw [nImin _ _ hn0 hn1, nI_clamp (by omega)]; rfl) dX11_copy_14
set_option maxHeartbeats 4000000 in
set_option maxRecDepth 100000 in
theorem c_X5_isFull (l : Launch) (g : Gp) (M : Mem) (o q : Nat) (mo wi co : Int32) (h_o : M o = some (rowsE q mo wi co)) : Met l yX5_isFull (wsM yX5_isFull cX5_isFull 1 (some .boolean)) (rmD 1 0 0) (Pre g M [.ref o]) (Qi g (fun r M1 => (if co < mo then 0 else 1) = r ∧ M = M1)) 0 0 (gF g) := M_start (by decide +kernel) (Nat.le_of_ble_eq_true rfl) fun p e s m args below meth c ls X hr hk hnm hM hl => by
  have X : Cx g p m c cX5_isFull 1 s args RX5 := X
  have hx := X.1.1
  have hb := X.1.2.1
  have hl : lv_has ls 1 [(0, .ref o)] := hl
  refine lv_aload_n hx hb dX5_isFull_0 rfl (lv_at hl 0 rfl) ?_
  refine r_get (T := TX5) (N := 4) (ci := 5) (v := .int co) X hM iX5 rfl 3 (by decide) q_42 (Or.inl rfl) h_o rfl dX5_isFull_1 ?_
  refine lv_aload_n hx hb dX5_isFull_4 rfl (lv_at hl 0 rfl) ?_
  refine r_get (T := TX5) (N := 4) (ci := 5) (v := .int mo) X hM iX5 rfl 1 (by decide) q_40 (Or.inl rfl) h_o rfl dX5_isFull_5 ?_
  refine lv_icmp_lt (tgt := 15) hx hb dX5_isFull_8 (by decide) (fun c_1 => ?_) (fun c_1 => ?_)
  · skip
    refine lv_iconst (v := 0) hx hb dX5_isFull_15 (by decide) ?_
    exact R_z X hr hk (Or.inl rfl) hM ⟨(by simp [*]), rfl⟩ dX5_isFull_16
  · skip
    refine lv_iconst (v := 1) hx hb dX5_isFull_11 (by decide) ?_
    refine lv_goto (tgt := 16) hx hb dX5_isFull_12 (by decide) ?_
    exact R_z X hr hk (Or.inr rfl) hM ⟨(by simp [*]), rfl⟩ dX5_isFull_16
set_option maxHeartbeats 4000000 in
set_option maxRecDepth 100000 in
theorem c_X5_clear (l : Launch) (g : Gp) (M : Mem) (o q : Nat) (mo wi co : Int32) (h_o : M o = some (rowsE q mo wi co)) : Met l yX5_clear (wsM yX5_clear cX5_clear 1 (some .int)) (rmD 1 0 0) (Pre g M [.ref o]) (Qi g (fun r M1 => 0 = r ∧ mup M o (rowsE q mo wi 0) = M1)) 0 0 (gF g) := M_start (by decide +kernel) (Nat.le_of_ble_eq_true rfl) fun p e s m args below meth c ls X hr hk hnm hM hl => by
  have X : Cx g p m c cX5_clear 1 s args RX5 := X
  have hx := X.1.1
  have hb := X.1.2.1
  have hl : lv_has ls 1 [(0, .ref o)] := hl
  refine lv_aload_n hx hb dX5_clear_0 rfl (lv_at hl 0 rfl) ?_
  refine lv_iconst (v := 0) hx hb dX5_clear_1 (by decide) ?_
  refine r_put (T := TX5) (N := 4) (ci := 5) X hM iX5 tyX5 tyX5_ok nmX5 rfl 3 (by decide) q_42 rfl (Or.inl rfl) h_o rfl rfl (Nat.le_of_ble_eq_true rfl) dX5_clear_2 (fun H locs hM => ?_)
  have hM : MW g (mup M o (rowsE q mo wi 0)) H locs := hM
  refine lv_iconst (v := 0) hx hb dX5_clear_5 (by decide) ?_
  exact R_i X hr hk hM ⟨rfl, rfl⟩ dX5_clear_6
set_option maxHeartbeats 4000000 in
set_option maxRecDepth 100000 in
theorem c_X5_tell (l : Launch) (g : Gp) (M : Mem) (o q n : Nat) (f : Nat → Int32) (mo wi co : Int32) (x : Int32) (h_o : M o = some (rowsE q mo wi co)) (h_q : M q = some (aI g n f)) (hn : n < 2147483648) (hoq : o ≠ q) : Met l yX5_tell (wsM yX5_tell cX5_tell 2 (some .int)) (rmD 1 0 0) (Pre g M [.ref o, .int x]) (Qi g (fun r M1 => (co + 1) = r ∧ mup (mup M q (aI g n (fPut n f co x))) o (rowsE q mo wi (co + 1)) = M1)) 0 0 (gF g) := M_start (by decide +kernel) (Nat.le_of_ble_eq_true rfl) fun p e s m args below meth c ls X hr hk hnm hM hl => by
  have X : Cx g p m c cX5_tell 2 s args RX5 := X
  have hx := X.1.1
  have hb := X.1.2.1
  have hl : lv_has ls 2 [(0, .ref o), (1, .int x)] := hl
  refine lv_aload_n hx hb dX5_tell_0 rfl (lv_at hl 0 rfl) ?_
  refine r_get (T := TX5) (N := 4) (ci := 5) (v := .int co) X hM iX5 rfl 3 (by decide) q_42 (Or.inl rfl) h_o rfl dX5_tell_1 ?_
  refine lv_if_lt (tgt := 29) hx hb dX5_tell_4 (by decide) (fun c_1 => ?_) (fun c_1 => ?_)
  · skip
    refine lv_aload_n hx hb dX5_tell_29 rfl (lv_at hl 0 rfl) ?_
    refine lv_dup hx hb dX5_tell_30 rfl ?_
    refine r_get (T := TX5) (N := 4) (ci := 5) (v := .int co) X hM iX5 rfl 3 (by decide) q_42 (Or.inl rfl) h_o rfl dX5_tell_31 ?_
    refine lv_iconst (v := 1) hx hb dX5_tell_34 (by decide) ?_
    refine lv_iadd hx hb dX5_tell_35 ?_
    refine r_put (T := TX5) (N := 4) (ci := 5) X hM iX5 tyX5 tyX5_ok nmX5 rfl 3 (by decide) q_42 rfl (Or.inl rfl) h_o rfl rfl (Nat.le_of_ble_eq_true rfl) dX5_tell_36 (fun H locs hM => ?_)
    have hM : MW g (mup M o (rowsE q mo wi (co + 1))) H locs := hM
    refine lv_aload_n hx hb dX5_tell_39 rfl (lv_at hl 0 rfl) ?_
    refine r_get (T := TX5) (N := 4) (ci := 5) (v := .int (co + 1)) X hM iX5 rfl 3 (by decide) q_42 (Or.inl rfl) (mup_s _ _ _) rfl dX5_tell_40 ?_
    exact R_i X hr hk hM ⟨rfl, by simp [fPut, *, mup_id]⟩ dX5_tell_43
  · skip
    refine lv_aload_n hx hb dX5_tell_7 rfl (lv_at hl 0 rfl) ?_
    refine r_get (T := TX5) (N := 4) (ci := 5) (v := .int co) X hM iX5 rfl 3 (by decide) q_42 (Or.inl rfl) h_o rfl dX5_tell_8 ?_
    refine lv_aload_n hx hb dX5_tell_11 rfl (lv_at hl 0 rfl) ?_
    refine r_get (T := TX5) (N := 4) (ci := 5) (v := .ref q) X hM iX5 rfl 0 (by decide) q_38 (Or.inl rfl) h_o rfl dX5_tell_12 ?_
    refine r_alen (v := nI n) 0 X hM h_q rfl rfl dX5_tell_15 ?_
    refine lv_icmp_ge (tgt := 29) hx hb dX5_tell_16 (by decide) (fun c_2 => ?_) (fun c_2 => ?_)
    · skip
      refine lv_aload_n hx hb dX5_tell_29 rfl (lv_at hl 0 rfl) ?_
      refine lv_dup hx hb dX5_tell_30 rfl ?_
      refine r_get (T := TX5) (N := 4) (ci := 5) (v := .int co) X hM iX5 rfl 3 (by decide) q_42 (Or.inl rfl) h_o rfl dX5_tell_31 ?_
      refine lv_iconst (v := 1) hx hb dX5_tell_34 (by decide) ?_
      refine lv_iadd hx hb dX5_tell_35 ?_
      refine r_put (T := TX5) (N := 4) (ci := 5) X hM iX5 tyX5 tyX5_ok nmX5 rfl 3 (by decide) q_42 rfl (Or.inl rfl) h_o rfl rfl (Nat.le_of_ble_eq_true rfl) dX5_tell_36 (fun H locs hM => ?_)
      have hM : MW g (mup M o (rowsE q mo wi (co + 1))) H locs := hM
      refine lv_aload_n hx hb dX5_tell_39 rfl (lv_at hl 0 rfl) ?_
      refine r_get (T := TX5) (N := 4) (ci := 5) (v := .int (co + 1)) X hM iX5 rfl 3 (by decide) q_42 (Or.inl rfl) (mup_s _ _ _) rfl dX5_tell_40 ?_
      exact R_i X hr hk hM ⟨rfl, by simp [fPut, *, mup_id]⟩ dX5_tell_43
    · skip
      have hin := vp_in_of2 c_1 c_2 hn
      refine lv_aload_n hx hb dX5_tell_19 rfl (lv_at hl 0 rfl) ?_
      refine r_get (T := TX5) (N := 4) (ci := 5) (v := .ref q) X hM iX5 rfl 0 (by decide) q_38 (Or.inl rfl) h_o rfl dX5_tell_20 ?_
      refine lv_aload_n hx hb dX5_tell_23 rfl (lv_at hl 0 rfl) ?_
      refine r_get (T := TX5) (N := 4) (ci := 5) (v := .int co) X hM iX5 rfl 3 (by decide) q_42 (Or.inl rfl) h_o rfl dX5_tell_24 ?_
      refine lv_iload_n hx hb dX5_tell_27 rfl (lv_at hl 1 rfl) ?_
      refine r_iast (i := co) (x := x) X hM h_q hin dX5_tell_28 (fun H locs hM => ?_)
      have hM : MW g (mup M q (aI g n (upd f co.toNatClampNeg x))) H locs := hM
      refine lv_aload_n hx hb dX5_tell_29 rfl (lv_at hl 0 rfl) ?_
      refine lv_dup hx hb dX5_tell_30 rfl ?_
      refine r_get (T := TX5) (N := 4) (ci := 5) (v := .int co) X hM iX5 rfl 3 (by decide) q_42 (Or.inl rfl) (mup_r hoq h_o) rfl dX5_tell_31 ?_
      refine lv_iconst (v := 1) hx hb dX5_tell_34 (by decide) ?_
      refine lv_iadd hx hb dX5_tell_35 ?_
      refine r_put (T := TX5) (N := 4) (ci := 5) X hM iX5 tyX5 tyX5_ok nmX5 rfl 3 (by decide) q_42 rfl (Or.inl rfl) (mup_r hoq h_o) rfl rfl (Nat.le_of_ble_eq_true rfl) dX5_tell_36 (fun H locs hM => ?_)
      have hM : MW g (mup (mup M q (aI g n (upd f co.toNatClampNeg x))) o (rowsE q mo wi (co + 1))) H locs := hM
      refine lv_aload_n hx hb dX5_tell_39 rfl (lv_at hl 0 rfl) ?_
      refine r_get (T := TX5) (N := 4) (ci := 5) (v := .int (co + 1)) X hM iX5 rfl 3 (by decide) q_42 (Or.inl rfl) (mup_s _ _ _) rfl dX5_tell_40 ?_
      exact R_i X hr hk hM ⟨rfl, by simp [fPut, *]⟩ dX5_tell_43
set_option maxHeartbeats 4000000 in
set_option maxRecDepth 100000 in
theorem c_X5_add (l : Launch) (g : Gp) (M : Mem) (o q n : Nat) (f : Nat → Int32) (mo wi co : Int32) (x y z : Int32) (h_o : M o = some (rowsE q mo wi co)) (h_q : M q = some (aI g n f)) (hn : n < 2147483648) (hoq : o ≠ q) : Met l yX5_add (wsM yX5_add cX5_add 4 (some .int)) (rmD 2 0 0) (Pre g M [.ref o, .int x, .int y, .int z]) (Qi g (fun r M1 => (co + 1) = r ∧ mup (mup M q (aI g n (fPut n (fPut n (fPut n f (co * wi) x) (co * wi + 1) y) (co * wi + 2) z))) o (rowsE q mo wi (co + 1)) = M1)) 0 0 (gF g) := M_start (by decide +kernel) (Nat.le_of_ble_eq_true rfl) fun p e s m args below meth c ls X hr hk hnm hM hl => by
  have X : Cx g p m c cX5_add 4 s args RX5 := X
  have hx := X.1.1
  have hb := X.1.2.1
  have hl : lv_has ls 4 [(0, .ref o), (1, .int x), (2, .int y), (3, .int z)] := hl
  refine lv_aload_n hx hb dX5_add_0 rfl (lv_at hl 0 rfl) ?_
  refine r_get (T := TX5) (N := 4) (ci := 5) (v := .ref q) X hM iX5 rfl 0 (by decide) q_38 (Or.inl rfl) h_o rfl dX5_add_1 ?_
  refine lv_aload_n hx hb dX5_add_4 rfl (lv_at hl 0 rfl) ?_
  refine r_get (T := TX5) (N := 4) (ci := 5) (v := .int co) X hM iX5 rfl 3 (by decide) q_42 (Or.inl rfl) h_o rfl dX5_add_5 ?_
  refine lv_aload_n hx hb dX5_add_8 rfl (lv_at hl 0 rfl) ?_
  refine r_get (T := TX5) (N := 4) (ci := 5) (v := .int wi) X hM iX5 rfl 2 (by decide) q_41 (Or.inl rfl) h_o rfl dX5_add_9 ?_
  refine lv_imul hx hb dX5_add_12 ?_
  refine lv_iload_n hx hb dX5_add_13 rfl (lv_at hl 1 rfl) ?_
  refine K_v (G_SN (As := [.ref q, .int (co * wi), .int x]) (rest := []) X hM (c_X11_put l g _ q n f (co * wi) x h_q hn) lk_X5_29 q_326 rfl hl.1 rfl (Nat.le_of_ble_eq_true rfl) (by decide) dX5_add_14 ⟨Nat.le_of_ble_eq_true rfl, Nat.le_of_ble_eq_true rfl⟩) hM (fun M1 H locs hM hp => ?_)
  subst hp
  have hM : MW g (mup M q (aI g n (fPut n f (co * wi) x))) H locs := hM
  refine lv_aload_n hx hb dX5_add_17 rfl (lv_at hl 0 rfl) ?_
  refine r_get (T := TX5) (N := 4) (ci := 5) (v := .ref q) X hM iX5 rfl 0 (by decide) q_38 (Or.inl rfl) (mup_r hoq h_o) rfl dX5_add_18 ?_
  refine lv_aload_n hx hb dX5_add_21 rfl (lv_at hl 0 rfl) ?_
  refine r_get (T := TX5) (N := 4) (ci := 5) (v := .int co) X hM iX5 rfl 3 (by decide) q_42 (Or.inl rfl) (mup_r hoq h_o) rfl dX5_add_22 ?_
  refine lv_aload_n hx hb dX5_add_25 rfl (lv_at hl 0 rfl) ?_
  refine r_get (T := TX5) (N := 4) (ci := 5) (v := .int wi) X hM iX5 rfl 2 (by decide) q_41 (Or.inl rfl) (mup_r hoq h_o) rfl dX5_add_26 ?_
  refine lv_imul hx hb dX5_add_29 ?_
  refine lv_iconst (v := 1) hx hb dX5_add_30 (by decide) ?_
  refine lv_iadd hx hb dX5_add_31 ?_
  refine lv_iload_n hx hb dX5_add_32 rfl (lv_at hl 2 rfl) ?_
  refine K_v (G_SN (As := [.ref q, .int ((co * wi) + 1), .int y]) (rest := []) X hM (c_X11_put l g _ q n (fPut n f (co * wi) x) ((co * wi) + 1) y (mup_s _ _ _) hn) lk_X5_29 q_326 rfl hl.1 rfl (Nat.le_of_ble_eq_true rfl) (by decide) dX5_add_33 ⟨Nat.le_of_ble_eq_true rfl, Nat.le_of_ble_eq_true rfl⟩) hM (fun M1 H locs hM hp => ?_)
  subst hp
  rw [mup_i] at hM
  have hM : MW g (mup M q (aI g n (fPut n (fPut n f (co * wi) x) ((co * wi) + 1) y))) H locs := hM
  refine lv_aload_n hx hb dX5_add_36 rfl (lv_at hl 0 rfl) ?_
  refine r_get (T := TX5) (N := 4) (ci := 5) (v := .ref q) X hM iX5 rfl 0 (by decide) q_38 (Or.inl rfl) (mup_r hoq h_o) rfl dX5_add_37 ?_
  refine lv_aload_n hx hb dX5_add_40 rfl (lv_at hl 0 rfl) ?_
  refine r_get (T := TX5) (N := 4) (ci := 5) (v := .int co) X hM iX5 rfl 3 (by decide) q_42 (Or.inl rfl) (mup_r hoq h_o) rfl dX5_add_41 ?_
  refine lv_aload_n hx hb dX5_add_44 rfl (lv_at hl 0 rfl) ?_
  refine r_get (T := TX5) (N := 4) (ci := 5) (v := .int wi) X hM iX5 rfl 2 (by decide) q_41 (Or.inl rfl) (mup_r hoq h_o) rfl dX5_add_45 ?_
  refine lv_imul hx hb dX5_add_48 ?_
  refine lv_iconst (v := 2) hx hb dX5_add_49 (by decide) ?_
  refine lv_iadd hx hb dX5_add_50 ?_
  refine lv_iload_n hx hb dX5_add_51 rfl (lv_at hl 3 rfl) ?_
  refine K_v (G_SN (As := [.ref q, .int ((co * wi) + 2), .int z]) (rest := []) X hM (c_X11_put l g _ q n (fPut n (fPut n f (co * wi) x) ((co * wi) + 1) y) ((co * wi) + 2) z (mup_s _ _ _) hn) lk_X5_29 q_326 rfl hl.1 rfl (Nat.le_of_ble_eq_true rfl) (by decide) dX5_add_52 ⟨Nat.le_of_ble_eq_true rfl, Nat.le_of_ble_eq_true rfl⟩) hM (fun M1 H locs hM hp => ?_)
  subst hp
  rw [mup_i] at hM
  have hM : MW g (mup M q (aI g n (fPut n (fPut n (fPut n f (co * wi) x) ((co * wi) + 1) y) ((co * wi) + 2) z))) H locs := hM
  refine lv_aload_n hx hb dX5_add_55 rfl (lv_at hl 0 rfl) ?_
  refine lv_dup hx hb dX5_add_56 rfl ?_
  refine r_get (T := TX5) (N := 4) (ci := 5) (v := .int co) X hM iX5 rfl 3 (by decide) q_42 (Or.inl rfl) (mup_r hoq h_o) rfl dX5_add_57 ?_
  refine lv_iconst (v := 1) hx hb dX5_add_60 (by decide) ?_
  refine lv_iadd hx hb dX5_add_61 ?_
  refine r_put (T := TX5) (N := 4) (ci := 5) X hM iX5 tyX5 tyX5_ok nmX5 rfl 3 (by decide) q_42 rfl (Or.inl rfl) (mup_r hoq h_o) rfl rfl (Nat.le_of_ble_eq_true rfl) dX5_add_62 (fun H locs hM => ?_)
  have hM : MW g (mup (mup M q (aI g n (fPut n (fPut n (fPut n f (co * wi) x) ((co * wi) + 1) y) ((co * wi) + 2) z))) o (rowsE q mo wi (co + 1))) H locs := hM
  refine lv_aload_n hx hb dX5_add_65 rfl (lv_at hl 0 rfl) ?_
  refine r_get (T := TX5) (N := 4) (ci := 5) (v := .int (co + 1)) X hM iX5 rfl 3 (by decide) q_42 (Or.inl rfl) (mup_s _ _ _) rfl dX5_add_66 ?_
  exact R_i X hr hk hM ⟨rfl, rfl⟩ dX5_add_69
set_option maxHeartbeats 4000000 in
set_option maxRecDepth 100000 in
theorem c_X5_cell (l : Launch) (g : Gp) (M : Mem) (o q n : Nat) (f : Nat → Int32) (mo wi co : Int32) (x y : Int32) (h_o : M o = some (rowsE q mo wi co)) (h_q : M q = some (aI g n f)) (hn : n < 2147483648) : Met l yX5_cell (wsM yX5_cell cX5_cell 3 (some .int)) (rmD 2 0 0) (Pre g M [.ref o, .int x, .int y]) (Qi g (fun r M1 => (fAt n f (x * wi + y)) = r ∧ M = M1)) 0 0 (gF g) := M_start (by decide +kernel) (Nat.le_of_ble_eq_true rfl) fun p e s m args below meth c ls X hr hk hnm hM hl => by
  have X : Cx g p m c cX5_cell 3 s args RX5 := X
  have hx := X.1.1
  have hb := X.1.2.1
  have hl : lv_has ls 3 [(0, .ref o), (1, .int x), (2, .int y)] := hl
  refine lv_aload_n hx hb dX5_cell_0 rfl (lv_at hl 0 rfl) ?_
  refine r_get (T := TX5) (N := 4) (ci := 5) (v := .ref q) X hM iX5 rfl 0 (by decide) q_38 (Or.inl rfl) h_o rfl dX5_cell_1 ?_
  refine lv_iload_n hx hb dX5_cell_4 rfl (lv_at hl 1 rfl) ?_
  refine lv_aload_n hx hb dX5_cell_5 rfl (lv_at hl 0 rfl) ?_
  refine r_get (T := TX5) (N := 4) (ci := 5) (v := .int wi) X hM iX5 rfl 2 (by decide) q_41 (Or.inl rfl) h_o rfl dX5_cell_6 ?_
  refine lv_imul hx hb dX5_cell_9 ?_
  refine lv_iload_n hx hb dX5_cell_10 rfl (lv_at hl 2 rfl) ?_
  refine lv_iadd hx hb dX5_cell_11 ?_
  refine K_i (G_SN (As := [.ref q, .int ((x * wi) + y)]) (rest := []) X hM (c_X11_at l g _ q n f ((x * wi) + y) h_q hn) lk_X5_35 q_230 rfl hl.1 rfl (Nat.le_of_ble_eq_true rfl) (by decide) dX5_cell_12 ⟨Nat.le_of_ble_eq_true rfl, Nat.le_of_ble_eq_true rfl⟩) hM (fun r M1 H locs hM hp => ?_)
  obtain ⟨rfl, rfl⟩ := hp
  exact R_i X hr hk hM ⟨rfl, rfl⟩ dX5_cell_15
set_option maxHeartbeats 4000000 in
set_option maxRecDepth 100000 in
theorem c_X5_become (l : Launch) (g : Gp) (M : Mem) (o q n o2 q2 n2 : Nat) (f f2 : Nat → Int32) (mo wi co mo2 wi2 co2 : Int32) (h_o : M o = some (rowsE q mo wi co)) (h_q : M q = some (aI g n f)) (h_o2 : M o2 = some (rowsE q2 mo2 wi2 co2)) (h_q2 : M q2 = some (aI g n2 f2)) (hn : n < 2147483648) (hn2 : n2 < 2147483648) (hoq : o ≠ q) (ho2 : o2 ≠ o) (hq2 : q2 ≠ q) (hq2o : q2 ≠ o) : Met l yX5_become (wsM yX5_become cX5_become 2 none) (rmD 3 0 0) (Pre g M [.ref o, .ref o2]) (Qv g (fun M1 => mup (mup M o (rowsE q mo wi co2)) q (aI g n (fCopy n2 n f2 f)) = M1)) 0 0 (gF g) := M_start (by decide +kernel) (Nat.le_of_ble_eq_true rfl) fun p e s m args below meth c ls X hr hk hnm hM hl => by
  have X : Cx g p m c cX5_become 2 s args RX5 := X
  have hx := X.1.1
  have hb := X.1.2.1
  have hl : lv_has ls 2 [(0, .ref o), (1, .ref o2)] := hl
  refine lv_aload_n hx hb dX5_become_0 rfl (lv_at hl 0 rfl) ?_
  refine lv_aload_n hx hb dX5_become_1 rfl (lv_at hl 1 rfl) ?_
  refine r_get (T := TX5) (N := 4) (ci := 5) (v := .int co2) X hM iX5 rfl 3 (by decide) q_42 (Or.inl rfl) h_o2 rfl dX5_become_2 ?_
  refine r_put (T := TX5) (N := 4) (ci := 5) X hM iX5 tyX5 tyX5_ok nmX5 rfl 3 (by decide) q_42 rfl (Or.inl rfl) h_o rfl rfl (Nat.le_of_ble_eq_true rfl) dX5_become_5 (fun H locs hM => ?_)
  have hM : MW g (mup M o (rowsE q mo wi co2)) H locs := hM
  refine lv_aload_n hx hb dX5_become_8 rfl (lv_at hl 1 rfl) ?_
  refine r_get (T := TX5) (N := 4) (ci := 5) (v := .ref q2) X hM iX5 rfl 0 (by decide) q_38 (Or.inl rfl) (mup_r ho2 h_o2) rfl dX5_become_9 ?_
  refine lv_aload_n hx hb dX5_become_12 rfl (lv_at hl 0 rfl) ?_
  refine r_get (T := TX5) (N := 4) (ci := 5) (v := .ref q) X hM iX5 rfl 0 (by decide) q_38 (Or.inl rfl) (mup_s _ _ _) rfl dX5_become_13 ?_
  refine K_v (G_SN (As := [.ref q2, .ref q]) (rest := []) X hM (c_X11_copy l g _ q2 q n2 n f2 f (mup_r hq2o h_q2) (mup_r (Ne.symm hoq) h_q) hn2 hn hq2) lk_X5_39 q_337 rfl hl.1 rfl (Nat.le_of_ble_eq_true rfl) (by decide) dX5_become_16 ⟨Nat.le_of_ble_eq_true rfl, Nat.le_of_ble_eq_true rfl⟩) hM (fun M1 H locs hM hp => ?_)
  subst hp
  have hM : MW g (mup (mup M o (rowsE q mo wi co2)) q (aI g n (fCopy n2 n f2 f))) H locs := hM
  exact R_v X hr hk hM rfl dX5_become_19
