theorem iR_nI {a d : Nat} (ha : a < 2147483648) (h0 : 0 < d) (hd : d < 2147483648) : iR (nI a) (nI d) = nI (a % d) := pk_rem ha h0 hd
def mFa (f : Nat → Int32) (p : Nat) (ho ni : Int32) (w : Nat) : Int32 := if w = 0 then nI p else if w = 1 then f (16 + p) else if w = 2 then f (22 + p) else if w = 3 then ho else if w = 4 then iR ni 10 else iR ni 7
def mBy (f : Nat → Int32) (p : Nat) (ho ni : Int32) (b : Nat → Int32) : Nat → Int32 := upd (upd (upd (upd (upd (upd b 0 (nI p)) 1 (f (16 + p))) 2 (f (22 + p))) 3 ho) 4 (iR ni 10)) 5 (iR ni 7)
theorem mBy_fa {f : Nat → Int32} {p : Nat} {ho ni : Int32} {b : Nat → Int32} {w : Nat} (h : w < 6) : mBy f p ho ni b w = mFa f p ho ni w := by
  rcases (show w = 0 ∨ w = 1 ∨ w = 2 ∨ w = 3 ∨ w = 4 ∨ w = 5 by omega) with rfl | rfl | rfl | rfl | rfl | rfl <;> simp [mBy, mFa, upd]
/-- a test told by its number -/
def tst (hw v is : Int32) : Int32 := if hw = 0 then (if v ≤ is then 0 else 1) else if hw = 1 then (if is = v then 1 else 0) else (if is ≤ v then 0 else 1)
theorem tst_01 (hw v is : Int32) : tst hw v is = 0 ∨ tst hw v is = 1 := by
  unfold tst
  repeat' split
  all_goals first | exact Or.inl rfl | exact Or.inr rfl
def cNot (x : Int32) : Int32 := if x = 0 then 1 else 0
def cTwo (s x y : Int32) : Int32 := if s = -2 then (if x = 0 then 0 else if y = 0 then 0 else 1) else (if x = 0 then (if y = 0 then 0 else 1) else 1)
theorem cNot_01 (x : Int32) : cNot x = 0 ∨ cNot x = 1 := by
  unfold cNot
  split
  · exact Or.inr rfl
  · exact Or.inl rfl
theorem cTwo_01 (s x y : Int32) : cTwo s x y = 0 ∨ cTwo s x y = 1 := by
  unfold cTwo
  repeat' split
  all_goals first | exact Or.inl rfl | exact Or.inr rfl
def cDe (x z : Int32) : Int32 := if z = 0 then 0 else if x ≤ -200 then 0 else -10 - x
def cDi (x z : Int32) : Int32 := if z = 0 then 0 else if -200 < x then 0 else -200 - x
/-- how many truths stand open behind the first steps -/
def tpN (x : Int32) (t : Nat) : Nat := if x < 0 then (if x = -1 then t else if x ≤ -10 then 0 else t - 1) else t + 1
def okS (x : Int32) (t : Nat) : Prop := t ≤ 30 ∧ (¬ x < 0 → vp_in (iR x 8) 6) ∧ (x < 0 → 1 ≤ t) ∧ (x < 0 → ¬ x = -1 → ¬ x ≤ -10 → 2 ≤ t) ∧ (x < 0 → ¬ x = -1 → x ≤ -10 → t = 1) ∧ -299 ≤ x
def mTop (g : Nat → Int32) : Nat → Nat
  | 0 => 0
  | i + 1 => tpN (g i) (mTop g i)
def mB1 (fa : Nat → Int32) (x : Int32) (t : Nat) (z : Int32 × (Nat → Int32)) : Int32 × (Nat → Int32) := if x < 0 then (if x = -1 then (z.1, upd z.2 (t - 1) (cNot (z.2 (t - 1)))) else if x ≤ -10 then (z.1 + cDe x (z.2 0) - cDi x (z.2 0), z.2) else (z.1, upd z.2 (t - 2) (cTwo x (z.2 (t - 2)) (z.2 (t - 1))))) else (z.1, upd z.2 t (tst (iR (x / 8) 4) (x / 32) (fa (iR x 8).toNatClampNeg)))
def mBr (fa g : Nat → Int32) : Nat → Int32 × (Nat → Int32)
  | 0 => (0, fun _ => 0)
  | i + 1 => mB1 fa (g i) (mTop g i) (mBr fa g i)
theorem mB1_ag {fa : Nat → Int32} {x : Int32} {t : Nat} {z y : Int32 × (Nat → Int32)} (ho : okS x t) (h1 : z.1 = y.1) (h2 : ∀ k, k < t → z.2 k = y.2 k) : (mB1 fa x t z).1 = (mB1 fa x t y).1 ∧ ∀ k, k < tpN x t → (mB1 fa x t z).2 k = (mB1 fa x t y).2 k := by
  obtain ⟨-, -, o1, o2, o3, -⟩ := ho
  unfold mB1 tpN
  by_cases c1 : x < 0
  · have t1 := o1 c1
    by_cases c2 : x = -1
    · simp only [if_pos c1, if_pos c2]
      refine ⟨h1, fun k hk => ?_⟩
      unfold upd
      by_cases e : k = t - 1
      · simp only [if_pos e]; rw [h2 _ (by omega)]
      · simp only [if_neg e]; exact h2 k hk
    · by_cases c3 : x ≤ -10
      · simp only [if_pos c1, if_neg c2, if_pos c3]
        have t9 := o3 c1 c2 c3
        refine ⟨?_, fun k hk => absurd hk (Nat.not_lt_zero _)⟩
        rw [h1, h2 0 (by omega)]
      · simp only [if_pos c1, if_neg c2, if_neg c3]
        have t2 := o2 c1 c2 c3
        refine ⟨h1, fun k hk => ?_⟩
        unfold upd
        by_cases e : k = t - 2
        · simp only [if_pos e]; rw [h2 _ (by omega), h2 _ (by omega)]
        · simp only [if_neg e]; exact h2 k (by omega)
  · simp only [if_neg c1]
    refine ⟨h1, fun k hk => ?_⟩
    unfold upd
    by_cases e : k = t
    · simp only [if_pos e]
    · simp only [if_neg e]; exact h2 k (by omega)
def mCo (f : Nat → Int32) (a : Nat) (i : Nat) : Int32 := f (229 + 140 * a + i)
/-- what is held is in order: turn, cloud, steps -/
def HdOk (f : Nat → Int32) (a n tu cl : Nat) : Prop := a < 5 ∧ f 15 = nI a ∧ f (224 + a) = nI n ∧ n ≤ 140 ∧ f (214 + a) = nI tu ∧ tu ≤ 99 ∧ f (219 + a) = nI cl ∧ cl ≤ 99 ∧ ∀ i, i < n → okS (mCo f a i) (mTop (mCo f a) i)
def StOk (f : Nat → Int32) : Prop := f 15 = -1 ∨ ∃ a n tu cl, HdOk f a n tu cl
theorem StOk.hd {f : Nat → Int32} (h : StOk f) : Hd f := by
  rcases h with h | ⟨a, n, tu, cl, h⟩
  · exact Or.inl h
  · exact Or.inr ⟨a, h.1, h.2.1⟩
def mBase (f : Nat → Int32) (p : Nat) (ho ni : Int32) : Int32 := if f 15 = -1 then 0 else (mBr (mFa f p ho ni) (mCo f (f 15).toNatClampNeg) (f (224 + (f 15).toNatClampNeg)).toNatClampNeg).1
theorem nI_m1 {a : Nat} (h : a < 2147483648) : ¬ nI a = -1 := fun e => nI_pos h (by rw [e]; decide)
theorem mBase_h {f : Nat → Int32} {p : Nat} {ho ni : Int32} {a n tu cl : Nat} (h : HdOk f a n tu cl) : mBase f p ho ni = (mBr (mFa f p ho ni) (mCo f a) n).1 := by
  obtain ⟨h1, h2, h3, h4, -⟩ := h
  have e : (nI a).toNatClampNeg = a := nI_clamp (by omega)
  rw [mBase, h2, if_neg (nI_m1 (by omega)), e, h3, nI_clamp (by omega)]
theorem nI_subn {t k : Nat} (h : k ≤ t) : nI t - nI k = nI (t - k) := by
  obtain ⟨u, rfl⟩ : ∃ u, t = u + k := ⟨t - k, by omega⟩
  rw [← nI_add, Nat.add_sub_cancel]
  exact Int32.toBitVec_inj.mp (by simp)
theorem nI_sub1 {t : Nat} (h : 1 ≤ t) : nI t - 1 = nI (t - 1) := nI_subn h
theorem nI_dec {t : Nat} (h : 1 ≤ t) : nI t + (-1) = nI (t - 1) := by
  rw [← nI_sub1 h]
  exact Int32.toBitVec_inj.mp (by simp [BitVec.sub_eq_add_neg])
theorem vp_in_lt {x : Int32} {n : Nat} (h : vp_in x n) : x.toNatClampNeg < n := Nat.lt_of_not_le fun q => h (Or.inr q)

set_option maxHeartbeats 4000000 in
set_option maxRecDepth 100000 in
theorem c_X12_baseOf_0 (l : Launch) (g : Gp) (M : Mem) (m0 m1 m2 m3 m4 m5 m6 m7 m8 m9 m10 m11 : Int32) (f : Nat → Int32) (pp t : Nat) (ho : Int32) (by_ tr : Nat → Int32) (h46 : M (gA g 46) = some (mdE g m0 m1 m2 m3 m4 m5 m6 m7 m8 m9 m10 m11)) (h47 : M (gA g 47) = some (aI g 929 f)) (h50 : M (gA g 50) = some (aI g 6 by_)) (h51 : M (gA g 51) = some (aZ g 64 tr)) (h15 : f 15 = -1) (hp : pp < 6) (ht : t < 20000) : Met l yX12_baseOf (wsM yX12_baseOf cX12_baseOf 13 (some .int)) (rmD 2 0 0) (Pre g M [.ref (gA g 46), .int (nI pp), .int ho, .int (nI t)]) (Qi g (fun r M1 => ∃ (y0 : Nat → Int32) (y1 : Nat → Int32), (mBase f pp ho (nI t)) = r ∧ mup (mup M (gA g 50) (aI g 6 y0)) (gA g 51) (aZ g 64 y1) = M1)) 0 0 (gF g) := M_start (by decide +kernel) (Nat.le_of_ble_eq_true rfl) fun p e s m args below meth c ls X hr hk hnm hM hl => by
  have X : Cx g p m c cX12_baseOf 13 s args RX12 := X
  have hx := X.1.1
  have hb := X.1.2.1
  have hl : lv_has ls 13 [(0, .ref (gA g 46)), (1, .int (nI pp)), (2, .int ho), (3, .int (nI t))] := hl
  refine lv_aload_n hx hb dX12_baseOf_0 rfl (lv_at hl 0 rfl) ?_
  refine r_get (T := TX12) (N := 20) (ci := 12) (v := .ref (gA g 50)) X hM iX12 rfl 11 (by decide) q_846 (Or.inl rfl) h46 rfl dX12_baseOf_1 ?_
  refine lv_iconst (v := 0) hx hb dX12_baseOf_4 (by decide) ?_
  refine lv_iload_n hx hb dX12_baseOf_5 rfl (lv_at hl 1 rfl) ?_
  refine r_iast (i := 0) (x := nI pp) X hM h50 (vp_in_nI (n := 0) (by decide) (by decide)) dX12_baseOf_6 (fun H locs hM => ?_)
  rw [show ((0 : Int32)).toNatClampNeg = 0 from by decide] at hM
  have hM : MW g (mup M (gA g 50) (aI g 6 (upd by_ 0 (nI pp)))) H locs := hM
  refine lv_aload_n hx hb dX12_baseOf_7 rfl (lv_at hl 0 rfl) ?_
  refine r_get (T := TX12) (N := 20) (ci := 12) (v := .ref (gA g 50)) X hM iX12 rfl 11 (by decide) q_846 (Or.inl rfl) (mup_r (X.2.ne (i := 46) (j := 50) (by decide) (by decide) (by decide)) h46) rfl dX12_baseOf_8 ?_
  refine lv_iconst (v := 1) hx hb dX12_baseOf_11 (by decide) ?_
  refine lv_aload_n hx hb dX12_baseOf_12 rfl (lv_at hl 0 rfl) ?_
  refine r_get (T := TX12) (N := 20) (ci := 12) (v := .ref (gA g 47)) X hM iX12 rfl 1 (by decide) q_836 (Or.inl rfl) (mup_r (X.2.ne (i := 46) (j := 50) (by decide) (by decide) (by decide)) h46) rfl dX12_baseOf_13 ?_
  refine lv_bipush (v := 16) hx hb dX12_baseOf_16 (by decide) ?_
  refine lv_iload_n hx hb dX12_baseOf_18 rfl (lv_at hl 1 rfl) ?_
  refine lv_iadd hx hb dX12_baseOf_19 ?_
  rw [show (16 : Int32) + (nI pp) = nI (16 + pp) from nI_add 16 pp]
  refine r_iald (i := nI (16 + pp)) X hM (mup_r (X.2.ne (i := 47) (j := 50) (by decide) (by decide) (by decide)) h47) (vp_in_nI (by omega) (by decide)) dX12_baseOf_20 ?_
  rw [nI_clamp (show 16 + pp < 2147483648 by omega)]
  refine r_iast (i := 1) (x := f (16 + pp)) X hM (mup_s _ _ _) (vp_in_nI (n := 1) (by decide) (by decide)) dX12_baseOf_21 (fun H locs hM => ?_)
  rw [show ((1 : Int32)).toNatClampNeg = 1 from by decide] at hM
  rw [mup_i] at hM
  have hM : MW g (mup M (gA g 50) (aI g 6 (upd (upd by_ 0 (nI pp)) 1 (f (16 + pp))))) H locs := hM
  refine lv_aload_n hx hb dX12_baseOf_22 rfl (lv_at hl 0 rfl) ?_
  refine r_get (T := TX12) (N := 20) (ci := 12) (v := .ref (gA g 50)) X hM iX12 rfl 11 (by decide) q_846 (Or.inl rfl) (mup_r (X.2.ne (i := 46) (j := 50) (by decide) (by decide) (by decide)) h46) rfl dX12_baseOf_23 ?_
  refine lv_iconst (v := 2) hx hb dX12_baseOf_26 (by decide) ?_
  refine lv_aload_n hx hb dX12_baseOf_27 rfl (lv_at hl 0 rfl) ?_
  refine r_get (T := TX12) (N := 20) (ci := 12) (v := .ref (gA g 47)) X hM iX12 rfl 1 (by decide) q_836 (Or.inl rfl) (mup_r (X.2.ne (i := 46) (j := 50) (by decide) (by decide) (by decide)) h46) rfl dX12_baseOf_28 ?_
  refine lv_bipush (v := 22) hx hb dX12_baseOf_31 (by decide) ?_
  refine lv_iload_n hx hb dX12_baseOf_33 rfl (lv_at hl 1 rfl) ?_
  refine lv_iadd hx hb dX12_baseOf_34 ?_
  rw [show (22 : Int32) + (nI pp) = nI (22 + pp) from nI_add 22 pp]
  refine r_iald (i := nI (22 + pp)) X hM (mup_r (X.2.ne (i := 47) (j := 50) (by decide) (by decide) (by decide)) h47) (vp_in_nI (by omega) (by decide)) dX12_baseOf_35 ?_
  rw [nI_clamp (show 22 + pp < 2147483648 by omega)]
  refine r_iast (i := 2) (x := f (22 + pp)) X hM (mup_s _ _ _) (vp_in_nI (n := 2) (by decide) (by decide)) dX12_baseOf_36 (fun H locs hM => ?_)
  rw [show ((2 : Int32)).toNatClampNeg = 2 from by decide] at hM
  rw [mup_i] at hM
  have hM : MW g (mup M (gA g 50) (aI g 6 (upd (upd (upd by_ 0 (nI pp)) 1 (f (16 + pp))) 2 (f (22 + pp))))) H locs := hM
  refine lv_aload_n hx hb dX12_baseOf_37 rfl (lv_at hl 0 rfl) ?_
  refine r_get (T := TX12) (N := 20) (ci := 12) (v := .ref (gA g 50)) X hM iX12 rfl 11 (by decide) q_846 (Or.inl rfl) (mup_r (X.2.ne (i := 46) (j := 50) (by decide) (by decide) (by decide)) h46) rfl dX12_baseOf_38 ?_
  refine lv_iconst (v := 3) hx hb dX12_baseOf_41 (by decide) ?_
  refine lv_iload_n hx hb dX12_baseOf_42 rfl (lv_at hl 2 rfl) ?_
  refine r_iast (i := 3) (x := ho) X hM (mup_s _ _ _) (vp_in_nI (n := 3) (by decide) (by decide)) dX12_baseOf_43 (fun H locs hM => ?_)
  rw [show ((3 : Int32)).toNatClampNeg = 3 from by decide] at hM
  rw [mup_i] at hM
  have hM : MW g (mup M (gA g 50) (aI g 6 (upd (upd (upd (upd by_ 0 (nI pp)) 1 (f (16 + pp))) 2 (f (22 + pp))) 3 ho))) H locs := hM
  refine lv_aload_n hx hb dX12_baseOf_44 rfl (lv_at hl 0 rfl) ?_
  refine r_get (T := TX12) (N := 20) (ci := 12) (v := .ref (gA g 50)) X hM iX12 rfl 11 (by decide) q_846 (Or.inl rfl) (mup_r (X.2.ne (i := 46) (j := 50) (by decide) (by decide) (by decide)) h46) rfl dX12_baseOf_45 ?_
  refine lv_iconst (v := 4) hx hb dX12_baseOf_48 (by decide) ?_
  refine lv_iload_n hx hb dX12_baseOf_49 rfl (lv_at hl 3 rfl) ?_
  refine lv_bipush (v := 10) hx hb dX12_baseOf_50 (by decide) ?_
  refine l_irem hx hb dX12_baseOf_52 (by decide) ?_
  refine r_iast (i := 4) (x := iR (nI t) 10) X hM (mup_s _ _ _) (vp_in_nI (n := 4) (by decide) (by decide)) dX12_baseOf_53 (fun H locs hM => ?_)
  rw [show ((4 : Int32)).toNatClampNeg = 4 from by decide] at hM
  rw [mup_i] at hM
  have hM : MW g (mup M (gA g 50) (aI g 6 (upd (upd (upd (upd (upd by_ 0 (nI pp)) 1 (f (16 + pp))) 2 (f (22 + pp))) 3 ho) 4 (iR (nI t) 10)))) H locs := hM
  refine lv_aload_n hx hb dX12_baseOf_54 rfl (lv_at hl 0 rfl) ?_
  refine r_get (T := TX12) (N := 20) (ci := 12) (v := .ref (gA g 50)) X hM iX12 rfl 11 (by decide) q_846 (Or.inl rfl) (mup_r (X.2.ne (i := 46) (j := 50) (by decide) (by decide) (by decide)) h46) rfl dX12_baseOf_55 ?_
  refine lv_iconst (v := 5) hx hb dX12_baseOf_58 (by decide) ?_
  refine lv_iload_n hx hb dX12_baseOf_59 rfl (lv_at hl 3 rfl) ?_
  refine lv_bipush (v := 7) hx hb dX12_baseOf_60 (by decide) ?_
  refine l_irem hx hb dX12_baseOf_62 (by decide) ?_
  refine r_iast (i := 5) (x := iR (nI t) 7) X hM (mup_s _ _ _) (vp_in_nI (n := 5) (by decide) (by decide)) dX12_baseOf_63 (fun H locs hM => ?_)
  rw [show ((5 : Int32)).toNatClampNeg = 5 from by decide] at hM
  rw [mup_i] at hM
  have hM : MW g (mup M (gA g 50) (aI g 6 (upd (upd (upd (upd (upd (upd by_ 0 (nI pp)) 1 (f (16 + pp))) 2 (f (22 + pp))) 3 ho) 4 (iR (nI t) 10)) 5 (iR (nI t) 7)))) H locs := hM
  refine lv_iconst (v := 0) hx hb dX12_baseOf_64 (by decide) ?_
  refine lv_istore (lv' := [(4, .int 0), (0, .ref (gA g 46)), (1, .int (nI pp)), (2, .int ho), (3, .int (nI t))]) hx hb dX12_baseOf_65 hl (by decide) rfl (fun ls hl => ?_)
  refine lv_aload_n hx hb dX12_baseOf_67 rfl (lv_at hl 1 rfl) ?_
  refine lv_sipush (v := 224) hx hb dX12_baseOf_68 (by decide) ?_
  refine lv_iconst (v := 0) hx hb dX12_baseOf_71 (by decide) ?_
  refine K_i (G_V (As := [.int 224, .int 0]) (rest := []) X hM (c_X12_tellsOf l g _ m0 m1 m2 m3 m4 m5 m6 m7 m8 m9 m10 m11 f 224 0 (mup_r (X.2.ne (i := 46) (j := 50) (by decide) (by decide) (by decide)) h46) (mup_r (X.2.ne (i := 47) (j := 50) (by decide) (by decide) (by decide)) h47) (Or.inl h15) (by decide)) lk_X12_45 (mup_r (X.2.ne (i := 46) (j := 50) (by decide) (by decide) (by decide)) h46) rfl rfl hl.1 rfl (Nat.le_of_ble_eq_true rfl) (by decide) dX12_baseOf_72 ⟨Nat.le_of_ble_eq_true rfl, Nat.le_of_ble_eq_true rfl⟩) hM (fun r M1 H locs hM hp => ?_)
  obtain ⟨rfl, rfl⟩ := hp
  rw [show mTel f 224 0 = nI 0 from show mTel f 224 0 = nI 0 from if_pos h15]
  refine lv_istore (lv' := [(5, .int (nI 0)), (4, .int 0), (0, .ref (gA g 46)), (1, .int (nI pp)), (2, .int ho), (3, .int (nI t))]) hx hb dX12_baseOf_75 hl (by decide) rfl (fun ls hl => ?_)
  refine lv_sipush (v := 229) hx hb dX12_baseOf_77 (by decide) ?_
  refine lv_sipush (v := 140) hx hb dX12_baseOf_80 (by decide) ?_
  refine lv_aload_n hx hb dX12_baseOf_83 rfl (lv_at hl 2 rfl) ?_
  refine r_get (T := TX12) (N := 20) (ci := 12) (v := .ref (gA g 47)) X hM iX12 rfl 1 (by decide) q_836 (Or.inl rfl) (mup_r (X.2.ne (i := 46) (j := 50) (by decide) (by decide) (by decide)) h46) rfl dX12_baseOf_84 ?_
  refine lv_bipush (v := 15) hx hb dX12_baseOf_87 (by decide) ?_
  refine r_iald (i := 15) X hM (mup_r (X.2.ne (i := 47) (j := 50) (by decide) (by decide) (by decide)) h47) (vp_in_nI (n := 15) (by decide) (by decide)) dX12_baseOf_89 ?_
  rw [show ((15 : Int32)).toNatClampNeg = 15 from by decide]
  rw [h15]
  refine lv_imul hx hb dX12_baseOf_90 ?_
  rw [show (140 * (-1) : Int32) = -140 from by decide]
  refine lv_iadd hx hb dX12_baseOf_91 ?_
  rw [show (229 + (-140) : Int32) = nI 89 from by decide]
  refine lv_istore (lv' := [(6, .int (nI 89)), (5, .int (nI 0)), (4, .int 0), (0, .ref (gA g 46)), (1, .int (nI pp)), (2, .int ho), (3, .int (nI t))]) hx hb dX12_baseOf_92 hl (by decide) rfl (fun ls hl => ?_)
  refine lv_iconst (v := 0) hx hb dX12_baseOf_94 (by decide) ?_
  refine lv_istore (lv' := [(7, .int 0), (6, .int (nI 89)), (5, .int (nI 0)), (4, .int 0), (0, .ref (gA g 46)), (1, .int (nI pp)), (2, .int ho), (3, .int (nI t))]) hx hb dX12_baseOf_95 hl (by decide) rfl (fun ls hl => ?_)
  refine lv_iload hx hb dX12_baseOf_97 (lv_at hl 1 rfl) ?_
  refine lv_istore (lv' := [(8, .int (nI 89)), (7, .int 0), (6, .int (nI 89)), (5, .int (nI 0)), (4, .int 0), (0, .ref (gA g 46)), (1, .int (nI pp)), (2, .int ho), (3, .int (nI t))]) hx hb dX12_baseOf_99 hl (by decide) rfl (fun ls hl => ?_)
  refine lv_iload hx hb dX12_baseOf_101 (lv_at hl 0 rfl) ?_
  refine lv_iload hx hb dX12_baseOf_103 (lv_at hl 2 rfl) ?_
  refine lv_iload hx hb dX12_baseOf_105 (lv_at hl 3 rfl) ?_
  refine lv_iadd hx hb dX12_baseOf_107 ?_
  rw [show (nI 89) + (nI 0) = nI (89 + 0) from nI_add 89 0]
  refine lv_icmp_ge (tgt := 412) hx hb dX12_baseOf_108 (by decide) (fun c_1 => ?_) (fun c_1 => ?_)
  · skip
    refine lv_iload hx hb dX12_baseOf_412 (lv_at hl 4 rfl) ?_
    exact R_i X hr hk hM ⟨_, _, (if_pos h15), (by show mup (mup M (gA g 50) (aI g 6 (mBy f pp ho (nI t) by_))) (gA g 51) (aZ g 64 tr) = _; rw [mup_id (mup_r (X.2.ne (i := 51) (j := 50) (by decide) (by decide) (by decide)) h51)]; rfl)⟩ dX12_baseOf_414
  · skip
    exact absurd (show nI (89 + 0) ≤ nI 89 from by decide) c_1
set_option maxHeartbeats 4000000 in
set_option maxRecDepth 100000 in
theorem c_X12_baseOf_1 (l : Launch) (g : Gp) (M : Mem) (m0 m1 m2 m3 m4 m5 m6 m7 m8 m9 m10 m11 : Int32) (f : Nat → Int32) (pp t : Nat) (ho : Int32) (by_ tr : Nat → Int32) (a n tu cl : Nat) (h46 : M (gA g 46) = some (mdE g m0 m1 m2 m3 m4 m5 m6 m7 m8 m9 m10 m11)) (h47 : M (gA g 47) = some (aI g 929 f)) (h50 : M (gA g 50) = some (aI g 6 by_)) (h51 : M (gA g 51) = some (aZ g 64 tr)) (hW : HdOk f a n tu cl) (hp : pp < 6) (ht : t < 20000) : Met l yX12_baseOf (wsM yX12_baseOf cX12_baseOf 13 (some .int)) (rmD 2 0 0) (Pre g M [.ref (gA g 46), .int (nI pp), .int ho, .int (nI t)]) (Qi g (fun r M1 => ∃ (y0 : Nat → Int32) (y1 : Nat → Int32), (mBase f pp ho (nI t)) = r ∧ mup (mup M (gA g 50) (aI g 6 y0)) (gA g 51) (aZ g 64 y1) = M1)) 0 0 (gF g) := M_start (by decide +kernel) (Nat.le_of_ble_eq_true rfl) fun p e s m args below meth c ls X hr hk hnm hM hl => by
  have X : Cx g p m c cX12_baseOf 13 s args RX12 := X
  have hx := X.1.1
  have hb := X.1.2.1
  have hl : lv_has ls 13 [(0, .ref (gA g 46)), (1, .int (nI pp)), (2, .int ho), (3, .int (nI t))] := hl
  obtain ⟨ha, h15, hn, hn9, -, -, -, -, hok_⟩ := id hW
  refine lv_aload_n hx hb dX12_baseOf_0 rfl (lv_at hl 0 rfl) ?_
  refine r_get (T := TX12) (N := 20) (ci := 12) (v := .ref (gA g 50)) X hM iX12 rfl 11 (by decide) q_846 (Or.inl rfl) h46 rfl dX12_baseOf_1 ?_
  refine lv_iconst (v := 0) hx hb dX12_baseOf_4 (by decide) ?_
  refine lv_iload_n hx hb dX12_baseOf_5 rfl (lv_at hl 1 rfl) ?_
  refine r_iast (i := 0) (x := nI pp) X hM h50 (vp_in_nI (n := 0) (by decide) (by decide)) dX12_baseOf_6 (fun H locs hM => ?_)
  rw [show ((0 : Int32)).toNatClampNeg = 0 from by decide] at hM
  have hM : MW g (mup M (gA g 50) (aI g 6 (upd by_ 0 (nI pp)))) H locs := hM
  refine lv_aload_n hx hb dX12_baseOf_7 rfl (lv_at hl 0 rfl) ?_
  refine r_get (T := TX12) (N := 20) (ci := 12) (v := .ref (gA g 50)) X hM iX12 rfl 11 (by decide) q_846 (Or.inl rfl) (mup_r (X.2.ne (i := 46) (j := 50) (by decide) (by decide) (by decide)) h46) rfl dX12_baseOf_8 ?_
  refine lv_iconst (v := 1) hx hb dX12_baseOf_11 (by decide) ?_
  refine lv_aload_n hx hb dX12_baseOf_12 rfl (lv_at hl 0 rfl) ?_
  refine r_get (T := TX12) (N := 20) (ci := 12) (v := .ref (gA g 47)) X hM iX12 rfl 1 (by decide) q_836 (Or.inl rfl) (mup_r (X.2.ne (i := 46) (j := 50) (by decide) (by decide) (by decide)) h46) rfl dX12_baseOf_13 ?_
  refine lv_bipush (v := 16) hx hb dX12_baseOf_16 (by decide) ?_
  refine lv_iload_n hx hb dX12_baseOf_18 rfl (lv_at hl 1 rfl) ?_
  refine lv_iadd hx hb dX12_baseOf_19 ?_
  rw [show (16 : Int32) + (nI pp) = nI (16 + pp) from nI_add 16 pp]
  refine r_iald (i := nI (16 + pp)) X hM (mup_r (X.2.ne (i := 47) (j := 50) (by decide) (by decide) (by decide)) h47) (vp_in_nI (by omega) (by decide)) dX12_baseOf_20 ?_
  rw [nI_clamp (show 16 + pp < 2147483648 by omega)]
  refine r_iast (i := 1) (x := f (16 + pp)) X hM (mup_s _ _ _) (vp_in_nI (n := 1) (by decide) (by decide)) dX12_baseOf_21 (fun H locs hM => ?_)
  rw [show ((1 : Int32)).toNatClampNeg = 1 from by decide] at hM
  rw [mup_i] at hM
  have hM : MW g (mup M (gA g 50) (aI g 6 (upd (upd by_ 0 (nI pp)) 1 (f (16 + pp))))) H locs := hM
  refine lv_aload_n hx hb dX12_baseOf_22 rfl (lv_at hl 0 rfl) ?_
  refine r_get (T := TX12) (N := 20) (ci := 12) (v := .ref (gA g 50)) X hM iX12 rfl 11 (by decide) q_846 (Or.inl rfl) (mup_r (X.2.ne (i := 46) (j := 50) (by decide) (by decide) (by decide)) h46) rfl dX12_baseOf_23 ?_
  refine lv_iconst (v := 2) hx hb dX12_baseOf_26 (by decide) ?_
  refine lv_aload_n hx hb dX12_baseOf_27 rfl (lv_at hl 0 rfl) ?_
  refine r_get (T := TX12) (N := 20) (ci := 12) (v := .ref (gA g 47)) X hM iX12 rfl 1 (by decide) q_836 (Or.inl rfl) (mup_r (X.2.ne (i := 46) (j := 50) (by decide) (by decide) (by decide)) h46) rfl dX12_baseOf_28 ?_
  refine lv_bipush (v := 22) hx hb dX12_baseOf_31 (by decide) ?_
  refine lv_iload_n hx hb dX12_baseOf_33 rfl (lv_at hl 1 rfl) ?_
  refine lv_iadd hx hb dX12_baseOf_34 ?_
  rw [show (22 : Int32) + (nI pp) = nI (22 + pp) from nI_add 22 pp]
  refine r_iald (i := nI (22 + pp)) X hM (mup_r (X.2.ne (i := 47) (j := 50) (by decide) (by decide) (by decide)) h47) (vp_in_nI (by omega) (by decide)) dX12_baseOf_35 ?_
  rw [nI_clamp (show 22 + pp < 2147483648 by omega)]
  refine r_iast (i := 2) (x := f (22 + pp)) X hM (mup_s _ _ _) (vp_in_nI (n := 2) (by decide) (by decide)) dX12_baseOf_36 (fun H locs hM => ?_)
  rw [show ((2 : Int32)).toNatClampNeg = 2 from by decide] at hM
  rw [mup_i] at hM
  have hM : MW g (mup M (gA g 50) (aI g 6 (upd (upd (upd by_ 0 (nI pp)) 1 (f (16 + pp))) 2 (f (22 + pp))))) H locs := hM
  refine lv_aload_n hx hb dX12_baseOf_37 rfl (lv_at hl 0 rfl) ?_
  refine r_get (T := TX12) (N := 20) (ci := 12) (v := .ref (gA g 50)) X hM iX12 rfl 11 (by decide) q_846 (Or.inl rfl) (mup_r (X.2.ne (i := 46) (j := 50) (by decide) (by decide) (by decide)) h46) rfl dX12_baseOf_38 ?_
  refine lv_iconst (v := 3) hx hb dX12_baseOf_41 (by decide) ?_
  refine lv_iload_n hx hb dX12_baseOf_42 rfl (lv_at hl 2 rfl) ?_
  refine r_iast (i := 3) (x := ho) X hM (mup_s _ _ _) (vp_in_nI (n := 3) (by decide) (by decide)) dX12_baseOf_43 (fun H locs hM => ?_)
  rw [show ((3 : Int32)).toNatClampNeg = 3 from by decide] at hM
  rw [mup_i] at hM
  have hM : MW g (mup M (gA g 50) (aI g 6 (upd (upd (upd (upd by_ 0 (nI pp)) 1 (f (16 + pp))) 2 (f (22 + pp))) 3 ho))) H locs := hM
  refine lv_aload_n hx hb dX12_baseOf_44 rfl (lv_at hl 0 rfl) ?_
  refine r_get (T := TX12) (N := 20) (ci := 12) (v := .ref (gA g 50)) X hM iX12 rfl 11 (by decide) q_846 (Or.inl rfl) (mup_r (X.2.ne (i := 46) (j := 50) (by decide) (by decide) (by decide)) h46) rfl dX12_baseOf_45 ?_
  refine lv_iconst (v := 4) hx hb dX12_baseOf_48 (by decide) ?_
  refine lv_iload_n hx hb dX12_baseOf_49 rfl (lv_at hl 3 rfl) ?_
  refine lv_bipush (v := 10) hx hb dX12_baseOf_50 (by decide) ?_
  refine l_irem hx hb dX12_baseOf_52 (by decide) ?_
  refine r_iast (i := 4) (x := iR (nI t) 10) X hM (mup_s _ _ _) (vp_in_nI (n := 4) (by decide) (by decide)) dX12_baseOf_53 (fun H locs hM => ?_)
  rw [show ((4 : Int32)).toNatClampNeg = 4 from by decide] at hM
  rw [mup_i] at hM
  have hM : MW g (mup M (gA g 50) (aI g 6 (upd (upd (upd (upd (upd by_ 0 (nI pp)) 1 (f (16 + pp))) 2 (f (22 + pp))) 3 ho) 4 (iR (nI t) 10)))) H locs := hM
  refine lv_aload_n hx hb dX12_baseOf_54 rfl (lv_at hl 0 rfl) ?_
  refine r_get (T := TX12) (N := 20) (ci := 12) (v := .ref (gA g 50)) X hM iX12 rfl 11 (by decide) q_846 (Or.inl rfl) (mup_r (X.2.ne (i := 46) (j := 50) (by decide) (by decide) (by decide)) h46) rfl dX12_baseOf_55 ?_
  refine lv_iconst (v := 5) hx hb dX12_baseOf_58 (by decide) ?_
  refine lv_iload_n hx hb dX12_baseOf_59 rfl (lv_at hl 3 rfl) ?_
  refine lv_bipush (v := 7) hx hb dX12_baseOf_60 (by decide) ?_
  refine l_irem hx hb dX12_baseOf_62 (by decide) ?_
  refine r_iast (i := 5) (x := iR (nI t) 7) X hM (mup_s _ _ _) (vp_in_nI (n := 5) (by decide) (by decide)) dX12_baseOf_63 (fun H locs hM => ?_)
  rw [show ((5 : Int32)).toNatClampNeg = 5 from by decide] at hM
  rw [mup_i] at hM
  have hM : MW g (mup M (gA g 50) (aI g 6 (upd (upd (upd (upd (upd (upd by_ 0 (nI pp)) 1 (f (16 + pp))) 2 (f (22 + pp))) 3 ho) 4 (iR (nI t) 10)) 5 (iR (nI t) 7)))) H locs := hM
  refine lv_iconst (v := 0) hx hb dX12_baseOf_64 (by decide) ?_
  refine lv_istore (lv' := [(4, .int 0), (0, .ref (gA g 46)), (1, .int (nI pp)), (2, .int ho), (3, .int (nI t))]) hx hb dX12_baseOf_65 hl (by decide) rfl (fun ls hl => ?_)
  refine lv_aload_n hx hb dX12_baseOf_67 rfl (lv_at hl 1 rfl) ?_
  refine lv_sipush (v := 224) hx hb dX12_baseOf_68 (by decide) ?_
  refine lv_iconst (v := 0) hx hb dX12_baseOf_71 (by decide) ?_
  refine K_i (G_V (As := [.int 224, .int 0]) (rest := []) X hM (c_X12_tellsOf l g _ m0 m1 m2 m3 m4 m5 m6 m7 m8 m9 m10 m11 f 224 0 (mup_r (X.2.ne (i := 46) (j := 50) (by decide) (by decide) (by decide)) h46) (mup_r (X.2.ne (i := 47) (j := 50) (by decide) (by decide) (by decide)) h47) (Or.inr ⟨a, ha, h15⟩) (by decide)) lk_X12_45 (mup_r (X.2.ne (i := 46) (j := 50) (by decide) (by decide) (by decide)) h46) rfl rfl hl.1 rfl (Nat.le_of_ble_eq_true rfl) (by decide) dX12_baseOf_72 ⟨Nat.le_of_ble_eq_true rfl, Nat.le_of_ble_eq_true rfl⟩) hM (fun r M1 H locs hM hp => ?_)
  obtain ⟨rfl, rfl⟩ := hp
  rw [show mTel f 224 0 = nI n from show mTel f 224 0 = nI n from by unfold mTel; rw [h15, if_neg (nI_m1 (by omega)), nI_clamp (by omega)]; exact hn]
  refine lv_istore (lv' := [(5, .int (nI n)), (4, .int 0), (0, .ref (gA g 46)), (1, .int (nI pp)), (2, .int ho), (3, .int (nI t))]) hx hb dX12_baseOf_75 hl (by decide) rfl (fun ls hl => ?_)
  refine lv_sipush (v := 229) hx hb dX12_baseOf_77 (by decide) ?_
  refine lv_sipush (v := 140) hx hb dX12_baseOf_80 (by decide) ?_
  refine lv_aload_n hx hb dX12_baseOf_83 rfl (lv_at hl 2 rfl) ?_
  refine r_get (T := TX12) (N := 20) (ci := 12) (v := .ref (gA g 47)) X hM iX12 rfl 1 (by decide) q_836 (Or.inl rfl) (mup_r (X.2.ne (i := 46) (j := 50) (by decide) (by decide) (by decide)) h46) rfl dX12_baseOf_84 ?_
  refine lv_bipush (v := 15) hx hb dX12_baseOf_87 (by decide) ?_
  refine r_iald (i := 15) X hM (mup_r (X.2.ne (i := 47) (j := 50) (by decide) (by decide) (by decide)) h47) (vp_in_nI (n := 15) (by decide) (by decide)) dX12_baseOf_89 ?_
  rw [show ((15 : Int32)).toNatClampNeg = 15 from by decide]
  rw [h15]
  refine lv_imul hx hb dX12_baseOf_90 ?_
  rw [show (140 : Int32) * (nI a) = nI (140 * a) from nI_mul 140 a]
  refine lv_iadd hx hb dX12_baseOf_91 ?_
  rw [show (229 : Int32) + (nI (140 * a)) = nI (229 + (140 * a)) from nI_add 229 (140 * a)]
  refine lv_istore (lv' := [(6, .int (nI (229 + (140 * a)))), (5, .int (nI n)), (4, .int 0), (0, .ref (gA g 46)), (1, .int (nI pp)), (2, .int ho), (3, .int (nI t))]) hx hb dX12_baseOf_92 hl (by decide) rfl (fun ls hl => ?_)
  refine lv_iconst (v := 0) hx hb dX12_baseOf_94 (by decide) ?_
  refine lv_istore (lv' := [(7, .int 0), (6, .int (nI (229 + (140 * a)))), (5, .int (nI n)), (4, .int 0), (0, .ref (gA g 46)), (1, .int (nI pp)), (2, .int ho), (3, .int (nI t))]) hx hb dX12_baseOf_95 hl (by decide) rfl (fun ls hl => ?_)
  refine lv_iload hx hb dX12_baseOf_97 (lv_at hl 1 rfl) ?_
  refine lv_istore (lv' := [(8, .int (nI (229 + (140 * a)))), (7, .int 0), (6, .int (nI (229 + (140 * a)))), (5, .int (nI n)), (4, .int 0), (0, .ref (gA g 46)), (1, .int (nI pp)), (2, .int ho), (3, .int (nI t))]) hx hb dX12_baseOf_99 hl (by decide) rfl (fun ls hl => ?_)
  have L101 : ∀ (fu : Nat) (i : Nat) (x4 : Int32) (b1 : Nat → Int32) (hi : i ≤ n) (hag : x4 = (mBr (mFa f pp ho (nI t)) (mCo f a) i).1 ∧ ∀ k, k < mTop (mCo f a) i → b1 k = (mBr (mFa f pp ho (nI t)) (mCo f a) i).2 k) (H : Heap) (locs : List Loc) (hM : MW g (mup (mup M (gA g 50) (aI g 6 (mBy f pp ho (nI t) by_))) (gA g 51) (aZ g 64 b1)) H locs) (ls : Array Slot) (hl : lv_has ls 13 [(0, .ref (gA g 46)), (4, .int x4), (6, .int (nI (229 + 140 * a))), (5, .int (nI n)), (7, .int (nI (mTop (mCo f a) i))), (8, .int (nI (229 + 140 * a + i)))]), n - i < fu → W p l e (rmD 2 0 0) s m args below meth c H locs 0 0 (MQ below (Qi g (fun r M1 => ∃ (y0 : Nat → Int32) (y1 : Nat → Int32), (mBase f pp ho (nI t)) = r ∧ mup (mup M (gA g 50) (aI g 6 y0)) (gA g 51) (aZ g 64 y1) = M1)) args s 0 0 (gF g)) (F0 m 101 ls []) := by
    intro fu
    induction fu with
    | zero => intro i x4 b1 hi hag H locs hM ls hl hmu; exact absurd hmu (Nat.not_lt_zero _)
    | succ fu ih =>
      intro i x4 b1 hi hag H locs hM ls hl hmu
      refine lv_iload hx hb dX12_baseOf_101 (lv_at hl 5 rfl) ?_
      refine lv_iload hx hb dX12_baseOf_103 (lv_at hl 2 rfl) ?_
      refine lv_iload hx hb dX12_baseOf_105 (lv_at hl 3 rfl) ?_
      refine lv_iadd hx hb dX12_baseOf_107 ?_
      rw [show (nI (229 + 140 * a)) + (nI n) = nI ((229 + 140 * a) + n) from nI_add (229 + 140 * a) n]
      refine lv_icmp_ge (tgt := 412) hx hb dX12_baseOf_108 (by decide) (fun c_1 => ?_) (fun c_1 => ?_)
      · skip
        have hz2 : i = n := by
          have := (nI_leI (a := 229 + 140 * a + n) (b := 229 + 140 * a + i) (by omega) (by omega)).mp c_1
          omega
        refine lv_iload hx hb dX12_baseOf_412 (lv_at hl 1 rfl) ?_
        exact R_i X hr hk hM ⟨_, _, (by rw [mBase_h hW, hag.1, hz2]), rfl⟩ dX12_baseOf_414
      · skip
        have hz1 : i < n := by
          rcases Nat.lt_or_ge i n with q | q
          · exact q
          · exact absurd ((nI_leI (a := 229 + 140 * a + n) (b := 229 + 140 * a + i) (by omega) (by omega)).mpr (by omega)) c_1
        have hok := hok_ i hz1
        have ht30 := hok.1
        refine lv_aload_n hx hb dX12_baseOf_111 rfl (lv_at hl 0 rfl) ?_
        refine r_get (T := TX12) (N := 20) (ci := 12) (v := .ref (gA g 47)) X hM iX12 rfl 1 (by decide) q_836 (Or.inl rfl) (mup_r (X.2.ne (i := 46) (j := 51) (by decide) (by decide) (by decide)) (mup_r (X.2.ne (i := 46) (j := 50) (by decide) (by decide) (by decide)) h46)) rfl dX12_baseOf_112 ?_
        refine lv_iload hx hb dX12_baseOf_115 (lv_at hl 5 rfl) ?_
        refine r_iald (i := nI (229 + 140 * a + i)) X hM (mup_r (X.2.ne (i := 47) (j := 51) (by decide) (by decide) (by decide)) (mup_r (X.2.ne (i := 47) (j := 50) (by decide) (by decide) (by decide)) h47)) (vp_in_nI (by omega) (by decide)) dX12_baseOf_117 ?_
        rw [nI_clamp (show 229 + 140 * a + i < 2147483648 by omega)]
        rw [show f (229 + 140 * a + i) = mCo f a i from rfl]
        refine lv_istore (lv' := [(9, .int (mCo f a i)), (0, .ref (gA g 46)), (4, .int x4), (6, .int (nI (229 + 140 * a))), (5, .int (nI n)), (7, .int (nI (mTop (mCo f a) i))), (8, .int (nI (229 + 140 * a + i)))]) hx hb dX12_baseOf_118 hl (by decide) rfl (fun ls hl => ?_)
        refine lv_iload hx hb dX12_baseOf_120 (lv_at hl 0 rfl) ?_
        refine lv_if_lt (tgt := 219) hx hb dX12_baseOf_122 (by decide) (fun c_2 => ?_) (fun c_2 => ?_)
        · skip
          have ht1 := hok.2.2.1 c_2
          refine lv_iload hx hb dX12_baseOf_219 (lv_at hl 0 rfl) ?_
          refine lv_iconst (v := -1) hx hb dX12_baseOf_221 (by decide) ?_
          refine lv_icmp_ne (tgt := 254) hx hb dX12_baseOf_222 (by decide) (fun c_3 => ?_) (fun c_3 => ?_)
          · skip
            refine lv_iload hx hb dX12_baseOf_254 (lv_at hl 0 rfl) ?_
            refine lv_bipush (v := -10) hx hb dX12_baseOf_256 (by decide) ?_
            refine lv_icmp_le (tgt := 340) hx hb dX12_baseOf_258 (by decide) (fun c_4 => ?_) (fun c_4 => ?_)
            · skip
              have ht3 := hok.2.2.2.2.1 c_2 c_3 c_4
              refine lv_iconst (v := 0) hx hb dX12_baseOf_340 (by decide) ?_
              refine lv_istore (lv' := [(7, .int 0), (9, .int (mCo f a i)), (0, .ref (gA g 46)), (4, .int x4), (6, .int (nI (229 + 140 * a))), (5, .int (nI n)), (8, .int (nI (229 + 140 * a + i)))]) hx hb dX12_baseOf_341 hl (by decide) rfl (fun ls hl => ?_)
              refine lv_aload_n hx hb dX12_baseOf_343 rfl (lv_at hl 2 rfl) ?_
              refine r_get (T := TX12) (N := 20) (ci := 12) (v := .ref (gA g 51)) X hM iX12 rfl 12 (by decide) q_847 (Or.inl rfl) (mup_r (X.2.ne (i := 46) (j := 51) (by decide) (by decide) (by decide)) (mup_r (X.2.ne (i := 46) (j := 50) (by decide) (by decide) (by decide)) h46)) rfl dX12_baseOf_344 ?_
              refine lv_iconst (v := 0) hx hb dX12_baseOf_347 (by decide) ?_
              refine r_zald (i := 0) X hM (mup_s _ _ _) (vp_in_nI (n := 0) (by decide) (by decide)) dX12_baseOf_348 ?_
              rw [show ((0 : Int32)).toNatClampNeg = 0 from by decide]
              refine lv_istore (lv' := [(10, .int (b1 0)), (7, .int 0), (9, .int (mCo f a i)), (0, .ref (gA g 46)), (4, .int x4), (6, .int (nI (229 + 140 * a))), (5, .int (nI n)), (8, .int (nI (229 + 140 * a + i)))]) hx hb dX12_baseOf_349 hl (by decide) rfl (fun ls hl => ?_)
              refine lv_iload hx hb dX12_baseOf_351 (lv_at hl 4 rfl) ?_
              refine l_joinM (ls := ls) hM 375 (cDe (mCo f a i) (b1 0)) [.int x4] (fun H locs hM => ?_) (fun J353 => ?_)
              · skip
                refine lv_topi (fun v2 e_v2 => ?_)
                refine lv_iadd hx hb dX12_baseOf_375 ?_
                refine lv_istore (lv' := [(4, .int (x4 + v2)), (10, .int (b1 0)), (7, .int 0), (9, .int (mCo f a i)), (0, .ref (gA g 46)), (6, .int (nI (229 + 140 * a))), (5, .int (nI n)), (8, .int (nI (229 + 140 * a + i)))]) hx hb dX12_baseOf_376 hl (by decide) rfl (fun ls hl => ?_)
                refine lv_iload hx hb dX12_baseOf_378 (lv_at hl 0 rfl) ?_
                refine l_joinM (ls := ls) hM 403 (cDi (mCo f a i) (b1 0)) [.int (x4 + v2)] (fun H locs hM => ?_) (fun J380 => ?_)
                · skip
                  refine lv_topi (fun v3 e_v3 => ?_)
                  refine lv_isub hx hb dX12_baseOf_403 ?_
                  refine lv_istore (lv' := [(4, .int ((x4 + v2) - v3)), (10, .int (b1 0)), (7, .int 0), (9, .int (mCo f a i)), (0, .ref (gA g 46)), (6, .int (nI (229 + 140 * a))), (5, .int (nI n)), (8, .int (nI (229 + 140 * a + i)))]) hx hb dX12_baseOf_404 hl (by decide) rfl (fun ls hl => ?_)
                  refine lv_iinc (v := (nI (229 + 140 * a + i)) + 1) (lv' := [(8, .int ((nI (229 + 140 * a + i)) + 1)), (4, .int ((x4 + v2) - v3)), (10, .int (b1 0)), (7, .int 0), (9, .int (mCo f a i)), (0, .ref (gA g 46)), (6, .int (nI (229 + 140 * a))), (5, .int (nI n))]) hx hb dX12_baseOf_406 hl (k := 7) rfl rfl (by decide) rfl (fun ls hl => ?_)
                  rw [show (nI (229 + 140 * a + i)) + 1 = nI (229 + 140 * a + (i + 1)) from nI_1 _] at hl
                  refine lv_goto (tgt := 101) hx hb dX12_baseOf_409 (by decide) ?_
                  have e9 : mB1 (mFa f pp ho (nI t)) (mCo f a i) (mTop (mCo f a) i) (x4, b1) = ((x4 + v2) - v3, b1) := by unfold mB1; (try dsimp only); (first | rw [if_pos c_2] | rw [if_neg c_2]); (first | rw [if_pos c_3] | rw [if_neg c_3]); (first | rw [if_pos c_4] | rw [if_neg c_4]); rw [e_v2, e_v3]
                  have e8 : tpN (mCo f a i) (mTop (mCo f a) i) = 0 := by unfold tpN; (first | rw [if_pos c_2] | rw [if_neg c_2]); (first | rw [if_pos c_3] | rw [if_neg c_3]); (first | rw [if_pos c_4] | rw [if_neg c_4])
                  have h9 := mB1_ag (fa := mFa f pp ho (nI t)) hok (z := (x4, b1)) (y := mBr (mFa f pp ho (nI t)) (mCo f a) i) hag.1 hag.2
                  rw [e9] at h9
                  exact ih (i + 1) ((x4 + v2) - v3) b1 (by omega) h9 _ _ hM _ ((by show lv_has _ _ [(0, .ref (gA g 46)), (4, .int ((x4 + v2) - v3)), (6, .int (nI (229 + 140 * a))), (5, .int (nI n)), (7, .int (nI (tpN (mCo f a i) (mTop (mCo f a) i)))), (8, .int (nI (229 + 140 * a + (i + 1))))]; rw [e8]; exact lv_sub hl [5, 1, 6, 7, 3, 0] rfl)) (by omega)
                refine lv_iload hx hb dX12_baseOf_380 (lv_at hl 1 rfl) ?_
                refine lv_if_eq (tgt := 402) hx hb dX12_baseOf_382 (by decide) (fun c_5 => ?_) (fun c_5 => ?_)
                · skip
                  refine lv_iconst (v := 0) hx hb dX12_baseOf_402 (by decide) ?_
                  exact J380 _ _ _ hM (by unfold cDi; (first | rw [if_pos c_5] | rw [if_neg c_5]))
                · skip
                  refine lv_iload hx hb dX12_baseOf_385 (lv_at hl 3 rfl) ?_
                  refine lv_sipush (v := -200) hx hb dX12_baseOf_387 (by decide) ?_
                  refine lv_icmp_gt (tgt := 402) hx hb dX12_baseOf_390 (by decide) (fun c_6 => ?_) (fun c_6 => ?_)
                  · skip
                    refine lv_iconst (v := 0) hx hb dX12_baseOf_402 (by decide) ?_
                    exact J380 _ _ _ hM (by unfold cDi; (first | rw [if_pos c_5] | rw [if_neg c_5]); (first | rw [if_pos c_6] | rw [if_neg c_6]))
                  · skip
                    refine lv_sipush (v := -200) hx hb dX12_baseOf_393 (by decide) ?_
                    refine lv_iload hx hb dX12_baseOf_396 (lv_at hl 3 rfl) ?_
                    refine lv_isub hx hb dX12_baseOf_398 ?_
                    refine lv_goto (tgt := 403) hx hb dX12_baseOf_399 (by decide) ?_
                    exact J380 _ _ _ hM (by unfold cDi; (first | rw [if_pos c_5] | rw [if_neg c_5]); (first | rw [if_pos c_6] | rw [if_neg c_6]))
              refine lv_iload hx hb dX12_baseOf_353 (lv_at hl 0 rfl) ?_
              refine lv_if_eq (tgt := 374) hx hb dX12_baseOf_355 (by decide) (fun c_7 => ?_) (fun c_7 => ?_)
              · skip
                refine lv_iconst (v := 0) hx hb dX12_baseOf_374 (by decide) ?_
                exact J353 _ _ _ hM (by unfold cDe; (first | rw [if_pos c_7] | rw [if_neg c_7]))
              · skip
                refine lv_iload hx hb dX12_baseOf_358 (lv_at hl 2 rfl) ?_
                refine lv_sipush (v := -200) hx hb dX12_baseOf_360 (by decide) ?_
                refine lv_icmp_le (tgt := 374) hx hb dX12_baseOf_363 (by decide) (fun c_8 => ?_) (fun c_8 => ?_)
                · skip
                  refine lv_iconst (v := 0) hx hb dX12_baseOf_374 (by decide) ?_
                  exact J353 _ _ _ hM (by unfold cDe; (first | rw [if_pos c_7] | rw [if_neg c_7]); (first | rw [if_pos c_8] | rw [if_neg c_8]))
                · skip
                  refine lv_bipush (v := -10) hx hb dX12_baseOf_366 (by decide) ?_
                  refine lv_iload hx hb dX12_baseOf_368 (lv_at hl 2 rfl) ?_
                  refine lv_isub hx hb dX12_baseOf_370 ?_
                  refine lv_goto (tgt := 375) hx hb dX12_baseOf_371 (by decide) ?_
                  exact J353 _ _ _ hM (by unfold cDe; (first | rw [if_pos c_7] | rw [if_neg c_7]); (first | rw [if_pos c_8] | rw [if_neg c_8]))
            · skip
              have ht2 := hok.2.2.2.1 c_2 c_3 c_4
              refine lv_iinc (v := (nI (mTop (mCo f a) i)) + (-1)) (lv' := [(7, .int ((nI (mTop (mCo f a) i)) + (-1))), (9, .int (mCo f a i)), (0, .ref (gA g 46)), (4, .int x4), (6, .int (nI (229 + 140 * a))), (5, .int (nI n)), (8, .int (nI (229 + 140 * a + i)))]) hx hb dX12_baseOf_261 hl (k := 5) rfl rfl (by decide) rfl (fun ls hl => ?_)
              rw [show (nI (mTop (mCo f a) i)) + (-1) = nI (mTop (mCo f a) i - 1) from nI_dec (by omega)] at hl
              refine lv_aload_n hx hb dX12_baseOf_264 rfl (lv_at hl 2 rfl) ?_
              refine r_get (T := TX12) (N := 20) (ci := 12) (v := .ref (gA g 51)) X hM iX12 rfl 12 (by decide) q_847 (Or.inl rfl) (mup_r (X.2.ne (i := 46) (j := 51) (by decide) (by decide) (by decide)) (mup_r (X.2.ne (i := 46) (j := 50) (by decide) (by decide) (by decide)) h46)) rfl dX12_baseOf_265 ?_
              refine lv_iload hx hb dX12_baseOf_268 (lv_at hl 0 rfl) ?_
              refine lv_iconst (v := 1) hx hb dX12_baseOf_270 (by decide) ?_
              refine lv_isub hx hb dX12_baseOf_271 ?_
              rw [show (nI (mTop (mCo f a) i - 1)) - 1 = nI (mTop (mCo f a) i - 2) from (nI_sub1 (t := mTop (mCo f a) i - 1) (by omega)).trans (congrArg nI (by omega))]
              refine l_joinM (ls := ls) hM 336 (cTwo (mCo f a i) (b1 (mTop (mCo f a) i - 2)) (b1 (mTop (mCo f a) i - 1))) [.int (nI (mTop (mCo f a) i - 2)), .ref (gA g 51)] (fun H locs hM => ?_) (fun J272 => ?_)
              · skip
                refine lv_topi (fun vb e_vb => ?_)
                have hz9 : vb = 0 ∨ vb = 1 := by rw [e_vb]; exact cTwo_01 _ _ _
                refine r_zast (i := nI (mTop (mCo f a) i - 2)) (x := vb) X hM (mup_s _ _ _) hz9 (vp_in_nI (by omega) (by decide)) dX12_baseOf_336 (fun H locs hM => ?_)
                rw [nI_clamp (show mTop (mCo f a) i - 2 < 2147483648 by omega)] at hM
                rw [mup_i] at hM
                have hM : MW g (mup (mup M (gA g 50) (aI g 6 (mBy f pp ho (nI t) by_))) (gA g 51) (aZ g 64 (upd b1 (mTop (mCo f a) i - 2) vb))) H locs := hM
                refine lv_goto (tgt := 406) hx hb dX12_baseOf_337 (by decide) ?_
                refine lv_iinc (v := (nI (229 + 140 * a + i)) + 1) (lv' := [(8, .int ((nI (229 + 140 * a + i)) + 1)), (7, .int (nI (mTop (mCo f a) i - 1))), (9, .int (mCo f a i)), (0, .ref (gA g 46)), (4, .int x4), (6, .int (nI (229 + 140 * a))), (5, .int (nI n))]) hx hb dX12_baseOf_406 hl (k := 6) rfl rfl (by decide) rfl (fun ls hl => ?_)
                rw [show (nI (229 + 140 * a + i)) + 1 = nI (229 + 140 * a + (i + 1)) from nI_1 _] at hl
                refine lv_goto (tgt := 101) hx hb dX12_baseOf_409 (by decide) ?_
                have e9 : mB1 (mFa f pp ho (nI t)) (mCo f a i) (mTop (mCo f a) i) (x4, b1) = (x4, upd b1 (mTop (mCo f a) i - 2) vb) := by unfold mB1; (try dsimp only); (first | rw [if_pos c_2] | rw [if_neg c_2]); (first | rw [if_pos c_3] | rw [if_neg c_3]); (first | rw [if_pos c_4] | rw [if_neg c_4]); rw [e_vb]
                have e8 : tpN (mCo f a i) (mTop (mCo f a) i) = mTop (mCo f a) i - 1 := by unfold tpN; (first | rw [if_pos c_2] | rw [if_neg c_2]); (first | rw [if_pos c_3] | rw [if_neg c_3]); (first | rw [if_pos c_4] | rw [if_neg c_4])
                have h9 := mB1_ag (fa := mFa f pp ho (nI t)) hok (z := (x4, b1)) (y := mBr (mFa f pp ho (nI t)) (mCo f a) i) hag.1 hag.2
                rw [e9] at h9
                exact ih (i + 1) x4 (upd b1 (mTop (mCo f a) i - 2) vb) (by omega) h9 _ _ hM _ ((by show lv_has _ _ [(0, .ref (gA g 46)), (4, .int (x4)), (6, .int (nI (229 + 140 * a))), (5, .int (nI n)), (7, .int (nI (tpN (mCo f a i) (mTop (mCo f a) i)))), (8, .int (nI (229 + 140 * a + (i + 1))))]; rw [e8]; exact lv_sub hl [3, 4, 5, 6, 1, 0] rfl)) (by omega)
              refine lv_iload hx hb dX12_baseOf_272 (lv_at hl 1 rfl) ?_
              refine lv_bipush (v := -2) hx hb dX12_baseOf_274 (by decide) ?_
              refine lv_icmp_ne (tgt := 309) hx hb dX12_baseOf_276 (by decide) (fun c_9 => ?_) (fun c_9 => ?_)
              · skip
                refine lv_aload_n hx hb dX12_baseOf_309 rfl (lv_at hl 2 rfl) ?_
                refine r_get (T := TX12) (N := 20) (ci := 12) (v := .ref (gA g 51)) X hM iX12 rfl 12 (by decide) q_847 (Or.inl rfl) (mup_r (X.2.ne (i := 46) (j := 51) (by decide) (by decide) (by decide)) (mup_r (X.2.ne (i := 46) (j := 50) (by decide) (by decide) (by decide)) h46)) rfl dX12_baseOf_310 ?_
                refine lv_iload hx hb dX12_baseOf_313 (lv_at hl 0 rfl) ?_
                refine lv_iconst (v := 1) hx hb dX12_baseOf_315 (by decide) ?_
                refine lv_isub hx hb dX12_baseOf_316 ?_
                rw [show (nI (mTop (mCo f a) i - 1)) - 1 = nI (mTop (mCo f a) i - 2) from (nI_sub1 (t := mTop (mCo f a) i - 1) (by omega)).trans (congrArg nI (by omega))]
                refine r_zald (i := nI (mTop (mCo f a) i - 2)) X hM (mup_s _ _ _) (vp_in_nI (by omega) (by decide)) dX12_baseOf_317 ?_
                rw [nI_clamp (show mTop (mCo f a) i - 2 < 2147483648 by omega)]
                refine lv_if_ne (tgt := 331) hx hb dX12_baseOf_318 (by decide) (fun c_10 => ?_) (fun c_10 => ?_)
                · skip
                  refine lv_iconst (v := 1) hx hb dX12_baseOf_331 (by decide) ?_
                  refine lv_goto (tgt := 336) hx hb dX12_baseOf_332 (by decide) ?_
                  exact J272 _ _ _ hM (by unfold cTwo; (first | rw [if_pos c_9] | rw [if_neg c_9] | skip); (first | rw [if_pos c_10] | rw [if_neg c_10] | skip))
                · skip
                  refine lv_aload_n hx hb dX12_baseOf_321 rfl (lv_at hl 2 rfl) ?_
                  refine r_get (T := TX12) (N := 20) (ci := 12) (v := .ref (gA g 51)) X hM iX12 rfl 12 (by decide) q_847 (Or.inl rfl) (mup_r (X.2.ne (i := 46) (j := 51) (by decide) (by decide) (by decide)) (mup_r (X.2.ne (i := 46) (j := 50) (by decide) (by decide) (by decide)) h46)) rfl dX12_baseOf_322 ?_
                  refine lv_iload hx hb dX12_baseOf_325 (lv_at hl 0 rfl) ?_
                  refine r_zald (i := nI (mTop (mCo f a) i - 1)) X hM (mup_s _ _ _) (vp_in_nI (by omega) (by decide)) dX12_baseOf_327 ?_
                  rw [nI_clamp (show mTop (mCo f a) i - 1 < 2147483648 by omega)]
                  refine lv_if_eq (tgt := 335) hx hb dX12_baseOf_328 (by decide) (fun c_11 => ?_) (fun c_11 => ?_)
                  · skip
                    refine lv_iconst (v := 0) hx hb dX12_baseOf_335 (by decide) ?_
                    exact J272 _ _ _ hM (by unfold cTwo; (first | rw [if_pos c_9] | rw [if_neg c_9] | skip); (first | rw [if_pos c_10] | rw [if_neg c_10] | skip); (first | rw [if_pos c_11] | rw [if_neg c_11] | skip))
                  · skip
                    refine lv_iconst (v := 1) hx hb dX12_baseOf_331 (by decide) ?_
                    refine lv_goto (tgt := 336) hx hb dX12_baseOf_332 (by decide) ?_
                    exact J272 _ _ _ hM (by unfold cTwo; (first | rw [if_pos c_9] | rw [if_neg c_9] | skip); (first | rw [if_pos c_10] | rw [if_neg c_10] | skip); (first | rw [if_pos c_11] | rw [if_neg c_11] | skip))
              · skip
                refine lv_aload_n hx hb dX12_baseOf_279 rfl (lv_at hl 2 rfl) ?_
                refine r_get (T := TX12) (N := 20) (ci := 12) (v := .ref (gA g 51)) X hM iX12 rfl 12 (by decide) q_847 (Or.inl rfl) (mup_r (X.2.ne (i := 46) (j := 51) (by decide) (by decide) (by decide)) (mup_r (X.2.ne (i := 46) (j := 50) (by decide) (by decide) (by decide)) h46)) rfl dX12_baseOf_280 ?_
                refine lv_iload hx hb dX12_baseOf_283 (lv_at hl 0 rfl) ?_
                refine lv_iconst (v := 1) hx hb dX12_baseOf_285 (by decide) ?_
                refine lv_isub hx hb dX12_baseOf_286 ?_
                rw [show (nI (mTop (mCo f a) i - 1)) - 1 = nI (mTop (mCo f a) i - 2) from (nI_sub1 (t := mTop (mCo f a) i - 1) (by omega)).trans (congrArg nI (by omega))]
                refine r_zald (i := nI (mTop (mCo f a) i - 2)) X hM (mup_s _ _ _) (vp_in_nI (by omega) (by decide)) dX12_baseOf_287 ?_
                rw [nI_clamp (show mTop (mCo f a) i - 2 < 2147483648 by omega)]
                refine lv_if_eq (tgt := 305) hx hb dX12_baseOf_288 (by decide) (fun c_12 => ?_) (fun c_12 => ?_)
                · skip
                  refine lv_iconst (v := 0) hx hb dX12_baseOf_305 (by decide) ?_
                  refine lv_goto (tgt := 336) hx hb dX12_baseOf_306 (by decide) ?_
                  exact J272 _ _ _ hM (by unfold cTwo; (first | rw [if_pos c_9] | rw [if_neg c_9] | skip); (first | rw [if_pos c_12] | rw [if_neg c_12] | skip))
                · skip
                  refine lv_aload_n hx hb dX12_baseOf_291 rfl (lv_at hl 2 rfl) ?_
                  refine r_get (T := TX12) (N := 20) (ci := 12) (v := .ref (gA g 51)) X hM iX12 rfl 12 (by decide) q_847 (Or.inl rfl) (mup_r (X.2.ne (i := 46) (j := 51) (by decide) (by decide) (by decide)) (mup_r (X.2.ne (i := 46) (j := 50) (by decide) (by decide) (by decide)) h46)) rfl dX12_baseOf_292 ?_
                  refine lv_iload hx hb dX12_baseOf_295 (lv_at hl 0 rfl) ?_
                  refine r_zald (i := nI (mTop (mCo f a) i - 1)) X hM (mup_s _ _ _) (vp_in_nI (by omega) (by decide)) dX12_baseOf_297 ?_
                  rw [nI_clamp (show mTop (mCo f a) i - 1 < 2147483648 by omega)]
                  refine lv_if_eq (tgt := 305) hx hb dX12_baseOf_298 (by decide) (fun c_13 => ?_) (fun c_13 => ?_)
                  · skip
                    refine lv_iconst (v := 0) hx hb dX12_baseOf_305 (by decide) ?_
                    refine lv_goto (tgt := 336) hx hb dX12_baseOf_306 (by decide) ?_
                    exact J272 _ _ _ hM (by unfold cTwo; (first | rw [if_pos c_9] | rw [if_neg c_9] | skip); (first | rw [if_pos c_12] | rw [if_neg c_12] | skip); (first | rw [if_pos c_13] | rw [if_neg c_13] | skip))
                  · skip
                    refine lv_iconst (v := 1) hx hb dX12_baseOf_301 (by decide) ?_
                    refine lv_goto (tgt := 336) hx hb dX12_baseOf_302 (by decide) ?_
                    exact J272 _ _ _ hM (by unfold cTwo; (first | rw [if_pos c_9] | rw [if_neg c_9] | skip); (first | rw [if_pos c_12] | rw [if_neg c_12] | skip); (first | rw [if_pos c_13] | rw [if_neg c_13] | skip))
          · skip
            refine lv_aload_n hx hb dX12_baseOf_225 rfl (lv_at hl 1 rfl) ?_
            refine r_get (T := TX12) (N := 20) (ci := 12) (v := .ref (gA g 51)) X hM iX12 rfl 12 (by decide) q_847 (Or.inl rfl) (mup_r (X.2.ne (i := 46) (j := 51) (by decide) (by decide) (by decide)) (mup_r (X.2.ne (i := 46) (j := 50) (by decide) (by decide) (by decide)) h46)) rfl dX12_baseOf_226 ?_
            refine lv_iload hx hb dX12_baseOf_229 (lv_at hl 5 rfl) ?_
            refine lv_iconst (v := 1) hx hb dX12_baseOf_231 (by decide) ?_
            refine lv_isub hx hb dX12_baseOf_232 ?_
            rw [show (nI (mTop (mCo f a) i)) - 1 = nI (mTop (mCo f a) i - 1) from nI_sub1 (by omega)]
            refine lv_aload_n hx hb dX12_baseOf_233 rfl (lv_at hl 1 rfl) ?_
            refine r_get (T := TX12) (N := 20) (ci := 12) (v := .ref (gA g 51)) X hM iX12 rfl 12 (by decide) q_847 (Or.inl rfl) (mup_r (X.2.ne (i := 46) (j := 51) (by decide) (by decide) (by decide)) (mup_r (X.2.ne (i := 46) (j := 50) (by decide) (by decide) (by decide)) h46)) rfl dX12_baseOf_234 ?_
            refine lv_iload hx hb dX12_baseOf_237 (lv_at hl 5 rfl) ?_
            refine lv_iconst (v := 1) hx hb dX12_baseOf_239 (by decide) ?_
            refine lv_isub hx hb dX12_baseOf_240 ?_
            rw [show (nI (mTop (mCo f a) i)) - 1 = nI (mTop (mCo f a) i - 1) from nI_sub1 (by omega)]
            refine r_zald (i := nI (mTop (mCo f a) i - 1)) X hM (mup_s _ _ _) (vp_in_nI (by omega) (by decide)) dX12_baseOf_241 ?_
            rw [nI_clamp (show mTop (mCo f a) i - 1 < 2147483648 by omega)]
            refine l_joinM (ls := ls) hM 250 (cNot (b1 (mTop (mCo f a) i - 1))) [.int (nI (mTop (mCo f a) i - 1)), .ref (gA g 51)] (fun H locs hM => ?_) (fun J242 => ?_)
            · skip
              refine lv_topi (fun vb e_vb => ?_)
              have hz9 : vb = 0 ∨ vb = 1 := by rw [e_vb]; exact cNot_01 _
              refine r_zast (i := nI (mTop (mCo f a) i - 1)) (x := vb) X hM (mup_s _ _ _) hz9 (vp_in_nI (by omega) (by decide)) dX12_baseOf_250 (fun H locs hM => ?_)
              rw [nI_clamp (show mTop (mCo f a) i - 1 < 2147483648 by omega)] at hM
              rw [mup_i] at hM
              have hM : MW g (mup (mup M (gA g 50) (aI g 6 (mBy f pp ho (nI t) by_))) (gA g 51) (aZ g 64 (upd b1 (mTop (mCo f a) i - 1) vb))) H locs := hM
              refine lv_goto (tgt := 406) hx hb dX12_baseOf_251 (by decide) ?_
              refine lv_iinc (v := (nI (229 + 140 * a + i)) + 1) (lv' := [(8, .int ((nI (229 + 140 * a + i)) + 1)), (9, .int (mCo f a i)), (0, .ref (gA g 46)), (4, .int x4), (6, .int (nI (229 + 140 * a))), (5, .int (nI n)), (7, .int (nI (mTop (mCo f a) i)))]) hx hb dX12_baseOf_406 hl (k := 6) rfl rfl (by decide) rfl (fun ls hl => ?_)
              rw [show (nI (229 + 140 * a + i)) + 1 = nI (229 + 140 * a + (i + 1)) from nI_1 _] at hl
              refine lv_goto (tgt := 101) hx hb dX12_baseOf_409 (by decide) ?_
              have e9 : mB1 (mFa f pp ho (nI t)) (mCo f a i) (mTop (mCo f a) i) (x4, b1) = (x4, upd b1 (mTop (mCo f a) i - 1) vb) := by unfold mB1; (try dsimp only); (first | rw [if_pos c_2] | rw [if_neg c_2]); (first | rw [if_pos c_3] | rw [if_neg c_3]); rw [e_vb]
              have e8 : tpN (mCo f a i) (mTop (mCo f a) i) = mTop (mCo f a) i := by unfold tpN; (first | rw [if_pos c_2] | rw [if_neg c_2]); (first | rw [if_pos c_3] | rw [if_neg c_3])
              have h9 := mB1_ag (fa := mFa f pp ho (nI t)) hok (z := (x4, b1)) (y := mBr (mFa f pp ho (nI t)) (mCo f a) i) hag.1 hag.2
              rw [e9] at h9
              exact ih (i + 1) x4 (upd b1 (mTop (mCo f a) i - 1) vb) (by omega) h9 _ _ hM _ ((by show lv_has _ _ [(0, .ref (gA g 46)), (4, .int (x4)), (6, .int (nI (229 + 140 * a))), (5, .int (nI n)), (7, .int (nI (tpN (mCo f a i) (mTop (mCo f a) i)))), (8, .int (nI (229 + 140 * a + (i + 1))))]; rw [e8]; exact lv_sub hl [2, 3, 4, 5, 6, 0] rfl)) (by omega)
            refine lv_if_ne (tgt := 249) hx hb dX12_baseOf_242 (by decide) (fun c_14 => ?_) (fun c_14 => ?_)
            · skip
              refine lv_iconst (v := 0) hx hb dX12_baseOf_249 (by decide) ?_
              exact J242 _ _ _ hM (by unfold cNot; (first | rw [if_pos c_14] | rw [if_neg c_14]))
            · skip
              refine lv_iconst (v := 1) hx hb dX12_baseOf_245 (by decide) ?_
              refine lv_goto (tgt := 250) hx hb dX12_baseOf_246 (by decide) ?_
              exact J242 _ _ _ hM (by unfold cNot; (first | rw [if_pos c_14] | rw [if_neg c_14]))
        · skip
          have hby := vp_in_lt (hok.2.1 c_2)
          refine lv_aload_n hx hb dX12_baseOf_125 rfl (lv_at hl 1 rfl) ?_
          refine r_get (T := TX12) (N := 20) (ci := 12) (v := .ref (gA g 50)) X hM iX12 rfl 11 (by decide) q_846 (Or.inl rfl) (mup_r (X.2.ne (i := 46) (j := 51) (by decide) (by decide) (by decide)) (mup_r (X.2.ne (i := 46) (j := 50) (by decide) (by decide) (by decide)) h46)) rfl dX12_baseOf_126 ?_
          refine lv_iload hx hb dX12_baseOf_129 (lv_at hl 0 rfl) ?_
          refine lv_bipush (v := 8) hx hb dX12_baseOf_131 (by decide) ?_
          refine l_irem hx hb dX12_baseOf_133 (by decide) ?_
          refine r_iald (i := iR (mCo f a i) 8) X hM (mup_r (X.2.ne (i := 50) (j := 51) (by decide) (by decide) (by decide)) (mup_s _ _ _)) (hok.2.1 c_2) dX12_baseOf_134 ?_
          refine lv_istore (lv' := [(10, .int ((mBy f pp ho (nI t) by_) (iR (mCo f a i) 8).toNatClampNeg)), (9, .int (mCo f a i)), (0, .ref (gA g 46)), (4, .int x4), (6, .int (nI (229 + 140 * a))), (5, .int (nI n)), (7, .int (nI (mTop (mCo f a) i))), (8, .int (nI (229 + 140 * a + i)))]) hx hb dX12_baseOf_135 hl (by decide) rfl (fun ls hl => ?_)
          refine lv_iload hx hb dX12_baseOf_137 (lv_at hl 1 rfl) ?_
          refine lv_bipush (v := 8) hx hb dX12_baseOf_139 (by decide) ?_
          refine lv_idiv hx hb dX12_baseOf_141 (by decide) ?_
          refine lv_iconst (v := 4) hx hb dX12_baseOf_142 (by decide) ?_
          refine l_irem hx hb dX12_baseOf_143 (by decide) ?_
          refine lv_istore (lv' := [(11, .int (iR ((mCo f a i) / 8) 4)), (10, .int ((mBy f pp ho (nI t) by_) (iR (mCo f a i) 8).toNatClampNeg)), (9, .int (mCo f a i)), (0, .ref (gA g 46)), (4, .int x4), (6, .int (nI (229 + 140 * a))), (5, .int (nI n)), (7, .int (nI (mTop (mCo f a) i))), (8, .int (nI (229 + 140 * a + i)))]) hx hb dX12_baseOf_144 hl (by decide) rfl (fun ls hl => ?_)
          refine lv_iload hx hb dX12_baseOf_146 (lv_at hl 2 rfl) ?_
          refine lv_bipush (v := 32) hx hb dX12_baseOf_148 (by decide) ?_
          refine lv_idiv hx hb dX12_baseOf_150 (by decide) ?_
          refine lv_istore (lv' := [(12, .int ((mCo f a i) / 32)), (11, .int (iR ((mCo f a i) / 8) 4)), (10, .int ((mBy f pp ho (nI t) by_) (iR (mCo f a i) 8).toNatClampNeg)), (9, .int (mCo f a i)), (0, .ref (gA g 46)), (4, .int x4), (6, .int (nI (229 + 140 * a))), (5, .int (nI n)), (7, .int (nI (mTop (mCo f a) i))), (8, .int (nI (229 + 140 * a + i)))]) hx hb dX12_baseOf_151 hl (by decide) rfl (fun ls hl => ?_)
          refine lv_aload_n hx hb dX12_baseOf_153 rfl (lv_at hl 4 rfl) ?_
          refine r_get (T := TX12) (N := 20) (ci := 12) (v := .ref (gA g 51)) X hM iX12 rfl 12 (by decide) q_847 (Or.inl rfl) (mup_r (X.2.ne (i := 46) (j := 51) (by decide) (by decide) (by decide)) (mup_r (X.2.ne (i := 46) (j := 50) (by decide) (by decide) (by decide)) h46)) rfl dX12_baseOf_154 ?_
          refine lv_iload hx hb dX12_baseOf_157 (lv_at hl 8 rfl) ?_
          refine l_joinM (ls := ls) hM 212 (tst (iR ((mCo f a i) / 8) 4) ((mCo f a i) / 32) (mBy f pp ho (nI t) by_ (iR (mCo f a i) 8).toNatClampNeg)) [.int (nI (mTop (mCo f a) i)), .ref (gA g 51)] (fun H locs hM => ?_) (fun J159 => ?_)
          · skip
            refine lv_topi (fun vb e_vb => ?_)
            have hz9 : vb = 0 ∨ vb = 1 := by rw [e_vb]; exact tst_01 _ _ _
            refine r_zast (i := nI (mTop (mCo f a) i)) (x := vb) X hM (mup_s _ _ _) hz9 (vp_in_nI (by omega) (by decide)) dX12_baseOf_212 (fun H locs hM => ?_)
            rw [nI_clamp (show mTop (mCo f a) i < 2147483648 by omega)] at hM
            rw [mup_i] at hM
            have hM : MW g (mup (mup M (gA g 50) (aI g 6 (mBy f pp ho (nI t) by_))) (gA g 51) (aZ g 64 (upd b1 (mTop (mCo f a) i) vb))) H locs := hM
            refine lv_iinc (v := (nI (mTop (mCo f a) i)) + 1) (lv' := [(7, .int ((nI (mTop (mCo f a) i)) + 1)), (12, .int ((mCo f a i) / 32)), (11, .int (iR ((mCo f a i) / 8) 4)), (10, .int ((mBy f pp ho (nI t) by_) (iR (mCo f a i) 8).toNatClampNeg)), (9, .int (mCo f a i)), (0, .ref (gA g 46)), (4, .int x4), (6, .int (nI (229 + 140 * a))), (5, .int (nI n)), (8, .int (nI (229 + 140 * a + i)))]) hx hb dX12_baseOf_213 hl (k := 8) rfl rfl (by decide) rfl (fun ls hl => ?_)
            rw [show (nI (mTop (mCo f a) i)) + 1 = nI (mTop (mCo f a) i + 1) from nI_1 _] at hl
            refine lv_goto (tgt := 406) hx hb dX12_baseOf_216 (by decide) ?_
            refine lv_iinc (v := (nI (229 + 140 * a + i)) + 1) (lv' := [(8, .int ((nI (229 + 140 * a + i)) + 1)), (7, .int (nI (mTop (mCo f a) i + 1))), (12, .int ((mCo f a i) / 32)), (11, .int (iR ((mCo f a i) / 8) 4)), (10, .int ((mBy f pp ho (nI t) by_) (iR (mCo f a i) 8).toNatClampNeg)), (9, .int (mCo f a i)), (0, .ref (gA g 46)), (4, .int x4), (6, .int (nI (229 + 140 * a))), (5, .int (nI n))]) hx hb dX12_baseOf_406 hl (k := 9) rfl rfl (by decide) rfl (fun ls hl => ?_)
            rw [show (nI (229 + 140 * a + i)) + 1 = nI (229 + 140 * a + (i + 1)) from nI_1 _] at hl
            refine lv_goto (tgt := 101) hx hb dX12_baseOf_409 (by decide) ?_
            have e9 : mB1 (mFa f pp ho (nI t)) (mCo f a i) (mTop (mCo f a) i) (x4, b1) = (x4, upd b1 (mTop (mCo f a) i) vb) := by unfold mB1; (try dsimp only); (first | rw [if_pos c_2] | rw [if_neg c_2]); rw [← mBy_fa hby (f := f) (p := pp) (ho := ho) (ni := nI t) (b := by_)]; rw [← e_vb]
            have e8 : tpN (mCo f a i) (mTop (mCo f a) i) = mTop (mCo f a) i + 1 := by unfold tpN; (first | rw [if_pos c_2] | rw [if_neg c_2])
            have h9 := mB1_ag (fa := mFa f pp ho (nI t)) hok (z := (x4, b1)) (y := mBr (mFa f pp ho (nI t)) (mCo f a) i) hag.1 hag.2
            rw [e9] at h9
            exact ih (i + 1) x4 (upd b1 (mTop (mCo f a) i) vb) (by omega) h9 _ _ hM _ ((by show lv_has _ _ [(0, .ref (gA g 46)), (4, .int (x4)), (6, .int (nI (229 + 140 * a))), (5, .int (nI n)), (7, .int (nI (tpN (mCo f a i) (mTop (mCo f a) i)))), (8, .int (nI (229 + 140 * a + (i + 1))))]; rw [e8]; exact lv_sub hl [6, 7, 8, 9, 1, 0] rfl)) (by omega)
          refine lv_iload hx hb dX12_baseOf_159 (lv_at hl 1 rfl) ?_
          refine lv_if_ne (tgt := 179) hx hb dX12_baseOf_161 (by decide) (fun c_15 => ?_) (fun c_15 => ?_)
          · skip
            refine lv_iload hx hb dX12_baseOf_179 (lv_at hl 1 rfl) ?_
            refine lv_iconst (v := 1) hx hb dX12_baseOf_181 (by decide) ?_
            refine lv_icmp_ne (tgt := 200) hx hb dX12_baseOf_182 (by decide) (fun c_16 => ?_) (fun c_16 => ?_)
            · skip
              refine lv_iload hx hb dX12_baseOf_200 (lv_at hl 2 rfl) ?_
              refine lv_iload hx hb dX12_baseOf_202 (lv_at hl 0 rfl) ?_
              refine lv_icmp_le (tgt := 211) hx hb dX12_baseOf_204 (by decide) (fun c_17 => ?_) (fun c_17 => ?_)
              · skip
                refine lv_iconst (v := 0) hx hb dX12_baseOf_211 (by decide) ?_
                exact J159 _ _ _ hM (by unfold tst; (first | rw [if_pos c_15] | rw [if_neg c_15] | skip); (first | rw [if_pos c_16] | rw [if_neg c_16] | skip); (first | rw [if_pos c_17] | rw [if_neg c_17] | skip))
              · skip
                refine lv_iconst (v := 1) hx hb dX12_baseOf_207 (by decide) ?_
                refine lv_goto (tgt := 212) hx hb dX12_baseOf_208 (by decide) ?_
                exact J159 _ _ _ hM (by unfold tst; (first | rw [if_pos c_15] | rw [if_neg c_15] | skip); (first | rw [if_pos c_16] | rw [if_neg c_16] | skip); (first | rw [if_pos c_17] | rw [if_neg c_17] | skip))
            · skip
              refine lv_iload hx hb dX12_baseOf_185 (lv_at hl 2 rfl) ?_
              refine lv_iload hx hb dX12_baseOf_187 (lv_at hl 0 rfl) ?_
              refine lv_icmp_ne (tgt := 196) hx hb dX12_baseOf_189 (by decide) (fun c_18 => ?_) (fun c_18 => ?_)
              · skip
                refine lv_iconst (v := 0) hx hb dX12_baseOf_196 (by decide) ?_
                refine lv_goto (tgt := 212) hx hb dX12_baseOf_197 (by decide) ?_
                exact J159 _ _ _ hM (by unfold tst; (first | rw [if_pos c_15] | rw [if_neg c_15] | skip); (first | rw [if_pos c_16] | rw [if_neg c_16] | skip); (first | rw [if_pos c_18] | rw [if_neg c_18] | skip))
              · skip
                refine lv_iconst (v := 1) hx hb dX12_baseOf_192 (by decide) ?_
                refine lv_goto (tgt := 212) hx hb dX12_baseOf_193 (by decide) ?_
                exact J159 _ _ _ hM (by unfold tst; (first | rw [if_pos c_15] | rw [if_neg c_15] | skip); (first | rw [if_pos c_16] | rw [if_neg c_16] | skip); (first | rw [if_pos c_18] | rw [if_neg c_18] | skip))
          · skip
            refine lv_iload hx hb dX12_baseOf_164 (lv_at hl 2 rfl) ?_
            refine lv_iload hx hb dX12_baseOf_166 (lv_at hl 0 rfl) ?_
            refine lv_icmp_ge (tgt := 175) hx hb dX12_baseOf_168 (by decide) (fun c_19 => ?_) (fun c_19 => ?_)
            · skip
              refine lv_iconst (v := 0) hx hb dX12_baseOf_175 (by decide) ?_
              refine lv_goto (tgt := 212) hx hb dX12_baseOf_176 (by decide) ?_
              exact J159 _ _ _ hM (by unfold tst; (first | rw [if_pos c_15] | rw [if_neg c_15] | skip); (first | rw [if_pos c_19] | rw [if_neg c_19] | skip))
            · skip
              refine lv_iconst (v := 1) hx hb dX12_baseOf_171 (by decide) ?_
              refine lv_goto (tgt := 212) hx hb dX12_baseOf_172 (by decide) ?_
              exact J159 _ _ _ hM (by unfold tst; (first | rw [if_pos c_15] | rw [if_neg c_15] | skip); (first | rw [if_pos c_19] | rw [if_neg c_19] | skip))
  exact L101 (n + 1) 0 0 tr (Nat.zero_le _) ⟨rfl, fun k hk => absurd hk (Nat.not_lt_zero k)⟩ _ _ (by show MW g (mup (mup M (gA g 50) (aI g 6 (mBy f pp ho (nI t) by_))) (gA g 51) (aZ g 64 tr)) _ _; rw [mup_id (mup_r (X.2.ne (i := 51) (j := 50) (by decide) (by decide) (by decide)) h51)]; exact hM) _ (lv_sub hl [5, 4, 2, 3, 1, 0] rfl) (by first | exact Nat.lt_succ_self _ | omega)
theorem c_X12_baseOf (l : Launch) (g : Gp) (M : Mem) (m0 m1 m2 m3 m4 m5 m6 m7 m8 m9 m10 m11 : Int32) (f : Nat → Int32) (pp t : Nat) (ho : Int32) (by_ tr : Nat → Int32) (h46 : M (gA g 46) = some (mdE g m0 m1 m2 m3 m4 m5 m6 m7 m8 m9 m10 m11)) (h47 : M (gA g 47) = some (aI g 929 f)) (h50 : M (gA g 50) = some (aI g 6 by_)) (h51 : M (gA g 51) = some (aZ g 64 tr)) (hS : StOk f) (hp : pp < 6) (ht : t < 20000) : Met l yX12_baseOf (wsM yX12_baseOf cX12_baseOf 13 (some .int)) (rmD 2 0 0) (Pre g M [.ref (gA g 46), .int (nI pp), .int ho, .int (nI t)]) (Qi g (fun r M1 => ∃ (y0 : Nat → Int32) (y1 : Nat → Int32), (mBase f pp ho (nI t)) = r ∧ mup (mup M (gA g 50) (aI g 6 y0)) (gA g 51) (aZ g 64 y1) = M1)) 0 0 (gF g) := by
  rcases hS with h | ⟨a, n, tu, cl, h⟩
  · exact c_X12_baseOf_0 l g M m0 m1 m2 m3 m4 m5 m6 m7 m8 m9 m10 m11 f pp t ho by_ tr h46 h47 h50 h51 h hp ht
  · exact c_X12_baseOf_1 l g M m0 m1 m2 m3 m4 m5 m6 m7 m8 m9 m10 m11 f pp t ho by_ tr a n tu cl h46 h47 h50 h51 h hp ht
