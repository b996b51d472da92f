/-- what an act tells: (answer, (count of the trace, its cells)) -/
abbrev Tr : Type := Int32 × (Nat → Int32)
def tlN (t : Tr) (x : Int32) : Tr := (t.1 + 1, fPut 20 t.2 t.1 x)
def gloS (nu x : Int32) (t : Tr) : Int32 × Tr := (x + nu, tlN t 1)
def gloM (nu x : Int32) (t : Tr) : Int32 × Tr := gloS nu (x * 3) (tlN t 11)
def gloG (nu x : Int32) (t : Tr) : Int32 × Tr := ((gloS nu x (tlN t 51)).1 ^^^ nu, (gloS nu x (tlN t 51)).2)
def gloN (k : Nat) (nu x : Int32) (t : Tr) : Int32 × Tr := match k with | 1 => gloM nu x t | 4 => gloM nu x t | 5 => gloG nu x t | _ => gloS nu x t
def claS (k : Nat) (nu v x : Int32) (t : Tr) : Int32 × Tr := ((gloN k nu x (tlN t 2)).1 - v, (gloN k nu x (tlN t 2)).2)
def claC (k : Nat) (nu v x : Int32) (t : Tr) : Int32 × Tr := (-(claS k nu v x (tlN t 21)).1, (claS k nu v x (tlN t 21)).2)
def claT (k : Nat) (nu v x : Int32) (t : Tr) : Int32 × Tr := ((claS k nu v x (tlN t 61)).1 + v, (claS k nu v x (tlN t 61)).2)
def claN (k : Nat) (nu v x : Int32) (t : Tr) : Int32 × Tr := match k with | 2 => claC 2 nu v x t | 5 => claC 5 nu v x t | 6 => claT 6 nu v x t | 0 => claS 0 nu v x t | 1 => claS 1 nu v x t | 3 => claS 3 nu v x t | 4 => claS 4 nu v x t | _ => claS 7 nu v x t
def telS (k : Nat) (nu v x : Int32) (t : Tr) : Int32 × Tr := ((claN k nu v x (tlN t 3)).1 * 2, (claN k nu v x (tlN t 3)).2)
def telU (k : Nat) (nu v x : Int32) (t : Tr) : Int32 × Tr := ((telS k nu v x (tlN t 31)).1 ^^^ 7, (telS k nu v x (tlN t 31)).2)
def telW (k : Nat) (nu v x : Int32) (t : Tr) : Int32 × Tr := ((telS k nu v (x - 1) (tlN t 41)).1 + (gloN k nu 2 (telS k nu v (x - 1) (tlN t 41)).2).1, (gloN k nu 2 (telS k nu v (x - 1) (tlN t 41)).2).2)
def telN (k : Nat) (nu v x : Int32) (t : Tr) : Int32 × Tr := match k with | 3 => telU 3 nu v x t | 6 => telU 6 nu v x t | 4 => telW 4 nu v x t | 0 => telS 0 nu v x t | 1 => telS 1 nu v x t | 2 => telS 2 nu v x t | 5 => telS 5 nu v x t | _ => telS 7 nu v x t
def opAct (en : En) (tf : Nat → Int32) (x w n : Int32) : Int32 × Tr := if fIsL (eL en) x = 0 then (0, 0, tf) else if w = 0 then gloN (eKd en x.toNatClampNeg) (nI x.toNatClampNeg) n (0, tf) else if w = 1 then claN (eKd en x.toNatClampNeg) (nI x.toNatClampNeg) (eVv en x.toNatClampNeg) n (0, tf) else if w = 2 then telN (eKd en x.toNatClampNeg) (nI x.toNatClampNeg) (eVv en x.toNatClampNeg) n (0, tf) else (0, 0, tf)

theorem lk_X8_23 : LkV RX8 23 yX5_tell cX5_tell 2 (some .int) 1 := lkV_of q_747 q_210 q_211 q_2 q_212 ⟨by decide, by decide, by decide +kernel⟩ (by decide)
theorem lk_X2_13 : LkV RX2 13 yX5_tell cX5_tell 2 (some .int) 1 := lkV_of q_741 q_210 q_211 q_2 q_212 ⟨by decide, by decide, by decide +kernel⟩ (by decide)
theorem lx_X2_19 : LkX RX2 19 ⟨"StarCustody$Star", "glows", "(I)I"⟩ yX8_glows cX8_glows 2 (some .int) 1 := lkX_of q_742 q_729 q_403 (Or.inl rfl) q_727 q_13 q_746 (by decide) rfl (by decide +kernel) (by decide)
theorem lk_X1_25 : LkV RX1 25 yX5_tell cX5_tell 2 (some .int) 1 := lkV_of q_734 q_210 q_211 q_2 q_212 ⟨by decide, by decide, by decide +kernel⟩ (by decide)
theorem lx_X1_31 : LkX RX1 31 ⟨"StarCustody$Comet", "glows", "(I)I"⟩ yX8_glows cX8_glows 2 (some .int) 1 := lkX_of q_735 q_736 q_447 (Or.inr q_414) q_727 q_13 q_746 (by decide) rfl (by decide +kernel) (by decide)
theorem lu_X8_29_X8 : LkU RX8 29 RX8 "StarCustody$Star" ⟨"StarCustody$Star", "glows", "(I)I"⟩ yX8_glows cX8_glows 2 (some .int) 1 := lkU_of q_769 q_729 q_728 q_727 q_13 q_746 q_746 q_727 ⟨by decide, by decide, by decide +kernel⟩ (by decide)
theorem lu_X8_29_X2 : LkU RX8 29 RX2 "StarCustody$Star" ⟨"StarCustody$Star", "glows", "(I)I"⟩ yX2_glows cX2_glows 2 (some .int) 1 := lkU_of q_769 q_729 q_738 q_739 q_14 q_740 q_746 q_727 ⟨by decide, by decide, by decide +kernel⟩ (by decide)
theorem lu_X8_29_X0 : LkU RX8 29 RX0 "StarCustody$Star" ⟨"StarCustody$Star", "glows", "(I)I"⟩ yX8_glows cX8_glows 2 (some .int) 1 := lkU_of q_769 q_729 q_730 q_727 q_13 q_746 q_746 q_727 ⟨by decide, by decide, by decide +kernel⟩ (by decide)
theorem lu_X8_29_X3 : LkU RX8 29 RX3 "StarCustody$Star" ⟨"StarCustody$Star", "glows", "(I)I"⟩ yX8_glows cX8_glows 2 (some .int) 1 := lkU_of q_769 q_729 q_743 q_727 q_13 q_746 q_746 q_727 ⟨by decide, by decide, by decide +kernel⟩ (by decide)
theorem lu_X8_29_X10 : LkU RX8 29 RX10 "StarCustody$Star" ⟨"StarCustody$Star", "glows", "(I)I"⟩ yX2_glows cX2_glows 2 (some .int) 1 := lkU_of q_769 q_729 q_745 q_739 q_14 q_740 q_746 q_727 ⟨by decide, by decide, by decide +kernel⟩ (by decide)
theorem lu_X8_29_X1 : LkU RX8 29 RX1 "StarCustody$Star" ⟨"StarCustody$Star", "glows", "(I)I"⟩ yX1_glows cX1_glows 2 (some .int) 1 := lkU_of q_769 q_729 q_731 q_732 q_18 q_733 q_746 q_727 ⟨by decide, by decide, by decide +kernel⟩ (by decide)
theorem lu_X8_29_X9 : LkU RX8 29 RX9 "StarCustody$Star" ⟨"StarCustody$Star", "glows", "(I)I"⟩ yX8_glows cX8_glows 2 (some .int) 1 := lkU_of q_769 q_729 q_744 q_727 q_13 q_746 q_746 q_727 ⟨by decide, by decide, by decide +kernel⟩ (by decide)
theorem lk_X0_17 : LkV RX0 17 yX5_tell cX5_tell 2 (some .int) 1 := lkV_of q_755 q_210 q_211 q_2 q_212 ⟨by decide, by decide, by decide +kernel⟩ (by decide)
theorem lx_X0_23 : LkX RX0 23 ⟨"StarCustody$Star", "claims", "(I)I"⟩ yX8_claims cX8_claims 2 (some .int) 1 := lkX_of q_756 q_751 q_414 (Or.inl rfl) q_749 q_13 q_768 (by decide) rfl (by decide +kernel) (by decide)
theorem lk_X9_17 : LkV RX9 17 yX5_tell cX5_tell 2 (some .int) 1 := lkV_of q_763 q_210 q_211 q_2 q_212 ⟨by decide, by decide, by decide +kernel⟩ (by decide)
theorem lx_X9_23 : LkX RX9 23 ⟨"StarCustody$Nebula", "claims", "(I)I"⟩ yX8_claims cX8_claims 2 (some .int) 1 := lkX_of q_764 q_765 q_458 (Or.inr q_425) q_749 q_13 q_768 (by decide) rfl (by decide +kernel) (by decide)
theorem lu_X8_32_X8 : LkU RX8 32 RX8 "StarCustody$Star" ⟨"StarCustody$Star", "claims", "(I)I"⟩ yX8_claims cX8_claims 2 (some .int) 1 := lkU_of q_795 q_751 q_750 q_749 q_13 q_768 q_768 q_749 ⟨by decide, by decide, by decide +kernel⟩ (by decide)
theorem lu_X8_32_X2 : LkU RX8 32 RX2 "StarCustody$Star" ⟨"StarCustody$Star", "claims", "(I)I"⟩ yX8_claims cX8_claims 2 (some .int) 1 := lkU_of q_795 q_751 q_758 q_749 q_13 q_768 q_768 q_749 ⟨by decide, by decide, by decide +kernel⟩ (by decide)
theorem lu_X8_32_X0 : LkU RX8 32 RX0 "StarCustody$Star" ⟨"StarCustody$Star", "claims", "(I)I"⟩ yX0_claims cX0_claims 2 (some .int) 1 := lkU_of q_795 q_751 q_752 q_753 q_15 q_754 q_768 q_749 ⟨by decide, by decide, by decide +kernel⟩ (by decide)
theorem lu_X8_32_X3 : LkU RX8 32 RX3 "StarCustody$Star" ⟨"StarCustody$Star", "claims", "(I)I"⟩ yX8_claims cX8_claims 2 (some .int) 1 := lkU_of q_795 q_751 q_759 q_749 q_13 q_768 q_768 q_749 ⟨by decide, by decide, by decide +kernel⟩ (by decide)
theorem lu_X8_32_X10 : LkU RX8 32 RX10 "StarCustody$Star" ⟨"StarCustody$Star", "claims", "(I)I"⟩ yX8_claims cX8_claims 2 (some .int) 1 := lkU_of q_795 q_751 q_767 q_749 q_13 q_768 q_768 q_749 ⟨by decide, by decide, by decide +kernel⟩ (by decide)
theorem lu_X8_32_X1 : LkU RX8 32 RX1 "StarCustody$Star" ⟨"StarCustody$Star", "claims", "(I)I"⟩ yX0_claims cX0_claims 2 (some .int) 1 := lkU_of q_795 q_751 q_757 q_753 q_15 q_754 q_768 q_749 ⟨by decide, by decide, by decide +kernel⟩ (by decide)
theorem lu_X8_32_X9 : LkU RX8 32 RX9 "StarCustody$Star" ⟨"StarCustody$Star", "claims", "(I)I"⟩ yX9_claims cX9_claims 2 (some .int) 1 := lkU_of q_795 q_751 q_760 q_761 q_19 q_762 q_768 q_749 ⟨by decide, by decide, by decide +kernel⟩ (by decide)
theorem lk_X3_17 : LkV RX3 17 yX5_tell cX5_tell 2 (some .int) 1 := lkV_of q_780 q_210 q_211 q_2 q_212 ⟨by decide, by decide, by decide +kernel⟩ (by decide)
theorem lx_X3_23 : LkX RX3 23 ⟨"StarCustody$Star", "tells", "(I)I"⟩ yX8_tells cX8_tells 2 (some .int) 1 := lkX_of q_781 q_773 q_425 (Or.inl rfl) q_771 q_13 q_794 (by decide) rfl (by decide +kernel) (by decide)
theorem lk_X10_21 : LkV RX10 21 yX5_tell cX5_tell 2 (some .int) 1 := lkV_of q_786 q_210 q_211 q_2 q_212 ⟨by decide, by decide, by decide +kernel⟩ (by decide)
theorem lx_X10_27 : LkX RX10 27 ⟨"StarCustody$Moon", "tells", "(I)I"⟩ yX8_tells cX8_tells 2 (some .int) 1 := lkX_of q_787 q_788 q_436 (Or.inr q_403) q_771 q_13 q_794 (by decide) rfl (by decide +kernel) (by decide)
theorem lu_X10_30_X10 : LkU RX10 30 RX10 "StarCustody$Moon" ⟨"StarCustody$Twin", "glows", "(I)I"⟩ yX2_glows cX2_glows 2 (some .int) 1 := lkU_of q_790 q_791 q_793 q_739 q_14 q_740 q_740 q_739 ⟨by decide, by decide, by decide +kernel⟩ (by decide)
theorem lu_X11_241_X8 : LkU RX11 241 RX8 "StarCustody$Star" ⟨"StarCustody$Star", "glows", "(I)I"⟩ yX8_glows cX8_glows 2 (some .int) 1 := lkU_of q_726 q_729 q_728 q_727 q_13 q_746 q_746 q_727 ⟨by decide, by decide, by decide +kernel⟩ (by decide)
theorem lu_X11_241_X2 : LkU RX11 241 RX2 "StarCustody$Star" ⟨"StarCustody$Star", "glows", "(I)I"⟩ yX2_glows cX2_glows 2 (some .int) 1 := lkU_of q_726 q_729 q_738 q_739 q_14 q_740 q_746 q_727 ⟨by decide, by decide, by decide +kernel⟩ (by decide)
theorem lu_X11_241_X0 : LkU RX11 241 RX0 "StarCustody$Star" ⟨"StarCustody$Star", "glows", "(I)I"⟩ yX8_glows cX8_glows 2 (some .int) 1 := lkU_of q_726 q_729 q_730 q_727 q_13 q_746 q_746 q_727 ⟨by decide, by decide, by decide +kernel⟩ (by decide)
theorem lu_X11_241_X3 : LkU RX11 241 RX3 "StarCustody$Star" ⟨"StarCustody$Star", "glows", "(I)I"⟩ yX8_glows cX8_glows 2 (some .int) 1 := lkU_of q_726 q_729 q_743 q_727 q_13 q_746 q_746 q_727 ⟨by decide, by decide, by decide +kernel⟩ (by decide)
theorem lu_X11_241_X10 : LkU RX11 241 RX10 "StarCustody$Star" ⟨"StarCustody$Star", "glows", "(I)I"⟩ yX2_glows cX2_glows 2 (some .int) 1 := lkU_of q_726 q_729 q_745 q_739 q_14 q_740 q_746 q_727 ⟨by decide, by decide, by decide +kernel⟩ (by decide)
theorem lu_X11_241_X1 : LkU RX11 241 RX1 "StarCustody$Star" ⟨"StarCustody$Star", "glows", "(I)I"⟩ yX1_glows cX1_glows 2 (some .int) 1 := lkU_of q_726 q_729 q_731 q_732 q_18 q_733 q_746 q_727 ⟨by decide, by decide, by decide +kernel⟩ (by decide)
theorem lu_X11_241_X9 : LkU RX11 241 RX9 "StarCustody$Star" ⟨"StarCustody$Star", "glows", "(I)I"⟩ yX8_glows cX8_glows 2 (some .int) 1 := lkU_of q_726 q_729 q_744 q_727 q_13 q_746 q_746 q_727 ⟨by decide, by decide, by decide +kernel⟩ (by decide)
theorem lu_X11_244_X8 : LkU RX11 244 RX8 "StarCustody$Star" ⟨"StarCustody$Star", "claims", "(I)I"⟩ yX8_claims cX8_claims 2 (some .int) 1 := lkU_of q_748 q_751 q_750 q_749 q_13 q_768 q_768 q_749 ⟨by decide, by decide, by decide +kernel⟩ (by decide)
theorem lu_X11_244_X2 : LkU RX11 244 RX2 "StarCustody$Star" ⟨"StarCustody$Star", "claims", "(I)I"⟩ yX8_claims cX8_claims 2 (some .int) 1 := lkU_of q_748 q_751 q_758 q_749 q_13 q_768 q_768 q_749 ⟨by decide, by decide, by decide +kernel⟩ (by decide)
theorem lu_X11_244_X0 : LkU RX11 244 RX0 "StarCustody$Star" ⟨"StarCustody$Star", "claims", "(I)I"⟩ yX0_claims cX0_claims 2 (some .int) 1 := lkU_of q_748 q_751 q_752 q_753 q_15 q_754 q_768 q_749 ⟨by decide, by decide, by decide +kernel⟩ (by decide)
theorem lu_X11_244_X3 : LkU RX11 244 RX3 "StarCustody$Star" ⟨"StarCustody$Star", "claims", "(I)I"⟩ yX8_claims cX8_claims 2 (some .int) 1 := lkU_of q_748 q_751 q_759 q_749 q_13 q_768 q_768 q_749 ⟨by decide, by decide, by decide +kernel⟩ (by decide)
theorem lu_X11_244_X10 : LkU RX11 244 RX10 "StarCustody$Star" ⟨"StarCustody$Star", "claims", "(I)I"⟩ yX8_claims cX8_claims 2 (some .int) 1 := lkU_of q_748 q_751 q_767 q_749 q_13 q_768 q_768 q_749 ⟨by decide, by decide, by decide +kernel⟩ (by decide)
theorem lu_X11_244_X1 : LkU RX11 244 RX1 "StarCustody$Star" ⟨"StarCustody$Star", "claims", "(I)I"⟩ yX0_claims cX0_claims 2 (some .int) 1 := lkU_of q_748 q_751 q_757 q_753 q_15 q_754 q_768 q_749 ⟨by decide, by decide, by decide +kernel⟩ (by decide)
theorem lu_X11_244_X9 : LkU RX11 244 RX9 "StarCustody$Star" ⟨"StarCustody$Star", "claims", "(I)I"⟩ yX9_claims cX9_claims 2 (some .int) 1 := lkU_of q_748 q_751 q_760 q_761 q_19 q_762 q_768 q_749 ⟨by decide, by decide, by decide +kernel⟩ (by decide)
theorem lu_X11_247_X8 : LkU RX11 247 RX8 "StarCustody$Star" ⟨"StarCustody$Star", "tells", "(I)I"⟩ yX8_tells cX8_tells 2 (some .int) 1 := lkU_of q_770 q_773 q_772 q_771 q_13 q_794 q_794 q_771 ⟨by decide, by decide, by decide +kernel⟩ (by decide)
theorem lu_X11_247_X2 : LkU RX11 247 RX2 "StarCustody$Star" ⟨"StarCustody$Star", "tells", "(I)I"⟩ yX8_tells cX8_tells 2 (some .int) 1 := lkU_of q_770 q_773 q_776 q_771 q_13 q_794 q_794 q_771 ⟨by decide, by decide, by decide +kernel⟩ (by decide)
theorem lu_X11_247_X0 : LkU RX11 247 RX0 "StarCustody$Star" ⟨"StarCustody$Star", "tells", "(I)I"⟩ yX8_tells cX8_tells 2 (some .int) 1 := lkU_of q_770 q_773 q_774 q_771 q_13 q_794 q_794 q_771 ⟨by decide, by decide, by decide +kernel⟩ (by decide)
theorem lu_X11_247_X3 : LkU RX11 247 RX3 "StarCustody$Star" ⟨"StarCustody$Star", "tells", "(I)I"⟩ yX3_tells cX3_tells 2 (some .int) 1 := lkU_of q_770 q_773 q_777 q_778 q_16 q_779 q_794 q_771 ⟨by decide, by decide, by decide +kernel⟩ (by decide)
theorem lu_X11_247_X10 : LkU RX11 247 RX10 "StarCustody$Star" ⟨"StarCustody$Star", "tells", "(I)I"⟩ yX10_tells cX10_tells 2 (some .int) 1 := lkU_of q_770 q_773 q_783 q_784 q_17 q_785 q_794 q_771 ⟨by decide, by decide, by decide +kernel⟩ (by decide)
theorem lu_X11_247_X1 : LkU RX11 247 RX1 "StarCustody$Star" ⟨"StarCustody$Star", "tells", "(I)I"⟩ yX8_tells cX8_tells 2 (some .int) 1 := lkU_of q_770 q_773 q_775 q_771 q_13 q_794 q_794 q_771 ⟨by decide, by decide, by decide +kernel⟩ (by decide)
theorem lu_X11_247_X9 : LkU RX11 247 RX9 "StarCustody$Star" ⟨"StarCustody$Star", "tells", "(I)I"⟩ yX3_tells cX3_tells 2 (some .int) 1 := lkU_of q_770 q_773 q_782 q_778 q_16 q_779 q_794 q_771 ⟨by decide, by decide, by decide +kernel⟩ (by decide)
set_option maxHeartbeats 4000000 in
set_option maxRecDepth 100000 in
theorem c_X8_glows_k0 (l : Launch) (g : Gp) (M : Mem) (kk nu v : Int32) (o : Nat) (x tc : Int32) (tf : Nat → Int32) (h_o : M o = some (starE0 g kk nu v)) (h1 : M (gA g 1) = some (rowsE (gA g 2) 20 1 tc)) (h2 : M (gA g 2) = some (aI g 20 tf)) : Met l yX8_glows (wsM yX8_glows cX8_glows 2 (some .int)) (rmD 2 0 0) (Pre g M [.ref o, .int x]) (Qi g (fun r M1 => ((gloS nu x (tc, tf)).1) = r ∧ mup (mup M (gA g 2) (aI g 20 ((gloS nu x (tc, tf)).2.2))) (gA g 1) (rowsE (gA g 2) 20 1 ((gloS nu x (tc, tf)).2.1)) = M1)) 0 0 (gF g) := M_start (by decide +kernel) (Nat.le_of_ble_eq_true rfl) fun p e s m args below meth c ls X hr hk hnm hM hl => by
  have X : Cx g p m c cX8_glows 2 s args RX8 := X
  have hx := X.1.1
  have hb := X.1.2.1
  have hl : lv_has ls 2 [(0, .ref o), (1, .int x)] := hl
  refine lv_aload_n hx hb dX8_glows_0 rfl (lv_at hl 0 rfl) ?_
  refine r_get (T := TX8) (N := 4) (ci := 8) (v := .ref (gA g 1)) X hM iX8 rfl 3 (by decide) q_382 (Or.inl rfl) h_o rfl dX8_glows_1 ?_
  refine lv_iconst (v := 1) hx hb dX8_glows_4 (by decide) ?_
  refine K_i (G_V (As := [.int 1]) (rest := []) X hM (c_X5_tell l g _ (gA g 1) (gA g 2) 20 tf 20 1 tc 1 h1 h2 (by decide) (X.2.ne (i := 1) (j := 2) (by decide) (by decide) (by decide))) lk_X8_23 h1 rfl rfl hl.1 rfl (Nat.le_of_ble_eq_true rfl) (by decide) dX8_glows_5 ⟨Nat.le_of_ble_eq_true rfl, Nat.le_of_ble_eq_true rfl⟩) hM (fun r M1 H locs hM hp => ?_)
  obtain ⟨rfl, rfl⟩ := hp
  have hM : MW g (mup (mup M (gA g 2) (aI g 20 (fPut 20 tf tc 1))) (gA g 1) (rowsE (gA g 2) 20 1 (tc + 1))) H locs := hM
  refine lv_pop hx hb dX8_glows_8 rfl ?_
  refine lv_iload_n hx hb dX8_glows_9 rfl (lv_at hl 1 rfl) ?_
  refine lv_aload_n hx hb dX8_glows_10 rfl (lv_at hl 0 rfl) ?_
  refine r_get (T := TX8) (N := 4) (ci := 8) (v := .int nu) X hM iX8 rfl 1 (by decide) q_366 (Or.inl rfl) (mup_r (ne_kind h_o h1 (ne_cls (by decide))) (mup_r (ne_kind h_o h2 Sum.inr_ne_inl) h_o)) rfl dX8_glows_11 ?_
  refine lv_iadd hx hb dX8_glows_14 ?_
  exact R_i X hr hk hM ⟨rfl, rfl⟩ dX8_glows_15
set_option maxHeartbeats 4000000 in
set_option maxRecDepth 100000 in
theorem c_X8_glows_k1 (l : Launch) (g : Gp) (M : Mem) (kk nu v : Int32) (o : Nat) (x tc : Int32) (tf : Nat → Int32) (h_o : M o = some (starE1 g kk nu v)) (h1 : M (gA g 1) = some (rowsE (gA g 2) 20 1 tc)) (h2 : M (gA g 2) = some (aI g 20 tf)) : Met l yX8_glows (wsM yX8_glows cX8_glows 2 (some .int)) (rmD 2 0 0) (Pre g M [.ref o, .int x]) (Qi g (fun r M1 => ((gloS nu x (tc, tf)).1) = r ∧ mup (mup M (gA g 2) (aI g 20 ((gloS nu x (tc, tf)).2.2))) (gA g 1) (rowsE (gA g 2) 20 1 ((gloS nu x (tc, tf)).2.1)) = M1)) 0 0 (gF g) := M_start (by decide +kernel) (Nat.le_of_ble_eq_true rfl) fun p e s m args below meth c ls X hr hk hnm hM hl => by
  have X : Cx g p m c cX8_glows 2 s args RX8 := X
  have hx := X.1.1
  have hb := X.1.2.1
  have hl : lv_has ls 2 [(0, .ref o), (1, .int x)] := hl
  refine lv_aload_n hx hb dX8_glows_0 rfl (lv_at hl 0 rfl) ?_
  refine r_get (T := TX2) (N := 4) (ci := 2) (v := .ref (gA g 1)) X hM iX2 rfl 3 (by decide) q_382 (Or.inl rfl) h_o rfl dX8_glows_1 ?_
  refine lv_iconst (v := 1) hx hb dX8_glows_4 (by decide) ?_
  refine K_i (G_V (As := [.int 1]) (rest := []) X hM (c_X5_tell l g _ (gA g 1) (gA g 2) 20 tf 20 1 tc 1 h1 h2 (by decide) (X.2.ne (i := 1) (j := 2) (by decide) (by decide) (by decide))) lk_X8_23 h1 rfl rfl hl.1 rfl (Nat.le_of_ble_eq_true rfl) (by decide) dX8_glows_5 ⟨Nat.le_of_ble_eq_true rfl, Nat.le_of_ble_eq_true rfl⟩) hM (fun r M1 H locs hM hp => ?_)
  obtain ⟨rfl, rfl⟩ := hp
  have hM : MW g (mup (mup M (gA g 2) (aI g 20 (fPut 20 tf tc 1))) (gA g 1) (rowsE (gA g 2) 20 1 (tc + 1))) H locs := hM
  refine lv_pop hx hb dX8_glows_8 rfl ?_
  refine lv_iload_n hx hb dX8_glows_9 rfl (lv_at hl 1 rfl) ?_
  refine lv_aload_n hx hb dX8_glows_10 rfl (lv_at hl 0 rfl) ?_
  refine r_get (T := TX2) (N := 4) (ci := 2) (v := .int nu) X hM iX2 rfl 1 (by decide) q_366 (Or.inl rfl) (mup_r (ne_kind h_o h1 (ne_cls (by decide))) (mup_r (ne_kind h_o h2 Sum.inr_ne_inl) h_o)) rfl dX8_glows_11 ?_
  refine lv_iadd hx hb dX8_glows_14 ?_
  exact R_i X hr hk hM ⟨rfl, rfl⟩ dX8_glows_15
set_option maxHeartbeats 4000000 in
set_option maxRecDepth 100000 in
theorem c_X8_glows_k2 (l : Launch) (g : Gp) (M : Mem) (kk nu v : Int32) (o : Nat) (x tc : Int32) (tf : Nat → Int32) (h_o : M o = some (starE2 g kk nu v)) (h1 : M (gA g 1) = some (rowsE (gA g 2) 20 1 tc)) (h2 : M (gA g 2) = some (aI g 20 tf)) : Met l yX8_glows (wsM yX8_glows cX8_glows 2 (some .int)) (rmD 2 0 0) (Pre g M [.ref o, .int x]) (Qi g (fun r M1 => ((gloS nu x (tc, tf)).1) = r ∧ mup (mup M (gA g 2) (aI g 20 ((gloS nu x (tc, tf)).2.2))) (gA g 1) (rowsE (gA g 2) 20 1 ((gloS nu x (tc, tf)).2.1)) = M1)) 0 0 (gF g) := M_start (by decide +kernel) (Nat.le_of_ble_eq_true rfl) fun p e s m args below meth c ls X hr hk hnm hM hl => by
  have X : Cx g p m c cX8_glows 2 s args RX8 := X
  have hx := X.1.1
  have hb := X.1.2.1
  have hl : lv_has ls 2 [(0, .ref o), (1, .int x)] := hl
  refine lv_aload_n hx hb dX8_glows_0 rfl (lv_at hl 0 rfl) ?_
  refine r_get (T := TX0) (N := 4) (ci := 0) (v := .ref (gA g 1)) X hM iX0 rfl 3 (by decide) q_382 (Or.inl rfl) h_o rfl dX8_glows_1 ?_
  refine lv_iconst (v := 1) hx hb dX8_glows_4 (by decide) ?_
  refine K_i (G_V (As := [.int 1]) (rest := []) X hM (c_X5_tell l g _ (gA g 1) (gA g 2) 20 tf 20 1 tc 1 h1 h2 (by decide) (X.2.ne (i := 1) (j := 2) (by decide) (by decide) (by decide))) lk_X8_23 h1 rfl rfl hl.1 rfl (Nat.le_of_ble_eq_true rfl) (by decide) dX8_glows_5 ⟨Nat.le_of_ble_eq_true rfl, Nat.le_of_ble_eq_true rfl⟩) hM (fun r M1 H locs hM hp => ?_)
  obtain ⟨rfl, rfl⟩ := hp
  have hM : MW g (mup (mup M (gA g 2) (aI g 20 (fPut 20 tf tc 1))) (gA g 1) (rowsE (gA g 2) 20 1 (tc + 1))) H locs := hM
  refine lv_pop hx hb dX8_glows_8 rfl ?_
  refine lv_iload_n hx hb dX8_glows_9 rfl (lv_at hl 1 rfl) ?_
  refine lv_aload_n hx hb dX8_glows_10 rfl (lv_at hl 0 rfl) ?_
  refine r_get (T := TX0) (N := 4) (ci := 0) (v := .int nu) X hM iX0 rfl 1 (by decide) q_366 (Or.inl rfl) (mup_r (ne_kind h_o h1 (ne_cls (by decide))) (mup_r (ne_kind h_o h2 Sum.inr_ne_inl) h_o)) rfl dX8_glows_11 ?_
  refine lv_iadd hx hb dX8_glows_14 ?_
  exact R_i X hr hk hM ⟨rfl, rfl⟩ dX8_glows_15
set_option maxHeartbeats 4000000 in
set_option maxRecDepth 100000 in
theorem c_X8_glows_k3 (l : Launch) (g : Gp) (M : Mem) (kk nu v : Int32) (o : Nat) (x tc : Int32) (tf : Nat → Int32) (h_o : M o = some (starE3 g kk nu v)) (h1 : M (gA g 1) = some (rowsE (gA g 2) 20 1 tc)) (h2 : M (gA g 2) = some (aI g 20 tf)) : Met l yX8_glows (wsM yX8_glows cX8_glows 2 (some .int)) (rmD 2 0 0) (Pre g M [.ref o, .int x]) (Qi g (fun r M1 => ((gloS nu x (tc, tf)).1) = r ∧ mup (mup M (gA g 2) (aI g 20 ((gloS nu x (tc, tf)).2.2))) (gA g 1) (rowsE (gA g 2) 20 1 ((gloS nu x (tc, tf)).2.1)) = M1)) 0 0 (gF g) := M_start (by decide +kernel) (Nat.le_of_ble_eq_true rfl) fun p e s m args below meth c ls X hr hk hnm hM hl => by
  have X : Cx g p m c cX8_glows 2 s args RX8 := X
  have hx := X.1.1
  have hb := X.1.2.1
  have hl : lv_has ls 2 [(0, .ref o), (1, .int x)] := hl
  refine lv_aload_n hx hb dX8_glows_0 rfl (lv_at hl 0 rfl) ?_
  refine r_get (T := TX3) (N := 4) (ci := 3) (v := .ref (gA g 1)) X hM iX3 rfl 3 (by decide) q_382 (Or.inl rfl) h_o rfl dX8_glows_1 ?_
  refine lv_iconst (v := 1) hx hb dX8_glows_4 (by decide) ?_
  refine K_i (G_V (As := [.int 1]) (rest := []) X hM (c_X5_tell l g _ (gA g 1) (gA g 2) 20 tf 20 1 tc 1 h1 h2 (by decide) (X.2.ne (i := 1) (j := 2) (by decide) (by decide) (by decide))) lk_X8_23 h1 rfl rfl hl.1 rfl (Nat.le_of_ble_eq_true rfl) (by decide) dX8_glows_5 ⟨Nat.le_of_ble_eq_true rfl, Nat.le_of_ble_eq_true rfl⟩) hM (fun r M1 H locs hM hp => ?_)
  obtain ⟨rfl, rfl⟩ := hp
  have hM : MW g (mup (mup M (gA g 2) (aI g 20 (fPut 20 tf tc 1))) (gA g 1) (rowsE (gA g 2) 20 1 (tc + 1))) H locs := hM
  refine lv_pop hx hb dX8_glows_8 rfl ?_
  refine lv_iload_n hx hb dX8_glows_9 rfl (lv_at hl 1 rfl) ?_
  refine lv_aload_n hx hb dX8_glows_10 rfl (lv_at hl 0 rfl) ?_
  refine r_get (T := TX3) (N := 4) (ci := 3) (v := .int nu) X hM iX3 rfl 1 (by decide) q_366 (Or.inl rfl) (mup_r (ne_kind h_o h1 (ne_cls (by decide))) (mup_r (ne_kind h_o h2 Sum.inr_ne_inl) h_o)) rfl dX8_glows_11 ?_
  refine lv_iadd hx hb dX8_glows_14 ?_
  exact R_i X hr hk hM ⟨rfl, rfl⟩ dX8_glows_15
set_option maxHeartbeats 4000000 in
set_option maxRecDepth 100000 in
theorem c_X8_glows_k4 (l : Launch) (g : Gp) (M : Mem) (kk nu v : Int32) (o : Nat) (x tc : Int32) (tf : Nat → Int32) (h_o : M o = some (starE4 g kk nu v)) (h1 : M (gA g 1) = some (rowsE (gA g 2) 20 1 tc)) (h2 : M (gA g 2) = some (aI g 20 tf)) : Met l yX8_glows (wsM yX8_glows cX8_glows 2 (some .int)) (rmD 2 0 0) (Pre g M [.ref o, .int x]) (Qi g (fun r M1 => ((gloS nu x (tc, tf)).1) = r ∧ mup (mup M (gA g 2) (aI g 20 ((gloS nu x (tc, tf)).2.2))) (gA g 1) (rowsE (gA g 2) 20 1 ((gloS nu x (tc, tf)).2.1)) = M1)) 0 0 (gF g) := M_start (by decide +kernel) (Nat.le_of_ble_eq_true rfl) fun p e s m args below meth c ls X hr hk hnm hM hl => by
  have X : Cx g p m c cX8_glows 2 s args RX8 := X
  have hx := X.1.1
  have hb := X.1.2.1
  have hl : lv_has ls 2 [(0, .ref o), (1, .int x)] := hl
  refine lv_aload_n hx hb dX8_glows_0 rfl (lv_at hl 0 rfl) ?_
  refine r_get (T := TX10) (N := 4) (ci := 10) (v := .ref (gA g 1)) X hM iX10 rfl 3 (by decide) q_382 (Or.inl rfl) h_o rfl dX8_glows_1 ?_
  refine lv_iconst (v := 1) hx hb dX8_glows_4 (by decide) ?_
  refine K_i (G_V (As := [.int 1]) (rest := []) X hM (c_X5_tell l g _ (gA g 1) (gA g 2) 20 tf 20 1 tc 1 h1 h2 (by decide) (X.2.ne (i := 1) (j := 2) (by decide) (by decide) (by decide))) lk_X8_23 h1 rfl rfl hl.1 rfl (Nat.le_of_ble_eq_true rfl) (by decide) dX8_glows_5 ⟨Nat.le_of_ble_eq_true rfl, Nat.le_of_ble_eq_true rfl⟩) hM (fun r M1 H locs hM hp => ?_)
  obtain ⟨rfl, rfl⟩ := hp
  have hM : MW g (mup (mup M (gA g 2) (aI g 20 (fPut 20 tf tc 1))) (gA g 1) (rowsE (gA g 2) 20 1 (tc + 1))) H locs := hM
  refine lv_pop hx hb dX8_glows_8 rfl ?_
  refine lv_iload_n hx hb dX8_glows_9 rfl (lv_at hl 1 rfl) ?_
  refine lv_aload_n hx hb dX8_glows_10 rfl (lv_at hl 0 rfl) ?_
  refine r_get (T := TX10) (N := 4) (ci := 10) (v := .int nu) X hM iX10 rfl 1 (by decide) q_366 (Or.inl rfl) (mup_r (ne_kind h_o h1 (ne_cls (by decide))) (mup_r (ne_kind h_o h2 Sum.inr_ne_inl) h_o)) rfl dX8_glows_11 ?_
  refine lv_iadd hx hb dX8_glows_14 ?_
  exact R_i X hr hk hM ⟨rfl, rfl⟩ dX8_glows_15
set_option maxHeartbeats 4000000 in
set_option maxRecDepth 100000 in
theorem c_X8_glows_k5 (l : Launch) (g : Gp) (M : Mem) (kk nu v : Int32) (o : Nat) (x tc : Int32) (tf : Nat → Int32) (h_o : M o = some (starE5 g kk nu v)) (h1 : M (gA g 1) = some (rowsE (gA g 2) 20 1 tc)) (h2 : M (gA g 2) = some (aI g 20 tf)) : Met l yX8_glows (wsM yX8_glows cX8_glows 2 (some .int)) (rmD 2 0 0) (Pre g M [.ref o, .int x]) (Qi g (fun r M1 => ((gloS nu x (tc, tf)).1) = r ∧ mup (mup M (gA g 2) (aI g 20 ((gloS nu x (tc, tf)).2.2))) (gA g 1) (rowsE (gA g 2) 20 1 ((gloS nu x (tc, tf)).2.1)) = M1)) 0 0 (gF g) := M_start (by decide +kernel) (Nat.le_of_ble_eq_true rfl) fun p e s m args below meth c ls X hr hk hnm hM hl => by
  have X : Cx g p m c cX8_glows 2 s args RX8 := X
  have hx := X.1.1
  have hb := X.1.2.1
  have hl : lv_has ls 2 [(0, .ref o), (1, .int x)] := hl
  refine lv_aload_n hx hb dX8_glows_0 rfl (lv_at hl 0 rfl) ?_
  refine r_get (T := TX1) (N := 4) (ci := 1) (v := .ref (gA g 1)) X hM iX1 rfl 3 (by decide) q_382 (Or.inl rfl) h_o rfl dX8_glows_1 ?_
  refine lv_iconst (v := 1) hx hb dX8_glows_4 (by decide) ?_
  refine K_i (G_V (As := [.int 1]) (rest := []) X hM (c_X5_tell l g _ (gA g 1) (gA g 2) 20 tf 20 1 tc 1 h1 h2 (by decide) (X.2.ne (i := 1) (j := 2) (by decide) (by decide) (by decide))) lk_X8_23 h1 rfl rfl hl.1 rfl (Nat.le_of_ble_eq_true rfl) (by decide) dX8_glows_5 ⟨Nat.le_of_ble_eq_true rfl, Nat.le_of_ble_eq_true rfl⟩) hM (fun r M1 H locs hM hp => ?_)
  obtain ⟨rfl, rfl⟩ := hp
  have hM : MW g (mup (mup M (gA g 2) (aI g 20 (fPut 20 tf tc 1))) (gA g 1) (rowsE (gA g 2) 20 1 (tc + 1))) H locs := hM
  refine lv_pop hx hb dX8_glows_8 rfl ?_
  refine lv_iload_n hx hb dX8_glows_9 rfl (lv_at hl 1 rfl) ?_
  refine lv_aload_n hx hb dX8_glows_10 rfl (lv_at hl 0 rfl) ?_
  refine r_get (T := TX1) (N := 4) (ci := 1) (v := .int nu) X hM iX1 rfl 1 (by decide) q_366 (Or.inl rfl) (mup_r (ne_kind h_o h1 (ne_cls (by decide))) (mup_r (ne_kind h_o h2 Sum.inr_ne_inl) h_o)) rfl dX8_glows_11 ?_
  refine lv_iadd hx hb dX8_glows_14 ?_
  exact R_i X hr hk hM ⟨rfl, rfl⟩ dX8_glows_15
set_option maxHeartbeats 4000000 in
set_option maxRecDepth 100000 in
theorem c_X8_glows_k6 (l : Launch) (g : Gp) (M : Mem) (kk nu v : Int32) (o : Nat) (x tc : Int32) (tf : Nat → Int32) (h_o : M o = some (starE6 g kk nu v)) (h1 : M (gA g 1) = some (rowsE (gA g 2) 20 1 tc)) (h2 : M (gA g 2) = some (aI g 20 tf)) : Met l yX8_glows (wsM yX8_glows cX8_glows 2 (some .int)) (rmD 2 0 0) (Pre g M [.ref o, .int x]) (Qi g (fun r M1 => ((gloS nu x (tc, tf)).1) = r ∧ mup (mup M (gA g 2) (aI g 20 ((gloS nu x (tc, tf)).2.2))) (gA g 1) (rowsE (gA g 2) 20 1 ((gloS nu x (tc, tf)).2.1)) = M1)) 0 0 (gF g) := M_start (by decide +kernel) (Nat.le_of_ble_eq_true rfl) fun p e s m args below meth c ls X hr hk hnm hM hl => by
  have X : Cx g p m c cX8_glows 2 s args RX8 := X
  have hx := X.1.1
  have hb := X.1.2.1
  have hl : lv_has ls 2 [(0, .ref o), (1, .int x)] := hl
  refine lv_aload_n hx hb dX8_glows_0 rfl (lv_at hl 0 rfl) ?_
  refine r_get (T := TX9) (N := 4) (ci := 9) (v := .ref (gA g 1)) X hM iX9 rfl 3 (by decide) q_382 (Or.inl rfl) h_o rfl dX8_glows_1 ?_
  refine lv_iconst (v := 1) hx hb dX8_glows_4 (by decide) ?_
  refine K_i (G_V (As := [.int 1]) (rest := []) X hM (c_X5_tell l g _ (gA g 1) (gA g 2) 20 tf 20 1 tc 1 h1 h2 (by decide) (X.2.ne (i := 1) (j := 2) (by decide) (by decide) (by decide))) lk_X8_23 h1 rfl rfl hl.1 rfl (Nat.le_of_ble_eq_true rfl) (by decide) dX8_glows_5 ⟨Nat.le_of_ble_eq_true rfl, Nat.le_of_ble_eq_true rfl⟩) hM (fun r M1 H locs hM hp => ?_)
  obtain ⟨rfl, rfl⟩ := hp
  have hM : MW g (mup (mup M (gA g 2) (aI g 20 (fPut 20 tf tc 1))) (gA g 1) (rowsE (gA g 2) 20 1 (tc + 1))) H locs := hM
  refine lv_pop hx hb dX8_glows_8 rfl ?_
  refine lv_iload_n hx hb dX8_glows_9 rfl (lv_at hl 1 rfl) ?_
  refine lv_aload_n hx hb dX8_glows_10 rfl (lv_at hl 0 rfl) ?_
  refine r_get (T := TX9) (N := 4) (ci := 9) (v := .int nu) X hM iX9 rfl 1 (by decide) q_366 (Or.inl rfl) (mup_r (ne_kind h_o h1 (ne_cls (by decide))) (mup_r (ne_kind h_o h2 Sum.inr_ne_inl) h_o)) rfl dX8_glows_11 ?_
  refine lv_iadd hx hb dX8_glows_14 ?_
  exact R_i X hr hk hM ⟨rfl, rfl⟩ dX8_glows_15
set_option maxHeartbeats 4000000 in
set_option maxRecDepth 100000 in
theorem c_X2_glows_k1 (l : Launch) (g : Gp) (M : Mem) (kk nu v : Int32) (o : Nat) (x tc : Int32) (tf : Nat → Int32) (h_o : M o = some (starE1 g kk nu v)) (h1 : M (gA g 1) = some (rowsE (gA g 2) 20 1 tc)) (h2 : M (gA g 2) = some (aI g 20 tf)) : Met l yX2_glows (wsM yX2_glows cX2_glows 2 (some .int)) (rmD 3 0 0) (Pre g M [.ref o, .int x]) (Qi g (fun r M1 => ((gloM nu x (tc, tf)).1) = r ∧ mup (mup M (gA g 2) (aI g 20 ((gloM nu x (tc, tf)).2.2))) (gA g 1) (rowsE (gA g 2) 20 1 ((gloM nu x (tc, tf)).2.1)) = M1)) 0 0 (gF g) := M_start (by decide +kernel) (Nat.le_of_ble_eq_true rfl) fun p e s m args below meth c ls X hr hk hnm hM hl => by
  have X : Cx g p m c cX2_glows 2 s args RX2 := X
  have hx := X.1.1
  have hb := X.1.2.1
  have hl : lv_has ls 2 [(0, .ref o), (1, .int x)] := hl
  refine lv_aload_n hx hb dX2_glows_0 rfl (lv_at hl 0 rfl) ?_
  refine r_get (T := TX2) (N := 4) (ci := 2) (v := .ref (gA g 1)) X hM iX2 rfl 3 (by decide) q_391 (Or.inr q_392) h_o rfl dX2_glows_1 ?_
  refine lv_bipush (v := 11) hx hb dX2_glows_4 (by decide) ?_
  refine K_i (G_V (As := [.int 11]) (rest := []) X hM (c_X5_tell l g _ (gA g 1) (gA g 2) 20 tf 20 1 tc 11 h1 h2 (by decide) (X.2.ne (i := 1) (j := 2) (by decide) (by decide) (by decide))) lk_X2_13 h1 rfl rfl hl.1 rfl (Nat.le_of_ble_eq_true rfl) (by decide) dX2_glows_6 ⟨Nat.le_of_ble_eq_true rfl, Nat.le_of_ble_eq_true rfl⟩) hM (fun r M1 H locs hM hp => ?_)
  obtain ⟨rfl, rfl⟩ := hp
  have hM : MW g (mup (mup M (gA g 2) (aI g 20 (fPut 20 tf tc 11))) (gA g 1) (rowsE (gA g 2) 20 1 (tc + 1))) H locs := hM
  refine lv_pop hx hb dX2_glows_9 rfl ?_
  refine lv_aload_n hx hb dX2_glows_10 rfl (lv_at hl 0 rfl) ?_
  refine lv_iload_n hx hb dX2_glows_11 rfl (lv_at hl 1 rfl) ?_
  refine lv_iconst (v := 3) hx hb dX2_glows_12 (by decide) ?_
  refine lv_imul hx hb dX2_glows_13 ?_
  refine K_i (G_X (As := [.int (x * 3)]) (rest := []) X hM (c_X8_glows_k1 l g _ kk nu v o (x * 3) (tc + 1) (fPut 20 tf tc 11) (mup_r (ne_kind h_o h1 (ne_cls (by decide))) (mup_r (ne_kind h_o h2 Sum.inr_ne_inl) h_o)) (mup_s _ _ _) (mup_r (X.2.ne (i := 2) (j := 1) (by decide) (by decide) (by decide)) (mup_s _ _ _)) ) lx_X2_19 (mup_r (ne_kind h_o h1 (ne_cls (by decide))) (mup_r (ne_kind h_o h2 Sum.inr_ne_inl) h_o)) rfl rfl hl.1 rfl (Nat.le_of_ble_eq_true rfl) (by decide) dX2_glows_14 ⟨Nat.le_of_ble_eq_true rfl, Nat.le_of_ble_eq_true rfl⟩) hM (fun r M1 H locs hM hp => ?_)
  obtain ⟨rfl, rfl⟩ := hp
  rw [mup_w _ _ _ (X.2.ne (i := 1) (j := 2) (by decide) (by decide) (by decide)), mup_i] at hM
  rw [mup_i] at hM
  have hM : MW g (mup (mup M (gA g 2) (aI g 20 ((gloS nu (x * 3) ((tc + 1), (fPut 20 tf tc 11))).2.2))) (gA g 1) (rowsE (gA g 2) 20 1 ((gloS nu (x * 3) ((tc + 1), (fPut 20 tf tc 11))).2.1))) H locs := hM
  exact R_i X hr hk hM ⟨rfl, rfl⟩ dX2_glows_17
set_option maxHeartbeats 4000000 in
set_option maxRecDepth 100000 in
theorem c_X2_glows_k4 (l : Launch) (g : Gp) (M : Mem) (kk nu v : Int32) (o : Nat) (x tc : Int32) (tf : Nat → Int32) (h_o : M o = some (starE4 g kk nu v)) (h1 : M (gA g 1) = some (rowsE (gA g 2) 20 1 tc)) (h2 : M (gA g 2) = some (aI g 20 tf)) : Met l yX2_glows (wsM yX2_glows cX2_glows 2 (some .int)) (rmD 3 0 0) (Pre g M [.ref o, .int x]) (Qi g (fun r M1 => ((gloM nu x (tc, tf)).1) = r ∧ mup (mup M (gA g 2) (aI g 20 ((gloM nu x (tc, tf)).2.2))) (gA g 1) (rowsE (gA g 2) 20 1 ((gloM nu x (tc, tf)).2.1)) = M1)) 0 0 (gF g) := M_start (by decide +kernel) (Nat.le_of_ble_eq_true rfl) fun p e s m args below meth c ls X hr hk hnm hM hl => by
  have X : Cx g p m c cX2_glows 2 s args RX2 := X
  have hx := X.1.1
  have hb := X.1.2.1
  have hl : lv_has ls 2 [(0, .ref o), (1, .int x)] := hl
  refine lv_aload_n hx hb dX2_glows_0 rfl (lv_at hl 0 rfl) ?_
  refine r_get (T := TX10) (N := 4) (ci := 10) (v := .ref (gA g 1)) X hM iX10 rfl 3 (by decide) q_391 (Or.inr q_392) h_o rfl dX2_glows_1 ?_
  refine lv_bipush (v := 11) hx hb dX2_glows_4 (by decide) ?_
  refine K_i (G_V (As := [.int 11]) (rest := []) X hM (c_X5_tell l g _ (gA g 1) (gA g 2) 20 tf 20 1 tc 11 h1 h2 (by decide) (X.2.ne (i := 1) (j := 2) (by decide) (by decide) (by decide))) lk_X2_13 h1 rfl rfl hl.1 rfl (Nat.le_of_ble_eq_true rfl) (by decide) dX2_glows_6 ⟨Nat.le_of_ble_eq_true rfl, Nat.le_of_ble_eq_true rfl⟩) hM (fun r M1 H locs hM hp => ?_)
  obtain ⟨rfl, rfl⟩ := hp
  have hM : MW g (mup (mup M (gA g 2) (aI g 20 (fPut 20 tf tc 11))) (gA g 1) (rowsE (gA g 2) 20 1 (tc + 1))) H locs := hM
  refine lv_pop hx hb dX2_glows_9 rfl ?_
  refine lv_aload_n hx hb dX2_glows_10 rfl (lv_at hl 0 rfl) ?_
  refine lv_iload_n hx hb dX2_glows_11 rfl (lv_at hl 1 rfl) ?_
  refine lv_iconst (v := 3) hx hb dX2_glows_12 (by decide) ?_
  refine lv_imul hx hb dX2_glows_13 ?_
  refine K_i (G_X (As := [.int (x * 3)]) (rest := []) X hM (c_X8_glows_k4 l g _ kk nu v o (x * 3) (tc + 1) (fPut 20 tf tc 11) (mup_r (ne_kind h_o h1 (ne_cls (by decide))) (mup_r (ne_kind h_o h2 Sum.inr_ne_inl) h_o)) (mup_s _ _ _) (mup_r (X.2.ne (i := 2) (j := 1) (by decide) (by decide) (by decide)) (mup_s _ _ _)) ) lx_X2_19 (mup_r (ne_kind h_o h1 (ne_cls (by decide))) (mup_r (ne_kind h_o h2 Sum.inr_ne_inl) h_o)) rfl rfl hl.1 rfl (Nat.le_of_ble_eq_true rfl) (by decide) dX2_glows_14 ⟨Nat.le_of_ble_eq_true rfl, Nat.le_of_ble_eq_true rfl⟩) hM (fun r M1 H locs hM hp => ?_)
  obtain ⟨rfl, rfl⟩ := hp
  rw [mup_w _ _ _ (X.2.ne (i := 1) (j := 2) (by decide) (by decide) (by decide)), mup_i] at hM
  rw [mup_i] at hM
  have hM : MW g (mup (mup M (gA g 2) (aI g 20 ((gloS nu (x * 3) ((tc + 1), (fPut 20 tf tc 11))).2.2))) (gA g 1) (rowsE (gA g 2) 20 1 ((gloS nu (x * 3) ((tc + 1), (fPut 20 tf tc 11))).2.1))) H locs := hM
  exact R_i X hr hk hM ⟨rfl, rfl⟩ dX2_glows_17
set_option maxHeartbeats 4000000 in
set_option maxRecDepth 100000 in
theorem c_X1_glows_k5 (l : Launch) (g : Gp) (M : Mem) (kk nu v : Int32) (o : Nat) (x tc : Int32) (tf : Nat → Int32) (h_o : M o = some (starE5 g kk nu v)) (h1 : M (gA g 1) = some (rowsE (gA g 2) 20 1 tc)) (h2 : M (gA g 2) = some (aI g 20 tf)) : Met l yX1_glows (wsM yX1_glows cX1_glows 2 (some .int)) (rmD 3 0 0) (Pre g M [.ref o, .int x]) (Qi g (fun r M1 => ((gloG nu x (tc, tf)).1) = r ∧ mup (mup M (gA g 2) (aI g 20 ((gloG nu x (tc, tf)).2.2))) (gA g 1) (rowsE (gA g 2) 20 1 ((gloG nu x (tc, tf)).2.1)) = M1)) 0 0 (gF g) := M_start (by decide +kernel) (Nat.le_of_ble_eq_true rfl) fun p e s m args below meth c ls X hr hk hnm hM hl => by
  have X : Cx g p m c cX1_glows 2 s args RX1 := X
  have hx := X.1.1
  have hb := X.1.2.1
  have hl : lv_has ls 2 [(0, .ref o), (1, .int x)] := hl
  refine lv_aload_n hx hb dX1_glows_0 rfl (lv_at hl 0 rfl) ?_
  refine r_get (T := TX1) (N := 4) (ci := 1) (v := .ref (gA g 1)) X hM iX1 rfl 3 (by decide) q_389 (Or.inr q_390) h_o rfl dX1_glows_1 ?_
  refine lv_bipush (v := 51) hx hb dX1_glows_4 (by decide) ?_
  refine K_i (G_V (As := [.int 51]) (rest := []) X hM (c_X5_tell l g _ (gA g 1) (gA g 2) 20 tf 20 1 tc 51 h1 h2 (by decide) (X.2.ne (i := 1) (j := 2) (by decide) (by decide) (by decide))) lk_X1_25 h1 rfl rfl hl.1 rfl (Nat.le_of_ble_eq_true rfl) (by decide) dX1_glows_6 ⟨Nat.le_of_ble_eq_true rfl, Nat.le_of_ble_eq_true rfl⟩) hM (fun r M1 H locs hM hp => ?_)
  obtain ⟨rfl, rfl⟩ := hp
  have hM : MW g (mup (mup M (gA g 2) (aI g 20 (fPut 20 tf tc 51))) (gA g 1) (rowsE (gA g 2) 20 1 (tc + 1))) H locs := hM
  refine lv_pop hx hb dX1_glows_9 rfl ?_
  refine lv_aload_n hx hb dX1_glows_10 rfl (lv_at hl 0 rfl) ?_
  refine lv_iload_n hx hb dX1_glows_11 rfl (lv_at hl 1 rfl) ?_
  refine K_i (G_X (As := [.int x]) (rest := []) X hM (c_X8_glows_k5 l g _ kk nu v o x (tc + 1) (fPut 20 tf tc 51) (mup_r (ne_kind h_o h1 (ne_cls (by decide))) (mup_r (ne_kind h_o h2 Sum.inr_ne_inl) h_o)) (mup_s _ _ _) (mup_r (X.2.ne (i := 2) (j := 1) (by decide) (by decide) (by decide)) (mup_s _ _ _)) ) lx_X1_31 (mup_r (ne_kind h_o h1 (ne_cls (by decide))) (mup_r (ne_kind h_o h2 Sum.inr_ne_inl) h_o)) rfl rfl hl.1 rfl (Nat.le_of_ble_eq_true rfl) (by decide) dX1_glows_12 ⟨Nat.le_of_ble_eq_true rfl, Nat.le_of_ble_eq_true rfl⟩) hM (fun r M1 H locs hM hp => ?_)
  obtain ⟨rfl, rfl⟩ := hp
  rw [mup_w _ _ _ (X.2.ne (i := 1) (j := 2) (by decide) (by decide) (by decide)), mup_i] at hM
  rw [mup_i] at hM
  have hM : MW g (mup (mup M (gA g 2) (aI g 20 ((gloS nu x ((tc + 1), (fPut 20 tf tc 51))).2.2))) (gA g 1) (rowsE (gA g 2) 20 1 ((gloS nu x ((tc + 1), (fPut 20 tf tc 51))).2.1))) H locs := hM
  refine lv_aload_n hx hb dX1_glows_15 rfl (lv_at hl 0 rfl) ?_
  refine r_get (T := TX1) (N := 4) (ci := 1) (v := .int nu) X hM iX1 rfl 1 (by decide) q_367 (Or.inr q_368) (mup_r (ne_kind h_o h1 (ne_cls (by decide))) (mup_r (ne_kind h_o h2 Sum.inr_ne_inl) h_o)) rfl dX1_glows_16 ?_
  refine lv_ixor hx hb dX1_glows_19 ?_
  exact R_i X hr hk hM ⟨rfl, rfl⟩ dX1_glows_20
set_option maxHeartbeats 4000000 in
set_option maxRecDepth 100000 in
theorem c_X8_claims_k0 (l : Launch) (g : Gp) (M : Mem) (kk nu v : Int32) (o : Nat) (x tc : Int32) (tf : Nat → Int32) (h_o : M o = some (starE0 g kk nu v)) (h1 : M (gA g 1) = some (rowsE (gA g 2) 20 1 tc)) (h2 : M (gA g 2) = some (aI g 20 tf)) : Met l yX8_claims (wsM yX8_claims cX8_claims 2 (some .int)) (rmD 4 0 0) (Pre g M [.ref o, .int x]) (Qi g (fun r M1 => ((claS 0 nu v x (tc, tf)).1) = r ∧ mup (mup M (gA g 2) (aI g 20 ((claS 0 nu v x (tc, tf)).2.2))) (gA g 1) (rowsE (gA g 2) 20 1 ((claS 0 nu v x (tc, tf)).2.1)) = M1)) 0 0 (gF g) := M_start (by decide +kernel) (Nat.le_of_ble_eq_true rfl) fun p e s m args below meth c ls X hr hk hnm hM hl => by
  have X : Cx g p m c cX8_claims 2 s args RX8 := X
  have hx := X.1.1
  have hb := X.1.2.1
  have hl : lv_has ls 2 [(0, .ref o), (1, .int x)] := hl
  refine lv_aload_n hx hb dX8_claims_0 rfl (lv_at hl 0 rfl) ?_
  refine r_get (T := TX8) (N := 4) (ci := 8) (v := .ref (gA g 1)) X hM iX8 rfl 3 (by decide) q_382 (Or.inl rfl) h_o rfl dX8_claims_1 ?_
  refine lv_iconst (v := 2) hx hb dX8_claims_4 (by decide) ?_
  refine K_i (G_V (As := [.int 2]) (rest := []) X hM (c_X5_tell l g _ (gA g 1) (gA g 2) 20 tf 20 1 tc 2 h1 h2 (by decide) (X.2.ne (i := 1) (j := 2) (by decide) (by decide) (by decide))) lk_X8_23 h1 rfl rfl hl.1 rfl (Nat.le_of_ble_eq_true rfl) (by decide) dX8_claims_5 ⟨Nat.le_of_ble_eq_true rfl, Nat.le_of_ble_eq_true rfl⟩) hM (fun r M1 H locs hM hp => ?_)
  obtain ⟨rfl, rfl⟩ := hp
  have hM : MW g (mup (mup M (gA g 2) (aI g 20 (fPut 20 tf tc 2))) (gA g 1) (rowsE (gA g 2) 20 1 (tc + 1))) H locs := hM
  refine lv_pop hx hb dX8_claims_8 rfl ?_
  refine lv_aload_n hx hb dX8_claims_9 rfl (lv_at hl 0 rfl) ?_
  refine lv_iload_n hx hb dX8_claims_10 rfl (lv_at hl 1 rfl) ?_
  refine K_i (G_U (As := [.int x]) (rest := []) X hM (c_X8_glows_k0 l g _ kk nu v o x (tc + 1) (fPut 20 tf tc 2) (mup_r (ne_kind h_o h1 (ne_cls (by decide))) (mup_r (ne_kind h_o h2 Sum.inr_ne_inl) h_o)) (mup_s _ _ _) (mup_r (X.2.ne (i := 2) (j := 1) (by decide) (by decide) (by decide)) (mup_s _ _ _)) ) lu_X8_29_X8 (mup_r (ne_kind h_o h1 (ne_cls (by decide))) (mup_r (ne_kind h_o h2 Sum.inr_ne_inl) h_o)) rfl rfl hl.1 rfl (Nat.le_of_ble_eq_true rfl) (by decide) dX8_claims_11 ⟨Nat.le_of_ble_eq_true rfl, Nat.le_of_ble_eq_true rfl⟩) hM (fun r M1 H locs hM hp => ?_)
  obtain ⟨rfl, rfl⟩ := hp
  rw [mup_w _ _ _ (X.2.ne (i := 1) (j := 2) (by decide) (by decide) (by decide)), mup_i] at hM
  rw [mup_i] at hM
  have hM : MW g (mup (mup M (gA g 2) (aI g 20 ((gloS nu x ((tc + 1), (fPut 20 tf tc 2))).2.2))) (gA g 1) (rowsE (gA g 2) 20 1 ((gloS nu x ((tc + 1), (fPut 20 tf tc 2))).2.1))) H locs := hM
  refine lv_aload_n hx hb dX8_claims_14 rfl (lv_at hl 0 rfl) ?_
  refine r_get (T := TX8) (N := 4) (ci := 8) (v := .int v) X hM iX8 rfl 2 (by decide) q_372 (Or.inl rfl) (mup_r (ne_kind h_o h1 (ne_cls (by decide))) (mup_r (ne_kind h_o h2 Sum.inr_ne_inl) h_o)) rfl dX8_claims_15 ?_
  refine lv_isub hx hb dX8_claims_18 ?_
  exact R_i X hr hk hM ⟨rfl, rfl⟩ dX8_claims_19
set_option maxHeartbeats 4000000 in
set_option maxRecDepth 100000 in
theorem c_X8_claims_k1 (l : Launch) (g : Gp) (M : Mem) (kk nu v : Int32) (o : Nat) (x tc : Int32) (tf : Nat → Int32) (h_o : M o = some (starE1 g kk nu v)) (h1 : M (gA g 1) = some (rowsE (gA g 2) 20 1 tc)) (h2 : M (gA g 2) = some (aI g 20 tf)) : Met l yX8_claims (wsM yX8_claims cX8_claims 2 (some .int)) (rmD 4 0 0) (Pre g M [.ref o, .int x]) (Qi g (fun r M1 => ((claS 1 nu v x (tc, tf)).1) = r ∧ mup (mup M (gA g 2) (aI g 20 ((claS 1 nu v x (tc, tf)).2.2))) (gA g 1) (rowsE (gA g 2) 20 1 ((claS 1 nu v x (tc, tf)).2.1)) = M1)) 0 0 (gF g) := M_start (by decide +kernel) (Nat.le_of_ble_eq_true rfl) fun p e s m args below meth c ls X hr hk hnm hM hl => by
  have X : Cx g p m c cX8_claims 2 s args RX8 := X
  have hx := X.1.1
  have hb := X.1.2.1
  have hl : lv_has ls 2 [(0, .ref o), (1, .int x)] := hl
  refine lv_aload_n hx hb dX8_claims_0 rfl (lv_at hl 0 rfl) ?_
  refine r_get (T := TX2) (N := 4) (ci := 2) (v := .ref (gA g 1)) X hM iX2 rfl 3 (by decide) q_382 (Or.inl rfl) h_o rfl dX8_claims_1 ?_
  refine lv_iconst (v := 2) hx hb dX8_claims_4 (by decide) ?_
  refine K_i (G_V (As := [.int 2]) (rest := []) X hM (c_X5_tell l g _ (gA g 1) (gA g 2) 20 tf 20 1 tc 2 h1 h2 (by decide) (X.2.ne (i := 1) (j := 2) (by decide) (by decide) (by decide))) lk_X8_23 h1 rfl rfl hl.1 rfl (Nat.le_of_ble_eq_true rfl) (by decide) dX8_claims_5 ⟨Nat.le_of_ble_eq_true rfl, Nat.le_of_ble_eq_true rfl⟩) hM (fun r M1 H locs hM hp => ?_)
  obtain ⟨rfl, rfl⟩ := hp
  have hM : MW g (mup (mup M (gA g 2) (aI g 20 (fPut 20 tf tc 2))) (gA g 1) (rowsE (gA g 2) 20 1 (tc + 1))) H locs := hM
  refine lv_pop hx hb dX8_claims_8 rfl ?_
  refine lv_aload_n hx hb dX8_claims_9 rfl (lv_at hl 0 rfl) ?_
  refine lv_iload_n hx hb dX8_claims_10 rfl (lv_at hl 1 rfl) ?_
  refine K_i (G_U (As := [.int x]) (rest := []) X hM (c_X2_glows_k1 l g _ kk nu v o x (tc + 1) (fPut 20 tf tc 2) (mup_r (ne_kind h_o h1 (ne_cls (by decide))) (mup_r (ne_kind h_o h2 Sum.inr_ne_inl) h_o)) (mup_s _ _ _) (mup_r (X.2.ne (i := 2) (j := 1) (by decide) (by decide) (by decide)) (mup_s _ _ _)) ) lu_X8_29_X2 (mup_r (ne_kind h_o h1 (ne_cls (by decide))) (mup_r (ne_kind h_o h2 Sum.inr_ne_inl) h_o)) rfl rfl hl.1 rfl (Nat.le_of_ble_eq_true rfl) (by decide) dX8_claims_11 ⟨Nat.le_of_ble_eq_true rfl, Nat.le_of_ble_eq_true rfl⟩) hM (fun r M1 H locs hM hp => ?_)
  obtain ⟨rfl, rfl⟩ := hp
  rw [mup_w _ _ _ (X.2.ne (i := 1) (j := 2) (by decide) (by decide) (by decide)), mup_i] at hM
  rw [mup_i] at hM
  have hM : MW g (mup (mup M (gA g 2) (aI g 20 ((gloM nu x ((tc + 1), (fPut 20 tf tc 2))).2.2))) (gA g 1) (rowsE (gA g 2) 20 1 ((gloM nu x ((tc + 1), (fPut 20 tf tc 2))).2.1))) H locs := hM
  refine lv_aload_n hx hb dX8_claims_14 rfl (lv_at hl 0 rfl) ?_
  refine r_get (T := TX2) (N := 4) (ci := 2) (v := .int v) X hM iX2 rfl 2 (by decide) q_372 (Or.inl rfl) (mup_r (ne_kind h_o h1 (ne_cls (by decide))) (mup_r (ne_kind h_o h2 Sum.inr_ne_inl) h_o)) rfl dX8_claims_15 ?_
  refine lv_isub hx hb dX8_claims_18 ?_
  exact R_i X hr hk hM ⟨rfl, rfl⟩ dX8_claims_19
set_option maxHeartbeats 4000000 in
set_option maxRecDepth 100000 in
theorem c_X8_claims_k2 (l : Launch) (g : Gp) (M : Mem) (kk nu v : Int32) (o : Nat) (x tc : Int32) (tf : Nat → Int32) (h_o : M o = some (starE2 g kk nu v)) (h1 : M (gA g 1) = some (rowsE (gA g 2) 20 1 tc)) (h2 : M (gA g 2) = some (aI g 20 tf)) : Met l yX8_claims (wsM yX8_claims cX8_claims 2 (some .int)) (rmD 4 0 0) (Pre g M [.ref o, .int x]) (Qi g (fun r M1 => ((claS 2 nu v x (tc, tf)).1) = r ∧ mup (mup M (gA g 2) (aI g 20 ((claS 2 nu v x (tc, tf)).2.2))) (gA g 1) (rowsE (gA g 2) 20 1 ((claS 2 nu v x (tc, tf)).2.1)) = M1)) 0 0 (gF g) := M_start (by decide +kernel) (Nat.le_of_ble_eq_true rfl) fun p e s m args below meth c ls X hr hk hnm hM hl => by
  have X : Cx g p m c cX8_claims 2 s args RX8 := X
  have hx := X.1.1
  have hb := X.1.2.1
  have hl : lv_has ls 2 [(0, .ref o), (1, .int x)] := hl
  refine lv_aload_n hx hb dX8_claims_0 rfl (lv_at hl 0 rfl) ?_
  refine r_get (T := TX0) (N := 4) (ci := 0) (v := .ref (gA g 1)) X hM iX0 rfl 3 (by decide) q_382 (Or.inl rfl) h_o rfl dX8_claims_1 ?_
  refine lv_iconst (v := 2) hx hb dX8_claims_4 (by decide) ?_
  refine K_i (G_V (As := [.int 2]) (rest := []) X hM (c_X5_tell l g _ (gA g 1) (gA g 2) 20 tf 20 1 tc 2 h1 h2 (by decide) (X.2.ne (i := 1) (j := 2) (by decide) (by decide) (by decide))) lk_X8_23 h1 rfl rfl hl.1 rfl (Nat.le_of_ble_eq_true rfl) (by decide) dX8_claims_5 ⟨Nat.le_of_ble_eq_true rfl, Nat.le_of_ble_eq_true rfl⟩) hM (fun r M1 H locs hM hp => ?_)
  obtain ⟨rfl, rfl⟩ := hp
  have hM : MW g (mup (mup M (gA g 2) (aI g 20 (fPut 20 tf tc 2))) (gA g 1) (rowsE (gA g 2) 20 1 (tc + 1))) H locs := hM
  refine lv_pop hx hb dX8_claims_8 rfl ?_
  refine lv_aload_n hx hb dX8_claims_9 rfl (lv_at hl 0 rfl) ?_
  refine lv_iload_n hx hb dX8_claims_10 rfl (lv_at hl 1 rfl) ?_
  refine K_i (G_U (As := [.int x]) (rest := []) X hM (c_X8_glows_k2 l g _ kk nu v o x (tc + 1) (fPut 20 tf tc 2) (mup_r (ne_kind h_o h1 (ne_cls (by decide))) (mup_r (ne_kind h_o h2 Sum.inr_ne_inl) h_o)) (mup_s _ _ _) (mup_r (X.2.ne (i := 2) (j := 1) (by decide) (by decide) (by decide)) (mup_s _ _ _)) ) lu_X8_29_X0 (mup_r (ne_kind h_o h1 (ne_cls (by decide))) (mup_r (ne_kind h_o h2 Sum.inr_ne_inl) h_o)) rfl rfl hl.1 rfl (Nat.le_of_ble_eq_true rfl) (by decide) dX8_claims_11 ⟨Nat.le_of_ble_eq_true rfl, Nat.le_of_ble_eq_true rfl⟩) hM (fun r M1 H locs hM hp => ?_)
  obtain ⟨rfl, rfl⟩ := hp
  rw [mup_w _ _ _ (X.2.ne (i := 1) (j := 2) (by decide) (by decide) (by decide)), mup_i] at hM
  rw [mup_i] at hM
  have hM : MW g (mup (mup M (gA g 2) (aI g 20 ((gloS nu x ((tc + 1), (fPut 20 tf tc 2))).2.2))) (gA g 1) (rowsE (gA g 2) 20 1 ((gloS nu x ((tc + 1), (fPut 20 tf tc 2))).2.1))) H locs := hM
  refine lv_aload_n hx hb dX8_claims_14 rfl (lv_at hl 0 rfl) ?_
  refine r_get (T := TX0) (N := 4) (ci := 0) (v := .int v) X hM iX0 rfl 2 (by decide) q_372 (Or.inl rfl) (mup_r (ne_kind h_o h1 (ne_cls (by decide))) (mup_r (ne_kind h_o h2 Sum.inr_ne_inl) h_o)) rfl dX8_claims_15 ?_
  refine lv_isub hx hb dX8_claims_18 ?_
  exact R_i X hr hk hM ⟨rfl, rfl⟩ dX8_claims_19
set_option maxHeartbeats 4000000 in
set_option maxRecDepth 100000 in
theorem c_X8_claims_k3 (l : Launch) (g : Gp) (M : Mem) (kk nu v : Int32) (o : Nat) (x tc : Int32) (tf : Nat → Int32) (h_o : M o = some (starE3 g kk nu v)) (h1 : M (gA g 1) = some (rowsE (gA g 2) 20 1 tc)) (h2 : M (gA g 2) = some (aI g 20 tf)) : Met l yX8_claims (wsM yX8_claims cX8_claims 2 (some .int)) (rmD 4 0 0) (Pre g M [.ref o, .int x]) (Qi g (fun r M1 => ((claS 3 nu v x (tc, tf)).1) = r ∧ mup (mup M (gA g 2) (aI g 20 ((claS 3 nu v x (tc, tf)).2.2))) (gA g 1) (rowsE (gA g 2) 20 1 ((claS 3 nu v x (tc, tf)).2.1)) = M1)) 0 0 (gF g) := M_start (by decide +kernel) (Nat.le_of_ble_eq_true rfl) fun p e s m args below meth c ls X hr hk hnm hM hl => by
  have X : Cx g p m c cX8_claims 2 s args RX8 := X
  have hx := X.1.1
  have hb := X.1.2.1
  have hl : lv_has ls 2 [(0, .ref o), (1, .int x)] := hl
  refine lv_aload_n hx hb dX8_claims_0 rfl (lv_at hl 0 rfl) ?_
  refine r_get (T := TX3) (N := 4) (ci := 3) (v := .ref (gA g 1)) X hM iX3 rfl 3 (by decide) q_382 (Or.inl rfl) h_o rfl dX8_claims_1 ?_
  refine lv_iconst (v := 2) hx hb dX8_claims_4 (by decide) ?_
  refine K_i (G_V (As := [.int 2]) (rest := []) X hM (c_X5_tell l g _ (gA g 1) (gA g 2) 20 tf 20 1 tc 2 h1 h2 (by decide) (X.2.ne (i := 1) (j := 2) (by decide) (by decide) (by decide))) lk_X8_23 h1 rfl rfl hl.1 rfl (Nat.le_of_ble_eq_true rfl) (by decide) dX8_claims_5 ⟨Nat.le_of_ble_eq_true rfl, Nat.le_of_ble_eq_true rfl⟩) hM (fun r M1 H locs hM hp => ?_)
  obtain ⟨rfl, rfl⟩ := hp
  have hM : MW g (mup (mup M (gA g 2) (aI g 20 (fPut 20 tf tc 2))) (gA g 1) (rowsE (gA g 2) 20 1 (tc + 1))) H locs := hM
  refine lv_pop hx hb dX8_claims_8 rfl ?_
  refine lv_aload_n hx hb dX8_claims_9 rfl (lv_at hl 0 rfl) ?_
  refine lv_iload_n hx hb dX8_claims_10 rfl (lv_at hl 1 rfl) ?_
  refine K_i (G_U (As := [.int x]) (rest := []) X hM (c_X8_glows_k3 l g _ kk nu v o x (tc + 1) (fPut 20 tf tc 2) (mup_r (ne_kind h_o h1 (ne_cls (by decide))) (mup_r (ne_kind h_o h2 Sum.inr_ne_inl) h_o)) (mup_s _ _ _) (mup_r (X.2.ne (i := 2) (j := 1) (by decide) (by decide) (by decide)) (mup_s _ _ _)) ) lu_X8_29_X3 (mup_r (ne_kind h_o h1 (ne_cls (by decide))) (mup_r (ne_kind h_o h2 Sum.inr_ne_inl) h_o)) rfl rfl hl.1 rfl (Nat.le_of_ble_eq_true rfl) (by decide) dX8_claims_11 ⟨Nat.le_of_ble_eq_true rfl, Nat.le_of_ble_eq_true rfl⟩) hM (fun r M1 H locs hM hp => ?_)
  obtain ⟨rfl, rfl⟩ := hp
  rw [mup_w _ _ _ (X.2.ne (i := 1) (j := 2) (by decide) (by decide) (by decide)), mup_i] at hM
  rw [mup_i] at hM
  have hM : MW g (mup (mup M (gA g 2) (aI g 20 ((gloS nu x ((tc + 1), (fPut 20 tf tc 2))).2.2))) (gA g 1) (rowsE (gA g 2) 20 1 ((gloS nu x ((tc + 1), (fPut 20 tf tc 2))).2.1))) H locs := hM
  refine lv_aload_n hx hb dX8_claims_14 rfl (lv_at hl 0 rfl) ?_
  refine r_get (T := TX3) (N := 4) (ci := 3) (v := .int v) X hM iX3 rfl 2 (by decide) q_372 (Or.inl rfl) (mup_r (ne_kind h_o h1 (ne_cls (by decide))) (mup_r (ne_kind h_o h2 Sum.inr_ne_inl) h_o)) rfl dX8_claims_15 ?_
  refine lv_isub hx hb dX8_claims_18 ?_
  exact R_i X hr hk hM ⟨rfl, rfl⟩ dX8_claims_19
set_option maxHeartbeats 4000000 in
set_option maxRecDepth 100000 in
theorem c_X8_claims_k4 (l : Launch) (g : Gp) (M : Mem) (kk nu v : Int32) (o : Nat) (x tc : Int32) (tf : Nat → Int32) (h_o : M o = some (starE4 g kk nu v)) (h1 : M (gA g 1) = some (rowsE (gA g 2) 20 1 tc)) (h2 : M (gA g 2) = some (aI g 20 tf)) : Met l yX8_claims (wsM yX8_claims cX8_claims 2 (some .int)) (rmD 4 0 0) (Pre g M [.ref o, .int x]) (Qi g (fun r M1 => ((claS 4 nu v x (tc, tf)).1) = r ∧ mup (mup M (gA g 2) (aI g 20 ((claS 4 nu v x (tc, tf)).2.2))) (gA g 1) (rowsE (gA g 2) 20 1 ((claS 4 nu v x (tc, tf)).2.1)) = M1)) 0 0 (gF g) := M_start (by decide +kernel) (Nat.le_of_ble_eq_true rfl) fun p e s m args below meth c ls X hr hk hnm hM hl => by
  have X : Cx g p m c cX8_claims 2 s args RX8 := X
  have hx := X.1.1
  have hb := X.1.2.1
  have hl : lv_has ls 2 [(0, .ref o), (1, .int x)] := hl
  refine lv_aload_n hx hb dX8_claims_0 rfl (lv_at hl 0 rfl) ?_
  refine r_get (T := TX10) (N := 4) (ci := 10) (v := .ref (gA g 1)) X hM iX10 rfl 3 (by decide) q_382 (Or.inl rfl) h_o rfl dX8_claims_1 ?_
  refine lv_iconst (v := 2) hx hb dX8_claims_4 (by decide) ?_
  refine K_i (G_V (As := [.int 2]) (rest := []) X hM (c_X5_tell l g _ (gA g 1) (gA g 2) 20 tf 20 1 tc 2 h1 h2 (by decide) (X.2.ne (i := 1) (j := 2) (by decide) (by decide) (by decide))) lk_X8_23 h1 rfl rfl hl.1 rfl (Nat.le_of_ble_eq_true rfl) (by decide) dX8_claims_5 ⟨Nat.le_of_ble_eq_true rfl, Nat.le_of_ble_eq_true rfl⟩) hM (fun r M1 H locs hM hp => ?_)
  obtain ⟨rfl, rfl⟩ := hp
  have hM : MW g (mup (mup M (gA g 2) (aI g 20 (fPut 20 tf tc 2))) (gA g 1) (rowsE (gA g 2) 20 1 (tc + 1))) H locs := hM
  refine lv_pop hx hb dX8_claims_8 rfl ?_
  refine lv_aload_n hx hb dX8_claims_9 rfl (lv_at hl 0 rfl) ?_
  refine lv_iload_n hx hb dX8_claims_10 rfl (lv_at hl 1 rfl) ?_
  refine K_i (G_U (As := [.int x]) (rest := []) X hM (c_X2_glows_k4 l g _ kk nu v o x (tc + 1) (fPut 20 tf tc 2) (mup_r (ne_kind h_o h1 (ne_cls (by decide))) (mup_r (ne_kind h_o h2 Sum.inr_ne_inl) h_o)) (mup_s _ _ _) (mup_r (X.2.ne (i := 2) (j := 1) (by decide) (by decide) (by decide)) (mup_s _ _ _)) ) lu_X8_29_X10 (mup_r (ne_kind h_o h1 (ne_cls (by decide))) (mup_r (ne_kind h_o h2 Sum.inr_ne_inl) h_o)) rfl rfl hl.1 rfl (Nat.le_of_ble_eq_true rfl) (by decide) dX8_claims_11 ⟨Nat.le_of_ble_eq_true rfl, Nat.le_of_ble_eq_true rfl⟩) hM (fun r M1 H locs hM hp => ?_)
  obtain ⟨rfl, rfl⟩ := hp
  rw [mup_w _ _ _ (X.2.ne (i := 1) (j := 2) (by decide) (by decide) (by decide)), mup_i] at hM
  rw [mup_i] at hM
  have hM : MW g (mup (mup M (gA g 2) (aI g 20 ((gloM nu x ((tc + 1), (fPut 20 tf tc 2))).2.2))) (gA g 1) (rowsE (gA g 2) 20 1 ((gloM nu x ((tc + 1), (fPut 20 tf tc 2))).2.1))) H locs := hM
  refine lv_aload_n hx hb dX8_claims_14 rfl (lv_at hl 0 rfl) ?_
  refine r_get (T := TX10) (N := 4) (ci := 10) (v := .int v) X hM iX10 rfl 2 (by decide) q_372 (Or.inl rfl) (mup_r (ne_kind h_o h1 (ne_cls (by decide))) (mup_r (ne_kind h_o h2 Sum.inr_ne_inl) h_o)) rfl dX8_claims_15 ?_
  refine lv_isub hx hb dX8_claims_18 ?_
  exact R_i X hr hk hM ⟨rfl, rfl⟩ dX8_claims_19
set_option maxHeartbeats 4000000 in
set_option maxRecDepth 100000 in
theorem c_X8_claims_k5 (l : Launch) (g : Gp) (M : Mem) (kk nu v : Int32) (o : Nat) (x tc : Int32) (tf : Nat → Int32) (h_o : M o = some (starE5 g kk nu v)) (h1 : M (gA g 1) = some (rowsE (gA g 2) 20 1 tc)) (h2 : M (gA g 2) = some (aI g 20 tf)) : Met l yX8_claims (wsM yX8_claims cX8_claims 2 (some .int)) (rmD 4 0 0) (Pre g M [.ref o, .int x]) (Qi g (fun r M1 => ((claS 5 nu v x (tc, tf)).1) = r ∧ mup (mup M (gA g 2) (aI g 20 ((claS 5 nu v x (tc, tf)).2.2))) (gA g 1) (rowsE (gA g 2) 20 1 ((claS 5 nu v x (tc, tf)).2.1)) = M1)) 0 0 (gF g) := M_start (by decide +kernel) (Nat.le_of_ble_eq_true rfl) fun p e s m args below meth c ls X hr hk hnm hM hl => by
  have X : Cx g p m c cX8_claims 2 s args RX8 := X
  have hx := X.1.1
  have hb := X.1.2.1
  have hl : lv_has ls 2 [(0, .ref o), (1, .int x)] := hl
  refine lv_aload_n hx hb dX8_claims_0 rfl (lv_at hl 0 rfl) ?_
  refine r_get (T := TX1) (N := 4) (ci := 1) (v := .ref (gA g 1)) X hM iX1 rfl 3 (by decide) q_382 (Or.inl rfl) h_o rfl dX8_claims_1 ?_
  refine lv_iconst (v := 2) hx hb dX8_claims_4 (by decide) ?_
  refine K_i (G_V (As := [.int 2]) (rest := []) X hM (c_X5_tell l g _ (gA g 1) (gA g 2) 20 tf 20 1 tc 2 h1 h2 (by decide) (X.2.ne (i := 1) (j := 2) (by decide) (by decide) (by decide))) lk_X8_23 h1 rfl rfl hl.1 rfl (Nat.le_of_ble_eq_true rfl) (by decide) dX8_claims_5 ⟨Nat.le_of_ble_eq_true rfl, Nat.le_of_ble_eq_true rfl⟩) hM (fun r M1 H locs hM hp => ?_)
  obtain ⟨rfl, rfl⟩ := hp
  have hM : MW g (mup (mup M (gA g 2) (aI g 20 (fPut 20 tf tc 2))) (gA g 1) (rowsE (gA g 2) 20 1 (tc + 1))) H locs := hM
  refine lv_pop hx hb dX8_claims_8 rfl ?_
  refine lv_aload_n hx hb dX8_claims_9 rfl (lv_at hl 0 rfl) ?_
  refine lv_iload_n hx hb dX8_claims_10 rfl (lv_at hl 1 rfl) ?_
  refine K_i (G_U (As := [.int x]) (rest := []) X hM (c_X1_glows_k5 l g _ kk nu v o x (tc + 1) (fPut 20 tf tc 2) (mup_r (ne_kind h_o h1 (ne_cls (by decide))) (mup_r (ne_kind h_o h2 Sum.inr_ne_inl) h_o)) (mup_s _ _ _) (mup_r (X.2.ne (i := 2) (j := 1) (by decide) (by decide) (by decide)) (mup_s _ _ _)) ) lu_X8_29_X1 (mup_r (ne_kind h_o h1 (ne_cls (by decide))) (mup_r (ne_kind h_o h2 Sum.inr_ne_inl) h_o)) rfl rfl hl.1 rfl (Nat.le_of_ble_eq_true rfl) (by decide) dX8_claims_11 ⟨Nat.le_of_ble_eq_true rfl, Nat.le_of_ble_eq_true rfl⟩) hM (fun r M1 H locs hM hp => ?_)
  obtain ⟨rfl, rfl⟩ := hp
  rw [mup_w _ _ _ (X.2.ne (i := 1) (j := 2) (by decide) (by decide) (by decide)), mup_i] at hM
  rw [mup_i] at hM
  have hM : MW g (mup (mup M (gA g 2) (aI g 20 ((gloG nu x ((tc + 1), (fPut 20 tf tc 2))).2.2))) (gA g 1) (rowsE (gA g 2) 20 1 ((gloG nu x ((tc + 1), (fPut 20 tf tc 2))).2.1))) H locs := hM
  refine lv_aload_n hx hb dX8_claims_14 rfl (lv_at hl 0 rfl) ?_
  refine r_get (T := TX1) (N := 4) (ci := 1) (v := .int v) X hM iX1 rfl 2 (by decide) q_372 (Or.inl rfl) (mup_r (ne_kind h_o h1 (ne_cls (by decide))) (mup_r (ne_kind h_o h2 Sum.inr_ne_inl) h_o)) rfl dX8_claims_15 ?_
  refine lv_isub hx hb dX8_claims_18 ?_
  exact R_i X hr hk hM ⟨rfl, rfl⟩ dX8_claims_19
set_option maxHeartbeats 4000000 in
set_option maxRecDepth 100000 in
theorem c_X8_claims_k6 (l : Launch) (g : Gp) (M : Mem) (kk nu v : Int32) (o : Nat) (x tc : Int32) (tf : Nat → Int32) (h_o : M o = some (starE6 g kk nu v)) (h1 : M (gA g 1) = some (rowsE (gA g 2) 20 1 tc)) (h2 : M (gA g 2) = some (aI g 20 tf)) : Met l yX8_claims (wsM yX8_claims cX8_claims 2 (some .int)) (rmD 4 0 0) (Pre g M [.ref o, .int x]) (Qi g (fun r M1 => ((claS 6 nu v x (tc, tf)).1) = r ∧ mup (mup M (gA g 2) (aI g 20 ((claS 6 nu v x (tc, tf)).2.2))) (gA g 1) (rowsE (gA g 2) 20 1 ((claS 6 nu v x (tc, tf)).2.1)) = M1)) 0 0 (gF g) := M_start (by decide +kernel) (Nat.le_of_ble_eq_true rfl) fun p e s m args below meth c ls X hr hk hnm hM hl => by
  have X : Cx g p m c cX8_claims 2 s args RX8 := X
  have hx := X.1.1
  have hb := X.1.2.1
  have hl : lv_has ls 2 [(0, .ref o), (1, .int x)] := hl
  refine lv_aload_n hx hb dX8_claims_0 rfl (lv_at hl 0 rfl) ?_
  refine r_get (T := TX9) (N := 4) (ci := 9) (v := .ref (gA g 1)) X hM iX9 rfl 3 (by decide) q_382 (Or.inl rfl) h_o rfl dX8_claims_1 ?_
  refine lv_iconst (v := 2) hx hb dX8_claims_4 (by decide) ?_
  refine K_i (G_V (As := [.int 2]) (rest := []) X hM (c_X5_tell l g _ (gA g 1) (gA g 2) 20 tf 20 1 tc 2 h1 h2 (by decide) (X.2.ne (i := 1) (j := 2) (by decide) (by decide) (by decide))) lk_X8_23 h1 rfl rfl hl.1 rfl (Nat.le_of_ble_eq_true rfl) (by decide) dX8_claims_5 ⟨Nat.le_of_ble_eq_true rfl, Nat.le_of_ble_eq_true rfl⟩) hM (fun r M1 H locs hM hp => ?_)
  obtain ⟨rfl, rfl⟩ := hp
  have hM : MW g (mup (mup M (gA g 2) (aI g 20 (fPut 20 tf tc 2))) (gA g 1) (rowsE (gA g 2) 20 1 (tc + 1))) H locs := hM
  refine lv_pop hx hb dX8_claims_8 rfl ?_
  refine lv_aload_n hx hb dX8_claims_9 rfl (lv_at hl 0 rfl) ?_
  refine lv_iload_n hx hb dX8_claims_10 rfl (lv_at hl 1 rfl) ?_
  refine K_i (G_U (As := [.int x]) (rest := []) X hM (c_X8_glows_k6 l g _ kk nu v o x (tc + 1) (fPut 20 tf tc 2) (mup_r (ne_kind h_o h1 (ne_cls (by decide))) (mup_r (ne_kind h_o h2 Sum.inr_ne_inl) h_o)) (mup_s _ _ _) (mup_r (X.2.ne (i := 2) (j := 1) (by decide) (by decide) (by decide)) (mup_s _ _ _)) ) lu_X8_29_X9 (mup_r (ne_kind h_o h1 (ne_cls (by decide))) (mup_r (ne_kind h_o h2 Sum.inr_ne_inl) h_o)) rfl rfl hl.1 rfl (Nat.le_of_ble_eq_true rfl) (by decide) dX8_claims_11 ⟨Nat.le_of_ble_eq_true rfl, Nat.le_of_ble_eq_true rfl⟩) hM (fun r M1 H locs hM hp => ?_)
  obtain ⟨rfl, rfl⟩ := hp
  rw [mup_w _ _ _ (X.2.ne (i := 1) (j := 2) (by decide) (by decide) (by decide)), mup_i] at hM
  rw [mup_i] at hM
  have hM : MW g (mup (mup M (gA g 2) (aI g 20 ((gloS nu x ((tc + 1), (fPut 20 tf tc 2))).2.2))) (gA g 1) (rowsE (gA g 2) 20 1 ((gloS nu x ((tc + 1), (fPut 20 tf tc 2))).2.1))) H locs := hM
  refine lv_aload_n hx hb dX8_claims_14 rfl (lv_at hl 0 rfl) ?_
  refine r_get (T := TX9) (N := 4) (ci := 9) (v := .int v) X hM iX9 rfl 2 (by decide) q_372 (Or.inl rfl) (mup_r (ne_kind h_o h1 (ne_cls (by decide))) (mup_r (ne_kind h_o h2 Sum.inr_ne_inl) h_o)) rfl dX8_claims_15 ?_
  refine lv_isub hx hb dX8_claims_18 ?_
  exact R_i X hr hk hM ⟨rfl, rfl⟩ dX8_claims_19
set_option maxHeartbeats 4000000 in
set_option maxRecDepth 100000 in
theorem c_X0_claims_k2 (l : Launch) (g : Gp) (M : Mem) (kk nu v : Int32) (o : Nat) (x tc : Int32) (tf : Nat → Int32) (h_o : M o = some (starE2 g kk nu v)) (h1 : M (gA g 1) = some (rowsE (gA g 2) 20 1 tc)) (h2 : M (gA g 2) = some (aI g 20 tf)) : Met l yX0_claims (wsM yX0_claims cX0_claims 2 (some .int)) (rmD 5 0 0) (Pre g M [.ref o, .int x]) (Qi g (fun r M1 => ((claC 2 nu v x (tc, tf)).1) = r ∧ mup (mup M (gA g 2) (aI g 20 ((claC 2 nu v x (tc, tf)).2.2))) (gA g 1) (rowsE (gA g 2) 20 1 ((claC 2 nu v x (tc, tf)).2.1)) = M1)) 0 0 (gF g) := M_start (by decide +kernel) (Nat.le_of_ble_eq_true rfl) fun p e s m args below meth c ls X hr hk hnm hM hl => by
  have X : Cx g p m c cX0_claims 2 s args RX0 := X
  have hx := X.1.1
  have hb := X.1.2.1
  have hl : lv_has ls 2 [(0, .ref o), (1, .int x)] := hl
  refine lv_aload_n hx hb dX0_claims_0 rfl (lv_at hl 0 rfl) ?_
  refine r_get (T := TX0) (N := 4) (ci := 0) (v := .ref (gA g 1)) X hM iX0 rfl 3 (by decide) q_383 (Or.inr q_384) h_o rfl dX0_claims_1 ?_
  refine lv_bipush (v := 21) hx hb dX0_claims_4 (by decide) ?_
  refine K_i (G_V (As := [.int 21]) (rest := []) X hM (c_X5_tell l g _ (gA g 1) (gA g 2) 20 tf 20 1 tc 21 h1 h2 (by decide) (X.2.ne (i := 1) (j := 2) (by decide) (by decide) (by decide))) lk_X0_17 h1 rfl rfl hl.1 rfl (Nat.le_of_ble_eq_true rfl) (by decide) dX0_claims_6 ⟨Nat.le_of_ble_eq_true rfl, Nat.le_of_ble_eq_true rfl⟩) hM (fun r M1 H locs hM hp => ?_)
  obtain ⟨rfl, rfl⟩ := hp
  have hM : MW g (mup (mup M (gA g 2) (aI g 20 (fPut 20 tf tc 21))) (gA g 1) (rowsE (gA g 2) 20 1 (tc + 1))) H locs := hM
  refine lv_pop hx hb dX0_claims_9 rfl ?_
  refine lv_aload_n hx hb dX0_claims_10 rfl (lv_at hl 0 rfl) ?_
  refine lv_iload_n hx hb dX0_claims_11 rfl (lv_at hl 1 rfl) ?_
  refine K_i (G_X (As := [.int x]) (rest := []) X hM (c_X8_claims_k2 l g _ kk nu v o x (tc + 1) (fPut 20 tf tc 21) (mup_r (ne_kind h_o h1 (ne_cls (by decide))) (mup_r (ne_kind h_o h2 Sum.inr_ne_inl) h_o)) (mup_s _ _ _) (mup_r (X.2.ne (i := 2) (j := 1) (by decide) (by decide) (by decide)) (mup_s _ _ _)) ) lx_X0_23 (mup_r (ne_kind h_o h1 (ne_cls (by decide))) (mup_r (ne_kind h_o h2 Sum.inr_ne_inl) h_o)) rfl rfl hl.1 rfl (Nat.le_of_ble_eq_true rfl) (by decide) dX0_claims_12 ⟨Nat.le_of_ble_eq_true rfl, Nat.le_of_ble_eq_true rfl⟩) hM (fun r M1 H locs hM hp => ?_)
  obtain ⟨rfl, rfl⟩ := hp
  rw [mup_w _ _ _ (X.2.ne (i := 1) (j := 2) (by decide) (by decide) (by decide)), mup_i] at hM
  rw [mup_i] at hM
  have hM : MW g (mup (mup M (gA g 2) (aI g 20 ((claS 2 nu v x ((tc + 1), (fPut 20 tf tc 21))).2.2))) (gA g 1) (rowsE (gA g 2) 20 1 ((claS 2 nu v x ((tc + 1), (fPut 20 tf tc 21))).2.1))) H locs := hM
  refine lv_ineg hx hb dX0_claims_15 ?_
  exact R_i X hr hk hM ⟨rfl, rfl⟩ dX0_claims_16
set_option maxHeartbeats 4000000 in
set_option maxRecDepth 100000 in
theorem c_X0_claims_k5 (l : Launch) (g : Gp) (M : Mem) (kk nu v : Int32) (o : Nat) (x tc : Int32) (tf : Nat → Int32) (h_o : M o = some (starE5 g kk nu v)) (h1 : M (gA g 1) = some (rowsE (gA g 2) 20 1 tc)) (h2 : M (gA g 2) = some (aI g 20 tf)) : Met l yX0_claims (wsM yX0_claims cX0_claims 2 (some .int)) (rmD 5 0 0) (Pre g M [.ref o, .int x]) (Qi g (fun r M1 => ((claC 5 nu v x (tc, tf)).1) = r ∧ mup (mup M (gA g 2) (aI g 20 ((claC 5 nu v x (tc, tf)).2.2))) (gA g 1) (rowsE (gA g 2) 20 1 ((claC 5 nu v x (tc, tf)).2.1)) = M1)) 0 0 (gF g) := M_start (by decide +kernel) (Nat.le_of_ble_eq_true rfl) fun p e s m args below meth c ls X hr hk hnm hM hl => by
  have X : Cx g p m c cX0_claims 2 s args RX0 := X
  have hx := X.1.1
  have hb := X.1.2.1
  have hl : lv_has ls 2 [(0, .ref o), (1, .int x)] := hl
  refine lv_aload_n hx hb dX0_claims_0 rfl (lv_at hl 0 rfl) ?_
  refine r_get (T := TX1) (N := 4) (ci := 1) (v := .ref (gA g 1)) X hM iX1 rfl 3 (by decide) q_383 (Or.inr q_384) h_o rfl dX0_claims_1 ?_
  refine lv_bipush (v := 21) hx hb dX0_claims_4 (by decide) ?_
  refine K_i (G_V (As := [.int 21]) (rest := []) X hM (c_X5_tell l g _ (gA g 1) (gA g 2) 20 tf 20 1 tc 21 h1 h2 (by decide) (X.2.ne (i := 1) (j := 2) (by decide) (by decide) (by decide))) lk_X0_17 h1 rfl rfl hl.1 rfl (Nat.le_of_ble_eq_true rfl) (by decide) dX0_claims_6 ⟨Nat.le_of_ble_eq_true rfl, Nat.le_of_ble_eq_true rfl⟩) hM (fun r M1 H locs hM hp => ?_)
  obtain ⟨rfl, rfl⟩ := hp
  have hM : MW g (mup (mup M (gA g 2) (aI g 20 (fPut 20 tf tc 21))) (gA g 1) (rowsE (gA g 2) 20 1 (tc + 1))) H locs := hM
  refine lv_pop hx hb dX0_claims_9 rfl ?_
  refine lv_aload_n hx hb dX0_claims_10 rfl (lv_at hl 0 rfl) ?_
  refine lv_iload_n hx hb dX0_claims_11 rfl (lv_at hl 1 rfl) ?_
  refine K_i (G_X (As := [.int x]) (rest := []) X hM (c_X8_claims_k5 l g _ kk nu v o x (tc + 1) (fPut 20 tf tc 21) (mup_r (ne_kind h_o h1 (ne_cls (by decide))) (mup_r (ne_kind h_o h2 Sum.inr_ne_inl) h_o)) (mup_s _ _ _) (mup_r (X.2.ne (i := 2) (j := 1) (by decide) (by decide) (by decide)) (mup_s _ _ _)) ) lx_X0_23 (mup_r (ne_kind h_o h1 (ne_cls (by decide))) (mup_r (ne_kind h_o h2 Sum.inr_ne_inl) h_o)) rfl rfl hl.1 rfl (Nat.le_of_ble_eq_true rfl) (by decide) dX0_claims_12 ⟨Nat.le_of_ble_eq_true rfl, Nat.le_of_ble_eq_true rfl⟩) hM (fun r M1 H locs hM hp => ?_)
  obtain ⟨rfl, rfl⟩ := hp
  rw [mup_w _ _ _ (X.2.ne (i := 1) (j := 2) (by decide) (by decide) (by decide)), mup_i] at hM
  rw [mup_i] at hM
  have hM : MW g (mup (mup M (gA g 2) (aI g 20 ((claS 5 nu v x ((tc + 1), (fPut 20 tf tc 21))).2.2))) (gA g 1) (rowsE (gA g 2) 20 1 ((claS 5 nu v x ((tc + 1), (fPut 20 tf tc 21))).2.1))) H locs := hM
  refine lv_ineg hx hb dX0_claims_15 ?_
  exact R_i X hr hk hM ⟨rfl, rfl⟩ dX0_claims_16
set_option maxHeartbeats 4000000 in
set_option maxRecDepth 100000 in
theorem c_X9_claims_k6 (l : Launch) (g : Gp) (M : Mem) (kk nu v : Int32) (o : Nat) (x tc : Int32) (tf : Nat → Int32) (h_o : M o = some (starE6 g kk nu v)) (h1 : M (gA g 1) = some (rowsE (gA g 2) 20 1 tc)) (h2 : M (gA g 2) = some (aI g 20 tf)) : Met l yX9_claims (wsM yX9_claims cX9_claims 2 (some .int)) (rmD 5 0 0) (Pre g M [.ref o, .int x]) (Qi g (fun r M1 => ((claT 6 nu v x (tc, tf)).1) = r ∧ mup (mup M (gA g 2) (aI g 20 ((claT 6 nu v x (tc, tf)).2.2))) (gA g 1) (rowsE (gA g 2) 20 1 ((claT 6 nu v x (tc, tf)).2.1)) = M1)) 0 0 (gF g) := M_start (by decide +kernel) (Nat.le_of_ble_eq_true rfl) fun p e s m args below meth c ls X hr hk hnm hM hl => by
  have X : Cx g p m c cX9_claims 2 s args RX9 := X
  have hx := X.1.1
  have hb := X.1.2.1
  have hl : lv_has ls 2 [(0, .ref o), (1, .int x)] := hl
  refine lv_aload_n hx hb dX9_claims_0 rfl (lv_at hl 0 rfl) ?_
  refine r_get (T := TX9) (N := 4) (ci := 9) (v := .ref (gA g 1)) X hM iX9 rfl 3 (by decide) q_385 (Or.inr q_386) h_o rfl dX9_claims_1 ?_
  refine lv_bipush (v := 61) hx hb dX9_claims_4 (by decide) ?_
  refine K_i (G_V (As := [.int 61]) (rest := []) X hM (c_X5_tell l g _ (gA g 1) (gA g 2) 20 tf 20 1 tc 61 h1 h2 (by decide) (X.2.ne (i := 1) (j := 2) (by decide) (by decide) (by decide))) lk_X9_17 h1 rfl rfl hl.1 rfl (Nat.le_of_ble_eq_true rfl) (by decide) dX9_claims_6 ⟨Nat.le_of_ble_eq_true rfl, Nat.le_of_ble_eq_true rfl⟩) hM (fun r M1 H locs hM hp => ?_)
  obtain ⟨rfl, rfl⟩ := hp
  have hM : MW g (mup (mup M (gA g 2) (aI g 20 (fPut 20 tf tc 61))) (gA g 1) (rowsE (gA g 2) 20 1 (tc + 1))) H locs := hM
  refine lv_pop hx hb dX9_claims_9 rfl ?_
  refine lv_aload_n hx hb dX9_claims_10 rfl (lv_at hl 0 rfl) ?_
  refine lv_iload_n hx hb dX9_claims_11 rfl (lv_at hl 1 rfl) ?_
  refine K_i (G_X (As := [.int x]) (rest := []) X hM (c_X8_claims_k6 l g _ kk nu v o x (tc + 1) (fPut 20 tf tc 61) (mup_r (ne_kind h_o h1 (ne_cls (by decide))) (mup_r (ne_kind h_o h2 Sum.inr_ne_inl) h_o)) (mup_s _ _ _) (mup_r (X.2.ne (i := 2) (j := 1) (by decide) (by decide) (by decide)) (mup_s _ _ _)) ) lx_X9_23 (mup_r (ne_kind h_o h1 (ne_cls (by decide))) (mup_r (ne_kind h_o h2 Sum.inr_ne_inl) h_o)) rfl rfl hl.1 rfl (Nat.le_of_ble_eq_true rfl) (by decide) dX9_claims_12 ⟨Nat.le_of_ble_eq_true rfl, Nat.le_of_ble_eq_true rfl⟩) hM (fun r M1 H locs hM hp => ?_)
  obtain ⟨rfl, rfl⟩ := hp
  rw [mup_w _ _ _ (X.2.ne (i := 1) (j := 2) (by decide) (by decide) (by decide)), mup_i] at hM
  rw [mup_i] at hM
  have hM : MW g (mup (mup M (gA g 2) (aI g 20 ((claS 6 nu v x ((tc + 1), (fPut 20 tf tc 61))).2.2))) (gA g 1) (rowsE (gA g 2) 20 1 ((claS 6 nu v x ((tc + 1), (fPut 20 tf tc 61))).2.1))) H locs := hM
  refine lv_aload_n hx hb dX9_claims_15 rfl (lv_at hl 0 rfl) ?_
  refine r_get (T := TX9) (N := 4) (ci := 9) (v := .int v) X hM iX9 rfl 2 (by decide) q_377 (Or.inr q_378) (mup_r (ne_kind h_o h1 (ne_cls (by decide))) (mup_r (ne_kind h_o h2 Sum.inr_ne_inl) h_o)) rfl dX9_claims_16 ?_
  refine lv_iadd hx hb dX9_claims_19 ?_
  exact R_i X hr hk hM ⟨rfl, rfl⟩ dX9_claims_20
set_option maxHeartbeats 4000000 in
set_option maxRecDepth 100000 in
theorem c_X8_tells_k0 (l : Launch) (g : Gp) (M : Mem) (kk nu v : Int32) (o : Nat) (x tc : Int32) (tf : Nat → Int32) (h_o : M o = some (starE0 g kk nu v)) (h1 : M (gA g 1) = some (rowsE (gA g 2) 20 1 tc)) (h2 : M (gA g 2) = some (aI g 20 tf)) : Met l yX8_tells (wsM yX8_tells cX8_tells 2 (some .int)) (rmD 6 0 0) (Pre g M [.ref o, .int x]) (Qi g (fun r M1 => ((telS 0 nu v x (tc, tf)).1) = r ∧ mup (mup M (gA g 2) (aI g 20 ((telS 0 nu v x (tc, tf)).2.2))) (gA g 1) (rowsE (gA g 2) 20 1 ((telS 0 nu v x (tc, tf)).2.1)) = M1)) 0 0 (gF g) := M_start (by decide +kernel) (Nat.le_of_ble_eq_true rfl) fun p e s m args below meth c ls X hr hk hnm hM hl => by
  have X : Cx g p m c cX8_tells 2 s args RX8 := X
  have hx := X.1.1
  have hb := X.1.2.1
  have hl : lv_has ls 2 [(0, .ref o), (1, .int x)] := hl
  refine lv_aload_n hx hb dX8_tells_0 rfl (lv_at hl 0 rfl) ?_
  refine r_get (T := TX8) (N := 4) (ci := 8) (v := .ref (gA g 1)) X hM iX8 rfl 3 (by decide) q_382 (Or.inl rfl) h_o rfl dX8_tells_1 ?_
  refine lv_iconst (v := 3) hx hb dX8_tells_4 (by decide) ?_
  refine K_i (G_V (As := [.int 3]) (rest := []) X hM (c_X5_tell l g _ (gA g 1) (gA g 2) 20 tf 20 1 tc 3 h1 h2 (by decide) (X.2.ne (i := 1) (j := 2) (by decide) (by decide) (by decide))) lk_X8_23 h1 rfl rfl hl.1 rfl (Nat.le_of_ble_eq_true rfl) (by decide) dX8_tells_5 ⟨Nat.le_of_ble_eq_true rfl, Nat.le_of_ble_eq_true rfl⟩) hM (fun r M1 H locs hM hp => ?_)
  obtain ⟨rfl, rfl⟩ := hp
  have hM : MW g (mup (mup M (gA g 2) (aI g 20 (fPut 20 tf tc 3))) (gA g 1) (rowsE (gA g 2) 20 1 (tc + 1))) H locs := hM
  refine lv_pop hx hb dX8_tells_8 rfl ?_
  refine lv_aload_n hx hb dX8_tells_9 rfl (lv_at hl 0 rfl) ?_
  refine lv_iload_n hx hb dX8_tells_10 rfl (lv_at hl 1 rfl) ?_
  refine K_i (G_U (As := [.int x]) (rest := []) X hM (c_X8_claims_k0 l g _ kk nu v o x (tc + 1) (fPut 20 tf tc 3) (mup_r (ne_kind h_o h1 (ne_cls (by decide))) (mup_r (ne_kind h_o h2 Sum.inr_ne_inl) h_o)) (mup_s _ _ _) (mup_r (X.2.ne (i := 2) (j := 1) (by decide) (by decide) (by decide)) (mup_s _ _ _)) ) lu_X8_32_X8 (mup_r (ne_kind h_o h1 (ne_cls (by decide))) (mup_r (ne_kind h_o h2 Sum.inr_ne_inl) h_o)) rfl rfl hl.1 rfl (Nat.le_of_ble_eq_true rfl) (by decide) dX8_tells_11 ⟨Nat.le_of_ble_eq_true rfl, Nat.le_of_ble_eq_true rfl⟩) hM (fun r M1 H locs hM hp => ?_)
  obtain ⟨rfl, rfl⟩ := hp
  rw [mup_w _ _ _ (X.2.ne (i := 1) (j := 2) (by decide) (by decide) (by decide)), mup_i] at hM
  rw [mup_i] at hM
  have hM : MW g (mup (mup M (gA g 2) (aI g 20 ((claS 0 nu v x ((tc + 1), (fPut 20 tf tc 3))).2.2))) (gA g 1) (rowsE (gA g 2) 20 1 ((claS 0 nu v x ((tc + 1), (fPut 20 tf tc 3))).2.1))) H locs := hM
  refine lv_iconst (v := 2) hx hb dX8_tells_14 (by decide) ?_
  refine lv_imul hx hb dX8_tells_15 ?_
  exact R_i X hr hk hM ⟨rfl, rfl⟩ dX8_tells_16
set_option maxHeartbeats 4000000 in
set_option maxRecDepth 100000 in
theorem c_X8_tells_k1 (l : Launch) (g : Gp) (M : Mem) (kk nu v : Int32) (o : Nat) (x tc : Int32) (tf : Nat → Int32) (h_o : M o = some (starE1 g kk nu v)) (h1 : M (gA g 1) = some (rowsE (gA g 2) 20 1 tc)) (h2 : M (gA g 2) = some (aI g 20 tf)) : Met l yX8_tells (wsM yX8_tells cX8_tells 2 (some .int)) (rmD 6 0 0) (Pre g M [.ref o, .int x]) (Qi g (fun r M1 => ((telS 1 nu v x (tc, tf)).1) = r ∧ mup (mup M (gA g 2) (aI g 20 ((telS 1 nu v x (tc, tf)).2.2))) (gA g 1) (rowsE (gA g 2) 20 1 ((telS 1 nu v x (tc, tf)).2.1)) = M1)) 0 0 (gF g) := M_start (by decide +kernel) (Nat.le_of_ble_eq_true rfl) fun p e s m args below meth c ls X hr hk hnm hM hl => by
  have X : Cx g p m c cX8_tells 2 s args RX8 := X
  have hx := X.1.1
  have hb := X.1.2.1
  have hl : lv_has ls 2 [(0, .ref o), (1, .int x)] := hl
  refine lv_aload_n hx hb dX8_tells_0 rfl (lv_at hl 0 rfl) ?_
  refine r_get (T := TX2) (N := 4) (ci := 2) (v := .ref (gA g 1)) X hM iX2 rfl 3 (by decide) q_382 (Or.inl rfl) h_o rfl dX8_tells_1 ?_
  refine lv_iconst (v := 3) hx hb dX8_tells_4 (by decide) ?_
  refine K_i (G_V (As := [.int 3]) (rest := []) X hM (c_X5_tell l g _ (gA g 1) (gA g 2) 20 tf 20 1 tc 3 h1 h2 (by decide) (X.2.ne (i := 1) (j := 2) (by decide) (by decide) (by decide))) lk_X8_23 h1 rfl rfl hl.1 rfl (Nat.le_of_ble_eq_true rfl) (by decide) dX8_tells_5 ⟨Nat.le_of_ble_eq_true rfl, Nat.le_of_ble_eq_true rfl⟩) hM (fun r M1 H locs hM hp => ?_)
  obtain ⟨rfl, rfl⟩ := hp
  have hM : MW g (mup (mup M (gA g 2) (aI g 20 (fPut 20 tf tc 3))) (gA g 1) (rowsE (gA g 2) 20 1 (tc + 1))) H locs := hM
  refine lv_pop hx hb dX8_tells_8 rfl ?_
  refine lv_aload_n hx hb dX8_tells_9 rfl (lv_at hl 0 rfl) ?_
  refine lv_iload_n hx hb dX8_tells_10 rfl (lv_at hl 1 rfl) ?_
  refine K_i (G_U (As := [.int x]) (rest := []) X hM (c_X8_claims_k1 l g _ kk nu v o x (tc + 1) (fPut 20 tf tc 3) (mup_r (ne_kind h_o h1 (ne_cls (by decide))) (mup_r (ne_kind h_o h2 Sum.inr_ne_inl) h_o)) (mup_s _ _ _) (mup_r (X.2.ne (i := 2) (j := 1) (by decide) (by decide) (by decide)) (mup_s _ _ _)) ) lu_X8_32_X2 (mup_r (ne_kind h_o h1 (ne_cls (by decide))) (mup_r (ne_kind h_o h2 Sum.inr_ne_inl) h_o)) rfl rfl hl.1 rfl (Nat.le_of_ble_eq_true rfl) (by decide) dX8_tells_11 ⟨Nat.le_of_ble_eq_true rfl, Nat.le_of_ble_eq_true rfl⟩) hM (fun r M1 H locs hM hp => ?_)
  obtain ⟨rfl, rfl⟩ := hp
  rw [mup_w _ _ _ (X.2.ne (i := 1) (j := 2) (by decide) (by decide) (by decide)), mup_i] at hM
  rw [mup_i] at hM
  have hM : MW g (mup (mup M (gA g 2) (aI g 20 ((claS 1 nu v x ((tc + 1), (fPut 20 tf tc 3))).2.2))) (gA g 1) (rowsE (gA g 2) 20 1 ((claS 1 nu v x ((tc + 1), (fPut 20 tf tc 3))).2.1))) H locs := hM
  refine lv_iconst (v := 2) hx hb dX8_tells_14 (by decide) ?_
  refine lv_imul hx hb dX8_tells_15 ?_
  exact R_i X hr hk hM ⟨rfl, rfl⟩ dX8_tells_16
set_option maxHeartbeats 4000000 in
set_option maxRecDepth 100000 in
theorem c_X8_tells_k2 (l : Launch) (g : Gp) (M : Mem) (kk nu v : Int32) (o : Nat) (x tc : Int32) (tf : Nat → Int32) (h_o : M o = some (starE2 g kk nu v)) (h1 : M (gA g 1) = some (rowsE (gA g 2) 20 1 tc)) (h2 : M (gA g 2) = some (aI g 20 tf)) : Met l yX8_tells (wsM yX8_tells cX8_tells 2 (some .int)) (rmD 6 0 0) (Pre g M [.ref o, .int x]) (Qi g (fun r M1 => ((telS 2 nu v x (tc, tf)).1) = r ∧ mup (mup M (gA g 2) (aI g 20 ((telS 2 nu v x (tc, tf)).2.2))) (gA g 1) (rowsE (gA g 2) 20 1 ((telS 2 nu v x (tc, tf)).2.1)) = M1)) 0 0 (gF g) := M_start (by decide +kernel) (Nat.le_of_ble_eq_true rfl) fun p e s m args below meth c ls X hr hk hnm hM hl => by
  have X : Cx g p m c cX8_tells 2 s args RX8 := X
  have hx := X.1.1
  have hb := X.1.2.1
  have hl : lv_has ls 2 [(0, .ref o), (1, .int x)] := hl
  refine lv_aload_n hx hb dX8_tells_0 rfl (lv_at hl 0 rfl) ?_
  refine r_get (T := TX0) (N := 4) (ci := 0) (v := .ref (gA g 1)) X hM iX0 rfl 3 (by decide) q_382 (Or.inl rfl) h_o rfl dX8_tells_1 ?_
  refine lv_iconst (v := 3) hx hb dX8_tells_4 (by decide) ?_
  refine K_i (G_V (As := [.int 3]) (rest := []) X hM (c_X5_tell l g _ (gA g 1) (gA g 2) 20 tf 20 1 tc 3 h1 h2 (by decide) (X.2.ne (i := 1) (j := 2) (by decide) (by decide) (by decide))) lk_X8_23 h1 rfl rfl hl.1 rfl (Nat.le_of_ble_eq_true rfl) (by decide) dX8_tells_5 ⟨Nat.le_of_ble_eq_true rfl, Nat.le_of_ble_eq_true rfl⟩) hM (fun r M1 H locs hM hp => ?_)
  obtain ⟨rfl, rfl⟩ := hp
  have hM : MW g (mup (mup M (gA g 2) (aI g 20 (fPut 20 tf tc 3))) (gA g 1) (rowsE (gA g 2) 20 1 (tc + 1))) H locs := hM
  refine lv_pop hx hb dX8_tells_8 rfl ?_
  refine lv_aload_n hx hb dX8_tells_9 rfl (lv_at hl 0 rfl) ?_
  refine lv_iload_n hx hb dX8_tells_10 rfl (lv_at hl 1 rfl) ?_
  refine K_i (G_U (As := [.int x]) (rest := []) X hM (c_X0_claims_k2 l g _ kk nu v o x (tc + 1) (fPut 20 tf tc 3) (mup_r (ne_kind h_o h1 (ne_cls (by decide))) (mup_r (ne_kind h_o h2 Sum.inr_ne_inl) h_o)) (mup_s _ _ _) (mup_r (X.2.ne (i := 2) (j := 1) (by decide) (by decide) (by decide)) (mup_s _ _ _)) ) lu_X8_32_X0 (mup_r (ne_kind h_o h1 (ne_cls (by decide))) (mup_r (ne_kind h_o h2 Sum.inr_ne_inl) h_o)) rfl rfl hl.1 rfl (Nat.le_of_ble_eq_true rfl) (by decide) dX8_tells_11 ⟨Nat.le_of_ble_eq_true rfl, Nat.le_of_ble_eq_true rfl⟩) hM (fun r M1 H locs hM hp => ?_)
  obtain ⟨rfl, rfl⟩ := hp
  rw [mup_w _ _ _ (X.2.ne (i := 1) (j := 2) (by decide) (by decide) (by decide)), mup_i] at hM
  rw [mup_i] at hM
  have hM : MW g (mup (mup M (gA g 2) (aI g 20 ((claC 2 nu v x ((tc + 1), (fPut 20 tf tc 3))).2.2))) (gA g 1) (rowsE (gA g 2) 20 1 ((claC 2 nu v x ((tc + 1), (fPut 20 tf tc 3))).2.1))) H locs := hM
  refine lv_iconst (v := 2) hx hb dX8_tells_14 (by decide) ?_
  refine lv_imul hx hb dX8_tells_15 ?_
  exact R_i X hr hk hM ⟨rfl, rfl⟩ dX8_tells_16
set_option maxHeartbeats 4000000 in
set_option maxRecDepth 100000 in
theorem c_X8_tells_k3 (l : Launch) (g : Gp) (M : Mem) (kk nu v : Int32) (o : Nat) (x tc : Int32) (tf : Nat → Int32) (h_o : M o = some (starE3 g kk nu v)) (h1 : M (gA g 1) = some (rowsE (gA g 2) 20 1 tc)) (h2 : M (gA g 2) = some (aI g 20 tf)) : Met l yX8_tells (wsM yX8_tells cX8_tells 2 (some .int)) (rmD 6 0 0) (Pre g M [.ref o, .int x]) (Qi g (fun r M1 => ((telS 3 nu v x (tc, tf)).1) = r ∧ mup (mup M (gA g 2) (aI g 20 ((telS 3 nu v x (tc, tf)).2.2))) (gA g 1) (rowsE (gA g 2) 20 1 ((telS 3 nu v x (tc, tf)).2.1)) = M1)) 0 0 (gF g) := M_start (by decide +kernel) (Nat.le_of_ble_eq_true rfl) fun p e s m args below meth c ls X hr hk hnm hM hl => by
  have X : Cx g p m c cX8_tells 2 s args RX8 := X
  have hx := X.1.1
  have hb := X.1.2.1
  have hl : lv_has ls 2 [(0, .ref o), (1, .int x)] := hl
  refine lv_aload_n hx hb dX8_tells_0 rfl (lv_at hl 0 rfl) ?_
  refine r_get (T := TX3) (N := 4) (ci := 3) (v := .ref (gA g 1)) X hM iX3 rfl 3 (by decide) q_382 (Or.inl rfl) h_o rfl dX8_tells_1 ?_
  refine lv_iconst (v := 3) hx hb dX8_tells_4 (by decide) ?_
  refine K_i (G_V (As := [.int 3]) (rest := []) X hM (c_X5_tell l g _ (gA g 1) (gA g 2) 20 tf 20 1 tc 3 h1 h2 (by decide) (X.2.ne (i := 1) (j := 2) (by decide) (by decide) (by decide))) lk_X8_23 h1 rfl rfl hl.1 rfl (Nat.le_of_ble_eq_true rfl) (by decide) dX8_tells_5 ⟨Nat.le_of_ble_eq_true rfl, Nat.le_of_ble_eq_true rfl⟩) hM (fun r M1 H locs hM hp => ?_)
  obtain ⟨rfl, rfl⟩ := hp
  have hM : MW g (mup (mup M (gA g 2) (aI g 20 (fPut 20 tf tc 3))) (gA g 1) (rowsE (gA g 2) 20 1 (tc + 1))) H locs := hM
  refine lv_pop hx hb dX8_tells_8 rfl ?_
  refine lv_aload_n hx hb dX8_tells_9 rfl (lv_at hl 0 rfl) ?_
  refine lv_iload_n hx hb dX8_tells_10 rfl (lv_at hl 1 rfl) ?_
  refine K_i (G_U (As := [.int x]) (rest := []) X hM (c_X8_claims_k3 l g _ kk nu v o x (tc + 1) (fPut 20 tf tc 3) (mup_r (ne_kind h_o h1 (ne_cls (by decide))) (mup_r (ne_kind h_o h2 Sum.inr_ne_inl) h_o)) (mup_s _ _ _) (mup_r (X.2.ne (i := 2) (j := 1) (by decide) (by decide) (by decide)) (mup_s _ _ _)) ) lu_X8_32_X3 (mup_r (ne_kind h_o h1 (ne_cls (by decide))) (mup_r (ne_kind h_o h2 Sum.inr_ne_inl) h_o)) rfl rfl hl.1 rfl (Nat.le_of_ble_eq_true rfl) (by decide) dX8_tells_11 ⟨Nat.le_of_ble_eq_true rfl, Nat.le_of_ble_eq_true rfl⟩) hM (fun r M1 H locs hM hp => ?_)
  obtain ⟨rfl, rfl⟩ := hp
  rw [mup_w _ _ _ (X.2.ne (i := 1) (j := 2) (by decide) (by decide) (by decide)), mup_i] at hM
  rw [mup_i] at hM
  have hM : MW g (mup (mup M (gA g 2) (aI g 20 ((claS 3 nu v x ((tc + 1), (fPut 20 tf tc 3))).2.2))) (gA g 1) (rowsE (gA g 2) 20 1 ((claS 3 nu v x ((tc + 1), (fPut 20 tf tc 3))).2.1))) H locs := hM
  refine lv_iconst (v := 2) hx hb dX8_tells_14 (by decide) ?_
  refine lv_imul hx hb dX8_tells_15 ?_
  exact R_i X hr hk hM ⟨rfl, rfl⟩ dX8_tells_16
set_option maxHeartbeats 4000000 in
set_option maxRecDepth 100000 in
theorem c_X8_tells_k4 (l : Launch) (g : Gp) (M : Mem) (kk nu v : Int32) (o : Nat) (x tc : Int32) (tf : Nat → Int32) (h_o : M o = some (starE4 g kk nu v)) (h1 : M (gA g 1) = some (rowsE (gA g 2) 20 1 tc)) (h2 : M (gA g 2) = some (aI g 20 tf)) : Met l yX8_tells (wsM yX8_tells cX8_tells 2 (some .int)) (rmD 6 0 0) (Pre g M [.ref o, .int x]) (Qi g (fun r M1 => ((telS 4 nu v x (tc, tf)).1) = r ∧ mup (mup M (gA g 2) (aI g 20 ((telS 4 nu v x (tc, tf)).2.2))) (gA g 1) (rowsE (gA g 2) 20 1 ((telS 4 nu v x (tc, tf)).2.1)) = M1)) 0 0 (gF g) := M_start (by decide +kernel) (Nat.le_of_ble_eq_true rfl) fun p e s m args below meth c ls X hr hk hnm hM hl => by
  have X : Cx g p m c cX8_tells 2 s args RX8 := X
  have hx := X.1.1
  have hb := X.1.2.1
  have hl : lv_has ls 2 [(0, .ref o), (1, .int x)] := hl
  refine lv_aload_n hx hb dX8_tells_0 rfl (lv_at hl 0 rfl) ?_
  refine r_get (T := TX10) (N := 4) (ci := 10) (v := .ref (gA g 1)) X hM iX10 rfl 3 (by decide) q_382 (Or.inl rfl) h_o rfl dX8_tells_1 ?_
  refine lv_iconst (v := 3) hx hb dX8_tells_4 (by decide) ?_
  refine K_i (G_V (As := [.int 3]) (rest := []) X hM (c_X5_tell l g _ (gA g 1) (gA g 2) 20 tf 20 1 tc 3 h1 h2 (by decide) (X.2.ne (i := 1) (j := 2) (by decide) (by decide) (by decide))) lk_X8_23 h1 rfl rfl hl.1 rfl (Nat.le_of_ble_eq_true rfl) (by decide) dX8_tells_5 ⟨Nat.le_of_ble_eq_true rfl, Nat.le_of_ble_eq_true rfl⟩) hM (fun r M1 H locs hM hp => ?_)
  obtain ⟨rfl, rfl⟩ := hp
  have hM : MW g (mup (mup M (gA g 2) (aI g 20 (fPut 20 tf tc 3))) (gA g 1) (rowsE (gA g 2) 20 1 (tc + 1))) H locs := hM
  refine lv_pop hx hb dX8_tells_8 rfl ?_
  refine lv_aload_n hx hb dX8_tells_9 rfl (lv_at hl 0 rfl) ?_
  refine lv_iload_n hx hb dX8_tells_10 rfl (lv_at hl 1 rfl) ?_
  refine K_i (G_U (As := [.int x]) (rest := []) X hM (c_X8_claims_k4 l g _ kk nu v o x (tc + 1) (fPut 20 tf tc 3) (mup_r (ne_kind h_o h1 (ne_cls (by decide))) (mup_r (ne_kind h_o h2 Sum.inr_ne_inl) h_o)) (mup_s _ _ _) (mup_r (X.2.ne (i := 2) (j := 1) (by decide) (by decide) (by decide)) (mup_s _ _ _)) ) lu_X8_32_X10 (mup_r (ne_kind h_o h1 (ne_cls (by decide))) (mup_r (ne_kind h_o h2 Sum.inr_ne_inl) h_o)) rfl rfl hl.1 rfl (Nat.le_of_ble_eq_true rfl) (by decide) dX8_tells_11 ⟨Nat.le_of_ble_eq_true rfl, Nat.le_of_ble_eq_true rfl⟩) hM (fun r M1 H locs hM hp => ?_)
  obtain ⟨rfl, rfl⟩ := hp
  rw [mup_w _ _ _ (X.2.ne (i := 1) (j := 2) (by decide) (by decide) (by decide)), mup_i] at hM
  rw [mup_i] at hM
  have hM : MW g (mup (mup M (gA g 2) (aI g 20 ((claS 4 nu v x ((tc + 1), (fPut 20 tf tc 3))).2.2))) (gA g 1) (rowsE (gA g 2) 20 1 ((claS 4 nu v x ((tc + 1), (fPut 20 tf tc 3))).2.1))) H locs := hM
  refine lv_iconst (v := 2) hx hb dX8_tells_14 (by decide) ?_
  refine lv_imul hx hb dX8_tells_15 ?_
  exact R_i X hr hk hM ⟨rfl, rfl⟩ dX8_tells_16
set_option maxHeartbeats 4000000 in
set_option maxRecDepth 100000 in
theorem c_X8_tells_k5 (l : Launch) (g : Gp) (M : Mem) (kk nu v : Int32) (o : Nat) (x tc : Int32) (tf : Nat → Int32) (h_o : M o = some (starE5 g kk nu v)) (h1 : M (gA g 1) = some (rowsE (gA g 2) 20 1 tc)) (h2 : M (gA g 2) = some (aI g 20 tf)) : Met l yX8_tells (wsM yX8_tells cX8_tells 2 (some .int)) (rmD 6 0 0) (Pre g M [.ref o, .int x]) (Qi g (fun r M1 => ((telS 5 nu v x (tc, tf)).1) = r ∧ mup (mup M (gA g 2) (aI g 20 ((telS 5 nu v x (tc, tf)).2.2))) (gA g 1) (rowsE (gA g 2) 20 1 ((telS 5 nu v x (tc, tf)).2.1)) = M1)) 0 0 (gF g) := M_start (by decide +kernel) (Nat.le_of_ble_eq_true rfl) fun p e s m args below meth c ls X hr hk hnm hM hl => by
  have X : Cx g p m c cX8_tells 2 s args RX8 := X
  have hx := X.1.1
  have hb := X.1.2.1
  have hl : lv_has ls 2 [(0, .ref o), (1, .int x)] := hl
  refine lv_aload_n hx hb dX8_tells_0 rfl (lv_at hl 0 rfl) ?_
  refine r_get (T := TX1) (N := 4) (ci := 1) (v := .ref (gA g 1)) X hM iX1 rfl 3 (by decide) q_382 (Or.inl rfl) h_o rfl dX8_tells_1 ?_
  refine lv_iconst (v := 3) hx hb dX8_tells_4 (by decide) ?_
  refine K_i (G_V (As := [.int 3]) (rest := []) X hM (c_X5_tell l g _ (gA g 1) (gA g 2) 20 tf 20 1 tc 3 h1 h2 (by decide) (X.2.ne (i := 1) (j := 2) (by decide) (by decide) (by decide))) lk_X8_23 h1 rfl rfl hl.1 rfl (Nat.le_of_ble_eq_true rfl) (by decide) dX8_tells_5 ⟨Nat.le_of_ble_eq_true rfl, Nat.le_of_ble_eq_true rfl⟩) hM (fun r M1 H locs hM hp => ?_)
  obtain ⟨rfl, rfl⟩ := hp
  have hM : MW g (mup (mup M (gA g 2) (aI g 20 (fPut 20 tf tc 3))) (gA g 1) (rowsE (gA g 2) 20 1 (tc + 1))) H locs := hM
  refine lv_pop hx hb dX8_tells_8 rfl ?_
  refine lv_aload_n hx hb dX8_tells_9 rfl (lv_at hl 0 rfl) ?_
  refine lv_iload_n hx hb dX8_tells_10 rfl (lv_at hl 1 rfl) ?_
  refine K_i (G_U (As := [.int x]) (rest := []) X hM (c_X0_claims_k5 l g _ kk nu v o x (tc + 1) (fPut 20 tf tc 3) (mup_r (ne_kind h_o h1 (ne_cls (by decide))) (mup_r (ne_kind h_o h2 Sum.inr_ne_inl) h_o)) (mup_s _ _ _) (mup_r (X.2.ne (i := 2) (j := 1) (by decide) (by decide) (by decide)) (mup_s _ _ _)) ) lu_X8_32_X1 (mup_r (ne_kind h_o h1 (ne_cls (by decide))) (mup_r (ne_kind h_o h2 Sum.inr_ne_inl) h_o)) rfl rfl hl.1 rfl (Nat.le_of_ble_eq_true rfl) (by decide) dX8_tells_11 ⟨Nat.le_of_ble_eq_true rfl, Nat.le_of_ble_eq_true rfl⟩) hM (fun r M1 H locs hM hp => ?_)
  obtain ⟨rfl, rfl⟩ := hp
  rw [mup_w _ _ _ (X.2.ne (i := 1) (j := 2) (by decide) (by decide) (by decide)), mup_i] at hM
  rw [mup_i] at hM
  have hM : MW g (mup (mup M (gA g 2) (aI g 20 ((claC 5 nu v x ((tc + 1), (fPut 20 tf tc 3))).2.2))) (gA g 1) (rowsE (gA g 2) 20 1 ((claC 5 nu v x ((tc + 1), (fPut 20 tf tc 3))).2.1))) H locs := hM
  refine lv_iconst (v := 2) hx hb dX8_tells_14 (by decide) ?_
  refine lv_imul hx hb dX8_tells_15 ?_
  exact R_i X hr hk hM ⟨rfl, rfl⟩ dX8_tells_16
set_option maxHeartbeats 4000000 in
set_option maxRecDepth 100000 in
theorem c_X8_tells_k6 (l : Launch) (g : Gp) (M : Mem) (kk nu v : Int32) (o : Nat) (x tc : Int32) (tf : Nat → Int32) (h_o : M o = some (starE6 g kk nu v)) (h1 : M (gA g 1) = some (rowsE (gA g 2) 20 1 tc)) (h2 : M (gA g 2) = some (aI g 20 tf)) : Met l yX8_tells (wsM yX8_tells cX8_tells 2 (some .int)) (rmD 6 0 0) (Pre g M [.ref o, .int x]) (Qi g (fun r M1 => ((telS 6 nu v x (tc, tf)).1) = r ∧ mup (mup M (gA g 2) (aI g 20 ((telS 6 nu v x (tc, tf)).2.2))) (gA g 1) (rowsE (gA g 2) 20 1 ((telS 6 nu v x (tc, tf)).2.1)) = M1)) 0 0 (gF g) := M_start (by decide +kernel) (Nat.le_of_ble_eq_true rfl) fun p e s m args below meth c ls X hr hk hnm hM hl => by
  have X : Cx g p m c cX8_tells 2 s args RX8 := X
  have hx := X.1.1
  have hb := X.1.2.1
  have hl : lv_has ls 2 [(0, .ref o), (1, .int x)] := hl
  refine lv_aload_n hx hb dX8_tells_0 rfl (lv_at hl 0 rfl) ?_
  refine r_get (T := TX9) (N := 4) (ci := 9) (v := .ref (gA g 1)) X hM iX9 rfl 3 (by decide) q_382 (Or.inl rfl) h_o rfl dX8_tells_1 ?_
  refine lv_iconst (v := 3) hx hb dX8_tells_4 (by decide) ?_
  refine K_i (G_V (As := [.int 3]) (rest := []) X hM (c_X5_tell l g _ (gA g 1) (gA g 2) 20 tf 20 1 tc 3 h1 h2 (by decide) (X.2.ne (i := 1) (j := 2) (by decide) (by decide) (by decide))) lk_X8_23 h1 rfl rfl hl.1 rfl (Nat.le_of_ble_eq_true rfl) (by decide) dX8_tells_5 ⟨Nat.le_of_ble_eq_true rfl, Nat.le_of_ble_eq_true rfl⟩) hM (fun r M1 H locs hM hp => ?_)
  obtain ⟨rfl, rfl⟩ := hp
  have hM : MW g (mup (mup M (gA g 2) (aI g 20 (fPut 20 tf tc 3))) (gA g 1) (rowsE (gA g 2) 20 1 (tc + 1))) H locs := hM
  refine lv_pop hx hb dX8_tells_8 rfl ?_
  refine lv_aload_n hx hb dX8_tells_9 rfl (lv_at hl 0 rfl) ?_
  refine lv_iload_n hx hb dX8_tells_10 rfl (lv_at hl 1 rfl) ?_
  refine K_i (G_U (As := [.int x]) (rest := []) X hM (c_X9_claims_k6 l g _ kk nu v o x (tc + 1) (fPut 20 tf tc 3) (mup_r (ne_kind h_o h1 (ne_cls (by decide))) (mup_r (ne_kind h_o h2 Sum.inr_ne_inl) h_o)) (mup_s _ _ _) (mup_r (X.2.ne (i := 2) (j := 1) (by decide) (by decide) (by decide)) (mup_s _ _ _)) ) lu_X8_32_X9 (mup_r (ne_kind h_o h1 (ne_cls (by decide))) (mup_r (ne_kind h_o h2 Sum.inr_ne_inl) h_o)) rfl rfl hl.1 rfl (Nat.le_of_ble_eq_true rfl) (by decide) dX8_tells_11 ⟨Nat.le_of_ble_eq_true rfl, Nat.le_of_ble_eq_true rfl⟩) hM (fun r M1 H locs hM hp => ?_)
  obtain ⟨rfl, rfl⟩ := hp
  rw [mup_w _ _ _ (X.2.ne (i := 1) (j := 2) (by decide) (by decide) (by decide)), mup_i] at hM
  rw [mup_i] at hM
  have hM : MW g (mup (mup M (gA g 2) (aI g 20 ((claT 6 nu v x ((tc + 1), (fPut 20 tf tc 3))).2.2))) (gA g 1) (rowsE (gA g 2) 20 1 ((claT 6 nu v x ((tc + 1), (fPut 20 tf tc 3))).2.1))) H locs := hM
  refine lv_iconst (v := 2) hx hb dX8_tells_14 (by decide) ?_
  refine lv_imul hx hb dX8_tells_15 ?_
  exact R_i X hr hk hM ⟨rfl, rfl⟩ dX8_tells_16
set_option maxHeartbeats 4000000 in
set_option maxRecDepth 100000 in
theorem c_X3_tells_k3 (l : Launch) (g : Gp) (M : Mem) (kk nu v : Int32) (o : Nat) (x tc : Int32) (tf : Nat → Int32) (h_o : M o = some (starE3 g kk nu v)) (h1 : M (gA g 1) = some (rowsE (gA g 2) 20 1 tc)) (h2 : M (gA g 2) = some (aI g 20 tf)) : Met l yX3_tells (wsM yX3_tells cX3_tells 2 (some .int)) (rmD 7 0 0) (Pre g M [.ref o, .int x]) (Qi g (fun r M1 => ((telU 3 nu v x (tc, tf)).1) = r ∧ mup (mup M (gA g 2) (aI g 20 ((telU 3 nu v x (tc, tf)).2.2))) (gA g 1) (rowsE (gA g 2) 20 1 ((telU 3 nu v x (tc, tf)).2.1)) = M1)) 0 0 (gF g) := M_start (by decide +kernel) (Nat.le_of_ble_eq_true rfl) fun p e s m args below meth c ls X hr hk hnm hM hl => by
  have X : Cx g p m c cX3_tells 2 s args RX3 := X
  have hx := X.1.1
  have hb := X.1.2.1
  have hl : lv_has ls 2 [(0, .ref o), (1, .int x)] := hl
  refine lv_aload_n hx hb dX3_tells_0 rfl (lv_at hl 0 rfl) ?_
  refine r_get (T := TX3) (N := 4) (ci := 3) (v := .ref (gA g 1)) X hM iX3 rfl 3 (by decide) q_387 (Or.inr q_388) h_o rfl dX3_tells_1 ?_
  refine lv_bipush (v := 31) hx hb dX3_tells_4 (by decide) ?_
  refine K_i (G_V (As := [.int 31]) (rest := []) X hM (c_X5_tell l g _ (gA g 1) (gA g 2) 20 tf 20 1 tc 31 h1 h2 (by decide) (X.2.ne (i := 1) (j := 2) (by decide) (by decide) (by decide))) lk_X3_17 h1 rfl rfl hl.1 rfl (Nat.le_of_ble_eq_true rfl) (by decide) dX3_tells_6 ⟨Nat.le_of_ble_eq_true rfl, Nat.le_of_ble_eq_true rfl⟩) hM (fun r M1 H locs hM hp => ?_)
  obtain ⟨rfl, rfl⟩ := hp
  have hM : MW g (mup (mup M (gA g 2) (aI g 20 (fPut 20 tf tc 31))) (gA g 1) (rowsE (gA g 2) 20 1 (tc + 1))) H locs := hM
  refine lv_pop hx hb dX3_tells_9 rfl ?_
  refine lv_aload_n hx hb dX3_tells_10 rfl (lv_at hl 0 rfl) ?_
  refine lv_iload_n hx hb dX3_tells_11 rfl (lv_at hl 1 rfl) ?_
  refine K_i (G_X (As := [.int x]) (rest := []) X hM (c_X8_tells_k3 l g _ kk nu v o x (tc + 1) (fPut 20 tf tc 31) (mup_r (ne_kind h_o h1 (ne_cls (by decide))) (mup_r (ne_kind h_o h2 Sum.inr_ne_inl) h_o)) (mup_s _ _ _) (mup_r (X.2.ne (i := 2) (j := 1) (by decide) (by decide) (by decide)) (mup_s _ _ _)) ) lx_X3_23 (mup_r (ne_kind h_o h1 (ne_cls (by decide))) (mup_r (ne_kind h_o h2 Sum.inr_ne_inl) h_o)) rfl rfl hl.1 rfl (Nat.le_of_ble_eq_true rfl) (by decide) dX3_tells_12 ⟨Nat.le_of_ble_eq_true rfl, Nat.le_of_ble_eq_true rfl⟩) hM (fun r M1 H locs hM hp => ?_)
  obtain ⟨rfl, rfl⟩ := hp
  rw [mup_w _ _ _ (X.2.ne (i := 1) (j := 2) (by decide) (by decide) (by decide)), mup_i] at hM
  rw [mup_i] at hM
  have hM : MW g (mup (mup M (gA g 2) (aI g 20 ((telS 3 nu v x ((tc + 1), (fPut 20 tf tc 31))).2.2))) (gA g 1) (rowsE (gA g 2) 20 1 ((telS 3 nu v x ((tc + 1), (fPut 20 tf tc 31))).2.1))) H locs := hM
  refine lv_bipush (v := 7) hx hb dX3_tells_15 (by decide) ?_
  refine lv_ixor hx hb dX3_tells_17 ?_
  exact R_i X hr hk hM ⟨rfl, rfl⟩ dX3_tells_18
set_option maxHeartbeats 4000000 in
set_option maxRecDepth 100000 in
theorem c_X3_tells_k6 (l : Launch) (g : Gp) (M : Mem) (kk nu v : Int32) (o : Nat) (x tc : Int32) (tf : Nat → Int32) (h_o : M o = some (starE6 g kk nu v)) (h1 : M (gA g 1) = some (rowsE (gA g 2) 20 1 tc)) (h2 : M (gA g 2) = some (aI g 20 tf)) : Met l yX3_tells (wsM yX3_tells cX3_tells 2 (some .int)) (rmD 7 0 0) (Pre g M [.ref o, .int x]) (Qi g (fun r M1 => ((telU 6 nu v x (tc, tf)).1) = r ∧ mup (mup M (gA g 2) (aI g 20 ((telU 6 nu v x (tc, tf)).2.2))) (gA g 1) (rowsE (gA g 2) 20 1 ((telU 6 nu v x (tc, tf)).2.1)) = M1)) 0 0 (gF g) := M_start (by decide +kernel) (Nat.le_of_ble_eq_true rfl) fun p e s m args below meth c ls X hr hk hnm hM hl => by
  have X : Cx g p m c cX3_tells 2 s args RX3 := X
  have hx := X.1.1
  have hb := X.1.2.1
  have hl : lv_has ls 2 [(0, .ref o), (1, .int x)] := hl
  refine lv_aload_n hx hb dX3_tells_0 rfl (lv_at hl 0 rfl) ?_
  refine r_get (T := TX9) (N := 4) (ci := 9) (v := .ref (gA g 1)) X hM iX9 rfl 3 (by decide) q_387 (Or.inr q_388) h_o rfl dX3_tells_1 ?_
  refine lv_bipush (v := 31) hx hb dX3_tells_4 (by decide) ?_
  refine K_i (G_V (As := [.int 31]) (rest := []) X hM (c_X5_tell l g _ (gA g 1) (gA g 2) 20 tf 20 1 tc 31 h1 h2 (by decide) (X.2.ne (i := 1) (j := 2) (by decide) (by decide) (by decide))) lk_X3_17 h1 rfl rfl hl.1 rfl (Nat.le_of_ble_eq_true rfl) (by decide) dX3_tells_6 ⟨Nat.le_of_ble_eq_true rfl, Nat.le_of_ble_eq_true rfl⟩) hM (fun r M1 H locs hM hp => ?_)
  obtain ⟨rfl, rfl⟩ := hp
  have hM : MW g (mup (mup M (gA g 2) (aI g 20 (fPut 20 tf tc 31))) (gA g 1) (rowsE (gA g 2) 20 1 (tc + 1))) H locs := hM
  refine lv_pop hx hb dX3_tells_9 rfl ?_
  refine lv_aload_n hx hb dX3_tells_10 rfl (lv_at hl 0 rfl) ?_
  refine lv_iload_n hx hb dX3_tells_11 rfl (lv_at hl 1 rfl) ?_
  refine K_i (G_X (As := [.int x]) (rest := []) X hM (c_X8_tells_k6 l g _ kk nu v o x (tc + 1) (fPut 20 tf tc 31) (mup_r (ne_kind h_o h1 (ne_cls (by decide))) (mup_r (ne_kind h_o h2 Sum.inr_ne_inl) h_o)) (mup_s _ _ _) (mup_r (X.2.ne (i := 2) (j := 1) (by decide) (by decide) (by decide)) (mup_s _ _ _)) ) lx_X3_23 (mup_r (ne_kind h_o h1 (ne_cls (by decide))) (mup_r (ne_kind h_o h2 Sum.inr_ne_inl) h_o)) rfl rfl hl.1 rfl (Nat.le_of_ble_eq_true rfl) (by decide) dX3_tells_12 ⟨Nat.le_of_ble_eq_true rfl, Nat.le_of_ble_eq_true rfl⟩) hM (fun r M1 H locs hM hp => ?_)
  obtain ⟨rfl, rfl⟩ := hp
  rw [mup_w _ _ _ (X.2.ne (i := 1) (j := 2) (by decide) (by decide) (by decide)), mup_i] at hM
  rw [mup_i] at hM
  have hM : MW g (mup (mup M (gA g 2) (aI g 20 ((telS 6 nu v x ((tc + 1), (fPut 20 tf tc 31))).2.2))) (gA g 1) (rowsE (gA g 2) 20 1 ((telS 6 nu v x ((tc + 1), (fPut 20 tf tc 31))).2.1))) H locs := hM
  refine lv_bipush (v := 7) hx hb dX3_tells_15 (by decide) ?_
  refine lv_ixor hx hb dX3_tells_17 ?_
  exact R_i X hr hk hM ⟨rfl, rfl⟩ dX3_tells_18
set_option maxHeartbeats 4000000 in
set_option maxRecDepth 100000 in
theorem c_X10_tells_k4 (l : Launch) (g : Gp) (M : Mem) (kk nu v : Int32) (o : Nat) (x tc : Int32) (tf : Nat → Int32) (h_o : M o = some (starE4 g kk nu v)) (h1 : M (gA g 1) = some (rowsE (gA g 2) 20 1 tc)) (h2 : M (gA g 2) = some (aI g 20 tf)) : Met l yX10_tells (wsM yX10_tells cX10_tells 2 (some .int)) (rmD 7 0 0) (Pre g M [.ref o, .int x]) (Qi g (fun r M1 => ((telW 4 nu v x (tc, tf)).1) = r ∧ mup (mup M (gA g 2) (aI g 20 ((telW 4 nu v x (tc, tf)).2.2))) (gA g 1) (rowsE (gA g 2) 20 1 ((telW 4 nu v x (tc, tf)).2.1)) = M1)) 0 0 (gF g) := M_start (by decide +kernel) (Nat.le_of_ble_eq_true rfl) fun p e s m args below meth c ls X hr hk hnm hM hl => by
  have X : Cx g p m c cX10_tells 2 s args RX10 := X
  have hx := X.1.1
  have hb := X.1.2.1
  have hl : lv_has ls 2 [(0, .ref o), (1, .int x)] := hl
  refine lv_aload_n hx hb dX10_tells_0 rfl (lv_at hl 0 rfl) ?_
  refine r_get (T := TX10) (N := 4) (ci := 10) (v := .ref (gA g 1)) X hM iX10 rfl 3 (by decide) q_393 (Or.inr q_394) h_o rfl dX10_tells_1 ?_
  refine lv_bipush (v := 41) hx hb dX10_tells_4 (by decide) ?_
  refine K_i (G_V (As := [.int 41]) (rest := []) X hM (c_X5_tell l g _ (gA g 1) (gA g 2) 20 tf 20 1 tc 41 h1 h2 (by decide) (X.2.ne (i := 1) (j := 2) (by decide) (by decide) (by decide))) lk_X10_21 h1 rfl rfl hl.1 rfl (Nat.le_of_ble_eq_true rfl) (by decide) dX10_tells_6 ⟨Nat.le_of_ble_eq_true rfl, Nat.le_of_ble_eq_true rfl⟩) hM (fun r M1 H locs hM hp => ?_)
  obtain ⟨rfl, rfl⟩ := hp
  have hM : MW g (mup (mup M (gA g 2) (aI g 20 (fPut 20 tf tc 41))) (gA g 1) (rowsE (gA g 2) 20 1 (tc + 1))) H locs := hM
  refine lv_pop hx hb dX10_tells_9 rfl ?_
  refine lv_aload_n hx hb dX10_tells_10 rfl (lv_at hl 0 rfl) ?_
  refine lv_iload_n hx hb dX10_tells_11 rfl (lv_at hl 1 rfl) ?_
  refine lv_iconst (v := 1) hx hb dX10_tells_12 (by decide) ?_
  refine lv_isub hx hb dX10_tells_13 ?_
  refine K_i (G_X (As := [.int (x - 1)]) (rest := []) X hM (c_X8_tells_k4 l g _ kk nu v o (x - 1) (tc + 1) (fPut 20 tf tc 41) (mup_r (ne_kind h_o h1 (ne_cls (by decide))) (mup_r (ne_kind h_o h2 Sum.inr_ne_inl) h_o)) (mup_s _ _ _) (mup_r (X.2.ne (i := 2) (j := 1) (by decide) (by decide) (by decide)) (mup_s _ _ _)) ) lx_X10_27 (mup_r (ne_kind h_o h1 (ne_cls (by decide))) (mup_r (ne_kind h_o h2 Sum.inr_ne_inl) h_o)) rfl rfl hl.1 rfl (Nat.le_of_ble_eq_true rfl) (by decide) dX10_tells_14 ⟨Nat.le_of_ble_eq_true rfl, Nat.le_of_ble_eq_true rfl⟩) hM (fun r M1 H locs hM hp => ?_)
  obtain ⟨rfl, rfl⟩ := hp
  rw [mup_w _ _ _ (X.2.ne (i := 1) (j := 2) (by decide) (by decide) (by decide)), mup_i] at hM
  rw [mup_i] at hM
  have hM : MW g (mup (mup M (gA g 2) (aI g 20 ((telS 4 nu v (x - 1) ((tc + 1), (fPut 20 tf tc 41))).2.2))) (gA g 1) (rowsE (gA g 2) 20 1 ((telS 4 nu v (x - 1) ((tc + 1), (fPut 20 tf tc 41))).2.1))) H locs := hM
  refine lv_aload_n hx hb dX10_tells_17 rfl (lv_at hl 0 rfl) ?_
  refine lv_iconst (v := 2) hx hb dX10_tells_18 (by decide) ?_
  refine K_i (G_U (As := [.int 2]) (rest := [.int ((telS 4 nu v (x - 1) ((tc + 1), (fPut 20 tf tc 41))).1)]) X hM (c_X2_glows_k4 l g _ kk nu v o 2 ((telS 4 nu v (x - 1) ((tc + 1), (fPut 20 tf tc 41))).2.1) ((telS 4 nu v (x - 1) ((tc + 1), (fPut 20 tf tc 41))).2.2) (mup_r (ne_kind h_o h1 (ne_cls (by decide))) (mup_r (ne_kind h_o h2 Sum.inr_ne_inl) h_o)) (mup_s _ _ _) (mup_r (X.2.ne (i := 2) (j := 1) (by decide) (by decide) (by decide)) (mup_s _ _ _)) ) lu_X10_30_X10 (mup_r (ne_kind h_o h1 (ne_cls (by decide))) (mup_r (ne_kind h_o h2 Sum.inr_ne_inl) h_o)) rfl rfl hl.1 rfl (Nat.le_of_ble_eq_true rfl) (by decide) dX10_tells_19 ⟨Nat.le_of_ble_eq_true rfl, Nat.le_of_ble_eq_true rfl⟩) hM (fun r M1 H locs hM hp => ?_)
  obtain ⟨rfl, rfl⟩ := hp
  rw [mup_w _ _ _ (X.2.ne (i := 1) (j := 2) (by decide) (by decide) (by decide)), mup_i] at hM
  rw [mup_i] at hM
  have hM : MW g (mup (mup M (gA g 2) (aI g 20 ((gloM nu 2 (((telS 4 nu v (x - 1) ((tc + 1), (fPut 20 tf tc 41))).2.1), ((telS 4 nu v (x - 1) ((tc + 1), (fPut 20 tf tc 41))).2.2))).2.2))) (gA g 1) (rowsE (gA g 2) 20 1 ((gloM nu 2 (((telS 4 nu v (x - 1) ((tc + 1), (fPut 20 tf tc 41))).2.1), ((telS 4 nu v (x - 1) ((tc + 1), (fPut 20 tf tc 41))).2.2))).2.1))) H locs := hM
  refine lv_iadd hx hb dX10_tells_22 ?_
  exact R_i X hr hk hM ⟨rfl, rfl⟩ dX10_tells_23
set_option maxHeartbeats 1000000 in
theorem vr_glows_X11 {g : Gp} {p : Program} {l : Launch} {e : Env} {s : State} {m : MethodId} {args : Array Value} {below : List Frame} {meth : Method} {c : Code} {H : Heap} {locs : List Loc} {cells slots : Nat} {cc : ByteArray} {nL : Nat} {M : Mem} {pc : Nat} {ls : Array Slot} {rest : List Value} {o kd d mcR msR : Nat} {nu v x tc : Int32} {tf : Nat → Int32} (X : Cx g p m c cc nL s args RX11) (hM : MW g M H locs) (he : M o = some (starC g kd nu v)) (h1 : M (gA g 1) = some (rowsE (gA g 2) 20 1 tc)) (h2 : M (gA g 2) = some (aI g 20 tf)) (hkd : kd ≤ 6) (hls : ls.size = nL) (hW : (rest.map fun v => v.category).sum ≤ 8) (hd : 4 ≤ d) (hdg : decode cc pc = .ok (.invokevirtual 241, 3)) (hf : cells ≤ mcR ∧ slots ≤ msR) : va_Run p l e (rmD d mcR msR) s m args below meth c H locs cells slots 0 0 (F0 m pc ls (.int x :: .ref o :: rest)) rest (Qi g (fun r M1 => (gloN kd nu x (tc, tf)).1 = r ∧ mup (mup M (gA g 2) (aI g 20 (gloN kd nu x (tc, tf)).2.2)) (gA g 1) (rowsE (gA g 2) 20 1 (gloN kd nu x (tc, tf)).2.1) = M1) #[.ref o, .int x]) (gF g) := by
  rcases (show kd = 0 ∨ kd = 1 ∨ kd = 2 ∨ kd = 3 ∨ kd = 4 ∨ kd = 5 ∨ kd = 6 by omega) with rfl | rfl | rfl | rfl | rfl | rfl | rfl
  · exact G_U (As := [.int x]) X hM (c_X8_glows_k0 l g M (nI 0) nu v o x tc tf he h1 h2) lu_X11_241_X8 he rfl rfl hls rfl hW (by omega) hdg hf
  · exact G_U (As := [.int x]) X hM (c_X2_glows_k1 l g M (nI 1) nu v o x tc tf he h1 h2) lu_X11_241_X2 he rfl rfl hls rfl hW (by omega) hdg hf
  · exact G_U (As := [.int x]) X hM (c_X8_glows_k2 l g M (nI 2) nu v o x tc tf he h1 h2) lu_X11_241_X0 he rfl rfl hls rfl hW (by omega) hdg hf
  · exact G_U (As := [.int x]) X hM (c_X8_glows_k3 l g M (nI 3) nu v o x tc tf he h1 h2) lu_X11_241_X3 he rfl rfl hls rfl hW (by omega) hdg hf
  · exact G_U (As := [.int x]) X hM (c_X2_glows_k4 l g M (nI 4) nu v o x tc tf he h1 h2) lu_X11_241_X10 he rfl rfl hls rfl hW (by omega) hdg hf
  · exact G_U (As := [.int x]) X hM (c_X1_glows_k5 l g M (nI 5) nu v o x tc tf he h1 h2) lu_X11_241_X1 he rfl rfl hls rfl hW (by omega) hdg hf
  · exact G_U (As := [.int x]) X hM (c_X8_glows_k6 l g M (nI 6) nu v o x tc tf he h1 h2) lu_X11_241_X9 he rfl rfl hls rfl hW (by omega) hdg hf
set_option maxHeartbeats 1000000 in
theorem vr_claims_X11 {g : Gp} {p : Program} {l : Launch} {e : Env} {s : State} {m : MethodId} {args : Array Value} {below : List Frame} {meth : Method} {c : Code} {H : Heap} {locs : List Loc} {cells slots : Nat} {cc : ByteArray} {nL : Nat} {M : Mem} {pc : Nat} {ls : Array Slot} {rest : List Value} {o kd d mcR msR : Nat} {nu v x tc : Int32} {tf : Nat → Int32} (X : Cx g p m c cc nL s args RX11) (hM : MW g M H locs) (he : M o = some (starC g kd nu v)) (h1 : M (gA g 1) = some (rowsE (gA g 2) 20 1 tc)) (h2 : M (gA g 2) = some (aI g 20 tf)) (hkd : kd ≤ 6) (hls : ls.size = nL) (hW : (rest.map fun v => v.category).sum ≤ 8) (hd : 6 ≤ d) (hdg : decode cc pc = .ok (.invokevirtual 244, 3)) (hf : cells ≤ mcR ∧ slots ≤ msR) : va_Run p l e (rmD d mcR msR) s m args below meth c H locs cells slots 0 0 (F0 m pc ls (.int x :: .ref o :: rest)) rest (Qi g (fun r M1 => (claN kd nu v x (tc, tf)).1 = r ∧ mup (mup M (gA g 2) (aI g 20 (claN kd nu v x (tc, tf)).2.2)) (gA g 1) (rowsE (gA g 2) 20 1 (claN kd nu v x (tc, tf)).2.1) = M1) #[.ref o, .int x]) (gF g) := by
  rcases (show kd = 0 ∨ kd = 1 ∨ kd = 2 ∨ kd = 3 ∨ kd = 4 ∨ kd = 5 ∨ kd = 6 by omega) with rfl | rfl | rfl | rfl | rfl | rfl | rfl
  · exact G_U (As := [.int x]) X hM (c_X8_claims_k0 l g M (nI 0) nu v o x tc tf he h1 h2) lu_X11_244_X8 he rfl rfl hls rfl hW (by omega) hdg hf
  · exact G_U (As := [.int x]) X hM (c_X8_claims_k1 l g M (nI 1) nu v o x tc tf he h1 h2) lu_X11_244_X2 he rfl rfl hls rfl hW (by omega) hdg hf
  · exact G_U (As := [.int x]) X hM (c_X0_claims_k2 l g M (nI 2) nu v o x tc tf he h1 h2) lu_X11_244_X0 he rfl rfl hls rfl hW (by omega) hdg hf
  · exact G_U (As := [.int x]) X hM (c_X8_claims_k3 l g M (nI 3) nu v o x tc tf he h1 h2) lu_X11_244_X3 he rfl rfl hls rfl hW (by omega) hdg hf
  · exact G_U (As := [.int x]) X hM (c_X8_claims_k4 l g M (nI 4) nu v o x tc tf he h1 h2) lu_X11_244_X10 he rfl rfl hls rfl hW (by omega) hdg hf
  · exact G_U (As := [.int x]) X hM (c_X0_claims_k5 l g M (nI 5) nu v o x tc tf he h1 h2) lu_X11_244_X1 he rfl rfl hls rfl hW (by omega) hdg hf
  · exact G_U (As := [.int x]) X hM (c_X9_claims_k6 l g M (nI 6) nu v o x tc tf he h1 h2) lu_X11_244_X9 he rfl rfl hls rfl hW (by omega) hdg hf
set_option maxHeartbeats 1000000 in
theorem vr_tells_X11 {g : Gp} {p : Program} {l : Launch} {e : Env} {s : State} {m : MethodId} {args : Array Value} {below : List Frame} {meth : Method} {c : Code} {H : Heap} {locs : List Loc} {cells slots : Nat} {cc : ByteArray} {nL : Nat} {M : Mem} {pc : Nat} {ls : Array Slot} {rest : List Value} {o kd d mcR msR : Nat} {nu v x tc : Int32} {tf : Nat → Int32} (X : Cx g p m c cc nL s args RX11) (hM : MW g M H locs) (he : M o = some (starC g kd nu v)) (h1 : M (gA g 1) = some (rowsE (gA g 2) 20 1 tc)) (h2 : M (gA g 2) = some (aI g 20 tf)) (hkd : kd ≤ 6) (hls : ls.size = nL) (hW : (rest.map fun v => v.category).sum ≤ 8) (hd : 8 ≤ d) (hdg : decode cc pc = .ok (.invokevirtual 247, 3)) (hf : cells ≤ mcR ∧ slots ≤ msR) : va_Run p l e (rmD d mcR msR) s m args below meth c H locs cells slots 0 0 (F0 m pc ls (.int x :: .ref o :: rest)) rest (Qi g (fun r M1 => (telN kd nu v x (tc, tf)).1 = r ∧ mup (mup M (gA g 2) (aI g 20 (telN kd nu v x (tc, tf)).2.2)) (gA g 1) (rowsE (gA g 2) 20 1 (telN kd nu v x (tc, tf)).2.1) = M1) #[.ref o, .int x]) (gF g) := by
  rcases (show kd = 0 ∨ kd = 1 ∨ kd = 2 ∨ kd = 3 ∨ kd = 4 ∨ kd = 5 ∨ kd = 6 by omega) with rfl | rfl | rfl | rfl | rfl | rfl | rfl
  · exact G_U (As := [.int x]) X hM (c_X8_tells_k0 l g M (nI 0) nu v o x tc tf he h1 h2) lu_X11_247_X8 he rfl rfl hls rfl hW (by omega) hdg hf
  · exact G_U (As := [.int x]) X hM (c_X8_tells_k1 l g M (nI 1) nu v o x tc tf he h1 h2) lu_X11_247_X2 he rfl rfl hls rfl hW (by omega) hdg hf
  · exact G_U (As := [.int x]) X hM (c_X8_tells_k2 l g M (nI 2) nu v o x tc tf he h1 h2) lu_X11_247_X0 he rfl rfl hls rfl hW (by omega) hdg hf
  · exact G_U (As := [.int x]) X hM (c_X3_tells_k3 l g M (nI 3) nu v o x tc tf he h1 h2) lu_X11_247_X3 he rfl rfl hls rfl hW (by omega) hdg hf
  · exact G_U (As := [.int x]) X hM (c_X10_tells_k4 l g M (nI 4) nu v o x tc tf he h1 h2) lu_X11_247_X10 he rfl rfl hls rfl hW (by omega) hdg hf
  · exact G_U (As := [.int x]) X hM (c_X8_tells_k5 l g M (nI 5) nu v o x tc tf he h1 h2) lu_X11_247_X1 he rfl rfl hls rfl hW (by omega) hdg hf
  · exact G_U (As := [.int x]) X hM (c_X3_tells_k6 l g M (nI 6) nu v o x tc tf he h1 h2) lu_X11_247_X9 he rfl rfl hls rfl hW (by omega) hdg hf
set_option maxHeartbeats 4000000 in
set_option maxRecDepth 100000 in
theorem c_X11_act (l : Launch) (g : Gp) (M : Mem) (ik : Int32) (en : En) (tc : Int32) (tf : Nat → Int32) (x w n : Int32) (h0 : M (gA g 0) = some (custE g ik)) (h3 : M (gA g 3) = some (roofN g (eNi en) (nI (eL en)) (eSk en) (eHi en))) (h5 : M (gA g 5) = some (aS g 6 (eS en))) (h1 : M (gA g 1) = some (rowsE (gA g 2) 20 1 tc)) (h2 : M (gA g 2) = some (aI g 20 tf)) (hE : EnOk g M en) : Met l yX11_act (wsM yX11_act cX11_act 5 (some .int)) (rmD 9 0 0) (Pre g M [.ref (gA g 0), .int x, .int w, .int n]) (Qi g (fun r M1 => ((opAct en tf x w n).1) = r ∧ mup (mup M (gA g 1) (rowsE (gA g 2) 20 1 ((opAct en tf x w n).2.1))) (gA g 2) (aI g 20 ((opAct en tf x w n).2.2)) = M1)) 0 0 (gF g) := M_start (by decide +kernel) (Nat.le_of_ble_eq_true rfl) fun p e s m args below meth c ls X hr hk hnm hM hl => by
  have X : Cx g p m c cX11_act 5 s args RX11 := X
  have hx := X.1.1
  have hb := X.1.2.1
  have hl : lv_has ls 5 [(0, .ref (gA g 0)), (1, .int x), (2, .int w), (3, .int n)] := hl
  refine lv_aload_n hx hb dX11_act_0 rfl (lv_at hl 0 rfl) ?_
  refine r_get (T := TX11) (N := 7) (ci := 11) (v := .ref (gA g 1)) X hM iX11 rfl 0 (by decide) q_176 (Or.inl rfl) h0 rfl dX11_act_1 ?_
  refine K_i (G_V (As := []) (rest := []) X hM (c_X5_clear l g _ (gA g 1) (gA g 2) 20 1 tc h1 ) lk_X11_73 h1 rfl rfl hl.1 rfl (Nat.le_of_ble_eq_true rfl) (by decide) dX11_act_4 ⟨Nat.le_of_ble_eq_true rfl, Nat.le_of_ble_eq_true rfl⟩) hM (fun r M1 H locs hM hp => ?_)
  obtain ⟨rfl, rfl⟩ := hp
  have hM : MW g (mup M (gA g 1) (rowsE (gA g 2) 20 1 0)) H locs := hM
  refine lv_pop hx hb dX11_act_7 rfl ?_
  refine lv_aload_n hx hb dX11_act_8 rfl (lv_at hl 0 rfl) ?_
  refine r_get (T := TX11) (N := 7) (ci := 11) (v := .ref (gA g 3)) X hM iX11 rfl 1 (by decide) q_177 (Or.inl rfl) (mup_r (X.2.ne (i := 0) (j := 1) (by decide) (by decide) (by decide)) h0) rfl dX11_act_9 ?_
  refine lv_iload_n hx hb dX11_act_12 rfl (lv_at hl 1 rfl) ?_
  refine K_q (G_V (As := [.int x]) (rest := []) X hM (c_X4_starAt l g _ en (eNi en) (eSk en) (eHi en) x (mup_r (X.2.ne (i := 3) (j := 1) (by decide) (by decide) (by decide)) h3) (mup_r (X.2.ne (i := 5) (j := 1) (by decide) (by decide) (by decide)) h5) ) lk_X11_98 (mup_r (X.2.ne (i := 3) (j := 1) (by decide) (by decide) (by decide)) h3) rfl rfl hl.1 rfl (Nat.le_of_ble_eq_true rfl) (by decide) dX11_act_13 ⟨Nat.le_of_ble_eq_true rfl, Nat.le_of_ble_eq_true rfl⟩) hM (fun r M1 H locs hM hp => ?_)
  obtain ⟨rfl, rfl⟩ := hp
  rcases fStar_cases (EnOk.up (e := rowsE (gA g 2) 20 1 0) hE h1 (nostO (by decide))) (x) with ⟨e_j_1, h_j_1⟩ | ⟨j_1, h_j_1, x_j_1, e_j_1⟩
  · rw [e_j_1]
    have il_j_1 := fIsL_0 h_j_1
    refine l_nstore (lv' := [(4, .null), (0, .ref (gA g 0)), (1, .int x), (2, .int w), (3, .int n)]) hx hb dX11_act_16 hl (by decide) rfl (fun ls hl => ?_)
    refine l_nload hx hb dX11_act_18 (lv_at hl 0 rfl) ?_
    refine lv_ifnonnullN hx hb dX11_act_20 ?_
    refine lv_iconst (v := 0) hx hb dX11_act_23 (by decide) ?_
    have e9 : opAct en tf x w n = (0, 0, tf) := by
      unfold opAct; (first | rw [if_pos il_j_1] | rw [if_neg il_j_1] | skip); all_goals first | rfl | (simp only [if_true])
    exact R_i X hr hk hM ⟨(by rw [e9]), (by rw [e9] <;> first | rfl | (dsimp only; done) | (dsimp only; simp only [mup_id h1, mup_id h2]; done) | (simp only [mup_id h1, mup_id h2]; done) | (rw [mup_id (mup_r (X.2.ne (i := 2) (j := 1) (by decide) (by decide) (by decide)) h2)]) | (dsimp only; rw [mup_id (mup_r (X.2.ne (i := 2) (j := 1) (by decide) (by decide) (by decide)) h2)]))⟩ dX11_act_24
  · rw [e_j_1]
    obtain ⟨s_j_1, m_j_1, hkd⟩ := hE.2.2 j_1 h_j_1
    have il_j_1 := fIsL_1n x_j_1 h_j_1 hE.1
    have jc_j_1 := clampj x_j_1 h_j_1 hE.1
    refine lv_astore (lv' := [(4, .ref (eSt en j_1)), (0, .ref (gA g 0)), (1, .int x), (2, .int w), (3, .int n)]) hx hb dX11_act_16 hl (by decide) rfl (fun ls hl => ?_)
    refine lv_aload hx hb dX11_act_18 (lv_at hl 0 rfl) ?_
    refine lv_ifnonnull (tgt := 25) hx hb dX11_act_20 (by decide) ?_
    refine lv_iload_n hx hb dX11_act_25 rfl (lv_at hl 3 rfl) ?_
    by_cases w_2 : w = 0
    · skip
      refine lv_tableIn (off := 26) (tgt := 52) hx hb dX11_act_26 (by rw [w_2]; decide) (by rw [w_2]; decide) (by rw [w_2]; rfl) (by decide) ?_
      refine lv_aload hx hb dX11_act_52 (lv_at hl 0 rfl) ?_
      refine lv_iload_n hx hb dX11_act_54 rfl (lv_at hl 4 rfl) ?_
      refine K_i (vr_glows_X11 (rest := []) X hM (mup_r (ne_star m_j_1 h1 (by decide)) m_j_1) (mup_s _ _ _) (mup_r (X.2.ne (i := 2) (j := 1) (by decide) (by decide) (by decide)) h2) hkd hl.1 (Nat.le_of_ble_eq_true rfl) (by decide) dX11_act_55 ⟨Nat.le_of_ble_eq_true rfl, Nat.le_of_ble_eq_true rfl⟩) hM (fun r M1 H locs hM hp => ?_)
      obtain ⟨rfl, rfl⟩ := hp
      rw [mup_w _ _ _ (X.2.ne (i := 2) (j := 1) (by decide) (by decide) (by decide)), mup_i] at hM
      have hM : MW g (mup (mup M (gA g 1) (rowsE (gA g 2) 20 1 ((gloN (eKd en j_1) (nI j_1) n (0, tf)).2.1))) (gA g 2) (aI g 20 ((gloN (eKd en j_1) (nI j_1) n (0, tf)).2.2))) H locs := hM
      have e9 : opAct en tf x w n = ((gloN (eKd en j_1) (nI j_1) n (0, tf)).1, (gloN (eKd en j_1) (nI j_1) n (0, tf)).2.1, (gloN (eKd en j_1) (nI j_1) n (0, tf)).2.2) := by
        unfold opAct; (try simp only [jc_j_1]); (first | rw [if_pos il_j_1] | rw [if_neg il_j_1] | skip); (first | rw [if_pos w_2] | rw [if_neg w_2] | skip); all_goals first | rfl | (simp only [if_true])
      exact R_i X hr hk hM ⟨(by rw [e9]), (by rw [e9] <;> first | rfl | (dsimp only; done) | (dsimp only; simp only [mup_id h1, mup_id h2]; done) | (simp only [mup_id h1, mup_id h2]; done))⟩ dX11_act_58
    by_cases w_3 : w = 1
    · skip
      refine lv_tableIn (off := 33) (tgt := 59) hx hb dX11_act_26 (by rw [w_3]; decide) (by rw [w_3]; decide) (by rw [w_3]; rfl) (by decide) ?_
      refine lv_aload hx hb dX11_act_59 (lv_at hl 0 rfl) ?_
      refine lv_iload_n hx hb dX11_act_61 rfl (lv_at hl 4 rfl) ?_
      refine K_i (vr_claims_X11 (rest := []) X hM (mup_r (ne_star m_j_1 h1 (by decide)) m_j_1) (mup_s _ _ _) (mup_r (X.2.ne (i := 2) (j := 1) (by decide) (by decide) (by decide)) h2) hkd hl.1 (Nat.le_of_ble_eq_true rfl) (by decide) dX11_act_62 ⟨Nat.le_of_ble_eq_true rfl, Nat.le_of_ble_eq_true rfl⟩) hM (fun r M1 H locs hM hp => ?_)
      obtain ⟨rfl, rfl⟩ := hp
      rw [mup_w _ _ _ (X.2.ne (i := 2) (j := 1) (by decide) (by decide) (by decide)), mup_i] at hM
      have hM : MW g (mup (mup M (gA g 1) (rowsE (gA g 2) 20 1 ((claN (eKd en j_1) (nI j_1) (eVv en j_1) n (0, tf)).2.1))) (gA g 2) (aI g 20 ((claN (eKd en j_1) (nI j_1) (eVv en j_1) n (0, tf)).2.2))) H locs := hM
      have e9 : opAct en tf x w n = ((claN (eKd en j_1) (nI j_1) (eVv en j_1) n (0, tf)).1, (claN (eKd en j_1) (nI j_1) (eVv en j_1) n (0, tf)).2.1, (claN (eKd en j_1) (nI j_1) (eVv en j_1) n (0, tf)).2.2) := by
        unfold opAct; (try simp only [jc_j_1]); (first | rw [if_pos il_j_1] | rw [if_neg il_j_1] | skip); (first | rw [if_pos w_2] | rw [if_neg w_2] | skip); (first | rw [if_pos w_3] | rw [if_neg w_3] | skip); all_goals first | rfl | (simp only [if_true])
      exact R_i X hr hk hM ⟨(by rw [e9]), (by rw [e9] <;> first | rfl | (dsimp only; done) | (dsimp only; simp only [mup_id h1, mup_id h2]; done) | (simp only [mup_id h1, mup_id h2]; done))⟩ dX11_act_65
    by_cases w_4 : w = 2
    · skip
      refine lv_tableIn (off := 40) (tgt := 66) hx hb dX11_act_26 (by rw [w_4]; decide) (by rw [w_4]; decide) (by rw [w_4]; rfl) (by decide) ?_
      refine lv_aload hx hb dX11_act_66 (lv_at hl 0 rfl) ?_
      refine lv_iload_n hx hb dX11_act_68 rfl (lv_at hl 4 rfl) ?_
      refine K_i (vr_tells_X11 (rest := []) X hM (mup_r (ne_star m_j_1 h1 (by decide)) m_j_1) (mup_s _ _ _) (mup_r (X.2.ne (i := 2) (j := 1) (by decide) (by decide) (by decide)) h2) hkd hl.1 (Nat.le_of_ble_eq_true rfl) (by decide) dX11_act_69 ⟨Nat.le_of_ble_eq_true rfl, Nat.le_of_ble_eq_true rfl⟩) hM (fun r M1 H locs hM hp => ?_)
      obtain ⟨rfl, rfl⟩ := hp
      rw [mup_w _ _ _ (X.2.ne (i := 2) (j := 1) (by decide) (by decide) (by decide)), mup_i] at hM
      have hM : MW g (mup (mup M (gA g 1) (rowsE (gA g 2) 20 1 ((telN (eKd en j_1) (nI j_1) (eVv en j_1) n (0, tf)).2.1))) (gA g 2) (aI g 20 ((telN (eKd en j_1) (nI j_1) (eVv en j_1) n (0, tf)).2.2))) H locs := hM
      have e9 : opAct en tf x w n = ((telN (eKd en j_1) (nI j_1) (eVv en j_1) n (0, tf)).1, (telN (eKd en j_1) (nI j_1) (eVv en j_1) n (0, tf)).2.1, (telN (eKd en j_1) (nI j_1) (eVv en j_1) n (0, tf)).2.2) := by
        unfold opAct; (try simp only [jc_j_1]); (first | rw [if_pos il_j_1] | rw [if_neg il_j_1] | skip); (first | rw [if_pos w_2] | rw [if_neg w_2] | skip); (first | rw [if_pos w_3] | rw [if_neg w_3] | skip); (first | rw [if_pos w_4] | rw [if_neg w_4] | skip); all_goals first | rfl | (simp only [if_true])
      exact R_i X hr hk hM ⟨(by rw [e9]), (by rw [e9] <;> first | rfl | (dsimp only; done) | (dsimp only; simp only [mup_id h1, mup_id h2]; done) | (simp only [mup_id h1, mup_id h2]; done))⟩ dX11_act_72
    refine lv_tableOut (tgt := 73) hx hb dX11_act_26 (by have z0 := i32ne w_2 (by decide : ((0 : Int32)).toInt = 0); have z1 := i32ne w_3 (by decide : ((1 : Int32)).toInt = 1); have z2 := i32ne w_4 (by decide : ((2 : Int32)).toInt = 2); omega) (by decide) ?_
    refine lv_iconst (v := 0) hx hb dX11_act_73 (by decide) ?_
    have e9 : opAct en tf x w n = (0, 0, tf) := by
      unfold opAct; (try simp only [jc_j_1]); (first | rw [if_pos il_j_1] | rw [if_neg il_j_1] | skip); (first | rw [if_pos w_2] | rw [if_neg w_2] | skip); (first | rw [if_pos w_3] | rw [if_neg w_3] | skip); (first | rw [if_pos w_4] | rw [if_neg w_4] | skip); all_goals first | rfl | (simp only [if_true])
    exact R_i X hr hk hM ⟨(by rw [e9]), (by rw [e9] <;> first | rfl | (dsimp only; done) | (dsimp only; simp only [mup_id h1, mup_id h2]; done) | (simp only [mup_id h1, mup_id h2]; done) | (rw [mup_id (mup_r (X.2.ne (i := 2) (j := 1) (by decide) (by decide) (by decide)) h2)]) | (dsimp only; rw [mup_id (mup_r (X.2.ne (i := 2) (j := 1) (by decide) (by decide) (by decide)) h2)]))⟩ dX11_act_74
