theorem lk_L_13 : LkV RL 13 yX11_feed cX11_feed 2 (some .int) 1 := lkV_of q_198 q_199 q_200 q_1 q_201 ⟨by decide, by decide, by decide +kernel⟩ (by decide)
theorem lk_L_17 : LkV RL 17 yX12_feed cX12_feed 2 (some .int) 1 := lkV_of q_897 q_898 q_899 q_7 q_900 ⟨by decide, by decide, by decide +kernel⟩ (by decide)
theorem lk_L_18 : LkV RL 18 yX11_sky cX11_sky 2 (some .int) 0 := lkV_of q_213 q_214 q_215 q_1 q_216 ⟨by decide, by decide, by decide +kernel⟩ (by decide)
theorem lk_L_22 : LkV RL 22 yX12_sky cX12_sky 2 (some .int) 0 := lkV_of q_904 q_905 q_906 q_7 q_907 ⟨by decide, by decide, by decide +kernel⟩ (by decide)
theorem lk_L_23 : LkV RL 23 yX11_light cX11_light 5 (some .int) 4 := lkV_of q_346 q_347 q_348 q_1 q_349 ⟨by decide, by decide, by decide +kernel⟩ (by decide)
theorem lk_L_27 : LkV RL 27 yX12_light cX12_light 7 (some .int) 4 := lkV_of q_968 q_969 q_970 q_7 q_971 ⟨by decide, by decide, by decide +kernel⟩ (by decide)
theorem lk_L_28 : LkV RL 28 yX11_of cX11_of 4 (some .int) 2 := lkV_of q_472 q_473 q_474 q_1 q_475 ⟨by decide, by decide, by decide +kernel⟩ (by decide)
theorem lk_L_32 : LkV RL 32 yX12_of cX12_of 3 (some .int) 2 := lkV_of q_972 q_973 q_974 q_7 q_975 ⟨by decide, by decide, by decide +kernel⟩ (by decide)
theorem lk_L_33 : LkV RL 33 yX11_base cX11_base 5 (some .int) 3 := lkV_of q_513 q_514 q_515 q_1 q_516 ⟨by decide, by decide, by decide +kernel⟩ (by decide)
theorem lk_L_37 : LkV RL 37 yX12_base cX12_base 4 (some .int) 3 := lkV_of q_984 q_985 q_986 q_7 q_987 ⟨by decide, by decide, by decide +kernel⟩ (by decide)
theorem lk_L_38 : LkV RL 38 yX11_worth cX11_worth 5 (some .int) 3 := lkV_of q_526 q_527 q_528 q_1 q_529 ⟨by decide, by decide, by decide +kernel⟩ (by decide)
theorem lk_L_41 : LkV RL 41 yX12_worth cX12_worth 4 (some .int) 3 := lkV_of q_1000 q_1001 q_1002 q_7 q_1003 ⟨by decide, by decide, by decide +kernel⟩ (by decide)
theorem lk_L_42 : LkV RL 42 yX11_row cX11_row 5 (some .int) 3 := lkV_of q_562 q_563 q_564 q_1 q_565 ⟨by decide, by decide, by decide +kernel⟩ (by decide)
theorem lk_L_45 : LkV RL 45 yX12_row cX12_row 5 (some .int) 3 := lkV_of q_1008 q_1009 q_1010 q_7 q_1011 ⟨by decide, by decide, by decide +kernel⟩ (by decide)
theorem lk_L_46 : LkV RL 46 yX11_set cX11_set 4 (some .int) 3 := lkV_of q_570 q_571 q_572 q_1 q_573 ⟨by decide, by decide, by decide +kernel⟩ (by decide)
theorem lk_L_49 : LkV RL 49 yX12_set cX12_set 6 (some .int) 3 := lkV_of q_1012 q_1013 q_1014 q_7 q_1015 ⟨by decide, by decide, by decide +kernel⟩ (by decide)
theorem lk_L_50 : LkV RL 50 yX11_hide cX11_hide 4 (some .int) 2 := lkV_of q_574 q_575 q_576 q_1 q_577 ⟨by decide, by decide, by decide +kernel⟩ (by decide)
theorem lk_L_54 : LkV RL 54 yX12_hide cX12_hide 4 (some .int) 2 := lkV_of q_1016 q_1017 q_1018 q_7 q_1019 ⟨by decide, by decide, by decide +kernel⟩ (by decide)
theorem lk_L_55 : LkV RL 55 yX11_told cX11_told 2 (some .int) 1 := lkV_of q_581 q_582 q_583 q_1 q_584 ⟨by decide, by decide, by decide +kernel⟩ (by decide)
theorem lk_L_58 : LkV RL 58 yX12_told cX12_told 2 (some .int) 1 := lkV_of q_1020 q_1021 q_1022 q_7 q_1023 ⟨by decide, by decide, by decide +kernel⟩ (by decide)
theorem lk_L_59 : LkV RL 59 yX11_pass cX11_pass 5 (some .int) 1 := lkV_of q_604 q_605 q_606 q_1 q_607 ⟨by decide, by decide, by decide +kernel⟩ (by decide)
theorem lk_L_62 : LkV RL 62 yX12_pass cX12_pass 3 (some .int) 1 := lkV_of q_1044 q_1045 q_1046 q_7 q_1047 ⟨by decide, by decide, by decide +kernel⟩ (by decide)
theorem lk_L_63 : LkV RL 63 yX11_on cX11_on 5 (some .int) 2 := lkV_of q_609 q_610 q_611 q_1 q_612 ⟨by decide, by decide, by decide +kernel⟩ (by decide)
theorem lk_L_66 : LkV RL 66 yX12_on cX12_on 4 (some .int) 2 := lkV_of q_1056 q_1057 q_1058 q_7 q_1059 ⟨by decide, by decide, by decide +kernel⟩ (by decide)
theorem lk_L_67 : LkV RL 67 yX11_when cX11_when 2 (some .int) 1 := lkV_of q_619 q_620 q_621 q_1 q_622 ⟨by decide, by decide, by decide +kernel⟩ (by decide)
theorem lk_L_70 : LkV RL 70 yX12_when cX12_when 3 (some .int) 1 := lkV_of q_1075 q_1076 q_1077 q_7 q_1078 ⟨by decide, by decide, by decide +kernel⟩ (by decide)
theorem lk_L_71 : LkV RL 71 yX11_meet cX11_meet 3 (some .int) 2 := lkV_of q_627 q_628 q_629 q_1 q_630 ⟨by decide, by decide, by decide +kernel⟩ (by decide)
theorem lk_L_74 : LkV RL 74 yX12_meet cX12_meet 4 (some .int) 2 := lkV_of q_1079 q_1080 q_1081 q_7 q_1082 ⟨by decide, by decide, by decide +kernel⟩ (by decide)
theorem lk_L_75 : LkV RL 75 yX11_deal cX11_deal 5 (some .int) 3 := lkV_of q_631 q_632 q_633 q_1 q_634 ⟨by decide, by decide, by decide +kernel⟩ (by decide)
theorem lk_L_78 : LkV RL 78 yX12_deal cX12_deal 13 (some .int) 3 := lkV_of q_1083 q_1084 q_1085 q_7 q_1086 ⟨by decide, by decide, by decide +kernel⟩ (by decide)
theorem lk_L_79 : LkV RL 79 yX11_shares cX11_shares 3 (some .int) 1 := lkV_of q_644 q_645 q_646 q_1 q_647 ⟨by decide, by decide, by decide +kernel⟩ (by decide)
theorem lk_L_82 : LkV RL 82 yX12_shares cX12_shares 8 (some .int) 1 := lkV_of q_1091 q_1092 q_1093 q_7 q_1094 ⟨by decide, by decide, by decide +kernel⟩ (by decide)
theorem lk_L_83 : LkV RL 83 yX11_note cX11_note 4 (some .int) 3 := lkV_of q_655 q_656 q_657 q_1 q_658 ⟨by decide, by decide, by decide +kernel⟩ (by decide)
theorem lk_L_87 : LkV RL 87 yX12_note cX12_note 4 (some .int) 3 := lkV_of q_1103 q_1104 q_1105 q_7 q_1106 ⟨by decide, by decide, by decide +kernel⟩ (by decide)
theorem lk_L_88 : LkV RL 88 yX11_rounds cX11_rounds 3 (some .int) 2 := lkV_of q_664 q_665 q_666 q_1 q_667 ⟨by decide, by decide, by decide +kernel⟩ (by decide)
theorem lk_L_91 : LkV RL 91 yX12_rounds cX12_rounds 3 (some .int) 2 := lkV_of q_1107 q_1108 q_1109 q_7 q_1110 ⟨by decide, by decide, by decide +kernel⟩ (by decide)
theorem lk_L_92 : LkV RL 92 yX11_phases cX11_phases 3 (some .int) 2 := lkV_of q_682 q_683 q_684 q_1 q_685 ⟨by decide, by decide, by decide +kernel⟩ (by decide)
theorem lk_L_95 : LkV RL 95 yX12_phases cX12_phases 3 (some .int) 2 := lkV_of q_1119 q_1120 q_1121 q_7 q_1122 ⟨by decide, by decide, by decide +kernel⟩ (by decide)
theorem lk_L_96 : LkV RL 96 yX11_firm cX11_firm 3 (some .int) 2 := lkV_of q_686 q_687 q_688 q_1 q_689 ⟨by decide, by decide, by decide +kernel⟩ (by decide)
theorem lk_L_99 : LkV RL 99 yX12_firm cX12_firm 3 (some .int) 2 := lkV_of q_1123 q_1124 q_1125 q_7 q_1126 ⟨by decide, by decide, by decide +kernel⟩ (by decide)
theorem lk_L_100 : LkV RL 100 yX11_odds cX11_odds 7 (some .long) 4 := lkV_of q_690 q_691 q_692 q_1 q_693 ⟨by decide, by decide, by decide +kernel⟩ (by decide)
theorem lk_L_104 : LkV RL 104 yX12_odds cX12_odds 7 (some .long) 4 := lkV_of q_1127 q_1128 q_1129 q_7 q_1130 ⟨by decide, by decide, by decide +kernel⟩ (by decide)
theorem lk_L_105 : LkV RL 105 yX11_mean cX11_mean 5 (some .long) 2 := lkV_of q_702 q_703 q_704 q_1 q_705 ⟨by decide, by decide, by decide +kernel⟩ (by decide)
theorem lk_L_109 : LkV RL 109 yX12_mean cX12_mean 6 (some .long) 2 := lkV_of q_1136 q_1137 q_1138 q_7 q_1139 ⟨by decide, by decide, by decide +kernel⟩ (by decide)
theorem lk_L_110 : LkV RL 110 yX11_plan cX11_plan 3 (some .int) 2 := lkV_of q_706 q_707 q_708 q_1 q_709 ⟨by decide, by decide, by decide +kernel⟩ (by decide)
theorem lk_L_113 : LkV RL 113 yX12_plan cX12_plan 3 (some .int) 2 := lkV_of q_1141 q_1142 q_1143 q_7 q_1144 ⟨by decide, by decide, by decide +kernel⟩ (by decide)
theorem lk_L_114 : LkV RL 114 yX11_done cX11_done 7 (some .int) 1 := lkV_of q_710 q_711 q_712 q_1 q_713 ⟨by decide, by decide, by decide +kernel⟩ (by decide)
theorem lk_L_117 : LkV RL 117 yX12_done cX12_done 3 (some .int) 1 := lkV_of q_1145 q_1146 q_1147 q_7 q_1148 ⟨by decide, by decide, by decide +kernel⟩ (by decide)
theorem lk_L_118 : LkV RL 118 yX11_book cX11_book 3 (some .int) 2 := lkV_of q_714 q_715 q_716 q_1 q_717 ⟨by decide, by decide, by decide +kernel⟩ (by decide)
theorem lk_L_121 : LkV RL 121 yX12_book cX12_book 3 (some .int) 2 := lkV_of q_1153 q_1154 q_1155 q_7 q_1156 ⟨by decide, by decide, by decide +kernel⟩ (by decide)
theorem lk_L_122 : LkV RL 122 yX11_looked cX11_looked 2 (some .int) 0 := lkV_of q_718 q_719 q_720 q_1 q_721 ⟨by decide, by decide, by decide +kernel⟩ (by decide)
theorem lk_L_125 : LkV RL 125 yX12_looked cX12_looked 2 (some .int) 0 := lkV_of q_1157 q_1158 q_1159 q_7 q_1160 ⟨by decide, by decide, by decide +kernel⟩ (by decide)
theorem lk_L_126 : LkV RL 126 yX11_act cX11_act 5 (some .int) 3 := lkV_of q_722 q_723 q_724 q_1 q_725 ⟨by decide, by decide, by decide +kernel⟩ (by decide)
theorem lk_L_129 : LkV RL 129 yX12_act cX12_act 4 (some .int) 3 := lkV_of q_1161 q_1162 q_1163 q_7 q_1164 ⟨by decide, by decide, by decide +kernel⟩ (by decide)
theorem lk_L_130 : LkV RL 130 yX11_trace cX11_trace 2 (some .int) 1 := lkV_of q_796 q_797 q_798 q_1 q_799 ⟨by decide, by decide, by decide +kernel⟩ (by decide)
theorem lk_L_133 : LkV RL 133 yX12_trace cX12_trace 2 (some .int) 1 := lkV_of q_1196 q_1197 q_1198 q_7 q_1199 ⟨by decide, by decide, by decide +kernel⟩ (by decide)
theorem lk_L_134 : LkV RL 134 yX11_as cX11_as 4 (some .int) 2 := lkV_of q_800 q_801 q_802 q_1 q_803 ⟨by decide, by decide, by decide +kernel⟩ (by decide)
theorem lk_L_137 : LkV RL 137 yX12_as cX12_as 3 (some .int) 2 := lkV_of q_1200 q_1201 q_1202 q_7 q_1203 ⟨by decide, by decide, by decide +kernel⟩ (by decide)
theorem lk_L_138 : LkV RL 138 yX11_image cX11_image 1 (some .int) 0 := lkV_of q_807 q_808 q_809 q_1 q_810 ⟨by decide, by decide, by decide +kernel⟩ (by decide)
theorem lk_L_141 : LkV RL 141 yX12_image cX12_image 2 (some .int) 0 := lkV_of q_1204 q_1205 q_1206 q_7 q_1207 ⟨by decide, by decide, by decide +kernel⟩ (by decide)
theorem lk_L_142 : LkV RL 142 yX11_undo cX11_undo 1 (some .int) 0 := lkV_of q_822 q_823 q_824 q_1 q_825 ⟨by decide, by decide, by decide +kernel⟩ (by decide)
theorem lk_L_145 : LkV RL 145 yX12_undo cX12_undo 2 (some .int) 0 := lkV_of q_1208 q_1209 q_1210 q_7 q_1211 ⟨by decide, by decide, by decide +kernel⟩ (by decide)
theorem lk_L_146 : LkV RL 146 yX11_count cX11_count 2 (some .int) 1 := lkV_of q_826 q_827 q_828 q_1 q_829 ⟨by decide, by decide, by decide +kernel⟩ (by decide)
theorem lk_L_149 : LkV RL 149 yX12_count cX12_count 2 (some .int) 1 := lkV_of q_1212 q_1213 q_1214 q_7 q_1215 ⟨by decide, by decide, by decide +kernel⟩ (by decide)
section LAWR
variable {p : Program} {l : Launch} {e : Env} {s : State} {m : MethodId} {args : Array Value} {below : List Frame} {meth : Method} {c : Code} {H : Heap} {locs : List Loc} {cells slots : Nat} {Q : State → Prop}
variable {g : Gp} {cc : ByteArray} {nL : Nat} {own : String} {M : Mem} {pc : Nat} {ls : Array Slot} {rest : List Value} {y : MethodName} {bytes : ByteArray} {maxL mc ms n idx d' : Nat} {ret0 : Option FieldType} {Qc : Array Value → State → Outcome → State → Prop} {As st0 : List Value} {a b ci N : Nat} {T : u_T} {fs : List Value}
theorem L_case_176 {L i : Nat} {xs : Nat → Int32} (C : LwC g p s m c b L xs) (hW : World g M) (hM : MW g M H locs) (hi : i + 5 ≤ L) (hl : lv_has ls 4 (lawL g b i)) (hcc : cells + 1 ≤ 600000) (hss : slots + 4 ≤ 7302250) (kk : ∀ (M1 : Mem) (H1 : Heap) (locs1 : List Loc), World g M1 → MW g M1 H1 locs1 → W p l e room_1 s m #[Value.ref b] below meth c H1 locs1 (cells + 1) (slots + 4) Q (F0 m 1216 ls [])) : W p l e room_1 s m #[Value.ref b] below meth c H locs cells slots Q (F0 m 176 ls []) := by
  have hx := C.1.1.1
  have hb := C.1.1.2.1
  obtain ⟨fs0, hc0⟩ := hW.cust
  have hin1 : vp_in (nI i + 1) L := in_L (k := 1) (by omega) C.2.2.2.2.1
  refine lv_aload_n hx hb dL_law_176 rfl (lv_at hl 2 rfl) ?_
  refine lv_aload_n hx hb dL_law_177 rfl (lv_at hl 3 rfl) ?_
  refine lv_iload_n hx hb dL_law_178 rfl (lv_at hl 0 rfl) ?_
  refine lv_iconst (v := 1) hx hb dL_law_179 (by decide) ?_
  refine lv_iadd hx hb dL_law_180 ?_
  refine L_ld C hM hin1 dL_law_181 ?_
  obtain ⟨P1, met1, F1⟩ := w_feed C.2.2.2.1 hW l (xs (nI i + 1).toNatClampNeg)
  refine K_i (L_V (As := [.int (xs (nI i + 1).toNatClampNeg)]) (rest := []) C.1 hM met1 lk_L_13 hc0 rfl rfl hl.1 rfl (Nat.le_of_ble_eq_true rfl) (by decide) dL_law_182 ⟨by show _ ≤ 600000; omega, by show _ ≤ 7302250; omega⟩) hM (fun r1 M1 H1 locs1 hM1 hp1 => ?_)
  obtain ⟨⟨fs1, hc1⟩, P2, met2, F2⟩ := F1 r1 M1 hp1
  refine lv_aload_n hx hb dL_law_185 rfl (lv_at hl 1 rfl) ?_
  refine lv_aload_n hx hb dL_law_186 rfl (lv_at hl 3 rfl) ?_
  refine lv_iload_n hx hb dL_law_187 rfl (lv_at hl 0 rfl) ?_
  refine lv_iconst (v := 1) hx hb dL_law_188 (by decide) ?_
  refine lv_iadd hx hb dL_law_189 ?_
  refine L_ld C hM1 hin1 dL_law_190 ?_
  refine K_i (L_V (As := [.int (xs (nI i + 1).toNatClampNeg)]) (rest := [.int r1]) C.1 hM1 met2 lk_L_17 hc1 rfl rfl hl.1 rfl (Nat.le_of_ble_eq_true rfl) (by decide) dL_law_191 ⟨by show _ ≤ 600000; omega, by show _ ≤ 7302250; omega⟩) hM1 (fun r2 M2 H2 locs2 hM2 hp2 => ?_)
  obtain ⟨heq, hW2⟩ := F2 r2 M2 hp2
  refine lv_icmp_eq (tgt := 1216) hx hb dL_law_194 (by decide) (fun _ => ?_) (fun c_ => absurd heq c_)
  exact W.widen (by omega) (by omega) (kk _ _ _ hW2 hM2)
theorem L_case_199 {L i : Nat} {xs : Nat → Int32} (C : LwC g p s m c b L xs) (hW : World g M) (hM : MW g M H locs) (hi : i + 5 ≤ L) (hl : lv_has ls 4 (lawL g b i)) (hcc : cells + 1 ≤ 600000) (hss : slots + 4 ≤ 7302250) (kk : ∀ (M1 : Mem) (H1 : Heap) (locs1 : List Loc), World g M1 → MW g M1 H1 locs1 → W p l e room_1 s m #[Value.ref b] below meth c H1 locs1 (cells + 1) (slots + 4) Q (F0 m 1216 ls [])) : W p l e room_1 s m #[Value.ref b] below meth c H locs cells slots Q (F0 m 199 ls []) := by
  have hx := C.1.1.1
  have hb := C.1.1.2.1
  obtain ⟨fs0, hc0⟩ := hW.cust
  refine lv_aload_n hx hb dL_law_199 rfl (lv_at hl 2 rfl) ?_
  obtain ⟨P1, met1, F1⟩ := w_sky C.2.2.2.1 hW l
  refine K_i (L_V (As := []) (rest := []) C.1 hM met1 lk_L_18 hc0 rfl rfl hl.1 rfl (Nat.le_of_ble_eq_true rfl) (by decide) dL_law_200 ⟨by show _ ≤ 600000; omega, by show _ ≤ 7302250; omega⟩) hM (fun r1 M1 H1 locs1 hM1 hp1 => ?_)
  obtain ⟨⟨fs1, hc1⟩, P2, met2, F2⟩ := F1 r1 M1 hp1
  refine lv_aload_n hx hb dL_law_203 rfl (lv_at hl 1 rfl) ?_
  refine K_i (L_V (As := []) (rest := [.int r1]) C.1 hM1 met2 lk_L_22 hc1 rfl rfl hl.1 rfl (Nat.le_of_ble_eq_true rfl) (by decide) dL_law_204 ⟨by show _ ≤ 600000; omega, by show _ ≤ 7302250; omega⟩) hM1 (fun r2 M2 H2 locs2 hM2 hp2 => ?_)
  obtain ⟨heq, hW2⟩ := F2 r2 M2 hp2
  refine lv_icmp_eq (tgt := 1216) hx hb dL_law_207 (by decide) (fun _ => ?_) (fun c_ => absurd heq c_)
  exact W.widen (by omega) (by omega) (kk _ _ _ hW2 hM2)
theorem L_case_212 {L i : Nat} {xs : Nat → Int32} (C : LwC g p s m c b L xs) (hW : World g M) (hM : MW g M H locs) (hi : i + 5 ≤ L) (hl : lv_has ls 4 (lawL g b i)) (hcc : cells + 1 ≤ 600000) (hss : slots + 4 ≤ 7302250) (kk : ∀ (M1 : Mem) (H1 : Heap) (locs1 : List Loc), World g M1 → MW g M1 H1 locs1 → W p l e room_1 s m #[Value.ref b] below meth c H1 locs1 (cells + 1) (slots + 4) Q (F0 m 1216 ls [])) : W p l e room_1 s m #[Value.ref b] below meth c H locs cells slots Q (F0 m 212 ls []) := by
  have hx := C.1.1.1
  have hb := C.1.1.2.1
  obtain ⟨fs0, hc0⟩ := hW.cust
  have hin1 : vp_in (nI i + 1) L := in_L (k := 1) (by omega) C.2.2.2.2.1
  have hin2 : vp_in (nI i + 2) L := in_L (k := 2) (by omega) C.2.2.2.2.1
  have hin3 : vp_in (nI i + 3) L := in_L (k := 3) (by omega) C.2.2.2.2.1
  have hin4 : vp_in (nI i + 4) L := in_L (k := 4) (by omega) C.2.2.2.2.1
  refine lv_aload_n hx hb dL_law_212 rfl (lv_at hl 2 rfl) ?_
  refine lv_aload_n hx hb dL_law_213 rfl (lv_at hl 3 rfl) ?_
  refine lv_iload_n hx hb dL_law_214 rfl (lv_at hl 0 rfl) ?_
  refine lv_iconst (v := 1) hx hb dL_law_215 (by decide) ?_
  refine lv_iadd hx hb dL_law_216 ?_
  refine L_ld C hM hin1 dL_law_217 ?_
  refine lv_aload_n hx hb dL_law_218 rfl (lv_at hl 3 rfl) ?_
  refine lv_iload_n hx hb dL_law_219 rfl (lv_at hl 0 rfl) ?_
  refine lv_iconst (v := 2) hx hb dL_law_220 (by decide) ?_
  refine lv_iadd hx hb dL_law_221 ?_
  refine L_ld C hM hin2 dL_law_222 ?_
  refine lv_aload_n hx hb dL_law_223 rfl (lv_at hl 3 rfl) ?_
  refine lv_iload_n hx hb dL_law_224 rfl (lv_at hl 0 rfl) ?_
  refine lv_iconst (v := 3) hx hb dL_law_225 (by decide) ?_
  refine lv_iadd hx hb dL_law_226 ?_
  refine L_ld C hM hin3 dL_law_227 ?_
  refine lv_aload_n hx hb dL_law_228 rfl (lv_at hl 3 rfl) ?_
  refine lv_iload_n hx hb dL_law_229 rfl (lv_at hl 0 rfl) ?_
  refine lv_iconst (v := 4) hx hb dL_law_230 (by decide) ?_
  refine lv_iadd hx hb dL_law_231 ?_
  refine L_ld C hM hin4 dL_law_232 ?_
  obtain ⟨P1, met1, F1⟩ := w_light C.2.2.2.1 hW l (xs (nI i + 1).toNatClampNeg) (xs (nI i + 2).toNatClampNeg) (xs (nI i + 3).toNatClampNeg) (xs (nI i + 4).toNatClampNeg)
  refine K_i (L_V (As := [.int (xs (nI i + 1).toNatClampNeg), .int (xs (nI i + 2).toNatClampNeg), .int (xs (nI i + 3).toNatClampNeg), .int (xs (nI i + 4).toNatClampNeg)]) (rest := []) C.1 hM met1 lk_L_23 hc0 rfl rfl hl.1 rfl (Nat.le_of_ble_eq_true rfl) (by decide) dL_law_233 ⟨by show _ ≤ 600000; omega, by show _ ≤ 7302250; omega⟩) hM (fun r1 M1 H1 locs1 hM1 hp1 => ?_)
  obtain ⟨⟨fs1, hc1⟩, P2, met2, F2⟩ := F1 r1 M1 hp1
  refine lv_aload_n hx hb dL_law_236 rfl (lv_at hl 1 rfl) ?_
  refine lv_aload_n hx hb dL_law_237 rfl (lv_at hl 3 rfl) ?_
  refine lv_iload_n hx hb dL_law_238 rfl (lv_at hl 0 rfl) ?_
  refine lv_iconst (v := 1) hx hb dL_law_239 (by decide) ?_
  refine lv_iadd hx hb dL_law_240 ?_
  refine L_ld C hM1 hin1 dL_law_241 ?_
  refine lv_aload_n hx hb dL_law_242 rfl (lv_at hl 3 rfl) ?_
  refine lv_iload_n hx hb dL_law_243 rfl (lv_at hl 0 rfl) ?_
  refine lv_iconst (v := 2) hx hb dL_law_244 (by decide) ?_
  refine lv_iadd hx hb dL_law_245 ?_
  refine L_ld C hM1 hin2 dL_law_246 ?_
  refine lv_aload_n hx hb dL_law_247 rfl (lv_at hl 3 rfl) ?_
  refine lv_iload_n hx hb dL_law_248 rfl (lv_at hl 0 rfl) ?_
  refine lv_iconst (v := 3) hx hb dL_law_249 (by decide) ?_
  refine lv_iadd hx hb dL_law_250 ?_
  refine L_ld C hM1 hin3 dL_law_251 ?_
  refine lv_aload_n hx hb dL_law_252 rfl (lv_at hl 3 rfl) ?_
  refine lv_iload_n hx hb dL_law_253 rfl (lv_at hl 0 rfl) ?_
  refine lv_iconst (v := 4) hx hb dL_law_254 (by decide) ?_
  refine lv_iadd hx hb dL_law_255 ?_
  refine L_ld C hM1 hin4 dL_law_256 ?_
  refine K_i (L_V (As := [.int (xs (nI i + 1).toNatClampNeg), .int (xs (nI i + 2).toNatClampNeg), .int (xs (nI i + 3).toNatClampNeg), .int (xs (nI i + 4).toNatClampNeg)]) (rest := [.int r1]) C.1 hM1 met2 lk_L_27 hc1 rfl rfl hl.1 rfl (Nat.le_of_ble_eq_true rfl) (by decide) dL_law_257 ⟨by show _ ≤ 600000; omega, by show _ ≤ 7302250; omega⟩) hM1 (fun r2 M2 H2 locs2 hM2 hp2 => ?_)
  obtain ⟨heq, hW2⟩ := F2 r2 M2 hp2
  refine lv_icmp_eq (tgt := 1216) hx hb dL_law_260 (by decide) (fun _ => ?_) (fun c_ => absurd heq c_)
  exact W.widen (by omega) (by omega) (kk _ _ _ hW2 hM2)
theorem L_case_265 {L i : Nat} {xs : Nat → Int32} (C : LwC g p s m c b L xs) (hW : World g M) (hM : MW g M H locs) (hi : i + 5 ≤ L) (hl : lv_has ls 4 (lawL g b i)) (hcc : cells + 1 ≤ 600000) (hss : slots + 4 ≤ 7302250) (kk : ∀ (M1 : Mem) (H1 : Heap) (locs1 : List Loc), World g M1 → MW g M1 H1 locs1 → W p l e room_1 s m #[Value.ref b] below meth c H1 locs1 (cells + 1) (slots + 4) Q (F0 m 1216 ls [])) : W p l e room_1 s m #[Value.ref b] below meth c H locs cells slots Q (F0 m 265 ls []) := by
  have hx := C.1.1.1
  have hb := C.1.1.2.1
  obtain ⟨fs0, hc0⟩ := hW.cust
  have hin1 : vp_in (nI i + 1) L := in_L (k := 1) (by omega) C.2.2.2.2.1
  have hin2 : vp_in (nI i + 2) L := in_L (k := 2) (by omega) C.2.2.2.2.1
  refine lv_aload_n hx hb dL_law_265 rfl (lv_at hl 2 rfl) ?_
  refine lv_aload_n hx hb dL_law_266 rfl (lv_at hl 3 rfl) ?_
  refine lv_iload_n hx hb dL_law_267 rfl (lv_at hl 0 rfl) ?_
  refine lv_iconst (v := 1) hx hb dL_law_268 (by decide) ?_
  refine lv_iadd hx hb dL_law_269 ?_
  refine L_ld C hM hin1 dL_law_270 ?_
  refine lv_aload_n hx hb dL_law_271 rfl (lv_at hl 3 rfl) ?_
  refine lv_iload_n hx hb dL_law_272 rfl (lv_at hl 0 rfl) ?_
  refine lv_iconst (v := 2) hx hb dL_law_273 (by decide) ?_
  refine lv_iadd hx hb dL_law_274 ?_
  refine L_ld C hM hin2 dL_law_275 ?_
  obtain ⟨P1, met1, F1⟩ := w_of C.2.2.2.1 hW l (xs (nI i + 1).toNatClampNeg) (xs (nI i + 2).toNatClampNeg)
  refine K_i (L_V (As := [.int (xs (nI i + 1).toNatClampNeg), .int (xs (nI i + 2).toNatClampNeg)]) (rest := []) C.1 hM met1 lk_L_28 hc0 rfl rfl hl.1 rfl (Nat.le_of_ble_eq_true rfl) (by decide) dL_law_276 ⟨by show _ ≤ 600000; omega, by show _ ≤ 7302250; omega⟩) hM (fun r1 M1 H1 locs1 hM1 hp1 => ?_)
  obtain ⟨⟨fs1, hc1⟩, P2, met2, F2⟩ := F1 r1 M1 hp1
  refine lv_aload_n hx hb dL_law_279 rfl (lv_at hl 1 rfl) ?_
  refine lv_aload_n hx hb dL_law_280 rfl (lv_at hl 3 rfl) ?_
  refine lv_iload_n hx hb dL_law_281 rfl (lv_at hl 0 rfl) ?_
  refine lv_iconst (v := 1) hx hb dL_law_282 (by decide) ?_
  refine lv_iadd hx hb dL_law_283 ?_
  refine L_ld C hM1 hin1 dL_law_284 ?_
  refine lv_aload_n hx hb dL_law_285 rfl (lv_at hl 3 rfl) ?_
  refine lv_iload_n hx hb dL_law_286 rfl (lv_at hl 0 rfl) ?_
  refine lv_iconst (v := 2) hx hb dL_law_287 (by decide) ?_
  refine lv_iadd hx hb dL_law_288 ?_
  refine L_ld C hM1 hin2 dL_law_289 ?_
  refine K_i (L_V (As := [.int (xs (nI i + 1).toNatClampNeg), .int (xs (nI i + 2).toNatClampNeg)]) (rest := [.int r1]) C.1 hM1 met2 lk_L_32 hc1 rfl rfl hl.1 rfl (Nat.le_of_ble_eq_true rfl) (by decide) dL_law_290 ⟨by show _ ≤ 600000; omega, by show _ ≤ 7302250; omega⟩) hM1 (fun r2 M2 H2 locs2 hM2 hp2 => ?_)
  obtain ⟨heq, hW2⟩ := F2 r2 M2 hp2
  refine lv_icmp_eq (tgt := 1216) hx hb dL_law_293 (by decide) (fun _ => ?_) (fun c_ => absurd heq c_)
  exact W.widen (by omega) (by omega) (kk _ _ _ hW2 hM2)
theorem L_case_298 {L i : Nat} {xs : Nat → Int32} (C : LwC g p s m c b L xs) (hW : World g M) (hM : MW g M H locs) (hi : i + 5 ≤ L) (hl : lv_has ls 4 (lawL g b i)) (hcc : cells + 1 ≤ 600000) (hss : slots + 4 ≤ 7302250) (kk : ∀ (M1 : Mem) (H1 : Heap) (locs1 : List Loc), World g M1 → MW g M1 H1 locs1 → W p l e room_1 s m #[Value.ref b] below meth c H1 locs1 (cells + 1) (slots + 4) Q (F0 m 1216 ls [])) : W p l e room_1 s m #[Value.ref b] below meth c H locs cells slots Q (F0 m 298 ls []) := by
  have hx := C.1.1.1
  have hb := C.1.1.2.1
  obtain ⟨fs0, hc0⟩ := hW.cust
  have hin1 : vp_in (nI i + 1) L := in_L (k := 1) (by omega) C.2.2.2.2.1
  have hin2 : vp_in (nI i + 2) L := in_L (k := 2) (by omega) C.2.2.2.2.1
  have hin3 : vp_in (nI i + 3) L := in_L (k := 3) (by omega) C.2.2.2.2.1
  refine lv_aload_n hx hb dL_law_298 rfl (lv_at hl 2 rfl) ?_
  refine lv_aload_n hx hb dL_law_299 rfl (lv_at hl 3 rfl) ?_
  refine lv_iload_n hx hb dL_law_300 rfl (lv_at hl 0 rfl) ?_
  refine lv_iconst (v := 1) hx hb dL_law_301 (by decide) ?_
  refine lv_iadd hx hb dL_law_302 ?_
  refine L_ld C hM hin1 dL_law_303 ?_
  refine lv_aload_n hx hb dL_law_304 rfl (lv_at hl 3 rfl) ?_
  refine lv_iload_n hx hb dL_law_305 rfl (lv_at hl 0 rfl) ?_
  refine lv_iconst (v := 2) hx hb dL_law_306 (by decide) ?_
  refine lv_iadd hx hb dL_law_307 ?_
  refine L_ld C hM hin2 dL_law_308 ?_
  refine lv_aload_n hx hb dL_law_309 rfl (lv_at hl 3 rfl) ?_
  refine lv_iload_n hx hb dL_law_310 rfl (lv_at hl 0 rfl) ?_
  refine lv_iconst (v := 3) hx hb dL_law_311 (by decide) ?_
  refine lv_iadd hx hb dL_law_312 ?_
  refine L_ld C hM hin3 dL_law_313 ?_
  obtain ⟨P1, met1, F1⟩ := w_base C.2.2.2.1 hW l (xs (nI i + 1).toNatClampNeg) (xs (nI i + 2).toNatClampNeg) (xs (nI i + 3).toNatClampNeg)
  refine K_i (L_V (As := [.int (xs (nI i + 1).toNatClampNeg), .int (xs (nI i + 2).toNatClampNeg), .int (xs (nI i + 3).toNatClampNeg)]) (rest := []) C.1 hM met1 lk_L_33 hc0 rfl rfl hl.1 rfl (Nat.le_of_ble_eq_true rfl) (by decide) dL_law_314 ⟨by show _ ≤ 600000; omega, by show _ ≤ 7302250; omega⟩) hM (fun r1 M1 H1 locs1 hM1 hp1 => ?_)
  obtain ⟨⟨fs1, hc1⟩, P2, met2, F2⟩ := F1 r1 M1 hp1
  refine lv_aload_n hx hb dL_law_317 rfl (lv_at hl 1 rfl) ?_
  refine lv_aload_n hx hb dL_law_318 rfl (lv_at hl 3 rfl) ?_
  refine lv_iload_n hx hb dL_law_319 rfl (lv_at hl 0 rfl) ?_
  refine lv_iconst (v := 1) hx hb dL_law_320 (by decide) ?_
  refine lv_iadd hx hb dL_law_321 ?_
  refine L_ld C hM1 hin1 dL_law_322 ?_
  refine lv_aload_n hx hb dL_law_323 rfl (lv_at hl 3 rfl) ?_
  refine lv_iload_n hx hb dL_law_324 rfl (lv_at hl 0 rfl) ?_
  refine lv_iconst (v := 2) hx hb dL_law_325 (by decide) ?_
  refine lv_iadd hx hb dL_law_326 ?_
  refine L_ld C hM1 hin2 dL_law_327 ?_
  refine lv_aload_n hx hb dL_law_328 rfl (lv_at hl 3 rfl) ?_
  refine lv_iload_n hx hb dL_law_329 rfl (lv_at hl 0 rfl) ?_
  refine lv_iconst (v := 3) hx hb dL_law_330 (by decide) ?_
  refine lv_iadd hx hb dL_law_331 ?_
  refine L_ld C hM1 hin3 dL_law_332 ?_
  refine K_i (L_V (As := [.int (xs (nI i + 1).toNatClampNeg), .int (xs (nI i + 2).toNatClampNeg), .int (xs (nI i + 3).toNatClampNeg)]) (rest := [.int r1]) C.1 hM1 met2 lk_L_37 hc1 rfl rfl hl.1 rfl (Nat.le_of_ble_eq_true rfl) (by decide) dL_law_333 ⟨by show _ ≤ 600000; omega, by show _ ≤ 7302250; omega⟩) hM1 (fun r2 M2 H2 locs2 hM2 hp2 => ?_)
  obtain ⟨heq, hW2⟩ := F2 r2 M2 hp2
  refine lv_icmp_eq (tgt := 1216) hx hb dL_law_336 (by decide) (fun _ => ?_) (fun c_ => absurd heq c_)
  exact W.widen (by omega) (by omega) (kk _ _ _ hW2 hM2)
theorem L_case_341 {L i : Nat} {xs : Nat → Int32} (C : LwC g p s m c b L xs) (hW : World g M) (hM : MW g M H locs) (hi : i + 5 ≤ L) (hl : lv_has ls 4 (lawL g b i)) (hcc : cells + 1 ≤ 600000) (hss : slots + 4 ≤ 7302250) (kk : ∀ (M1 : Mem) (H1 : Heap) (locs1 : List Loc), World g M1 → MW g M1 H1 locs1 → W p l e room_1 s m #[Value.ref b] below meth c H1 locs1 (cells + 1) (slots + 4) Q (F0 m 1216 ls [])) : W p l e room_1 s m #[Value.ref b] below meth c H locs cells slots Q (F0 m 341 ls []) := by
  have hx := C.1.1.1
  have hb := C.1.1.2.1
  obtain ⟨fs0, hc0⟩ := hW.cust
  have hin1 : vp_in (nI i + 1) L := in_L (k := 1) (by omega) C.2.2.2.2.1
  have hin2 : vp_in (nI i + 2) L := in_L (k := 2) (by omega) C.2.2.2.2.1
  have hin3 : vp_in (nI i + 3) L := in_L (k := 3) (by omega) C.2.2.2.2.1
  refine lv_aload_n hx hb dL_law_341 rfl (lv_at hl 2 rfl) ?_
  refine lv_aload_n hx hb dL_law_342 rfl (lv_at hl 3 rfl) ?_
  refine lv_iload_n hx hb dL_law_343 rfl (lv_at hl 0 rfl) ?_
  refine lv_iconst (v := 1) hx hb dL_law_344 (by decide) ?_
  refine lv_iadd hx hb dL_law_345 ?_
  refine L_ld C hM hin1 dL_law_346 ?_
  refine lv_aload_n hx hb dL_law_347 rfl (lv_at hl 3 rfl) ?_
  refine lv_iload_n hx hb dL_law_348 rfl (lv_at hl 0 rfl) ?_
  refine lv_iconst (v := 2) hx hb dL_law_349 (by decide) ?_
  refine lv_iadd hx hb dL_law_350 ?_
  refine L_ld C hM hin2 dL_law_351 ?_
  refine lv_aload_n hx hb dL_law_352 rfl (lv_at hl 3 rfl) ?_
  refine lv_iload_n hx hb dL_law_353 rfl (lv_at hl 0 rfl) ?_
  refine lv_iconst (v := 3) hx hb dL_law_354 (by decide) ?_
  refine lv_iadd hx hb dL_law_355 ?_
  refine L_ld C hM hin3 dL_law_356 ?_
  obtain ⟨P1, met1, F1⟩ := w_worth C.2.2.2.1 hW l (xs (nI i + 1).toNatClampNeg) (xs (nI i + 2).toNatClampNeg) (xs (nI i + 3).toNatClampNeg)
  refine K_i (L_V (As := [.int (xs (nI i + 1).toNatClampNeg), .int (xs (nI i + 2).toNatClampNeg), .int (xs (nI i + 3).toNatClampNeg)]) (rest := []) C.1 hM met1 lk_L_38 hc0 rfl rfl hl.1 rfl (Nat.le_of_ble_eq_true rfl) (by decide) dL_law_357 ⟨by show _ ≤ 600000; omega, by show _ ≤ 7302250; omega⟩) hM (fun r1 M1 H1 locs1 hM1 hp1 => ?_)
  obtain ⟨⟨fs1, hc1⟩, P2, met2, F2⟩ := F1 r1 M1 hp1
  refine lv_aload_n hx hb dL_law_360 rfl (lv_at hl 1 rfl) ?_
  refine lv_aload_n hx hb dL_law_361 rfl (lv_at hl 3 rfl) ?_
  refine lv_iload_n hx hb dL_law_362 rfl (lv_at hl 0 rfl) ?_
  refine lv_iconst (v := 1) hx hb dL_law_363 (by decide) ?_
  refine lv_iadd hx hb dL_law_364 ?_
  refine L_ld C hM1 hin1 dL_law_365 ?_
  refine lv_aload_n hx hb dL_law_366 rfl (lv_at hl 3 rfl) ?_
  refine lv_iload_n hx hb dL_law_367 rfl (lv_at hl 0 rfl) ?_
  refine lv_iconst (v := 2) hx hb dL_law_368 (by decide) ?_
  refine lv_iadd hx hb dL_law_369 ?_
  refine L_ld C hM1 hin2 dL_law_370 ?_
  refine lv_aload_n hx hb dL_law_371 rfl (lv_at hl 3 rfl) ?_
  refine lv_iload_n hx hb dL_law_372 rfl (lv_at hl 0 rfl) ?_
  refine lv_iconst (v := 3) hx hb dL_law_373 (by decide) ?_
  refine lv_iadd hx hb dL_law_374 ?_
  refine L_ld C hM1 hin3 dL_law_375 ?_
  refine K_i (L_V (As := [.int (xs (nI i + 1).toNatClampNeg), .int (xs (nI i + 2).toNatClampNeg), .int (xs (nI i + 3).toNatClampNeg)]) (rest := [.int r1]) C.1 hM1 met2 lk_L_41 hc1 rfl rfl hl.1 rfl (Nat.le_of_ble_eq_true rfl) (by decide) dL_law_376 ⟨by show _ ≤ 600000; omega, by show _ ≤ 7302250; omega⟩) hM1 (fun r2 M2 H2 locs2 hM2 hp2 => ?_)
  obtain ⟨heq, hW2⟩ := F2 r2 M2 hp2
  refine lv_icmp_eq (tgt := 1216) hx hb dL_law_379 (by decide) (fun _ => ?_) (fun c_ => absurd heq c_)
  exact W.widen (by omega) (by omega) (kk _ _ _ hW2 hM2)
theorem L_case_384 {L i : Nat} {xs : Nat → Int32} (C : LwC g p s m c b L xs) (hW : World g M) (hM : MW g M H locs) (hi : i + 5 ≤ L) (hl : lv_has ls 4 (lawL g b i)) (hcc : cells + 1 ≤ 600000) (hss : slots + 4 ≤ 7302250) (kk : ∀ (M1 : Mem) (H1 : Heap) (locs1 : List Loc), World g M1 → MW g M1 H1 locs1 → W p l e room_1 s m #[Value.ref b] below meth c H1 locs1 (cells + 1) (slots + 4) Q (F0 m 1216 ls [])) : W p l e room_1 s m #[Value.ref b] below meth c H locs cells slots Q (F0 m 384 ls []) := by
  have hx := C.1.1.1
  have hb := C.1.1.2.1
  obtain ⟨fs0, hc0⟩ := hW.cust
  have hin1 : vp_in (nI i + 1) L := in_L (k := 1) (by omega) C.2.2.2.2.1
  have hin2 : vp_in (nI i + 2) L := in_L (k := 2) (by omega) C.2.2.2.2.1
  have hin3 : vp_in (nI i + 3) L := in_L (k := 3) (by omega) C.2.2.2.2.1
  refine lv_aload_n hx hb dL_law_384 rfl (lv_at hl 2 rfl) ?_
  refine lv_aload_n hx hb dL_law_385 rfl (lv_at hl 3 rfl) ?_
  refine lv_iload_n hx hb dL_law_386 rfl (lv_at hl 0 rfl) ?_
  refine lv_iconst (v := 1) hx hb dL_law_387 (by decide) ?_
  refine lv_iadd hx hb dL_law_388 ?_
  refine L_ld C hM hin1 dL_law_389 ?_
  refine lv_aload_n hx hb dL_law_390 rfl (lv_at hl 3 rfl) ?_
  refine lv_iload_n hx hb dL_law_391 rfl (lv_at hl 0 rfl) ?_
  refine lv_iconst (v := 2) hx hb dL_law_392 (by decide) ?_
  refine lv_iadd hx hb dL_law_393 ?_
  refine L_ld C hM hin2 dL_law_394 ?_
  refine lv_aload_n hx hb dL_law_395 rfl (lv_at hl 3 rfl) ?_
  refine lv_iload_n hx hb dL_law_396 rfl (lv_at hl 0 rfl) ?_
  refine lv_iconst (v := 3) hx hb dL_law_397 (by decide) ?_
  refine lv_iadd hx hb dL_law_398 ?_
  refine L_ld C hM hin3 dL_law_399 ?_
  obtain ⟨P1, met1, F1⟩ := w_row C.2.2.2.1 hW l (xs (nI i + 1).toNatClampNeg) (xs (nI i + 2).toNatClampNeg) (xs (nI i + 3).toNatClampNeg)
  refine K_i (L_V (As := [.int (xs (nI i + 1).toNatClampNeg), .int (xs (nI i + 2).toNatClampNeg), .int (xs (nI i + 3).toNatClampNeg)]) (rest := []) C.1 hM met1 lk_L_42 hc0 rfl rfl hl.1 rfl (Nat.le_of_ble_eq_true rfl) (by decide) dL_law_400 ⟨by show _ ≤ 600000; omega, by show _ ≤ 7302250; omega⟩) hM (fun r1 M1 H1 locs1 hM1 hp1 => ?_)
  obtain ⟨⟨fs1, hc1⟩, P2, met2, F2⟩ := F1 r1 M1 hp1
  refine lv_aload_n hx hb dL_law_403 rfl (lv_at hl 1 rfl) ?_
  refine lv_aload_n hx hb dL_law_404 rfl (lv_at hl 3 rfl) ?_
  refine lv_iload_n hx hb dL_law_405 rfl (lv_at hl 0 rfl) ?_
  refine lv_iconst (v := 1) hx hb dL_law_406 (by decide) ?_
  refine lv_iadd hx hb dL_law_407 ?_
  refine L_ld C hM1 hin1 dL_law_408 ?_
  refine lv_aload_n hx hb dL_law_409 rfl (lv_at hl 3 rfl) ?_
  refine lv_iload_n hx hb dL_law_410 rfl (lv_at hl 0 rfl) ?_
  refine lv_iconst (v := 2) hx hb dL_law_411 (by decide) ?_
  refine lv_iadd hx hb dL_law_412 ?_
  refine L_ld C hM1 hin2 dL_law_413 ?_
  refine lv_aload_n hx hb dL_law_414 rfl (lv_at hl 3 rfl) ?_
  refine lv_iload_n hx hb dL_law_415 rfl (lv_at hl 0 rfl) ?_
  refine lv_iconst (v := 3) hx hb dL_law_416 (by decide) ?_
  refine lv_iadd hx hb dL_law_417 ?_
  refine L_ld C hM1 hin3 dL_law_418 ?_
  refine K_i (L_V (As := [.int (xs (nI i + 1).toNatClampNeg), .int (xs (nI i + 2).toNatClampNeg), .int (xs (nI i + 3).toNatClampNeg)]) (rest := [.int r1]) C.1 hM1 met2 lk_L_45 hc1 rfl rfl hl.1 rfl (Nat.le_of_ble_eq_true rfl) (by decide) dL_law_419 ⟨by show _ ≤ 600000; omega, by show _ ≤ 7302250; omega⟩) hM1 (fun r2 M2 H2 locs2 hM2 hp2 => ?_)
  obtain ⟨heq, hW2⟩ := F2 r2 M2 hp2
  refine lv_icmp_eq (tgt := 1216) hx hb dL_law_422 (by decide) (fun _ => ?_) (fun c_ => absurd heq c_)
  exact W.widen (by omega) (by omega) (kk _ _ _ hW2 hM2)
theorem L_case_427 {L i : Nat} {xs : Nat → Int32} (C : LwC g p s m c b L xs) (hW : World g M) (hM : MW g M H locs) (hi : i + 5 ≤ L) (hl : lv_has ls 4 (lawL g b i)) (hcc : cells + 1 ≤ 600000) (hss : slots + 4 ≤ 7302250) (kk : ∀ (M1 : Mem) (H1 : Heap) (locs1 : List Loc), World g M1 → MW g M1 H1 locs1 → W p l e room_1 s m #[Value.ref b] below meth c H1 locs1 (cells + 1) (slots + 4) Q (F0 m 1216 ls [])) : W p l e room_1 s m #[Value.ref b] below meth c H locs cells slots Q (F0 m 427 ls []) := by
  have hx := C.1.1.1
  have hb := C.1.1.2.1
  obtain ⟨fs0, hc0⟩ := hW.cust
  have hin1 : vp_in (nI i + 1) L := in_L (k := 1) (by omega) C.2.2.2.2.1
  have hin2 : vp_in (nI i + 2) L := in_L (k := 2) (by omega) C.2.2.2.2.1
  have hin3 : vp_in (nI i + 3) L := in_L (k := 3) (by omega) C.2.2.2.2.1
  refine lv_aload_n hx hb dL_law_427 rfl (lv_at hl 2 rfl) ?_
  refine lv_aload_n hx hb dL_law_428 rfl (lv_at hl 3 rfl) ?_
  refine lv_iload_n hx hb dL_law_429 rfl (lv_at hl 0 rfl) ?_
  refine lv_iconst (v := 1) hx hb dL_law_430 (by decide) ?_
  refine lv_iadd hx hb dL_law_431 ?_
  refine L_ld C hM hin1 dL_law_432 ?_
  refine lv_aload_n hx hb dL_law_433 rfl (lv_at hl 3 rfl) ?_
  refine lv_iload_n hx hb dL_law_434 rfl (lv_at hl 0 rfl) ?_
  refine lv_iconst (v := 2) hx hb dL_law_435 (by decide) ?_
  refine lv_iadd hx hb dL_law_436 ?_
  refine L_ld C hM hin2 dL_law_437 ?_
  refine lv_aload_n hx hb dL_law_438 rfl (lv_at hl 3 rfl) ?_
  refine lv_iload_n hx hb dL_law_439 rfl (lv_at hl 0 rfl) ?_
  refine lv_iconst (v := 3) hx hb dL_law_440 (by decide) ?_
  refine lv_iadd hx hb dL_law_441 ?_
  refine L_ld C hM hin3 dL_law_442 ?_
  obtain ⟨P1, met1, F1⟩ := w_set C.2.2.2.1 hW l (xs (nI i + 1).toNatClampNeg) (xs (nI i + 2).toNatClampNeg) (xs (nI i + 3).toNatClampNeg)
  refine K_i (L_V (As := [.int (xs (nI i + 1).toNatClampNeg), .int (xs (nI i + 2).toNatClampNeg), .int (xs (nI i + 3).toNatClampNeg)]) (rest := []) C.1 hM met1 lk_L_46 hc0 rfl rfl hl.1 rfl (Nat.le_of_ble_eq_true rfl) (by decide) dL_law_443 ⟨by show _ ≤ 600000; omega, by show _ ≤ 7302250; omega⟩) hM (fun r1 M1 H1 locs1 hM1 hp1 => ?_)
  obtain ⟨⟨fs1, hc1⟩, P2, met2, F2⟩ := F1 r1 M1 hp1
  refine lv_aload_n hx hb dL_law_446 rfl (lv_at hl 1 rfl) ?_
  refine lv_aload_n hx hb dL_law_447 rfl (lv_at hl 3 rfl) ?_
  refine lv_iload_n hx hb dL_law_448 rfl (lv_at hl 0 rfl) ?_
  refine lv_iconst (v := 1) hx hb dL_law_449 (by decide) ?_
  refine lv_iadd hx hb dL_law_450 ?_
  refine L_ld C hM1 hin1 dL_law_451 ?_
  refine lv_aload_n hx hb dL_law_452 rfl (lv_at hl 3 rfl) ?_
  refine lv_iload_n hx hb dL_law_453 rfl (lv_at hl 0 rfl) ?_
  refine lv_iconst (v := 2) hx hb dL_law_454 (by decide) ?_
  refine lv_iadd hx hb dL_law_455 ?_
  refine L_ld C hM1 hin2 dL_law_456 ?_
  refine lv_aload_n hx hb dL_law_457 rfl (lv_at hl 3 rfl) ?_
  refine lv_iload_n hx hb dL_law_458 rfl (lv_at hl 0 rfl) ?_
  refine lv_iconst (v := 3) hx hb dL_law_459 (by decide) ?_
  refine lv_iadd hx hb dL_law_460 ?_
  refine L_ld C hM1 hin3 dL_law_461 ?_
  refine K_i (L_V (As := [.int (xs (nI i + 1).toNatClampNeg), .int (xs (nI i + 2).toNatClampNeg), .int (xs (nI i + 3).toNatClampNeg)]) (rest := [.int r1]) C.1 hM1 met2 lk_L_49 hc1 rfl rfl hl.1 rfl (Nat.le_of_ble_eq_true rfl) (by decide) dL_law_462 ⟨by show _ ≤ 600000; omega, by show _ ≤ 7302250; omega⟩) hM1 (fun r2 M2 H2 locs2 hM2 hp2 => ?_)
  obtain ⟨heq, hW2⟩ := F2 r2 M2 hp2
  refine lv_icmp_eq (tgt := 1216) hx hb dL_law_465 (by decide) (fun _ => ?_) (fun c_ => absurd heq c_)
  exact W.widen (by omega) (by omega) (kk _ _ _ hW2 hM2)
theorem L_case_470 {L i : Nat} {xs : Nat → Int32} (C : LwC g p s m c b L xs) (hW : World g M) (hM : MW g M H locs) (hi : i + 5 ≤ L) (hl : lv_has ls 4 (lawL g b i)) (hcc : cells + 1 ≤ 600000) (hss : slots + 4 ≤ 7302250) (kk : ∀ (M1 : Mem) (H1 : Heap) (locs1 : List Loc), World g M1 → MW g M1 H1 locs1 → W p l e room_1 s m #[Value.ref b] below meth c H1 locs1 (cells + 1) (slots + 4) Q (F0 m 1216 ls [])) : W p l e room_1 s m #[Value.ref b] below meth c H locs cells slots Q (F0 m 470 ls []) := by
  have hx := C.1.1.1
  have hb := C.1.1.2.1
  obtain ⟨fs0, hc0⟩ := hW.cust
  have hin1 : vp_in (nI i + 1) L := in_L (k := 1) (by omega) C.2.2.2.2.1
  have hin2 : vp_in (nI i + 2) L := in_L (k := 2) (by omega) C.2.2.2.2.1
  refine lv_aload_n hx hb dL_law_470 rfl (lv_at hl 2 rfl) ?_
  refine lv_aload_n hx hb dL_law_471 rfl (lv_at hl 3 rfl) ?_
  refine lv_iload_n hx hb dL_law_472 rfl (lv_at hl 0 rfl) ?_
  refine lv_iconst (v := 1) hx hb dL_law_473 (by decide) ?_
  refine lv_iadd hx hb dL_law_474 ?_
  refine L_ld C hM hin1 dL_law_475 ?_
  refine lv_aload_n hx hb dL_law_476 rfl (lv_at hl 3 rfl) ?_
  refine lv_iload_n hx hb dL_law_477 rfl (lv_at hl 0 rfl) ?_
  refine lv_iconst (v := 2) hx hb dL_law_478 (by decide) ?_
  refine lv_iadd hx hb dL_law_479 ?_
  refine L_ld C hM hin2 dL_law_480 ?_
  refine lv_if_eq (tgt := 488) hx hb dL_law_481 (by decide) (fun c_1 => ?_) (fun c_1 => ?_)
  · skip
    refine lv_iconst (v := 0) hx hb dL_law_488 (by decide) ?_
    obtain ⟨P1, met1, F1⟩ := w_hide C.2.2.2.1 hW l (xs (nI i + 1).toNatClampNeg) (0)
    refine K_i (L_V (As := [.int (xs (nI i + 1).toNatClampNeg), .int (0)]) (rest := []) C.1 hM met1 lk_L_50 hc0 rfl rfl hl.1 rfl (Nat.le_of_ble_eq_true rfl) (by decide) dL_law_489 ⟨by show _ ≤ 600000; omega, by show _ ≤ 7302250; omega⟩) hM (fun r1 M1 H1 locs1 hM1 hp1 => ?_)
    obtain ⟨⟨fs1, hc1⟩, P2, met2, F2⟩ := F1 r1 M1 hp1
    refine lv_aload_n hx hb dL_law_492 rfl (lv_at hl 1 rfl) ?_
    refine lv_aload_n hx hb dL_law_493 rfl (lv_at hl 3 rfl) ?_
    refine lv_iload_n hx hb dL_law_494 rfl (lv_at hl 0 rfl) ?_
    refine lv_iconst (v := 1) hx hb dL_law_495 (by decide) ?_
    refine lv_iadd hx hb dL_law_496 ?_
    refine L_ld C hM1 hin1 dL_law_497 ?_
    refine lv_aload_n hx hb dL_law_498 rfl (lv_at hl 3 rfl) ?_
    refine lv_iload_n hx hb dL_law_499 rfl (lv_at hl 0 rfl) ?_
    refine lv_iconst (v := 2) hx hb dL_law_500 (by decide) ?_
    refine lv_iadd hx hb dL_law_501 ?_
    refine L_ld C hM1 hin2 dL_law_502 ?_
    refine lv_if_eq (tgt := 510) hx hb dL_law_503 (by decide) (fun _ => ?_) (fun c_ => absurd c_1 c_)
    refine lv_iconst (v := 0) hx hb dL_law_510 (by decide) ?_
    refine K_i (L_V (As := [.int (xs (nI i + 1).toNatClampNeg), .int (0)]) (rest := [.int r1]) C.1 hM1 met2 lk_L_54 hc1 rfl rfl hl.1 rfl (Nat.le_of_ble_eq_true rfl) (by decide) dL_law_511 ⟨by show _ ≤ 600000; omega, by show _ ≤ 7302250; omega⟩) hM1 (fun r2 M2 H2 locs2 hM2 hp2 => ?_)
    obtain ⟨heq, hW2⟩ := F2 r2 M2 hp2
    refine lv_icmp_eq (tgt := 1216) hx hb dL_law_514 (by decide) (fun _ => ?_) (fun c_ => absurd heq c_)
    exact W.widen (by omega) (by omega) (kk _ _ _ hW2 hM2)
  · skip
    refine lv_iconst (v := 1) hx hb dL_law_484 (by decide) ?_
    refine lv_goto (tgt := 489) hx hb dL_law_485 (by decide) ?_
    obtain ⟨P1, met1, F1⟩ := w_hide C.2.2.2.1 hW l (xs (nI i + 1).toNatClampNeg) (1)
    refine K_i (L_V (As := [.int (xs (nI i + 1).toNatClampNeg), .int (1)]) (rest := []) C.1 hM met1 lk_L_50 hc0 rfl rfl hl.1 rfl (Nat.le_of_ble_eq_true rfl) (by decide) dL_law_489 ⟨by show _ ≤ 600000; omega, by show _ ≤ 7302250; omega⟩) hM (fun r1 M1 H1 locs1 hM1 hp1 => ?_)
    obtain ⟨⟨fs1, hc1⟩, P2, met2, F2⟩ := F1 r1 M1 hp1
    refine lv_aload_n hx hb dL_law_492 rfl (lv_at hl 1 rfl) ?_
    refine lv_aload_n hx hb dL_law_493 rfl (lv_at hl 3 rfl) ?_
    refine lv_iload_n hx hb dL_law_494 rfl (lv_at hl 0 rfl) ?_
    refine lv_iconst (v := 1) hx hb dL_law_495 (by decide) ?_
    refine lv_iadd hx hb dL_law_496 ?_
    refine L_ld C hM1 hin1 dL_law_497 ?_
    refine lv_aload_n hx hb dL_law_498 rfl (lv_at hl 3 rfl) ?_
    refine lv_iload_n hx hb dL_law_499 rfl (lv_at hl 0 rfl) ?_
    refine lv_iconst (v := 2) hx hb dL_law_500 (by decide) ?_
    refine lv_iadd hx hb dL_law_501 ?_
    refine L_ld C hM1 hin2 dL_law_502 ?_
    refine lv_if_eq (tgt := 510) hx hb dL_law_503 (by decide) (fun c_ => absurd c_ c_1) (fun _ => ?_)
    refine lv_iconst (v := 1) hx hb dL_law_506 (by decide) ?_
    refine lv_goto (tgt := 511) hx hb dL_law_507 (by decide) ?_
    refine K_i (L_V (As := [.int (xs (nI i + 1).toNatClampNeg), .int (1)]) (rest := [.int r1]) C.1 hM1 met2 lk_L_54 hc1 rfl rfl hl.1 rfl (Nat.le_of_ble_eq_true rfl) (by decide) dL_law_511 ⟨by show _ ≤ 600000; omega, by show _ ≤ 7302250; omega⟩) hM1 (fun r2 M2 H2 locs2 hM2 hp2 => ?_)
    obtain ⟨heq, hW2⟩ := F2 r2 M2 hp2
    refine lv_icmp_eq (tgt := 1216) hx hb dL_law_514 (by decide) (fun _ => ?_) (fun c_ => absurd heq c_)
    exact W.widen (by omega) (by omega) (kk _ _ _ hW2 hM2)
theorem L_case_519 {L i : Nat} {xs : Nat → Int32} (C : LwC g p s m c b L xs) (hW : World g M) (hM : MW g M H locs) (hi : i + 5 ≤ L) (hl : lv_has ls 4 (lawL g b i)) (hcc : cells + 1 ≤ 600000) (hss : slots + 4 ≤ 7302250) (kk : ∀ (M1 : Mem) (H1 : Heap) (locs1 : List Loc), World g M1 → MW g M1 H1 locs1 → W p l e room_1 s m #[Value.ref b] below meth c H1 locs1 (cells + 1) (slots + 4) Q (F0 m 1216 ls [])) : W p l e room_1 s m #[Value.ref b] below meth c H locs cells slots Q (F0 m 519 ls []) := by
  have hx := C.1.1.1
  have hb := C.1.1.2.1
  obtain ⟨fs0, hc0⟩ := hW.cust
  have hin1 : vp_in (nI i + 1) L := in_L (k := 1) (by omega) C.2.2.2.2.1
  refine lv_aload_n hx hb dL_law_519 rfl (lv_at hl 2 rfl) ?_
  refine lv_aload_n hx hb dL_law_520 rfl (lv_at hl 3 rfl) ?_
  refine lv_iload_n hx hb dL_law_521 rfl (lv_at hl 0 rfl) ?_
  refine lv_iconst (v := 1) hx hb dL_law_522 (by decide) ?_
  refine lv_iadd hx hb dL_law_523 ?_
  refine L_ld C hM hin1 dL_law_524 ?_
  obtain ⟨P1, met1, F1⟩ := w_told C.2.2.2.1 hW l (xs (nI i + 1).toNatClampNeg)
  refine K_i (L_V (As := [.int (xs (nI i + 1).toNatClampNeg)]) (rest := []) C.1 hM met1 lk_L_55 hc0 rfl rfl hl.1 rfl (Nat.le_of_ble_eq_true rfl) (by decide) dL_law_525 ⟨by show _ ≤ 600000; omega, by show _ ≤ 7302250; omega⟩) hM (fun r1 M1 H1 locs1 hM1 hp1 => ?_)
  obtain ⟨⟨fs1, hc1⟩, P2, met2, F2⟩ := F1 r1 M1 hp1
  refine lv_aload_n hx hb dL_law_528 rfl (lv_at hl 1 rfl) ?_
  refine lv_aload_n hx hb dL_law_529 rfl (lv_at hl 3 rfl) ?_
  refine lv_iload_n hx hb dL_law_530 rfl (lv_at hl 0 rfl) ?_
  refine lv_iconst (v := 1) hx hb dL_law_531 (by decide) ?_
  refine lv_iadd hx hb dL_law_532 ?_
  refine L_ld C hM1 hin1 dL_law_533 ?_
  refine K_i (L_V (As := [.int (xs (nI i + 1).toNatClampNeg)]) (rest := [.int r1]) C.1 hM1 met2 lk_L_58 hc1 rfl rfl hl.1 rfl (Nat.le_of_ble_eq_true rfl) (by decide) dL_law_534 ⟨by show _ ≤ 600000; omega, by show _ ≤ 7302250; omega⟩) hM1 (fun r2 M2 H2 locs2 hM2 hp2 => ?_)
  obtain ⟨heq, hW2⟩ := F2 r2 M2 hp2
  refine lv_icmp_eq (tgt := 1216) hx hb dL_law_537 (by decide) (fun _ => ?_) (fun c_ => absurd heq c_)
  exact W.widen (by omega) (by omega) (kk _ _ _ hW2 hM2)
theorem L_case_542 {L i : Nat} {xs : Nat → Int32} (C : LwC g p s m c b L xs) (hW : World g M) (hM : MW g M H locs) (hi : i + 5 ≤ L) (hl : lv_has ls 4 (lawL g b i)) (hcc : cells + 1 ≤ 600000) (hss : slots + 4 ≤ 7302250) (kk : ∀ (M1 : Mem) (H1 : Heap) (locs1 : List Loc), World g M1 → MW g M1 H1 locs1 → W p l e room_1 s m #[Value.ref b] below meth c H1 locs1 (cells + 1) (slots + 4) Q (F0 m 1216 ls [])) : W p l e room_1 s m #[Value.ref b] below meth c H locs cells slots Q (F0 m 542 ls []) := by
  have hx := C.1.1.1
  have hb := C.1.1.2.1
  obtain ⟨fs0, hc0⟩ := hW.cust
  have hin1 : vp_in (nI i + 1) L := in_L (k := 1) (by omega) C.2.2.2.2.1
  refine lv_aload_n hx hb dL_law_542 rfl (lv_at hl 2 rfl) ?_
  refine lv_aload_n hx hb dL_law_543 rfl (lv_at hl 3 rfl) ?_
  refine lv_iload_n hx hb dL_law_544 rfl (lv_at hl 0 rfl) ?_
  refine lv_iconst (v := 1) hx hb dL_law_545 (by decide) ?_
  refine lv_iadd hx hb dL_law_546 ?_
  refine L_ld C hM hin1 dL_law_547 ?_
  obtain ⟨P1, met1, F1⟩ := w_pass C.2.2.2.1 hW l (xs (nI i + 1).toNatClampNeg)
  refine K_i (L_V (As := [.int (xs (nI i + 1).toNatClampNeg)]) (rest := []) C.1 hM met1 lk_L_59 hc0 rfl rfl hl.1 rfl (Nat.le_of_ble_eq_true rfl) (by decide) dL_law_548 ⟨by show _ ≤ 600000; omega, by show _ ≤ 7302250; omega⟩) hM (fun r1 M1 H1 locs1 hM1 hp1 => ?_)
  obtain ⟨⟨fs1, hc1⟩, P2, met2, F2⟩ := F1 r1 M1 hp1
  refine lv_aload_n hx hb dL_law_551 rfl (lv_at hl 1 rfl) ?_
  refine lv_aload_n hx hb dL_law_552 rfl (lv_at hl 3 rfl) ?_
  refine lv_iload_n hx hb dL_law_553 rfl (lv_at hl 0 rfl) ?_
  refine lv_iconst (v := 1) hx hb dL_law_554 (by decide) ?_
  refine lv_iadd hx hb dL_law_555 ?_
  refine L_ld C hM1 hin1 dL_law_556 ?_
  refine K_i (L_V (As := [.int (xs (nI i + 1).toNatClampNeg)]) (rest := [.int r1]) C.1 hM1 met2 lk_L_62 hc1 rfl rfl hl.1 rfl (Nat.le_of_ble_eq_true rfl) (by decide) dL_law_557 ⟨by show _ ≤ 600000; omega, by show _ ≤ 7302250; omega⟩) hM1 (fun r2 M2 H2 locs2 hM2 hp2 => ?_)
  obtain ⟨heq, hW2⟩ := F2 r2 M2 hp2
  refine lv_icmp_eq (tgt := 1216) hx hb dL_law_560 (by decide) (fun _ => ?_) (fun c_ => absurd heq c_)
  exact W.widen (by omega) (by omega) (kk _ _ _ hW2 hM2)
theorem L_case_565 {L i : Nat} {xs : Nat → Int32} (C : LwC g p s m c b L xs) (hW : World g M) (hM : MW g M H locs) (hi : i + 5 ≤ L) (hl : lv_has ls 4 (lawL g b i)) (hcc : cells + 1 ≤ 600000) (hss : slots + 4 ≤ 7302250) (kk : ∀ (M1 : Mem) (H1 : Heap) (locs1 : List Loc), World g M1 → MW g M1 H1 locs1 → W p l e room_1 s m #[Value.ref b] below meth c H1 locs1 (cells + 1) (slots + 4) Q (F0 m 1216 ls [])) : W p l e room_1 s m #[Value.ref b] below meth c H locs cells slots Q (F0 m 565 ls []) := by
  have hx := C.1.1.1
  have hb := C.1.1.2.1
  obtain ⟨fs0, hc0⟩ := hW.cust
  have hin1 : vp_in (nI i + 1) L := in_L (k := 1) (by omega) C.2.2.2.2.1
  have hin2 : vp_in (nI i + 2) L := in_L (k := 2) (by omega) C.2.2.2.2.1
  refine lv_aload_n hx hb dL_law_565 rfl (lv_at hl 2 rfl) ?_
  refine lv_aload_n hx hb dL_law_566 rfl (lv_at hl 3 rfl) ?_
  refine lv_iload_n hx hb dL_law_567 rfl (lv_at hl 0 rfl) ?_
  refine lv_iconst (v := 1) hx hb dL_law_568 (by decide) ?_
  refine lv_iadd hx hb dL_law_569 ?_
  refine L_ld C hM hin1 dL_law_570 ?_
  refine lv_aload_n hx hb dL_law_571 rfl (lv_at hl 3 rfl) ?_
  refine lv_iload_n hx hb dL_law_572 rfl (lv_at hl 0 rfl) ?_
  refine lv_iconst (v := 2) hx hb dL_law_573 (by decide) ?_
  refine lv_iadd hx hb dL_law_574 ?_
  refine L_ld C hM hin2 dL_law_575 ?_
  obtain ⟨P1, met1, F1⟩ := w_on C.2.2.2.1 hW l (xs (nI i + 1).toNatClampNeg) (xs (nI i + 2).toNatClampNeg)
  refine K_i (L_V (As := [.int (xs (nI i + 1).toNatClampNeg), .int (xs (nI i + 2).toNatClampNeg)]) (rest := []) C.1 hM met1 lk_L_63 hc0 rfl rfl hl.1 rfl (Nat.le_of_ble_eq_true rfl) (by decide) dL_law_576 ⟨by show _ ≤ 600000; omega, by show _ ≤ 7302250; omega⟩) hM (fun r1 M1 H1 locs1 hM1 hp1 => ?_)
  obtain ⟨⟨fs1, hc1⟩, P2, met2, F2⟩ := F1 r1 M1 hp1
  refine lv_aload_n hx hb dL_law_579 rfl (lv_at hl 1 rfl) ?_
  refine lv_aload_n hx hb dL_law_580 rfl (lv_at hl 3 rfl) ?_
  refine lv_iload_n hx hb dL_law_581 rfl (lv_at hl 0 rfl) ?_
  refine lv_iconst (v := 1) hx hb dL_law_582 (by decide) ?_
  refine lv_iadd hx hb dL_law_583 ?_
  refine L_ld C hM1 hin1 dL_law_584 ?_
  refine lv_aload_n hx hb dL_law_585 rfl (lv_at hl 3 rfl) ?_
  refine lv_iload_n hx hb dL_law_586 rfl (lv_at hl 0 rfl) ?_
  refine lv_iconst (v := 2) hx hb dL_law_587 (by decide) ?_
  refine lv_iadd hx hb dL_law_588 ?_
  refine L_ld C hM1 hin2 dL_law_589 ?_
  refine K_i (L_V (As := [.int (xs (nI i + 1).toNatClampNeg), .int (xs (nI i + 2).toNatClampNeg)]) (rest := [.int r1]) C.1 hM1 met2 lk_L_66 hc1 rfl rfl hl.1 rfl (Nat.le_of_ble_eq_true rfl) (by decide) dL_law_590 ⟨by show _ ≤ 600000; omega, by show _ ≤ 7302250; omega⟩) hM1 (fun r2 M2 H2 locs2 hM2 hp2 => ?_)
  obtain ⟨heq, hW2⟩ := F2 r2 M2 hp2
  refine lv_icmp_eq (tgt := 1216) hx hb dL_law_593 (by decide) (fun _ => ?_) (fun c_ => absurd heq c_)
  exact W.widen (by omega) (by omega) (kk _ _ _ hW2 hM2)
theorem L_case_598 {L i : Nat} {xs : Nat → Int32} (C : LwC g p s m c b L xs) (hW : World g M) (hM : MW g M H locs) (hi : i + 5 ≤ L) (hl : lv_has ls 4 (lawL g b i)) (hcc : cells + 1 ≤ 600000) (hss : slots + 4 ≤ 7302250) (kk : ∀ (M1 : Mem) (H1 : Heap) (locs1 : List Loc), World g M1 → MW g M1 H1 locs1 → W p l e room_1 s m #[Value.ref b] below meth c H1 locs1 (cells + 1) (slots + 4) Q (F0 m 1216 ls [])) : W p l e room_1 s m #[Value.ref b] below meth c H locs cells slots Q (F0 m 598 ls []) := by
  have hx := C.1.1.1
  have hb := C.1.1.2.1
  obtain ⟨fs0, hc0⟩ := hW.cust
  have hin1 : vp_in (nI i + 1) L := in_L (k := 1) (by omega) C.2.2.2.2.1
  refine lv_aload_n hx hb dL_law_598 rfl (lv_at hl 2 rfl) ?_
  refine lv_aload_n hx hb dL_law_599 rfl (lv_at hl 3 rfl) ?_
  refine lv_iload_n hx hb dL_law_600 rfl (lv_at hl 0 rfl) ?_
  refine lv_iconst (v := 1) hx hb dL_law_601 (by decide) ?_
  refine lv_iadd hx hb dL_law_602 ?_
  refine L_ld C hM hin1 dL_law_603 ?_
  obtain ⟨P1, met1, F1⟩ := w_when C.2.2.2.1 hW l (xs (nI i + 1).toNatClampNeg)
  refine K_i (L_V (As := [.int (xs (nI i + 1).toNatClampNeg)]) (rest := []) C.1 hM met1 lk_L_67 hc0 rfl rfl hl.1 rfl (Nat.le_of_ble_eq_true rfl) (by decide) dL_law_604 ⟨by show _ ≤ 600000; omega, by show _ ≤ 7302250; omega⟩) hM (fun r1 M1 H1 locs1 hM1 hp1 => ?_)
  obtain ⟨⟨fs1, hc1⟩, P2, met2, F2⟩ := F1 r1 M1 hp1
  refine lv_aload_n hx hb dL_law_607 rfl (lv_at hl 1 rfl) ?_
  refine lv_aload_n hx hb dL_law_608 rfl (lv_at hl 3 rfl) ?_
  refine lv_iload_n hx hb dL_law_609 rfl (lv_at hl 0 rfl) ?_
  refine lv_iconst (v := 1) hx hb dL_law_610 (by decide) ?_
  refine lv_iadd hx hb dL_law_611 ?_
  refine L_ld C hM1 hin1 dL_law_612 ?_
  refine K_i (L_V (As := [.int (xs (nI i + 1).toNatClampNeg)]) (rest := [.int r1]) C.1 hM1 met2 lk_L_70 hc1 rfl rfl hl.1 rfl (Nat.le_of_ble_eq_true rfl) (by decide) dL_law_613 ⟨by show _ ≤ 600000; omega, by show _ ≤ 7302250; omega⟩) hM1 (fun r2 M2 H2 locs2 hM2 hp2 => ?_)
  obtain ⟨heq, hW2⟩ := F2 r2 M2 hp2
  refine lv_icmp_eq (tgt := 1216) hx hb dL_law_616 (by decide) (fun _ => ?_) (fun c_ => absurd heq c_)
  exact W.widen (by omega) (by omega) (kk _ _ _ hW2 hM2)
theorem L_case_621 {L i : Nat} {xs : Nat → Int32} (C : LwC g p s m c b L xs) (hW : World g M) (hM : MW g M H locs) (hi : i + 5 ≤ L) (hl : lv_has ls 4 (lawL g b i)) (hcc : cells + 1 ≤ 600000) (hss : slots + 4 ≤ 7302250) (kk : ∀ (M1 : Mem) (H1 : Heap) (locs1 : List Loc), World g M1 → MW g M1 H1 locs1 → W p l e room_1 s m #[Value.ref b] below meth c H1 locs1 (cells + 1) (slots + 4) Q (F0 m 1216 ls [])) : W p l e room_1 s m #[Value.ref b] below meth c H locs cells slots Q (F0 m 621 ls []) := by
  have hx := C.1.1.1
  have hb := C.1.1.2.1
  obtain ⟨fs0, hc0⟩ := hW.cust
  have hin1 : vp_in (nI i + 1) L := in_L (k := 1) (by omega) C.2.2.2.2.1
  have hin2 : vp_in (nI i + 2) L := in_L (k := 2) (by omega) C.2.2.2.2.1
  refine lv_aload_n hx hb dL_law_621 rfl (lv_at hl 2 rfl) ?_
  refine lv_aload_n hx hb dL_law_622 rfl (lv_at hl 3 rfl) ?_
  refine lv_iload_n hx hb dL_law_623 rfl (lv_at hl 0 rfl) ?_
  refine lv_iconst (v := 1) hx hb dL_law_624 (by decide) ?_
  refine lv_iadd hx hb dL_law_625 ?_
  refine L_ld C hM hin1 dL_law_626 ?_
  refine lv_aload_n hx hb dL_law_627 rfl (lv_at hl 3 rfl) ?_
  refine lv_iload_n hx hb dL_law_628 rfl (lv_at hl 0 rfl) ?_
  refine lv_iconst (v := 2) hx hb dL_law_629 (by decide) ?_
  refine lv_iadd hx hb dL_law_630 ?_
  refine L_ld C hM hin2 dL_law_631 ?_
  obtain ⟨P1, met1, F1⟩ := w_meet C.2.2.2.1 hW l (xs (nI i + 1).toNatClampNeg) (xs (nI i + 2).toNatClampNeg)
  refine K_i (L_V (As := [.int (xs (nI i + 1).toNatClampNeg), .int (xs (nI i + 2).toNatClampNeg)]) (rest := []) C.1 hM met1 lk_L_71 hc0 rfl rfl hl.1 rfl (Nat.le_of_ble_eq_true rfl) (by decide) dL_law_632 ⟨by show _ ≤ 600000; omega, by show _ ≤ 7302250; omega⟩) hM (fun r1 M1 H1 locs1 hM1 hp1 => ?_)
  obtain ⟨⟨fs1, hc1⟩, P2, met2, F2⟩ := F1 r1 M1 hp1
  refine lv_aload_n hx hb dL_law_635 rfl (lv_at hl 1 rfl) ?_
  refine lv_aload_n hx hb dL_law_636 rfl (lv_at hl 3 rfl) ?_
  refine lv_iload_n hx hb dL_law_637 rfl (lv_at hl 0 rfl) ?_
  refine lv_iconst (v := 1) hx hb dL_law_638 (by decide) ?_
  refine lv_iadd hx hb dL_law_639 ?_
  refine L_ld C hM1 hin1 dL_law_640 ?_
  refine lv_aload_n hx hb dL_law_641 rfl (lv_at hl 3 rfl) ?_
  refine lv_iload_n hx hb dL_law_642 rfl (lv_at hl 0 rfl) ?_
  refine lv_iconst (v := 2) hx hb dL_law_643 (by decide) ?_
  refine lv_iadd hx hb dL_law_644 ?_
  refine L_ld C hM1 hin2 dL_law_645 ?_
  refine K_i (L_V (As := [.int (xs (nI i + 1).toNatClampNeg), .int (xs (nI i + 2).toNatClampNeg)]) (rest := [.int r1]) C.1 hM1 met2 lk_L_74 hc1 rfl rfl hl.1 rfl (Nat.le_of_ble_eq_true rfl) (by decide) dL_law_646 ⟨by show _ ≤ 600000; omega, by show _ ≤ 7302250; omega⟩) hM1 (fun r2 M2 H2 locs2 hM2 hp2 => ?_)
  obtain ⟨heq, hW2⟩ := F2 r2 M2 hp2
  refine lv_icmp_eq (tgt := 1216) hx hb dL_law_649 (by decide) (fun _ => ?_) (fun c_ => absurd heq c_)
  exact W.widen (by omega) (by omega) (kk _ _ _ hW2 hM2)
theorem L_case_654 {L i : Nat} {xs : Nat → Int32} (C : LwC g p s m c b L xs) (hW : World g M) (hM : MW g M H locs) (hi : i + 5 ≤ L) (hl : lv_has ls 4 (lawL g b i)) (hcc : cells + 1 ≤ 600000) (hss : slots + 4 ≤ 7302250) (kk : ∀ (M1 : Mem) (H1 : Heap) (locs1 : List Loc), World g M1 → MW g M1 H1 locs1 → W p l e room_1 s m #[Value.ref b] below meth c H1 locs1 (cells + 1) (slots + 4) Q (F0 m 1216 ls [])) : W p l e room_1 s m #[Value.ref b] below meth c H locs cells slots Q (F0 m 654 ls []) := by
  have hx := C.1.1.1
  have hb := C.1.1.2.1
  obtain ⟨fs0, hc0⟩ := hW.cust
  have hin1 : vp_in (nI i + 1) L := in_L (k := 1) (by omega) C.2.2.2.2.1
  have hin2 : vp_in (nI i + 2) L := in_L (k := 2) (by omega) C.2.2.2.2.1
  have hin3 : vp_in (nI i + 3) L := in_L (k := 3) (by omega) C.2.2.2.2.1
  refine lv_aload_n hx hb dL_law_654 rfl (lv_at hl 2 rfl) ?_
  refine lv_aload_n hx hb dL_law_655 rfl (lv_at hl 3 rfl) ?_
  refine lv_iload_n hx hb dL_law_656 rfl (lv_at hl 0 rfl) ?_
  refine lv_iconst (v := 1) hx hb dL_law_657 (by decide) ?_
  refine lv_iadd hx hb dL_law_658 ?_
  refine L_ld C hM hin1 dL_law_659 ?_
  refine lv_aload_n hx hb dL_law_660 rfl (lv_at hl 3 rfl) ?_
  refine lv_iload_n hx hb dL_law_661 rfl (lv_at hl 0 rfl) ?_
  refine lv_iconst (v := 2) hx hb dL_law_662 (by decide) ?_
  refine lv_iadd hx hb dL_law_663 ?_
  refine L_ld C hM hin2 dL_law_664 ?_
  refine lv_aload_n hx hb dL_law_665 rfl (lv_at hl 3 rfl) ?_
  refine lv_iload_n hx hb dL_law_666 rfl (lv_at hl 0 rfl) ?_
  refine lv_iconst (v := 3) hx hb dL_law_667 (by decide) ?_
  refine lv_iadd hx hb dL_law_668 ?_
  refine L_ld C hM hin3 dL_law_669 ?_
  obtain ⟨P1, met1, F1⟩ := w_deal C.2.2.2.1 hW l (xs (nI i + 1).toNatClampNeg) (xs (nI i + 2).toNatClampNeg) (xs (nI i + 3).toNatClampNeg)
  refine K_i (L_V (As := [.int (xs (nI i + 1).toNatClampNeg), .int (xs (nI i + 2).toNatClampNeg), .int (xs (nI i + 3).toNatClampNeg)]) (rest := []) C.1 hM met1 lk_L_75 hc0 rfl rfl hl.1 rfl (Nat.le_of_ble_eq_true rfl) (by decide) dL_law_670 ⟨by show _ ≤ 600000; omega, by show _ ≤ 7302250; omega⟩) hM (fun r1 M1 H1 locs1 hM1 hp1 => ?_)
  obtain ⟨⟨fs1, hc1⟩, P2, met2, F2⟩ := F1 r1 M1 hp1
  refine lv_aload_n hx hb dL_law_673 rfl (lv_at hl 1 rfl) ?_
  refine lv_aload_n hx hb dL_law_674 rfl (lv_at hl 3 rfl) ?_
  refine lv_iload_n hx hb dL_law_675 rfl (lv_at hl 0 rfl) ?_
  refine lv_iconst (v := 1) hx hb dL_law_676 (by decide) ?_
  refine lv_iadd hx hb dL_law_677 ?_
  refine L_ld C hM1 hin1 dL_law_678 ?_
  refine lv_aload_n hx hb dL_law_679 rfl (lv_at hl 3 rfl) ?_
  refine lv_iload_n hx hb dL_law_680 rfl (lv_at hl 0 rfl) ?_
  refine lv_iconst (v := 2) hx hb dL_law_681 (by decide) ?_
  refine lv_iadd hx hb dL_law_682 ?_
  refine L_ld C hM1 hin2 dL_law_683 ?_
  refine lv_aload_n hx hb dL_law_684 rfl (lv_at hl 3 rfl) ?_
  refine lv_iload_n hx hb dL_law_685 rfl (lv_at hl 0 rfl) ?_
  refine lv_iconst (v := 3) hx hb dL_law_686 (by decide) ?_
  refine lv_iadd hx hb dL_law_687 ?_
  refine L_ld C hM1 hin3 dL_law_688 ?_
  refine K_i (L_V (As := [.int (xs (nI i + 1).toNatClampNeg), .int (xs (nI i + 2).toNatClampNeg), .int (xs (nI i + 3).toNatClampNeg)]) (rest := [.int r1]) C.1 hM1 met2 lk_L_78 hc1 rfl rfl hl.1 rfl (Nat.le_of_ble_eq_true rfl) (by decide) dL_law_689 ⟨by show _ ≤ 600000; omega, by show _ ≤ 7302250; omega⟩) hM1 (fun r2 M2 H2 locs2 hM2 hp2 => ?_)
  obtain ⟨heq, hW2⟩ := F2 r2 M2 hp2
  refine lv_icmp_eq (tgt := 1216) hx hb dL_law_692 (by decide) (fun _ => ?_) (fun c_ => absurd heq c_)
  exact W.widen (by omega) (by omega) (kk _ _ _ hW2 hM2)
theorem L_case_697 {L i : Nat} {xs : Nat → Int32} (C : LwC g p s m c b L xs) (hW : World g M) (hM : MW g M H locs) (hi : i + 5 ≤ L) (hl : lv_has ls 4 (lawL g b i)) (hcc : cells + 1 ≤ 600000) (hss : slots + 4 ≤ 7302250) (kk : ∀ (M1 : Mem) (H1 : Heap) (locs1 : List Loc), World g M1 → MW g M1 H1 locs1 → W p l e room_1 s m #[Value.ref b] below meth c H1 locs1 (cells + 1) (slots + 4) Q (F0 m 1216 ls [])) : W p l e room_1 s m #[Value.ref b] below meth c H locs cells slots Q (F0 m 697 ls []) := by
  have hx := C.1.1.1
  have hb := C.1.1.2.1
  obtain ⟨fs0, hc0⟩ := hW.cust
  have hin1 : vp_in (nI i + 1) L := in_L (k := 1) (by omega) C.2.2.2.2.1
  refine lv_aload_n hx hb dL_law_697 rfl (lv_at hl 2 rfl) ?_
  refine lv_aload_n hx hb dL_law_698 rfl (lv_at hl 3 rfl) ?_
  refine lv_iload_n hx hb dL_law_699 rfl (lv_at hl 0 rfl) ?_
  refine lv_iconst (v := 1) hx hb dL_law_700 (by decide) ?_
  refine lv_iadd hx hb dL_law_701 ?_
  refine L_ld C hM hin1 dL_law_702 ?_
  obtain ⟨P1, met1, F1⟩ := w_shares C.2.2.2.1 hW l (xs (nI i + 1).toNatClampNeg)
  refine K_i (L_V (As := [.int (xs (nI i + 1).toNatClampNeg)]) (rest := []) C.1 hM met1 lk_L_79 hc0 rfl rfl hl.1 rfl (Nat.le_of_ble_eq_true rfl) (by decide) dL_law_703 ⟨by show _ ≤ 600000; omega, by show _ ≤ 7302250; omega⟩) hM (fun r1 M1 H1 locs1 hM1 hp1 => ?_)
  obtain ⟨⟨fs1, hc1⟩, P2, met2, F2⟩ := F1 r1 M1 hp1
  refine lv_aload_n hx hb dL_law_706 rfl (lv_at hl 1 rfl) ?_
  refine lv_aload_n hx hb dL_law_707 rfl (lv_at hl 3 rfl) ?_
  refine lv_iload_n hx hb dL_law_708 rfl (lv_at hl 0 rfl) ?_
  refine lv_iconst (v := 1) hx hb dL_law_709 (by decide) ?_
  refine lv_iadd hx hb dL_law_710 ?_
  refine L_ld C hM1 hin1 dL_law_711 ?_
  refine K_i (L_V (As := [.int (xs (nI i + 1).toNatClampNeg)]) (rest := [.int r1]) C.1 hM1 met2 lk_L_82 hc1 rfl rfl hl.1 rfl (Nat.le_of_ble_eq_true rfl) (by decide) dL_law_712 ⟨by show _ ≤ 600000; omega, by show _ ≤ 7302250; omega⟩) hM1 (fun r2 M2 H2 locs2 hM2 hp2 => ?_)
  obtain ⟨heq, hW2⟩ := F2 r2 M2 hp2
  refine lv_icmp_eq (tgt := 1216) hx hb dL_law_715 (by decide) (fun _ => ?_) (fun c_ => absurd heq c_)
  exact W.widen (by omega) (by omega) (kk _ _ _ hW2 hM2)
theorem L_case_720 {L i : Nat} {xs : Nat → Int32} (C : LwC g p s m c b L xs) (hW : World g M) (hM : MW g M H locs) (hi : i + 5 ≤ L) (hl : lv_has ls 4 (lawL g b i)) (hcc : cells + 1 ≤ 600000) (hss : slots + 4 ≤ 7302250) (kk : ∀ (M1 : Mem) (H1 : Heap) (locs1 : List Loc), World g M1 → MW g M1 H1 locs1 → W p l e room_1 s m #[Value.ref b] below meth c H1 locs1 (cells + 1) (slots + 4) Q (F0 m 1216 ls [])) : W p l e room_1 s m #[Value.ref b] below meth c H locs cells slots Q (F0 m 720 ls []) := by
  have hx := C.1.1.1
  have hb := C.1.1.2.1
  obtain ⟨fs0, hc0⟩ := hW.cust
  have hin1 : vp_in (nI i + 1) L := in_L (k := 1) (by omega) C.2.2.2.2.1
  have hin2 : vp_in (nI i + 2) L := in_L (k := 2) (by omega) C.2.2.2.2.1
  have hin3 : vp_in (nI i + 3) L := in_L (k := 3) (by omega) C.2.2.2.2.1
  refine lv_aload_n hx hb dL_law_720 rfl (lv_at hl 2 rfl) ?_
  refine lv_aload_n hx hb dL_law_721 rfl (lv_at hl 3 rfl) ?_
  refine lv_iload_n hx hb dL_law_722 rfl (lv_at hl 0 rfl) ?_
  refine lv_iconst (v := 1) hx hb dL_law_723 (by decide) ?_
  refine lv_iadd hx hb dL_law_724 ?_
  refine L_ld C hM hin1 dL_law_725 ?_
  refine lv_aload_n hx hb dL_law_726 rfl (lv_at hl 3 rfl) ?_
  refine lv_iload_n hx hb dL_law_727 rfl (lv_at hl 0 rfl) ?_
  refine lv_iconst (v := 2) hx hb dL_law_728 (by decide) ?_
  refine lv_iadd hx hb dL_law_729 ?_
  refine L_ld C hM hin2 dL_law_730 ?_
  refine lv_aload_n hx hb dL_law_731 rfl (lv_at hl 3 rfl) ?_
  refine lv_iload_n hx hb dL_law_732 rfl (lv_at hl 0 rfl) ?_
  refine lv_iconst (v := 3) hx hb dL_law_733 (by decide) ?_
  refine lv_iadd hx hb dL_law_734 ?_
  refine L_ld C hM hin3 dL_law_735 ?_
  refine lv_if_eq (tgt := 743) hx hb dL_law_736 (by decide) (fun c_1 => ?_) (fun c_1 => ?_)
  · skip
    refine lv_iconst (v := 0) hx hb dL_law_743 (by decide) ?_
    obtain ⟨P1, met1, F1⟩ := w_note C.2.2.2.1 hW l (xs (nI i + 1).toNatClampNeg) (xs (nI i + 2).toNatClampNeg) (0)
    refine K_i (L_V (As := [.int (xs (nI i + 1).toNatClampNeg), .int (xs (nI i + 2).toNatClampNeg), .int (0)]) (rest := []) C.1 hM met1 lk_L_83 hc0 rfl rfl hl.1 rfl (Nat.le_of_ble_eq_true rfl) (by decide) dL_law_744 ⟨by show _ ≤ 600000; omega, by show _ ≤ 7302250; omega⟩) hM (fun r1 M1 H1 locs1 hM1 hp1 => ?_)
    obtain ⟨⟨fs1, hc1⟩, P2, met2, F2⟩ := F1 r1 M1 hp1
    refine lv_aload_n hx hb dL_law_747 rfl (lv_at hl 1 rfl) ?_
    refine lv_aload_n hx hb dL_law_748 rfl (lv_at hl 3 rfl) ?_
    refine lv_iload_n hx hb dL_law_749 rfl (lv_at hl 0 rfl) ?_
    refine lv_iconst (v := 1) hx hb dL_law_750 (by decide) ?_
    refine lv_iadd hx hb dL_law_751 ?_
    refine L_ld C hM1 hin1 dL_law_752 ?_
    refine lv_aload_n hx hb dL_law_753 rfl (lv_at hl 3 rfl) ?_
    refine lv_iload_n hx hb dL_law_754 rfl (lv_at hl 0 rfl) ?_
    refine lv_iconst (v := 2) hx hb dL_law_755 (by decide) ?_
    refine lv_iadd hx hb dL_law_756 ?_
    refine L_ld C hM1 hin2 dL_law_757 ?_
    refine lv_aload_n hx hb dL_law_758 rfl (lv_at hl 3 rfl) ?_
    refine lv_iload_n hx hb dL_law_759 rfl (lv_at hl 0 rfl) ?_
    refine lv_iconst (v := 3) hx hb dL_law_760 (by decide) ?_
    refine lv_iadd hx hb dL_law_761 ?_
    refine L_ld C hM1 hin3 dL_law_762 ?_
    refine lv_if_eq (tgt := 770) hx hb dL_law_763 (by decide) (fun _ => ?_) (fun c_ => absurd c_1 c_)
    refine lv_iconst (v := 0) hx hb dL_law_770 (by decide) ?_
    refine K_i (L_V (As := [.int (xs (nI i + 1).toNatClampNeg), .int (xs (nI i + 2).toNatClampNeg), .int (0)]) (rest := [.int r1]) C.1 hM1 met2 lk_L_87 hc1 rfl rfl hl.1 rfl (Nat.le_of_ble_eq_true rfl) (by decide) dL_law_771 ⟨by show _ ≤ 600000; omega, by show _ ≤ 7302250; omega⟩) hM1 (fun r2 M2 H2 locs2 hM2 hp2 => ?_)
    obtain ⟨heq, hW2⟩ := F2 r2 M2 hp2
    refine lv_icmp_eq (tgt := 1216) hx hb dL_law_774 (by decide) (fun _ => ?_) (fun c_ => absurd heq c_)
    exact W.widen (by omega) (by omega) (kk _ _ _ hW2 hM2)
  · skip
    refine lv_iconst (v := 1) hx hb dL_law_739 (by decide) ?_
    refine lv_goto (tgt := 744) hx hb dL_law_740 (by decide) ?_
    obtain ⟨P1, met1, F1⟩ := w_note C.2.2.2.1 hW l (xs (nI i + 1).toNatClampNeg) (xs (nI i + 2).toNatClampNeg) (1)
    refine K_i (L_V (As := [.int (xs (nI i + 1).toNatClampNeg), .int (xs (nI i + 2).toNatClampNeg), .int (1)]) (rest := []) C.1 hM met1 lk_L_83 hc0 rfl rfl hl.1 rfl (Nat.le_of_ble_eq_true rfl) (by decide) dL_law_744 ⟨by show _ ≤ 600000; omega, by show _ ≤ 7302250; omega⟩) hM (fun r1 M1 H1 locs1 hM1 hp1 => ?_)
    obtain ⟨⟨fs1, hc1⟩, P2, met2, F2⟩ := F1 r1 M1 hp1
    refine lv_aload_n hx hb dL_law_747 rfl (lv_at hl 1 rfl) ?_
    refine lv_aload_n hx hb dL_law_748 rfl (lv_at hl 3 rfl) ?_
    refine lv_iload_n hx hb dL_law_749 rfl (lv_at hl 0 rfl) ?_
    refine lv_iconst (v := 1) hx hb dL_law_750 (by decide) ?_
    refine lv_iadd hx hb dL_law_751 ?_
    refine L_ld C hM1 hin1 dL_law_752 ?_
    refine lv_aload_n hx hb dL_law_753 rfl (lv_at hl 3 rfl) ?_
    refine lv_iload_n hx hb dL_law_754 rfl (lv_at hl 0 rfl) ?_
    refine lv_iconst (v := 2) hx hb dL_law_755 (by decide) ?_
    refine lv_iadd hx hb dL_law_756 ?_
    refine L_ld C hM1 hin2 dL_law_757 ?_
    refine lv_aload_n hx hb dL_law_758 rfl (lv_at hl 3 rfl) ?_
    refine lv_iload_n hx hb dL_law_759 rfl (lv_at hl 0 rfl) ?_
    refine lv_iconst (v := 3) hx hb dL_law_760 (by decide) ?_
    refine lv_iadd hx hb dL_law_761 ?_
    refine L_ld C hM1 hin3 dL_law_762 ?_
    refine lv_if_eq (tgt := 770) hx hb dL_law_763 (by decide) (fun c_ => absurd c_ c_1) (fun _ => ?_)
    refine lv_iconst (v := 1) hx hb dL_law_766 (by decide) ?_
    refine lv_goto (tgt := 771) hx hb dL_law_767 (by decide) ?_
    refine K_i (L_V (As := [.int (xs (nI i + 1).toNatClampNeg), .int (xs (nI i + 2).toNatClampNeg), .int (1)]) (rest := [.int r1]) C.1 hM1 met2 lk_L_87 hc1 rfl rfl hl.1 rfl (Nat.le_of_ble_eq_true rfl) (by decide) dL_law_771 ⟨by show _ ≤ 600000; omega, by show _ ≤ 7302250; omega⟩) hM1 (fun r2 M2 H2 locs2 hM2 hp2 => ?_)
    obtain ⟨heq, hW2⟩ := F2 r2 M2 hp2
    refine lv_icmp_eq (tgt := 1216) hx hb dL_law_774 (by decide) (fun _ => ?_) (fun c_ => absurd heq c_)
    exact W.widen (by omega) (by omega) (kk _ _ _ hW2 hM2)
theorem L_case_779 {L i : Nat} {xs : Nat → Int32} (C : LwC g p s m c b L xs) (hW : World g M) (hM : MW g M H locs) (hi : i + 5 ≤ L) (hl : lv_has ls 4 (lawL g b i)) (hcc : cells + 1 ≤ 600000) (hss : slots + 4 ≤ 7302250) (kk : ∀ (M1 : Mem) (H1 : Heap) (locs1 : List Loc), World g M1 → MW g M1 H1 locs1 → W p l e room_1 s m #[Value.ref b] below meth c H1 locs1 (cells + 1) (slots + 4) Q (F0 m 1216 ls [])) : W p l e room_1 s m #[Value.ref b] below meth c H locs cells slots Q (F0 m 779 ls []) := by
  have hx := C.1.1.1
  have hb := C.1.1.2.1
  obtain ⟨fs0, hc0⟩ := hW.cust
  have hin1 : vp_in (nI i + 1) L := in_L (k := 1) (by omega) C.2.2.2.2.1
  have hin2 : vp_in (nI i + 2) L := in_L (k := 2) (by omega) C.2.2.2.2.1
  refine lv_aload_n hx hb dL_law_779 rfl (lv_at hl 2 rfl) ?_
  refine lv_aload_n hx hb dL_law_780 rfl (lv_at hl 3 rfl) ?_
  refine lv_iload_n hx hb dL_law_781 rfl (lv_at hl 0 rfl) ?_
  refine lv_iconst (v := 1) hx hb dL_law_782 (by decide) ?_
  refine lv_iadd hx hb dL_law_783 ?_
  refine L_ld C hM hin1 dL_law_784 ?_
  refine lv_aload_n hx hb dL_law_785 rfl (lv_at hl 3 rfl) ?_
  refine lv_iload_n hx hb dL_law_786 rfl (lv_at hl 0 rfl) ?_
  refine lv_iconst (v := 2) hx hb dL_law_787 (by decide) ?_
  refine lv_iadd hx hb dL_law_788 ?_
  refine L_ld C hM hin2 dL_law_789 ?_
  obtain ⟨P1, met1, F1⟩ := w_rounds C.2.2.2.1 hW l (xs (nI i + 1).toNatClampNeg) (xs (nI i + 2).toNatClampNeg)
  refine K_i (L_V (As := [.int (xs (nI i + 1).toNatClampNeg), .int (xs (nI i + 2).toNatClampNeg)]) (rest := []) C.1 hM met1 lk_L_88 hc0 rfl rfl hl.1 rfl (Nat.le_of_ble_eq_true rfl) (by decide) dL_law_790 ⟨by show _ ≤ 600000; omega, by show _ ≤ 7302250; omega⟩) hM (fun r1 M1 H1 locs1 hM1 hp1 => ?_)
  obtain ⟨⟨fs1, hc1⟩, P2, met2, F2⟩ := F1 r1 M1 hp1
  refine lv_aload_n hx hb dL_law_793 rfl (lv_at hl 1 rfl) ?_
  refine lv_aload_n hx hb dL_law_794 rfl (lv_at hl 3 rfl) ?_
  refine lv_iload_n hx hb dL_law_795 rfl (lv_at hl 0 rfl) ?_
  refine lv_iconst (v := 1) hx hb dL_law_796 (by decide) ?_
  refine lv_iadd hx hb dL_law_797 ?_
  refine L_ld C hM1 hin1 dL_law_798 ?_
  refine lv_aload_n hx hb dL_law_799 rfl (lv_at hl 3 rfl) ?_
  refine lv_iload_n hx hb dL_law_800 rfl (lv_at hl 0 rfl) ?_
  refine lv_iconst (v := 2) hx hb dL_law_801 (by decide) ?_
  refine lv_iadd hx hb dL_law_802 ?_
  refine L_ld C hM1 hin2 dL_law_803 ?_
  refine K_i (L_V (As := [.int (xs (nI i + 1).toNatClampNeg), .int (xs (nI i + 2).toNatClampNeg)]) (rest := [.int r1]) C.1 hM1 met2 lk_L_91 hc1 rfl rfl hl.1 rfl (Nat.le_of_ble_eq_true rfl) (by decide) dL_law_804 ⟨by show _ ≤ 600000; omega, by show _ ≤ 7302250; omega⟩) hM1 (fun r2 M2 H2 locs2 hM2 hp2 => ?_)
  obtain ⟨heq, hW2⟩ := F2 r2 M2 hp2
  refine lv_icmp_eq (tgt := 1216) hx hb dL_law_807 (by decide) (fun _ => ?_) (fun c_ => absurd heq c_)
  exact W.widen (by omega) (by omega) (kk _ _ _ hW2 hM2)
theorem L_case_812 {L i : Nat} {xs : Nat → Int32} (C : LwC g p s m c b L xs) (hW : World g M) (hM : MW g M H locs) (hi : i + 5 ≤ L) (hl : lv_has ls 4 (lawL g b i)) (hcc : cells + 1 ≤ 600000) (hss : slots + 4 ≤ 7302250) (kk : ∀ (M1 : Mem) (H1 : Heap) (locs1 : List Loc), World g M1 → MW g M1 H1 locs1 → W p l e room_1 s m #[Value.ref b] below meth c H1 locs1 (cells + 1) (slots + 4) Q (F0 m 1216 ls [])) : W p l e room_1 s m #[Value.ref b] below meth c H locs cells slots Q (F0 m 812 ls []) := by
  have hx := C.1.1.1
  have hb := C.1.1.2.1
  obtain ⟨fs0, hc0⟩ := hW.cust
  have hin1 : vp_in (nI i + 1) L := in_L (k := 1) (by omega) C.2.2.2.2.1
  have hin2 : vp_in (nI i + 2) L := in_L (k := 2) (by omega) C.2.2.2.2.1
  refine lv_aload_n hx hb dL_law_812 rfl (lv_at hl 2 rfl) ?_
  refine lv_aload_n hx hb dL_law_813 rfl (lv_at hl 3 rfl) ?_
  refine lv_iload_n hx hb dL_law_814 rfl (lv_at hl 0 rfl) ?_
  refine lv_iconst (v := 1) hx hb dL_law_815 (by decide) ?_
  refine lv_iadd hx hb dL_law_816 ?_
  refine L_ld C hM hin1 dL_law_817 ?_
  refine lv_aload_n hx hb dL_law_818 rfl (lv_at hl 3 rfl) ?_
  refine lv_iload_n hx hb dL_law_819 rfl (lv_at hl 0 rfl) ?_
  refine lv_iconst (v := 2) hx hb dL_law_820 (by decide) ?_
  refine lv_iadd hx hb dL_law_821 ?_
  refine L_ld C hM hin2 dL_law_822 ?_
  obtain ⟨P1, met1, F1⟩ := w_phases C.2.2.2.1 hW l (xs (nI i + 1).toNatClampNeg) (xs (nI i + 2).toNatClampNeg)
  refine K_i (L_V (As := [.int (xs (nI i + 1).toNatClampNeg), .int (xs (nI i + 2).toNatClampNeg)]) (rest := []) C.1 hM met1 lk_L_92 hc0 rfl rfl hl.1 rfl (Nat.le_of_ble_eq_true rfl) (by decide) dL_law_823 ⟨by show _ ≤ 600000; omega, by show _ ≤ 7302250; omega⟩) hM (fun r1 M1 H1 locs1 hM1 hp1 => ?_)
  obtain ⟨⟨fs1, hc1⟩, P2, met2, F2⟩ := F1 r1 M1 hp1
  refine lv_aload_n hx hb dL_law_826 rfl (lv_at hl 1 rfl) ?_
  refine lv_aload_n hx hb dL_law_827 rfl (lv_at hl 3 rfl) ?_
  refine lv_iload_n hx hb dL_law_828 rfl (lv_at hl 0 rfl) ?_
  refine lv_iconst (v := 1) hx hb dL_law_829 (by decide) ?_
  refine lv_iadd hx hb dL_law_830 ?_
  refine L_ld C hM1 hin1 dL_law_831 ?_
  refine lv_aload_n hx hb dL_law_832 rfl (lv_at hl 3 rfl) ?_
  refine lv_iload_n hx hb dL_law_833 rfl (lv_at hl 0 rfl) ?_
  refine lv_iconst (v := 2) hx hb dL_law_834 (by decide) ?_
  refine lv_iadd hx hb dL_law_835 ?_
  refine L_ld C hM1 hin2 dL_law_836 ?_
  refine K_i (L_V (As := [.int (xs (nI i + 1).toNatClampNeg), .int (xs (nI i + 2).toNatClampNeg)]) (rest := [.int r1]) C.1 hM1 met2 lk_L_95 hc1 rfl rfl hl.1 rfl (Nat.le_of_ble_eq_true rfl) (by decide) dL_law_837 ⟨by show _ ≤ 600000; omega, by show _ ≤ 7302250; omega⟩) hM1 (fun r2 M2 H2 locs2 hM2 hp2 => ?_)
  obtain ⟨heq, hW2⟩ := F2 r2 M2 hp2
  refine lv_icmp_eq (tgt := 1216) hx hb dL_law_840 (by decide) (fun _ => ?_) (fun c_ => absurd heq c_)
  exact W.widen (by omega) (by omega) (kk _ _ _ hW2 hM2)
theorem L_case_845 {L i : Nat} {xs : Nat → Int32} (C : LwC g p s m c b L xs) (hW : World g M) (hM : MW g M H locs) (hi : i + 5 ≤ L) (hl : lv_has ls 4 (lawL g b i)) (hcc : cells + 1 ≤ 600000) (hss : slots + 4 ≤ 7302250) (kk : ∀ (M1 : Mem) (H1 : Heap) (locs1 : List Loc), World g M1 → MW g M1 H1 locs1 → W p l e room_1 s m #[Value.ref b] below meth c H1 locs1 (cells + 1) (slots + 4) Q (F0 m 1216 ls [])) : W p l e room_1 s m #[Value.ref b] below meth c H locs cells slots Q (F0 m 845 ls []) := by
  have hx := C.1.1.1
  have hb := C.1.1.2.1
  obtain ⟨fs0, hc0⟩ := hW.cust
  have hin1 : vp_in (nI i + 1) L := in_L (k := 1) (by omega) C.2.2.2.2.1
  have hin2 : vp_in (nI i + 2) L := in_L (k := 2) (by omega) C.2.2.2.2.1
  refine lv_aload_n hx hb dL_law_845 rfl (lv_at hl 2 rfl) ?_
  refine lv_aload_n hx hb dL_law_846 rfl (lv_at hl 3 rfl) ?_
  refine lv_iload_n hx hb dL_law_847 rfl (lv_at hl 0 rfl) ?_
  refine lv_iconst (v := 1) hx hb dL_law_848 (by decide) ?_
  refine lv_iadd hx hb dL_law_849 ?_
  refine L_ld C hM hin1 dL_law_850 ?_
  refine lv_aload_n hx hb dL_law_851 rfl (lv_at hl 3 rfl) ?_
  refine lv_iload_n hx hb dL_law_852 rfl (lv_at hl 0 rfl) ?_
  refine lv_iconst (v := 2) hx hb dL_law_853 (by decide) ?_
  refine lv_iadd hx hb dL_law_854 ?_
  refine L_ld C hM hin2 dL_law_855 ?_
  obtain ⟨P1, met1, F1⟩ := w_firm C.2.2.2.1 hW l (xs (nI i + 1).toNatClampNeg) (xs (nI i + 2).toNatClampNeg)
  refine K_i (L_V (As := [.int (xs (nI i + 1).toNatClampNeg), .int (xs (nI i + 2).toNatClampNeg)]) (rest := []) C.1 hM met1 lk_L_96 hc0 rfl rfl hl.1 rfl (Nat.le_of_ble_eq_true rfl) (by decide) dL_law_856 ⟨by show _ ≤ 600000; omega, by show _ ≤ 7302250; omega⟩) hM (fun r1 M1 H1 locs1 hM1 hp1 => ?_)
  obtain ⟨⟨fs1, hc1⟩, P2, met2, F2⟩ := F1 r1 M1 hp1
  refine lv_aload_n hx hb dL_law_859 rfl (lv_at hl 1 rfl) ?_
  refine lv_aload_n hx hb dL_law_860 rfl (lv_at hl 3 rfl) ?_
  refine lv_iload_n hx hb dL_law_861 rfl (lv_at hl 0 rfl) ?_
  refine lv_iconst (v := 1) hx hb dL_law_862 (by decide) ?_
  refine lv_iadd hx hb dL_law_863 ?_
  refine L_ld C hM1 hin1 dL_law_864 ?_
  refine lv_aload_n hx hb dL_law_865 rfl (lv_at hl 3 rfl) ?_
  refine lv_iload_n hx hb dL_law_866 rfl (lv_at hl 0 rfl) ?_
  refine lv_iconst (v := 2) hx hb dL_law_867 (by decide) ?_
  refine lv_iadd hx hb dL_law_868 ?_
  refine L_ld C hM1 hin2 dL_law_869 ?_
  refine K_i (L_V (As := [.int (xs (nI i + 1).toNatClampNeg), .int (xs (nI i + 2).toNatClampNeg)]) (rest := [.int r1]) C.1 hM1 met2 lk_L_99 hc1 rfl rfl hl.1 rfl (Nat.le_of_ble_eq_true rfl) (by decide) dL_law_870 ⟨by show _ ≤ 600000; omega, by show _ ≤ 7302250; omega⟩) hM1 (fun r2 M2 H2 locs2 hM2 hp2 => ?_)
  obtain ⟨heq, hW2⟩ := F2 r2 M2 hp2
  refine lv_icmp_eq (tgt := 1216) hx hb dL_law_873 (by decide) (fun _ => ?_) (fun c_ => absurd heq c_)
  exact W.widen (by omega) (by omega) (kk _ _ _ hW2 hM2)
theorem L_case_878 {L i : Nat} {xs : Nat → Int32} (C : LwC g p s m c b L xs) (hW : World g M) (hM : MW g M H locs) (hi : i + 5 ≤ L) (hl : lv_has ls 4 (lawL g b i)) (hcc : cells + 1 ≤ 600000) (hss : slots + 4 ≤ 7302250) (kk : ∀ (M1 : Mem) (H1 : Heap) (locs1 : List Loc), World g M1 → MW g M1 H1 locs1 → W p l e room_1 s m #[Value.ref b] below meth c H1 locs1 (cells + 1) (slots + 4) Q (F0 m 1216 ls [])) : W p l e room_1 s m #[Value.ref b] below meth c H locs cells slots Q (F0 m 878 ls []) := by
  have hx := C.1.1.1
  have hb := C.1.1.2.1
  obtain ⟨fs0, hc0⟩ := hW.cust
  have hin1 : vp_in (nI i + 1) L := in_L (k := 1) (by omega) C.2.2.2.2.1
  have hin2 : vp_in (nI i + 2) L := in_L (k := 2) (by omega) C.2.2.2.2.1
  have hin3 : vp_in (nI i + 3) L := in_L (k := 3) (by omega) C.2.2.2.2.1
  have hin4 : vp_in (nI i + 4) L := in_L (k := 4) (by omega) C.2.2.2.2.1
  refine lv_aload_n hx hb dL_law_878 rfl (lv_at hl 2 rfl) ?_
  refine lv_aload_n hx hb dL_law_879 rfl (lv_at hl 3 rfl) ?_
  refine lv_iload_n hx hb dL_law_880 rfl (lv_at hl 0 rfl) ?_
  refine lv_iconst (v := 1) hx hb dL_law_881 (by decide) ?_
  refine lv_iadd hx hb dL_law_882 ?_
  refine L_ld C hM hin1 dL_law_883 ?_
  refine lv_aload_n hx hb dL_law_884 rfl (lv_at hl 3 rfl) ?_
  refine lv_iload_n hx hb dL_law_885 rfl (lv_at hl 0 rfl) ?_
  refine lv_iconst (v := 2) hx hb dL_law_886 (by decide) ?_
  refine lv_iadd hx hb dL_law_887 ?_
  refine L_ld C hM hin2 dL_law_888 ?_
  refine lv_aload_n hx hb dL_law_889 rfl (lv_at hl 3 rfl) ?_
  refine lv_iload_n hx hb dL_law_890 rfl (lv_at hl 0 rfl) ?_
  refine lv_iconst (v := 3) hx hb dL_law_891 (by decide) ?_
  refine lv_iadd hx hb dL_law_892 ?_
  refine L_ld C hM hin3 dL_law_893 ?_
  refine lv_aload_n hx hb dL_law_894 rfl (lv_at hl 3 rfl) ?_
  refine lv_iload_n hx hb dL_law_895 rfl (lv_at hl 0 rfl) ?_
  refine lv_iconst (v := 4) hx hb dL_law_896 (by decide) ?_
  refine lv_iadd hx hb dL_law_897 ?_
  refine L_ld C hM hin4 dL_law_898 ?_
  obtain ⟨P1, met1, F1⟩ := w_odds C.2.2.2.1 hW l (xs (nI i + 1).toNatClampNeg) (xs (nI i + 2).toNatClampNeg) (xs (nI i + 3).toNatClampNeg) (xs (nI i + 4).toNatClampNeg)
  refine K_l (L_V (As := [.int (xs (nI i + 1).toNatClampNeg), .int (xs (nI i + 2).toNatClampNeg), .int (xs (nI i + 3).toNatClampNeg), .int (xs (nI i + 4).toNatClampNeg)]) (rest := []) C.1 hM met1 lk_L_100 hc0 rfl rfl hl.1 rfl (Nat.le_of_ble_eq_true rfl) (by decide) dL_law_899 ⟨by show _ ≤ 600000; omega, by show _ ≤ 7302250; omega⟩) hM (fun r1 M1 H1 locs1 hM1 hp1 => ?_)
  obtain ⟨⟨fs1, hc1⟩, P2, met2, F2⟩ := F1 r1 M1 hp1
  refine lv_aload_n hx hb dL_law_902 rfl (lv_at hl 1 rfl) ?_
  refine lv_aload_n hx hb dL_law_903 rfl (lv_at hl 3 rfl) ?_
  refine lv_iload_n hx hb dL_law_904 rfl (lv_at hl 0 rfl) ?_
  refine lv_iconst (v := 1) hx hb dL_law_905 (by decide) ?_
  refine lv_iadd hx hb dL_law_906 ?_
  refine L_ld C hM1 hin1 dL_law_907 ?_
  refine lv_aload_n hx hb dL_law_908 rfl (lv_at hl 3 rfl) ?_
  refine lv_iload_n hx hb dL_law_909 rfl (lv_at hl 0 rfl) ?_
  refine lv_iconst (v := 2) hx hb dL_law_910 (by decide) ?_
  refine lv_iadd hx hb dL_law_911 ?_
  refine L_ld C hM1 hin2 dL_law_912 ?_
  refine lv_aload_n hx hb dL_law_913 rfl (lv_at hl 3 rfl) ?_
  refine lv_iload_n hx hb dL_law_914 rfl (lv_at hl 0 rfl) ?_
  refine lv_iconst (v := 3) hx hb dL_law_915 (by decide) ?_
  refine lv_iadd hx hb dL_law_916 ?_
  refine L_ld C hM1 hin3 dL_law_917 ?_
  refine lv_aload_n hx hb dL_law_918 rfl (lv_at hl 3 rfl) ?_
  refine lv_iload_n hx hb dL_law_919 rfl (lv_at hl 0 rfl) ?_
  refine lv_iconst (v := 4) hx hb dL_law_920 (by decide) ?_
  refine lv_iadd hx hb dL_law_921 ?_
  refine L_ld C hM1 hin4 dL_law_922 ?_
  refine K_l (L_V (As := [.int (xs (nI i + 1).toNatClampNeg), .int (xs (nI i + 2).toNatClampNeg), .int (xs (nI i + 3).toNatClampNeg), .int (xs (nI i + 4).toNatClampNeg)]) (rest := [.long r1]) C.1 hM1 met2 lk_L_104 hc1 rfl rfl hl.1 rfl (Nat.le_of_ble_eq_true rfl) (by decide) dL_law_923 ⟨by show _ ≤ 600000; omega, by show _ ≤ 7302250; omega⟩) hM1 (fun r2 M2 H2 locs2 hM2 hp2 => ?_)
  obtain ⟨heq, hW2⟩ := F2 r2 M2 hp2
  refine W.lcmp hx hb dL_law_926 ?_
  refine lv_if_eq (tgt := 1216) hx hb dL_law_927 (by decide) (fun _ => ?_) (fun c_ => absurd (by rw [heq]; unfold lg_cmp; rw [if_neg Int64.lt_irrefl, if_pos rfl]) c_)
  exact W.widen (by omega) (by omega) (kk _ _ _ hW2 hM2)
theorem L_case_932 {L i : Nat} {xs : Nat → Int32} (C : LwC g p s m c b L xs) (hW : World g M) (hM : MW g M H locs) (hi : i + 5 ≤ L) (hl : lv_has ls 4 (lawL g b i)) (hcc : cells + 1 ≤ 600000) (hss : slots + 4 ≤ 7302250) (kk : ∀ (M1 : Mem) (H1 : Heap) (locs1 : List Loc), World g M1 → MW g M1 H1 locs1 → W p l e room_1 s m #[Value.ref b] below meth c H1 locs1 (cells + 1) (slots + 4) Q (F0 m 1216 ls [])) : W p l e room_1 s m #[Value.ref b] below meth c H locs cells slots Q (F0 m 932 ls []) := by
  have hx := C.1.1.1
  have hb := C.1.1.2.1
  obtain ⟨fs0, hc0⟩ := hW.cust
  have hin1 : vp_in (nI i + 1) L := in_L (k := 1) (by omega) C.2.2.2.2.1
  have hin2 : vp_in (nI i + 2) L := in_L (k := 2) (by omega) C.2.2.2.2.1
  refine lv_aload_n hx hb dL_law_932 rfl (lv_at hl 2 rfl) ?_
  refine lv_aload_n hx hb dL_law_933 rfl (lv_at hl 3 rfl) ?_
  refine lv_iload_n hx hb dL_law_934 rfl (lv_at hl 0 rfl) ?_
  refine lv_iconst (v := 1) hx hb dL_law_935 (by decide) ?_
  refine lv_iadd hx hb dL_law_936 ?_
  refine L_ld C hM hin1 dL_law_937 ?_
  refine lv_aload_n hx hb dL_law_938 rfl (lv_at hl 3 rfl) ?_
  refine lv_iload_n hx hb dL_law_939 rfl (lv_at hl 0 rfl) ?_
  refine lv_iconst (v := 2) hx hb dL_law_940 (by decide) ?_
  refine lv_iadd hx hb dL_law_941 ?_
  refine L_ld C hM hin2 dL_law_942 ?_
  obtain ⟨P1, met1, F1⟩ := w_mean C.2.2.2.1 hW l (xs (nI i + 1).toNatClampNeg) (xs (nI i + 2).toNatClampNeg)
  refine K_l (L_V (As := [.int (xs (nI i + 1).toNatClampNeg), .int (xs (nI i + 2).toNatClampNeg)]) (rest := []) C.1 hM met1 lk_L_105 hc0 rfl rfl hl.1 rfl (Nat.le_of_ble_eq_true rfl) (by decide) dL_law_943 ⟨by show _ ≤ 600000; omega, by show _ ≤ 7302250; omega⟩) hM (fun r1 M1 H1 locs1 hM1 hp1 => ?_)
  obtain ⟨⟨fs1, hc1⟩, P2, met2, F2⟩ := F1 r1 M1 hp1
  refine lv_aload_n hx hb dL_law_946 rfl (lv_at hl 1 rfl) ?_
  refine lv_aload_n hx hb dL_law_947 rfl (lv_at hl 3 rfl) ?_
  refine lv_iload_n hx hb dL_law_948 rfl (lv_at hl 0 rfl) ?_
  refine lv_iconst (v := 1) hx hb dL_law_949 (by decide) ?_
  refine lv_iadd hx hb dL_law_950 ?_
  refine L_ld C hM1 hin1 dL_law_951 ?_
  refine lv_aload_n hx hb dL_law_952 rfl (lv_at hl 3 rfl) ?_
  refine lv_iload_n hx hb dL_law_953 rfl (lv_at hl 0 rfl) ?_
  refine lv_iconst (v := 2) hx hb dL_law_954 (by decide) ?_
  refine lv_iadd hx hb dL_law_955 ?_
  refine L_ld C hM1 hin2 dL_law_956 ?_
  refine K_l (L_V (As := [.int (xs (nI i + 1).toNatClampNeg), .int (xs (nI i + 2).toNatClampNeg)]) (rest := [.long r1]) C.1 hM1 met2 lk_L_109 hc1 rfl rfl hl.1 rfl (Nat.le_of_ble_eq_true rfl) (by decide) dL_law_957 ⟨by show _ ≤ 600000; omega, by show _ ≤ 7302250; omega⟩) hM1 (fun r2 M2 H2 locs2 hM2 hp2 => ?_)
  obtain ⟨heq, hW2⟩ := F2 r2 M2 hp2
  refine W.lcmp hx hb dL_law_960 ?_
  refine lv_if_eq (tgt := 1216) hx hb dL_law_961 (by decide) (fun _ => ?_) (fun c_ => absurd (by rw [heq]; unfold lg_cmp; rw [if_neg Int64.lt_irrefl, if_pos rfl]) c_)
  exact W.widen (by omega) (by omega) (kk _ _ _ hW2 hM2)
theorem L_case_966 {L i : Nat} {xs : Nat → Int32} (C : LwC g p s m c b L xs) (hW : World g M) (hM : MW g M H locs) (hi : i + 5 ≤ L) (hl : lv_has ls 4 (lawL g b i)) (hcc : cells + 1 ≤ 600000) (hss : slots + 4 ≤ 7302250) (kk : ∀ (M1 : Mem) (H1 : Heap) (locs1 : List Loc), World g M1 → MW g M1 H1 locs1 → W p l e room_1 s m #[Value.ref b] below meth c H1 locs1 (cells + 1) (slots + 4) Q (F0 m 1216 ls [])) : W p l e room_1 s m #[Value.ref b] below meth c H locs cells slots Q (F0 m 966 ls []) := by
  have hx := C.1.1.1
  have hb := C.1.1.2.1
  obtain ⟨fs0, hc0⟩ := hW.cust
  have hin1 : vp_in (nI i + 1) L := in_L (k := 1) (by omega) C.2.2.2.2.1
  have hin2 : vp_in (nI i + 2) L := in_L (k := 2) (by omega) C.2.2.2.2.1
  refine lv_aload_n hx hb dL_law_966 rfl (lv_at hl 2 rfl) ?_
  refine lv_aload_n hx hb dL_law_967 rfl (lv_at hl 3 rfl) ?_
  refine lv_iload_n hx hb dL_law_968 rfl (lv_at hl 0 rfl) ?_
  refine lv_iconst (v := 1) hx hb dL_law_969 (by decide) ?_
  refine lv_iadd hx hb dL_law_970 ?_
  refine L_ld C hM hin1 dL_law_971 ?_
  refine lv_aload_n hx hb dL_law_972 rfl (lv_at hl 3 rfl) ?_
  refine lv_iload_n hx hb dL_law_973 rfl (lv_at hl 0 rfl) ?_
  refine lv_iconst (v := 2) hx hb dL_law_974 (by decide) ?_
  refine lv_iadd hx hb dL_law_975 ?_
  refine L_ld C hM hin2 dL_law_976 ?_
  obtain ⟨P1, met1, F1⟩ := w_plan C.2.2.2.1 hW l (xs (nI i + 1).toNatClampNeg) (xs (nI i + 2).toNatClampNeg)
  refine K_i (L_V (As := [.int (xs (nI i + 1).toNatClampNeg), .int (xs (nI i + 2).toNatClampNeg)]) (rest := []) C.1 hM met1 lk_L_110 hc0 rfl rfl hl.1 rfl (Nat.le_of_ble_eq_true rfl) (by decide) dL_law_977 ⟨by show _ ≤ 600000; omega, by show _ ≤ 7302250; omega⟩) hM (fun r1 M1 H1 locs1 hM1 hp1 => ?_)
  obtain ⟨⟨fs1, hc1⟩, P2, met2, F2⟩ := F1 r1 M1 hp1
  refine lv_aload_n hx hb dL_law_980 rfl (lv_at hl 1 rfl) ?_
  refine lv_aload_n hx hb dL_law_981 rfl (lv_at hl 3 rfl) ?_
  refine lv_iload_n hx hb dL_law_982 rfl (lv_at hl 0 rfl) ?_
  refine lv_iconst (v := 1) hx hb dL_law_983 (by decide) ?_
  refine lv_iadd hx hb dL_law_984 ?_
  refine L_ld C hM1 hin1 dL_law_985 ?_
  refine lv_aload_n hx hb dL_law_986 rfl (lv_at hl 3 rfl) ?_
  refine lv_iload_n hx hb dL_law_987 rfl (lv_at hl 0 rfl) ?_
  refine lv_iconst (v := 2) hx hb dL_law_988 (by decide) ?_
  refine lv_iadd hx hb dL_law_989 ?_
  refine L_ld C hM1 hin2 dL_law_990 ?_
  refine K_i (L_V (As := [.int (xs (nI i + 1).toNatClampNeg), .int (xs (nI i + 2).toNatClampNeg)]) (rest := [.int r1]) C.1 hM1 met2 lk_L_113 hc1 rfl rfl hl.1 rfl (Nat.le_of_ble_eq_true rfl) (by decide) dL_law_991 ⟨by show _ ≤ 600000; omega, by show _ ≤ 7302250; omega⟩) hM1 (fun r2 M2 H2 locs2 hM2 hp2 => ?_)
  obtain ⟨heq, hW2⟩ := F2 r2 M2 hp2
  refine lv_icmp_eq (tgt := 1216) hx hb dL_law_994 (by decide) (fun _ => ?_) (fun c_ => absurd heq c_)
  exact W.widen (by omega) (by omega) (kk _ _ _ hW2 hM2)
theorem L_case_999 {L i : Nat} {xs : Nat → Int32} (C : LwC g p s m c b L xs) (hW : World g M) (hM : MW g M H locs) (hi : i + 5 ≤ L) (hl : lv_has ls 4 (lawL g b i)) (hcc : cells + 1 ≤ 600000) (hss : slots + 4 ≤ 7302250) (kk : ∀ (M1 : Mem) (H1 : Heap) (locs1 : List Loc), World g M1 → MW g M1 H1 locs1 → W p l e room_1 s m #[Value.ref b] below meth c H1 locs1 (cells + 1) (slots + 4) Q (F0 m 1216 ls [])) : W p l e room_1 s m #[Value.ref b] below meth c H locs cells slots Q (F0 m 999 ls []) := by
  have hx := C.1.1.1
  have hb := C.1.1.2.1
  obtain ⟨fs0, hc0⟩ := hW.cust
  have hin1 : vp_in (nI i + 1) L := in_L (k := 1) (by omega) C.2.2.2.2.1
  refine lv_aload_n hx hb dL_law_999 rfl (lv_at hl 2 rfl) ?_
  refine lv_aload_n hx hb dL_law_1000 rfl (lv_at hl 3 rfl) ?_
  refine lv_iload_n hx hb dL_law_1001 rfl (lv_at hl 0 rfl) ?_
  refine lv_iconst (v := 1) hx hb dL_law_1002 (by decide) ?_
  refine lv_iadd hx hb dL_law_1003 ?_
  refine L_ld C hM hin1 dL_law_1004 ?_
  obtain ⟨P1, met1, F1⟩ := w_done C.2.2.2.1 hW l (xs (nI i + 1).toNatClampNeg)
  refine K_i (L_V (As := [.int (xs (nI i + 1).toNatClampNeg)]) (rest := []) C.1 hM met1 lk_L_114 hc0 rfl rfl hl.1 rfl (Nat.le_of_ble_eq_true rfl) (by decide) dL_law_1005 ⟨by show _ ≤ 600000; omega, by show _ ≤ 7302250; omega⟩) hM (fun r1 M1 H1 locs1 hM1 hp1 => ?_)
  obtain ⟨⟨fs1, hc1⟩, P2, met2, F2⟩ := F1 r1 M1 hp1
  refine lv_aload_n hx hb dL_law_1008 rfl (lv_at hl 1 rfl) ?_
  refine lv_aload_n hx hb dL_law_1009 rfl (lv_at hl 3 rfl) ?_
  refine lv_iload_n hx hb dL_law_1010 rfl (lv_at hl 0 rfl) ?_
  refine lv_iconst (v := 1) hx hb dL_law_1011 (by decide) ?_
  refine lv_iadd hx hb dL_law_1012 ?_
  refine L_ld C hM1 hin1 dL_law_1013 ?_
  refine K_i (L_V (As := [.int (xs (nI i + 1).toNatClampNeg)]) (rest := [.int r1]) C.1 hM1 met2 lk_L_117 hc1 rfl rfl hl.1 rfl (Nat.le_of_ble_eq_true rfl) (by decide) dL_law_1014 ⟨by show _ ≤ 600000; omega, by show _ ≤ 7302250; omega⟩) hM1 (fun r2 M2 H2 locs2 hM2 hp2 => ?_)
  obtain ⟨heq, hW2⟩ := F2 r2 M2 hp2
  refine lv_icmp_eq (tgt := 1216) hx hb dL_law_1017 (by decide) (fun _ => ?_) (fun c_ => absurd heq c_)
  exact W.widen (by omega) (by omega) (kk _ _ _ hW2 hM2)
theorem L_case_1022 {L i : Nat} {xs : Nat → Int32} (C : LwC g p s m c b L xs) (hW : World g M) (hM : MW g M H locs) (hi : i + 5 ≤ L) (hl : lv_has ls 4 (lawL g b i)) (hcc : cells + 1 ≤ 600000) (hss : slots + 4 ≤ 7302250) (kk : ∀ (M1 : Mem) (H1 : Heap) (locs1 : List Loc), World g M1 → MW g M1 H1 locs1 → W p l e room_1 s m #[Value.ref b] below meth c H1 locs1 (cells + 1) (slots + 4) Q (F0 m 1216 ls [])) : W p l e room_1 s m #[Value.ref b] below meth c H locs cells slots Q (F0 m 1022 ls []) := by
  have hx := C.1.1.1
  have hb := C.1.1.2.1
  obtain ⟨fs0, hc0⟩ := hW.cust
  have hin1 : vp_in (nI i + 1) L := in_L (k := 1) (by omega) C.2.2.2.2.1
  have hin2 : vp_in (nI i + 2) L := in_L (k := 2) (by omega) C.2.2.2.2.1
  refine lv_aload_n hx hb dL_law_1022 rfl (lv_at hl 2 rfl) ?_
  refine lv_aload_n hx hb dL_law_1023 rfl (lv_at hl 3 rfl) ?_
  refine lv_iload_n hx hb dL_law_1024 rfl (lv_at hl 0 rfl) ?_
  refine lv_iconst (v := 1) hx hb dL_law_1025 (by decide) ?_
  refine lv_iadd hx hb dL_law_1026 ?_
  refine L_ld C hM hin1 dL_law_1027 ?_
  refine lv_aload_n hx hb dL_law_1028 rfl (lv_at hl 3 rfl) ?_
  refine lv_iload_n hx hb dL_law_1029 rfl (lv_at hl 0 rfl) ?_
  refine lv_iconst (v := 2) hx hb dL_law_1030 (by decide) ?_
  refine lv_iadd hx hb dL_law_1031 ?_
  refine L_ld C hM hin2 dL_law_1032 ?_
  obtain ⟨P1, met1, F1⟩ := w_book C.2.2.2.1 hW l (xs (nI i + 1).toNatClampNeg) (xs (nI i + 2).toNatClampNeg)
  refine K_i (L_V (As := [.int (xs (nI i + 1).toNatClampNeg), .int (xs (nI i + 2).toNatClampNeg)]) (rest := []) C.1 hM met1 lk_L_118 hc0 rfl rfl hl.1 rfl (Nat.le_of_ble_eq_true rfl) (by decide) dL_law_1033 ⟨by show _ ≤ 600000; omega, by show _ ≤ 7302250; omega⟩) hM (fun r1 M1 H1 locs1 hM1 hp1 => ?_)
  obtain ⟨⟨fs1, hc1⟩, P2, met2, F2⟩ := F1 r1 M1 hp1
  refine lv_aload_n hx hb dL_law_1036 rfl (lv_at hl 1 rfl) ?_
  refine lv_aload_n hx hb dL_law_1037 rfl (lv_at hl 3 rfl) ?_
  refine lv_iload_n hx hb dL_law_1038 rfl (lv_at hl 0 rfl) ?_
  refine lv_iconst (v := 1) hx hb dL_law_1039 (by decide) ?_
  refine lv_iadd hx hb dL_law_1040 ?_
  refine L_ld C hM1 hin1 dL_law_1041 ?_
  refine lv_aload_n hx hb dL_law_1042 rfl (lv_at hl 3 rfl) ?_
  refine lv_iload_n hx hb dL_law_1043 rfl (lv_at hl 0 rfl) ?_
  refine lv_iconst (v := 2) hx hb dL_law_1044 (by decide) ?_
  refine lv_iadd hx hb dL_law_1045 ?_
  refine L_ld C hM1 hin2 dL_law_1046 ?_
  refine K_i (L_V (As := [.int (xs (nI i + 1).toNatClampNeg), .int (xs (nI i + 2).toNatClampNeg)]) (rest := [.int r1]) C.1 hM1 met2 lk_L_121 hc1 rfl rfl hl.1 rfl (Nat.le_of_ble_eq_true rfl) (by decide) dL_law_1047 ⟨by show _ ≤ 600000; omega, by show _ ≤ 7302250; omega⟩) hM1 (fun r2 M2 H2 locs2 hM2 hp2 => ?_)
  obtain ⟨heq, hW2⟩ := F2 r2 M2 hp2
  refine lv_icmp_eq (tgt := 1216) hx hb dL_law_1050 (by decide) (fun _ => ?_) (fun c_ => absurd heq c_)
  exact W.widen (by omega) (by omega) (kk _ _ _ hW2 hM2)
theorem L_case_1055 {L i : Nat} {xs : Nat → Int32} (C : LwC g p s m c b L xs) (hW : World g M) (hM : MW g M H locs) (hi : i + 5 ≤ L) (hl : lv_has ls 4 (lawL g b i)) (hcc : cells + 1 ≤ 600000) (hss : slots + 4 ≤ 7302250) (kk : ∀ (M1 : Mem) (H1 : Heap) (locs1 : List Loc), World g M1 → MW g M1 H1 locs1 → W p l e room_1 s m #[Value.ref b] below meth c H1 locs1 (cells + 1) (slots + 4) Q (F0 m 1216 ls [])) : W p l e room_1 s m #[Value.ref b] below meth c H locs cells slots Q (F0 m 1055 ls []) := by
  have hx := C.1.1.1
  have hb := C.1.1.2.1
  obtain ⟨fs0, hc0⟩ := hW.cust
  refine lv_aload_n hx hb dL_law_1055 rfl (lv_at hl 2 rfl) ?_
  obtain ⟨P1, met1, F1⟩ := w_looked C.2.2.2.1 hW l
  refine K_i (L_V (As := []) (rest := []) C.1 hM met1 lk_L_122 hc0 rfl rfl hl.1 rfl (Nat.le_of_ble_eq_true rfl) (by decide) dL_law_1056 ⟨by show _ ≤ 600000; omega, by show _ ≤ 7302250; omega⟩) hM (fun r1 M1 H1 locs1 hM1 hp1 => ?_)
  obtain ⟨⟨fs1, hc1⟩, P2, met2, F2⟩ := F1 r1 M1 hp1
  refine lv_aload_n hx hb dL_law_1059 rfl (lv_at hl 1 rfl) ?_
  refine K_i (L_V (As := []) (rest := [.int r1]) C.1 hM1 met2 lk_L_125 hc1 rfl rfl hl.1 rfl (Nat.le_of_ble_eq_true rfl) (by decide) dL_law_1060 ⟨by show _ ≤ 600000; omega, by show _ ≤ 7302250; omega⟩) hM1 (fun r2 M2 H2 locs2 hM2 hp2 => ?_)
  obtain ⟨heq, hW2⟩ := F2 r2 M2 hp2
  refine lv_icmp_eq (tgt := 1216) hx hb dL_law_1063 (by decide) (fun _ => ?_) (fun c_ => absurd heq c_)
  exact W.widen (by omega) (by omega) (kk _ _ _ hW2 hM2)
theorem L_case_1068 {L i : Nat} {xs : Nat → Int32} (C : LwC g p s m c b L xs) (hW : World g M) (hM : MW g M H locs) (hi : i + 5 ≤ L) (hl : lv_has ls 4 (lawL g b i)) (hcc : cells + 1 ≤ 600000) (hss : slots + 4 ≤ 7302250) (kk : ∀ (M1 : Mem) (H1 : Heap) (locs1 : List Loc), World g M1 → MW g M1 H1 locs1 → W p l e room_1 s m #[Value.ref b] below meth c H1 locs1 (cells + 1) (slots + 4) Q (F0 m 1216 ls [])) : W p l e room_1 s m #[Value.ref b] below meth c H locs cells slots Q (F0 m 1068 ls []) := by
  have hx := C.1.1.1
  have hb := C.1.1.2.1
  obtain ⟨fs0, hc0⟩ := hW.cust
  have hin1 : vp_in (nI i + 1) L := in_L (k := 1) (by omega) C.2.2.2.2.1
  have hin2 : vp_in (nI i + 2) L := in_L (k := 2) (by omega) C.2.2.2.2.1
  have hin3 : vp_in (nI i + 3) L := in_L (k := 3) (by omega) C.2.2.2.2.1
  refine lv_aload_n hx hb dL_law_1068 rfl (lv_at hl 2 rfl) ?_
  refine lv_aload_n hx hb dL_law_1069 rfl (lv_at hl 3 rfl) ?_
  refine lv_iload_n hx hb dL_law_1070 rfl (lv_at hl 0 rfl) ?_
  refine lv_iconst (v := 1) hx hb dL_law_1071 (by decide) ?_
  refine lv_iadd hx hb dL_law_1072 ?_
  refine L_ld C hM hin1 dL_law_1073 ?_
  refine lv_aload_n hx hb dL_law_1074 rfl (lv_at hl 3 rfl) ?_
  refine lv_iload_n hx hb dL_law_1075 rfl (lv_at hl 0 rfl) ?_
  refine lv_iconst (v := 2) hx hb dL_law_1076 (by decide) ?_
  refine lv_iadd hx hb dL_law_1077 ?_
  refine L_ld C hM hin2 dL_law_1078 ?_
  refine lv_aload_n hx hb dL_law_1079 rfl (lv_at hl 3 rfl) ?_
  refine lv_iload_n hx hb dL_law_1080 rfl (lv_at hl 0 rfl) ?_
  refine lv_iconst (v := 3) hx hb dL_law_1081 (by decide) ?_
  refine lv_iadd hx hb dL_law_1082 ?_
  refine L_ld C hM hin3 dL_law_1083 ?_
  obtain ⟨P1, met1, F1⟩ := w_act C.2.2.2.1 hW l (xs (nI i + 1).toNatClampNeg) (xs (nI i + 2).toNatClampNeg) (xs (nI i + 3).toNatClampNeg)
  refine K_i (L_V (As := [.int (xs (nI i + 1).toNatClampNeg), .int (xs (nI i + 2).toNatClampNeg), .int (xs (nI i + 3).toNatClampNeg)]) (rest := []) C.1 hM met1 lk_L_126 hc0 rfl rfl hl.1 rfl (Nat.le_of_ble_eq_true rfl) (by decide) dL_law_1084 ⟨by show _ ≤ 600000; omega, by show _ ≤ 7302250; omega⟩) hM (fun r1 M1 H1 locs1 hM1 hp1 => ?_)
  obtain ⟨⟨fs1, hc1⟩, P2, met2, F2⟩ := F1 r1 M1 hp1
  refine lv_aload_n hx hb dL_law_1087 rfl (lv_at hl 1 rfl) ?_
  refine lv_aload_n hx hb dL_law_1088 rfl (lv_at hl 3 rfl) ?_
  refine lv_iload_n hx hb dL_law_1089 rfl (lv_at hl 0 rfl) ?_
  refine lv_iconst (v := 1) hx hb dL_law_1090 (by decide) ?_
  refine lv_iadd hx hb dL_law_1091 ?_
  refine L_ld C hM1 hin1 dL_law_1092 ?_
  refine lv_aload_n hx hb dL_law_1093 rfl (lv_at hl 3 rfl) ?_
  refine lv_iload_n hx hb dL_law_1094 rfl (lv_at hl 0 rfl) ?_
  refine lv_iconst (v := 2) hx hb dL_law_1095 (by decide) ?_
  refine lv_iadd hx hb dL_law_1096 ?_
  refine L_ld C hM1 hin2 dL_law_1097 ?_
  refine lv_aload_n hx hb dL_law_1098 rfl (lv_at hl 3 rfl) ?_
  refine lv_iload_n hx hb dL_law_1099 rfl (lv_at hl 0 rfl) ?_
  refine lv_iconst (v := 3) hx hb dL_law_1100 (by decide) ?_
  refine lv_iadd hx hb dL_law_1101 ?_
  refine L_ld C hM1 hin3 dL_law_1102 ?_
  refine K_i (L_V (As := [.int (xs (nI i + 1).toNatClampNeg), .int (xs (nI i + 2).toNatClampNeg), .int (xs (nI i + 3).toNatClampNeg)]) (rest := [.int r1]) C.1 hM1 met2 lk_L_129 hc1 rfl rfl hl.1 rfl (Nat.le_of_ble_eq_true rfl) (by decide) dL_law_1103 ⟨by show _ ≤ 600000; omega, by show _ ≤ 7302250; omega⟩) hM1 (fun r2 M2 H2 locs2 hM2 hp2 => ?_)
  obtain ⟨heq, hW2⟩ := F2 r2 M2 hp2
  refine lv_icmp_eq (tgt := 1216) hx hb dL_law_1106 (by decide) (fun _ => ?_) (fun c_ => absurd heq c_)
  exact W.widen (by omega) (by omega) (kk _ _ _ hW2 hM2)
theorem L_case_1111 {L i : Nat} {xs : Nat → Int32} (C : LwC g p s m c b L xs) (hW : World g M) (hM : MW g M H locs) (hi : i + 5 ≤ L) (hl : lv_has ls 4 (lawL g b i)) (hcc : cells + 1 ≤ 600000) (hss : slots + 4 ≤ 7302250) (kk : ∀ (M1 : Mem) (H1 : Heap) (locs1 : List Loc), World g M1 → MW g M1 H1 locs1 → W p l e room_1 s m #[Value.ref b] below meth c H1 locs1 (cells + 1) (slots + 4) Q (F0 m 1216 ls [])) : W p l e room_1 s m #[Value.ref b] below meth c H locs cells slots Q (F0 m 1111 ls []) := by
  have hx := C.1.1.1
  have hb := C.1.1.2.1
  obtain ⟨fs0, hc0⟩ := hW.cust
  have hin1 : vp_in (nI i + 1) L := in_L (k := 1) (by omega) C.2.2.2.2.1
  refine lv_aload_n hx hb dL_law_1111 rfl (lv_at hl 2 rfl) ?_
  refine lv_aload_n hx hb dL_law_1112 rfl (lv_at hl 3 rfl) ?_
  refine lv_iload_n hx hb dL_law_1113 rfl (lv_at hl 0 rfl) ?_
  refine lv_iconst (v := 1) hx hb dL_law_1114 (by decide) ?_
  refine lv_iadd hx hb dL_law_1115 ?_
  refine L_ld C hM hin1 dL_law_1116 ?_
  obtain ⟨P1, met1, F1⟩ := w_trace C.2.2.2.1 hW l (xs (nI i + 1).toNatClampNeg)
  refine K_i (L_V (As := [.int (xs (nI i + 1).toNatClampNeg)]) (rest := []) C.1 hM met1 lk_L_130 hc0 rfl rfl hl.1 rfl (Nat.le_of_ble_eq_true rfl) (by decide) dL_law_1117 ⟨by show _ ≤ 600000; omega, by show _ ≤ 7302250; omega⟩) hM (fun r1 M1 H1 locs1 hM1 hp1 => ?_)
  obtain ⟨⟨fs1, hc1⟩, P2, met2, F2⟩ := F1 r1 M1 hp1
  refine lv_aload_n hx hb dL_law_1120 rfl (lv_at hl 1 rfl) ?_
  refine lv_aload_n hx hb dL_law_1121 rfl (lv_at hl 3 rfl) ?_
  refine lv_iload_n hx hb dL_law_1122 rfl (lv_at hl 0 rfl) ?_
  refine lv_iconst (v := 1) hx hb dL_law_1123 (by decide) ?_
  refine lv_iadd hx hb dL_law_1124 ?_
  refine L_ld C hM1 hin1 dL_law_1125 ?_
  refine K_i (L_V (As := [.int (xs (nI i + 1).toNatClampNeg)]) (rest := [.int r1]) C.1 hM1 met2 lk_L_133 hc1 rfl rfl hl.1 rfl (Nat.le_of_ble_eq_true rfl) (by decide) dL_law_1126 ⟨by show _ ≤ 600000; omega, by show _ ≤ 7302250; omega⟩) hM1 (fun r2 M2 H2 locs2 hM2 hp2 => ?_)
  obtain ⟨heq, hW2⟩ := F2 r2 M2 hp2
  refine lv_icmp_eq (tgt := 1216) hx hb dL_law_1129 (by decide) (fun _ => ?_) (fun c_ => absurd heq c_)
  exact W.widen (by omega) (by omega) (kk _ _ _ hW2 hM2)
theorem L_case_1134 {L i : Nat} {xs : Nat → Int32} (C : LwC g p s m c b L xs) (hW : World g M) (hM : MW g M H locs) (hi : i + 5 ≤ L) (hl : lv_has ls 4 (lawL g b i)) (hcc : cells + 1 ≤ 600000) (hss : slots + 4 ≤ 7302250) (kk : ∀ (M1 : Mem) (H1 : Heap) (locs1 : List Loc), World g M1 → MW g M1 H1 locs1 → W p l e room_1 s m #[Value.ref b] below meth c H1 locs1 (cells + 1) (slots + 4) Q (F0 m 1216 ls [])) : W p l e room_1 s m #[Value.ref b] below meth c H locs cells slots Q (F0 m 1134 ls []) := by
  have hx := C.1.1.1
  have hb := C.1.1.2.1
  obtain ⟨fs0, hc0⟩ := hW.cust
  have hin1 : vp_in (nI i + 1) L := in_L (k := 1) (by omega) C.2.2.2.2.1
  have hin2 : vp_in (nI i + 2) L := in_L (k := 2) (by omega) C.2.2.2.2.1
  refine lv_aload_n hx hb dL_law_1134 rfl (lv_at hl 2 rfl) ?_
  refine lv_aload_n hx hb dL_law_1135 rfl (lv_at hl 3 rfl) ?_
  refine lv_iload_n hx hb dL_law_1136 rfl (lv_at hl 0 rfl) ?_
  refine lv_iconst (v := 1) hx hb dL_law_1137 (by decide) ?_
  refine lv_iadd hx hb dL_law_1138 ?_
  refine L_ld C hM hin1 dL_law_1139 ?_
  refine lv_aload_n hx hb dL_law_1140 rfl (lv_at hl 3 rfl) ?_
  refine lv_iload_n hx hb dL_law_1141 rfl (lv_at hl 0 rfl) ?_
  refine lv_iconst (v := 2) hx hb dL_law_1142 (by decide) ?_
  refine lv_iadd hx hb dL_law_1143 ?_
  refine L_ld C hM hin2 dL_law_1144 ?_
  obtain ⟨P1, met1, F1⟩ := w_as C.2.2.2.1 hW l (xs (nI i + 1).toNatClampNeg) (xs (nI i + 2).toNatClampNeg)
  refine K_i (L_V (As := [.int (xs (nI i + 1).toNatClampNeg), .int (xs (nI i + 2).toNatClampNeg)]) (rest := []) C.1 hM met1 lk_L_134 hc0 rfl rfl hl.1 rfl (Nat.le_of_ble_eq_true rfl) (by decide) dL_law_1145 ⟨by show _ ≤ 600000; omega, by show _ ≤ 7302250; omega⟩) hM (fun r1 M1 H1 locs1 hM1 hp1 => ?_)
  obtain ⟨⟨fs1, hc1⟩, P2, met2, F2⟩ := F1 r1 M1 hp1
  refine lv_aload_n hx hb dL_law_1148 rfl (lv_at hl 1 rfl) ?_
  refine lv_aload_n hx hb dL_law_1149 rfl (lv_at hl 3 rfl) ?_
  refine lv_iload_n hx hb dL_law_1150 rfl (lv_at hl 0 rfl) ?_
  refine lv_iconst (v := 1) hx hb dL_law_1151 (by decide) ?_
  refine lv_iadd hx hb dL_law_1152 ?_
  refine L_ld C hM1 hin1 dL_law_1153 ?_
  refine lv_aload_n hx hb dL_law_1154 rfl (lv_at hl 3 rfl) ?_
  refine lv_iload_n hx hb dL_law_1155 rfl (lv_at hl 0 rfl) ?_
  refine lv_iconst (v := 2) hx hb dL_law_1156 (by decide) ?_
  refine lv_iadd hx hb dL_law_1157 ?_
  refine L_ld C hM1 hin2 dL_law_1158 ?_
  refine K_i (L_V (As := [.int (xs (nI i + 1).toNatClampNeg), .int (xs (nI i + 2).toNatClampNeg)]) (rest := [.int r1]) C.1 hM1 met2 lk_L_137 hc1 rfl rfl hl.1 rfl (Nat.le_of_ble_eq_true rfl) (by decide) dL_law_1159 ⟨by show _ ≤ 600000; omega, by show _ ≤ 7302250; omega⟩) hM1 (fun r2 M2 H2 locs2 hM2 hp2 => ?_)
  obtain ⟨heq, hW2⟩ := F2 r2 M2 hp2
  refine lv_icmp_eq (tgt := 1216) hx hb dL_law_1162 (by decide) (fun _ => ?_) (fun c_ => absurd heq c_)
  exact W.widen (by omega) (by omega) (kk _ _ _ hW2 hM2)
theorem L_case_1167 {L i : Nat} {xs : Nat → Int32} (C : LwC g p s m c b L xs) (hW : World g M) (hM : MW g M H locs) (hi : i + 5 ≤ L) (hl : lv_has ls 4 (lawL g b i)) (hcc : cells + 1 ≤ 600000) (hss : slots + 4 ≤ 7302250) (kk : ∀ (M1 : Mem) (H1 : Heap) (locs1 : List Loc), World g M1 → MW g M1 H1 locs1 → W p l e room_1 s m #[Value.ref b] below meth c H1 locs1 (cells + 1) (slots + 4) Q (F0 m 1216 ls [])) : W p l e room_1 s m #[Value.ref b] below meth c H locs cells slots Q (F0 m 1167 ls []) := by
  have hx := C.1.1.1
  have hb := C.1.1.2.1
  obtain ⟨fs0, hc0⟩ := hW.cust
  refine lv_aload_n hx hb dL_law_1167 rfl (lv_at hl 2 rfl) ?_
  obtain ⟨P1, met1, F1⟩ := w_image C.2.2.2.1 hW l
  refine K_i (L_V (As := []) (rest := []) C.1 hM met1 lk_L_138 hc0 rfl rfl hl.1 rfl (Nat.le_of_ble_eq_true rfl) (by decide) dL_law_1168 ⟨by show _ ≤ 600000; omega, by show _ ≤ 7302250; omega⟩) hM (fun r1 M1 H1 locs1 hM1 hp1 => ?_)
  obtain ⟨⟨fs1, hc1⟩, P2, met2, F2⟩ := F1 r1 M1 hp1
  refine lv_aload_n hx hb dL_law_1171 rfl (lv_at hl 1 rfl) ?_
  refine K_i (L_V (As := []) (rest := [.int r1]) C.1 hM1 met2 lk_L_141 hc1 rfl rfl hl.1 rfl (Nat.le_of_ble_eq_true rfl) (by decide) dL_law_1172 ⟨by show _ ≤ 600000; omega, by show _ ≤ 7302250; omega⟩) hM1 (fun r2 M2 H2 locs2 hM2 hp2 => ?_)
  obtain ⟨heq, hW2⟩ := F2 r2 M2 hp2
  refine lv_icmp_eq (tgt := 1216) hx hb dL_law_1175 (by decide) (fun _ => ?_) (fun c_ => absurd heq c_)
  exact W.widen (by omega) (by omega) (kk _ _ _ hW2 hM2)
theorem L_case_1180 {L i : Nat} {xs : Nat → Int32} (C : LwC g p s m c b L xs) (hW : World g M) (hM : MW g M H locs) (hi : i + 5 ≤ L) (hl : lv_has ls 4 (lawL g b i)) (hcc : cells + 1 ≤ 600000) (hss : slots + 4 ≤ 7302250) (kk : ∀ (M1 : Mem) (H1 : Heap) (locs1 : List Loc), World g M1 → MW g M1 H1 locs1 → W p l e room_1 s m #[Value.ref b] below meth c H1 locs1 (cells + 1) (slots + 4) Q (F0 m 1216 ls [])) : W p l e room_1 s m #[Value.ref b] below meth c H locs cells slots Q (F0 m 1180 ls []) := by
  have hx := C.1.1.1
  have hb := C.1.1.2.1
  obtain ⟨fs0, hc0⟩ := hW.cust
  refine lv_aload_n hx hb dL_law_1180 rfl (lv_at hl 2 rfl) ?_
  obtain ⟨P1, met1, F1⟩ := w_undo C.2.2.2.1 hW l
  refine K_i (L_V (As := []) (rest := []) C.1 hM met1 lk_L_142 hc0 rfl rfl hl.1 rfl (Nat.le_of_ble_eq_true rfl) (by decide) dL_law_1181 ⟨by show _ ≤ 600000; omega, by show _ ≤ 7302250; omega⟩) hM (fun r1 M1 H1 locs1 hM1 hp1 => ?_)
  obtain ⟨⟨fs1, hc1⟩, P2, met2, F2⟩ := F1 r1 M1 hp1
  refine lv_aload_n hx hb dL_law_1184 rfl (lv_at hl 1 rfl) ?_
  refine K_i (L_V (As := []) (rest := [.int r1]) C.1 hM1 met2 lk_L_145 hc1 rfl rfl hl.1 rfl (Nat.le_of_ble_eq_true rfl) (by decide) dL_law_1185 ⟨by show _ ≤ 600000; omega, by show _ ≤ 7302250; omega⟩) hM1 (fun r2 M2 H2 locs2 hM2 hp2 => ?_)
  obtain ⟨heq, hW2⟩ := F2 r2 M2 hp2
  refine lv_icmp_eq (tgt := 1216) hx hb dL_law_1188 (by decide) (fun _ => ?_) (fun c_ => absurd heq c_)
  exact W.widen (by omega) (by omega) (kk _ _ _ hW2 hM2)
theorem L_case_1193 {L i : Nat} {xs : Nat → Int32} (C : LwC g p s m c b L xs) (hW : World g M) (hM : MW g M H locs) (hi : i + 5 ≤ L) (hl : lv_has ls 4 (lawL g b i)) (hcc : cells + 1 ≤ 600000) (hss : slots + 4 ≤ 7302250) (kk : ∀ (M1 : Mem) (H1 : Heap) (locs1 : List Loc), World g M1 → MW g M1 H1 locs1 → W p l e room_1 s m #[Value.ref b] below meth c H1 locs1 (cells + 1) (slots + 4) Q (F0 m 1216 ls [])) : W p l e room_1 s m #[Value.ref b] below meth c H locs cells slots Q (F0 m 1193 ls []) := by
  have hx := C.1.1.1
  have hb := C.1.1.2.1
  obtain ⟨fs0, hc0⟩ := hW.cust
  have hin1 : vp_in (nI i + 1) L := in_L (k := 1) (by omega) C.2.2.2.2.1
  refine lv_aload_n hx hb dL_law_1193 rfl (lv_at hl 2 rfl) ?_
  refine lv_aload_n hx hb dL_law_1194 rfl (lv_at hl 3 rfl) ?_
  refine lv_iload_n hx hb dL_law_1195 rfl (lv_at hl 0 rfl) ?_
  refine lv_iconst (v := 1) hx hb dL_law_1196 (by decide) ?_
  refine lv_iadd hx hb dL_law_1197 ?_
  refine L_ld C hM hin1 dL_law_1198 ?_
  obtain ⟨P1, met1, F1⟩ := w_count C.2.2.2.1 hW l (xs (nI i + 1).toNatClampNeg)
  refine K_i (L_V (As := [.int (xs (nI i + 1).toNatClampNeg)]) (rest := []) C.1 hM met1 lk_L_146 hc0 rfl rfl hl.1 rfl (Nat.le_of_ble_eq_true rfl) (by decide) dL_law_1199 ⟨by show _ ≤ 600000; omega, by show _ ≤ 7302250; omega⟩) hM (fun r1 M1 H1 locs1 hM1 hp1 => ?_)
  obtain ⟨⟨fs1, hc1⟩, P2, met2, F2⟩ := F1 r1 M1 hp1
  refine lv_aload_n hx hb dL_law_1202 rfl (lv_at hl 1 rfl) ?_
  refine lv_aload_n hx hb dL_law_1203 rfl (lv_at hl 3 rfl) ?_
  refine lv_iload_n hx hb dL_law_1204 rfl (lv_at hl 0 rfl) ?_
  refine lv_iconst (v := 1) hx hb dL_law_1205 (by decide) ?_
  refine lv_iadd hx hb dL_law_1206 ?_
  refine L_ld C hM1 hin1 dL_law_1207 ?_
  refine K_i (L_V (As := [.int (xs (nI i + 1).toNatClampNeg)]) (rest := [.int r1]) C.1 hM1 met2 lk_L_149 hc1 rfl rfl hl.1 rfl (Nat.le_of_ble_eq_true rfl) (by decide) dL_law_1208 ⟨by show _ ≤ 600000; omega, by show _ ≤ 7302250; omega⟩) hM1 (fun r2 M2 H2 locs2 hM2 hp2 => ?_)
  obtain ⟨heq, hW2⟩ := F2 r2 M2 hp2
  refine lv_icmp_eq (tgt := 1216) hx hb dL_law_1211 (by decide) (fun _ => ?_) (fun c_ => absurd heq c_)
  exact W.widen (by omega) (by omega) (kk _ _ _ hW2 hM2)
end LAWR
