section LAWR
variable {p : Program} {l : Launch} {e : Env} {s : State} {m : MethodId} {args : Array Value} {below : List Frame} {meth : Method} {c : Code} {H : Heap} {locs : List Loc} {cells slots : Nat} {Q : State → Prop}
variable {g : Gp} {cc : ByteArray} {nL : Nat} {own : String} {M : Mem} {pc : Nat} {ls : Array Slot} {rest : List Value} {y : MethodName} {bytes : ByteArray} {maxL mc ms n idx d' : Nat} {ret0 : Option FieldType} {Qc : Array Value → State → Outcome → State → Prop} {As st0 : List Value} {a b ci N : Nat} {T : u_T} {fs : List Value}
theorem room_L {d' maxL mc' ms' : Nat} (hd : d' ≤ 40) (hm : maxL ≤ 21) : (rmD d' mc' ms').frames + 1 ≤ room_1.frames ∧ 8 + (maxL + 11) + (rmD d' mc' ms').locals ≤ room_1.locals := ⟨by show d' + 1 ≤ 2048; omega, by show 8 + (maxL + 11) + 40 * d' ≤ 84000; omega⟩
theorem L_V (X : Cx g p m c cc nL s args own) (hM : MW g M H locs) (met : Met l y (wsM y bytes maxL ret0) (rmD d' mc ms) (Pre g M (.ref a :: As)) Qc mc ms (gF g)) (hG : LkV own idx y bytes maxL ret0 n) (he : M a = some (.inr (ci, fs))) (hc : vwCl[ci]? = some (y.cls, T, N)) (hn : As.length = n) (hls : ls.size = nL) (hst : st0 = As.reverse ++ .ref a :: rest) (hW : (rest.map fun v => v.category).sum ≤ 8) (hd : d' ≤ 40) (hdg : decode cc pc = .ok (.invokevirtual idx, 3)) (hf : cells + mc ≤ room_1.cells ∧ slots + ms ≤ room_1.slots) :
    va_Run p l e room_1 s m args below meth c H locs cells slots mc ms (F0 m pc ls st0) rest (Qc (Value.ref a :: As).toArray) (gF g) :=
  va_runV X.1 met (cwV n X.1.2.2.2.2 hG.1 rfl rfl rfl ⟨rfl, hG.2.1⟩ (room_L hd hG.2.2)) ⟨Pre.blind, va_recv X.2.1 (hM.one he) (q0 := 0) hc rfl, fun U hU hw => ⟨rfl, by rw [hU]; exact hM.nil, KK.warm hw X.2⟩⟩ rfl hn hls hst (by show 2 * 0 + _ ≤ 8; omega) hdg hf
theorem L_I (X : Cx g p m c cc nL s args own) (hM : MW g M H locs) (met : Met l y (wsM y bytes maxL none) (rmD d' mc ms) (Pre g M (.ref a :: As)) Qc mc ms (gF g)) (hG : LkI own idx y bytes maxL n) (hn : As.length = n) (hls : ls.size = nL) (hst : st0 = As.reverse ++ .ref a :: rest) (hW : (rest.map fun v => v.category).sum ≤ 8) (hd : d' ≤ 40) (hdg : decode cc pc = .ok (.invokespecial idx, 3)) (hf : cells + mc ≤ room_1.cells ∧ slots + ms ≤ room_1.slots) :
    va_Run p l e room_1 s m args below meth c H locs cells slots mc ms (F0 m pc ls st0) rest (Qc (Value.ref a :: As).toArray) (gF g) :=
  va_runI X.1 met (cwI n X.1.2.2.2.2 hG.1 rfl rfl rfl (X.1.2.2.2.2 _ hG.2.1.1) (X.1.2.2.2.2 _ hG.2.1.2.1) (X.1.2.2.2.2 _ hG.2.1.2.2.1) hG.2.1.2.2.2 hG.2.2.1 (room_L hd hG.2.2.2)) ⟨Pre.blind, fun U hU hw => ⟨rfl, by rw [hU]; exact hM.nil, KK.warm hw X.2⟩⟩ rfl hn hls hst (by show 2 * 0 + _ ≤ 8; omega) hdg hf
theorem MW.S (h : MW g M H locs) : va_S (gF g) (gH g) H locs := ⟨h.1, fun q h1 _ => h.2.1 q h1, h.2.2.2⟩
theorem World.cust (h : World g M) : ∃ fs, M (gA g 0) = some (.inr (11, fs)) := by
  obtain ⟨ik, tc, tf, r, kr, ra, sa, tz, tn, m0, m1, m2, m3, m4, m5, m6, m7, m9, m10, m11, f, im, fr, by_, tr, ha, wo, hM, -⟩ := h
  exact ⟨_, hM.1 0 (by decide)⟩
/-- what stays through the law's body -/
def LwC (g : Gp) (p : Program) (s : State) (m : MethodId) (c : Code) (b L : Nat) (xs : Nat → Int32) : Prop := Cx g p m c cL_law 4 s #[Value.ref b] RL ∧ va_X b L xs s (gH g) ∧ b < (gH g).size ∧ GI g ∧ L ≤ 2560 ∧ gH g = s.heap
theorem L_ld {L : Nat} {xs : Nat → Int32} (C : LwC g p s m c b L xs) (hM : MW g M H locs) {x : Int32} (hin : vp_in x L) (hdg : decode cL_law pc = .ok (.iaload, 1))
    (kk : W p l e room_1 s m #[Value.ref b] below meth c H locs cells slots Q (F0 m (pc + 1) ls (.int (xs x.toNatClampNeg) :: rest))) : W p l e room_1 s m #[Value.ref b] below meth c H locs cells slots Q (F0 m pc ls (.int x :: .ref b :: rest)) :=
  va_sld C.1.1.1 C.1.1.2.1 C.2.1 C.2.2.1 (Nat.not_le.mpr C.2.2.1) hM.S hin hdg kk
theorem in_L {L i k : Nat} (h : i + k < L) (hL : L ≤ 2560) : vp_in (nI i + nI k) L := by
  rw [nI_add]
  exact vp_in_nI h (by omega)
theorem gt5 {i L : Nat} (hi : i ≤ 2560) (hL : L ≤ 2560) (h : ¬ (nI L - 5 < nI i)) : i + 5 ≤ L := by
  rcases Nat.lt_or_ge L 5 with q | q
  · have h1 : nI L - 5 < 0 := by
      rcases (show L = 0 ∨ L = 1 ∨ L = 2 ∨ L = 3 ∨ L = 4 by omega) with rfl | rfl | rfl | rfl | rfl <;> decide
    exact absurd (Int32.lt_of_lt_of_le h1 (show nI 0 ≤ nI i from nI_le (Nat.zero_le _) (by omega))) h
  · obtain ⟨k, rfl⟩ : ∃ k, L = k + 5 := ⟨L - 5, by omega⟩
    have e : nI (k + 5) - 5 = nI k := by
      rw [← nI_add]
      exact Int32.add_sub_cancel _ _
    rw [e] at h
    rcases Nat.lt_or_ge k i with q2 | q2
    · exact absurd (nI_lt q2 (by omega)) h
    · omega
theorem and31 (x : Int32) : ∃ j, j < 32 ∧ x &&& 31 = nI j := by
  refine ⟨(x.toBitVec &&& 31#32).toNat, ?_, ?_⟩
  · rw [BitVec.toNat_and]
    exact Nat.lt_of_le_of_lt Nat.and_le_right (by decide)
  · apply Int32.toBitVec_inj.mp
    show x.toBitVec &&& 31#32 = _
    show _ = BitVec.ofNat 32 _
    rw [BitVec.ofNat_toNat, BitVec.setWidth_eq]
/-- the law's locals -/
abbrev lawL (g : Gp) (b i : Nat) : List (Nat × Value) := [(3, .int (nI i)), (2, .ref (gA g 46)), (1, .ref (gA g 0)), (0, .ref b)]
end LAWR
