theorem noA {g : Gp} {a : ClassId × vp_A} : noS g (Sum.inl a) := fun _ _ _ => nostA _ _ _
theorem noO {g : Gp} {i : Nat} {fs : List Value} (h : i ∉ [8, 2, 0, 3, 10, 1, 9]) : noS g (Sum.inr (i, fs)) := nostO h
theorem WM.eq {g : Gp} {M M1 : Mem} {c : Nat → va_E} {en ken : En} (e : M = M1) (h : WM g M c en ken) : WM g M1 c en ken := e ▸ h
theorem count_tie {en : En} {f nf pf bf af : Nat → Int32} {L k nc np nb tc : Nat} (hL : TiL en f L) (hK : TiK en f k) (hN : TiNo nc nf f) (hP : TiPl np pf f) (hB : TiBo nb bf f) (hT : TiTa tc af f) (rc w : Int32) : opCount en (nI nc) (nI np) (nI nb) (nI tc) rc w = mCount f rc w := by
  unfold opCount mCount
  by_cases c0 : w = 0
  · subst c0
    exact (congrArg nI hL.2.1).trans hL.1.symm
  by_cases c1 : w = 1
  · subst c1
    exact hK.1.trans hK.2.1.symm
  by_cases c2 : w = 2
  · subst c2
    exact hN.1.symm
  by_cases c3 : w = 3
  · subst c3
    exact hP.1.symm
  by_cases c4 : w = 4
  · subst c4
    exact hB.1.symm
  by_cases c5 : w = 5
  · subst c5
    exact hT.1.symm
  by_cases c6 : w = 6
  · subst c6
    rfl
  rw [if_neg c0, if_neg c1, if_neg c2, if_neg c3, if_neg c4, if_neg c5, if_neg c6, if_neg c6]
  have : fIn w 0 5 = 0 := by
    by_cases q : fIn w 0 5 = 0
    · exact q
    · obtain ⟨j, hj, e⟩ := fIn_k (M := 5) (K := 5) (by decide) q
      subst e
      rcases (show j = 0 ∨ j = 1 ∨ j = 2 ∨ j = 3 ∨ j = 4 ∨ j = 5 by omega) with rfl | rfl | rfl | rfl | rfl | rfl
      · exact absurd (by decide) c0
      · exact absurd (by decide) c1
      · exact absurd (by decide) c2
      · exact absurd (by decide) c3
      · exact absurd (by decide) c4
      · exact absurd (by decide) c5
  rw [if_pos this]
theorem w_of {g : Gp} {M : Mem} (hA : GI g) (hW : World g M) (l : Launch) (a1 a2 : Int32) : ∃ P1, Met l yX11_of (wsM yX11_of cX11_of 4 (some .int)) (rmD 6 0 0) (Pre g M [.ref (gA g 0), .int a1, .int a2]) (Qi g P1) 0 0 (gF g) ∧ ∀ r1 M1, P1 r1 M1 → (∃ fs, M1 (gA g 46) = some (.inr (12, fs))) ∧ ∃ P2, Met l yX12_of (wsM yX12_of cX12_of 3 (some .int)) (rmD 3 0 0) (Pre g M1 [.ref (gA g 46), .int a1, .int a2]) (Qi g P2) 0 0 (gF g) ∧ ∀ r2 M2, P2 r2 M2 → r1 = r2 ∧ World g M2 := by
  obtain ⟨ik, tc, tf, r, kr, ra, sa, tz, tn, m0, m1, m2, m3, m4, m5, m6, m7, m9, m10, m11, f, im, fr, by_, tr, ha, wo, hM, hC, hR, hI⟩ := hW
  obtain ⟨L, k, t, s0, s1, hL, hK, hH, hn, ht, hs0, hs1, e0, e1, f0, f1, f2, hT, hN, hP, hB, hF⟩ := id hR
  refine ⟨_, c_X11_of l g _ ik (rE r) a1 a2 (hM.1 0 (by decide)) (hM.1 3 (by decide)) (hM.1 5 (by decide)) (hM.1 6 (by decide)) (hM.1 7 (by decide)) hM.2.2.1, fun r1 M1 hP1 => ?_⟩
  have h1 := WM.eq hP1.2 hM
  refine ⟨⟨_, h1.1 46 (by decide)⟩, _, c_X12_of l g _ m0 m1 m2 m3 m4 m5 m6 m7 tc m9 m10 m11 f L a1 a2 (h1.1 46 (by decide)) (h1.1 47 (by decide)) hL.1 hL.2.2.1 (hL.ok hK).2.2.1, fun r2 M2 hP2 => ?_⟩
  have h2 := WM.eq hP2.2 h1
  exact ⟨hP1.1.symm.trans ((of_tie hL hH f0 hn a1 a2).trans hP2.1), ik, tc, tf, r, kr, ra, sa, tz, tn, m0, m1, m2, m3, m4, m5, m6, m7, m9, m10, m11, f, im, fr, by_, tr, ha, wo, h2.to (by apply all55 <;> rfl) (fun h => h) (fun h => h) (fun h => h) (fun h => h), hC, hR, hI⟩
theorem w_base {g : Gp} {M : Mem} (hA : GI g) (hW : World g M) (l : Launch) (a1 a2 a3 : Int32) : ∃ P1, Met l yX11_base (wsM yX11_base cX11_base 5 (some .int)) (rmD 4 0 0) (Pre g M [.ref (gA g 0), .int a1, .int a2, .int a3]) (Qi g P1) 0 0 (gF g) ∧ ∀ r1 M1, P1 r1 M1 → (∃ fs, M1 (gA g 46) = some (.inr (12, fs))) ∧ ∃ P2, Met l yX12_base (wsM yX12_base cX12_base 4 (some .int)) (rmD 4 0 0) (Pre g M1 [.ref (gA g 46), .int a1, .int a2, .int a3]) (Qi g P2) 0 0 (gF g) ∧ ∀ r2 M2, P2 r2 M2 → r1 = r2 ∧ World g M2 := by
  obtain ⟨ik, tc, tf, r, kr, ra, sa, tz, tn, m0, m1, m2, m3, m4, m5, m6, m7, m9, m10, m11, f, im, fr, by_, tr, ha, wo, hM, hC, hR, hI⟩ := hW
  obtain ⟨L, k, t, s0, s1, hL, hK, hH, hn, ht, hs0, hs1, e0, e1, f0, f1, f2, hT, hN, hP, hB, hF⟩ := id hR
  refine ⟨_, c_X11_base l g _ ik (rE r) a1 a2 a3 (hM.1 0 (by decide)) (hM.1 3 (by decide)) (hM.1 5 (by decide)) (hM.1 9 (by decide)) (hM.1 10 (by decide)) (hM.1 11 (by decide)) (hM.1 12 (by decide)) hM.2.2.1, fun r1 M1 hP1 => ?_⟩
  have h1 := WM.eq hP1.2 hM
  refine ⟨⟨_, h1.1 46 (by decide)⟩, _, c_X12_base l g _ m0 m1 m2 m3 m4 m5 m6 m7 tc m9 m10 m11 f L t a1 a2 a3 by_ tr (h1.1 46 (by decide)) (h1.1 47 (by decide)) (h1.1 50 (by decide)) (h1.1 51 (by decide)) (hL.ok hK) f0 (by omega), fun r2 M2 hP2 => ?_⟩
  obtain ⟨v0, v1, hP2⟩ := hP2
  have h2 := WM.eq hP2.2 (WM.put hA (WM.put hA h1 50 (by decide) noA) 51 (by decide) noA)
  exact ⟨hP1.1.symm.trans ((baseC_tie hL hK hn a1 a2 a3).trans hP2.1), ik, tc, tf, r, kr, ra, sa, tz, tn, m0, m1, m2, m3, m4, m5, m6, m7, m9, m10, m11, f, im, fr, v0, v1, ha, wo, h2.to (by apply all55 <;> rfl) (fun h => h) (fun h => h) (fun h => h) (fun h => h), hC, hR, hI⟩
theorem w_worth {g : Gp} {M : Mem} (hA : GI g) (hW : World g M) (l : Launch) (a1 a2 a3 : Int32) : ∃ P1, Met l yX11_worth (wsM yX11_worth cX11_worth 5 (some .int)) (rmD 5 0 0) (Pre g M [.ref (gA g 0), .int a1, .int a2, .int a3]) (Qi g P1) 0 0 (gF g) ∧ ∀ r1 M1, P1 r1 M1 → (∃ fs, M1 (gA g 46) = some (.inr (12, fs))) ∧ ∃ P2, Met l yX12_worth (wsM yX12_worth cX12_worth 4 (some .int)) (rmD 5 0 0) (Pre g M1 [.ref (gA g 46), .int a1, .int a2, .int a3]) (Qi g P2) 0 0 (gF g) ∧ ∀ r2 M2, P2 r2 M2 → r1 = r2 ∧ World g M2 := by
  obtain ⟨ik, tc, tf, r, kr, ra, sa, tz, tn, m0, m1, m2, m3, m4, m5, m6, m7, m9, m10, m11, f, im, fr, by_, tr, ha, wo, hM, hC, hR, hI⟩ := hW
  obtain ⟨L, k, t, s0, s1, hL, hK, hH, hn, ht, hs0, hs1, e0, e1, f0, f1, f2, hT, hN, hP, hB, hF⟩ := id hR
  refine ⟨_, c_X11_worth l g _ ik (rE r) a1 a2 a3 (hM.1 0 (by decide)) (hM.1 3 (by decide)) (hM.1 5 (by decide)) (hM.1 8 (by decide)) (hM.1 9 (by decide)) (hM.1 10 (by decide)) (hM.1 11 (by decide)) (hM.1 12 (by decide)) hM.2.2.1, fun r1 M1 hP1 => ?_⟩
  have h1 := WM.eq hP1.2 hM
  refine ⟨⟨_, h1.1 46 (by decide)⟩, _, c_X12_worth l g _ m0 m1 m2 m3 m4 m5 m6 m7 tc m9 m10 m11 f L t a1 a2 a3 by_ tr (h1.1 46 (by decide)) (h1.1 47 (by decide)) (h1.1 50 (by decide)) (h1.1 51 (by decide)) (hL.ok hK) f0 (by omega), fun r2 M2 hP2 => ?_⟩
  obtain ⟨v0, v1, hP2⟩ := hP2
  have h2 := WM.eq hP2.2 (WM.put hA (WM.put hA h1 50 (by decide) noA) 51 (by decide) noA)
  exact ⟨hP1.1.symm.trans ((worthC_tie hL hK hn (by omega) a1 a2 a3).trans hP2.1), ik, tc, tf, r, kr, ra, sa, tz, tn, m0, m1, m2, m3, m4, m5, m6, m7, m9, m10, m11, f, im, fr, v0, v1, ha, wo, h2.to (by apply all55 <;> rfl) (fun h => h) (fun h => h) (fun h => h) (fun h => h), hC, hR, hI⟩
theorem w_told {g : Gp} {M : Mem} (hA : GI g) (hW : World g M) (l : Launch) (a1 : Int32) : ∃ P1, Met l yX11_told (wsM yX11_told cX11_told 2 (some .int)) (rmD 7 0 0) (Pre g M [.ref (gA g 0), .int a1]) (Qi g P1) 0 0 (gF g) ∧ ∀ r1 M1, P1 r1 M1 → (∃ fs, M1 (gA g 46) = some (.inr (12, fs))) ∧ ∃ P2, Met l yX12_told (wsM yX12_told cX12_told 2 (some .int)) (rmD 6 0 0) (Pre g M1 [.ref (gA g 46), .int a1]) (Qi g P2) 0 0 (gF g) ∧ ∀ r2 M2, P2 r2 M2 → r1 = r2 ∧ World g M2 := by
  obtain ⟨ik, tc, tf, r, kr, ra, sa, tz, tn, m0, m1, m2, m3, m4, m5, m6, m7, m9, m10, m11, f, im, fr, by_, tr, ha, wo, hM, hC, hR, hI⟩ := hW
  obtain ⟨L, k, t, s0, s1, hL, hK, hH, hn, ht, hs0, hs1, e0, e1, f0, f1, f2, hT, hN, hP, hB, hF⟩ := id hR
  refine ⟨_, c_X11_told l g _ ik (rE r) a1 (hM.1 0 (by decide)) (hM.1 3 (by decide)) (hM.1 4 (by decide)) (hM.1 5 (by decide)) (hM.1 6 (by decide)) (hM.1 7 (by decide)) (hM.1 8 (by decide)) (hM.1 9 (by decide)) (hM.1 10 (by decide)) (hM.1 11 (by decide)) (hM.1 12 (by decide)) hM.2.2.1, fun r1 M1 hP1 => ?_⟩
  have h1 := WM.eq hP1.2 hM
  refine ⟨⟨_, h1.1 46 (by decide)⟩, _, c_X12_told l g _ m0 m1 m2 m3 m4 m5 m6 m7 tc m9 m10 m11 f L t by_ tr a1 (h1.1 46 (by decide)) (h1.1 47 (by decide)) (h1.1 50 (by decide)) (h1.1 51 (by decide)) (hL.ok hK) f0 (by omega), fun r2 M2 hP2 => ?_⟩
  obtain ⟨v0, v1, hP2⟩ := hP2
  have h2 := WM.eq hP2.2 (WM.put hA (WM.put hA (WM.put hA h1 46 (by decide) (noO (by decide))) 50 (by decide) noA) 51 (by decide) noA)
  exact ⟨hP1.1.symm.trans ((told_tie hL hK hH hn (by omega) (e0.trans f1.symm) (e1.trans f2.symm) a1).trans hP2.1), ik, tc, tf, r, kr, ra, sa, tz, tn, m0, m1, (mCl f), m3, m4, m5, m6, m7, m9, m10, m11, f, im, fr, v0, v1, ha, wo, h2.to (by apply all55 <;> rfl) (fun h => h) (fun h => h) (fun h => h) (fun h => h), hC, hR, hI⟩
theorem w_on {g : Gp} {M : Mem} (hA : GI g) (hW : World g M) (l : Launch) (a1 a2 : Int32) : ∃ P1, Met l yX11_on (wsM yX11_on cX11_on 5 (some .int)) (rmD 7 0 0) (Pre g M [.ref (gA g 0), .int a1, .int a2]) (Qi g P1) 0 0 (gF g) ∧ ∀ r1 M1, P1 r1 M1 → (∃ fs, M1 (gA g 46) = some (.inr (12, fs))) ∧ ∃ P2, Met l yX12_on (wsM yX12_on cX12_on 4 (some .int)) (rmD 7 0 0) (Pre g M1 [.ref (gA g 46), .int a1, .int a2]) (Qi g P2) 0 0 (gF g) ∧ ∀ r2 M2, P2 r2 M2 → r1 = r2 ∧ World g M2 := by
  obtain ⟨ik, tc, tf, r, kr, ra, sa, tz, tn, m0, m1, m2, m3, m4, m5, m6, m7, m9, m10, m11, f, im, fr, by_, tr, ha, wo, hM, hC, hR, hI⟩ := hW
  obtain ⟨L, k, t, s0, s1, hL, hK, hH, hn, ht, hs0, hs1, e0, e1, f0, f1, f2, hT, hN, hP, hB, hF⟩ := id hR
  refine ⟨_, c_X11_on l g _ ik (rE r) a1 a2 (hM.1 0 (by decide)) (hM.1 3 (by decide)) (hM.1 4 (by decide)) (hM.1 5 (by decide)) (hM.1 6 (by decide)) (hM.1 7 (by decide)) (hM.1 8 (by decide)) (hM.1 9 (by decide)) (hM.1 10 (by decide)) (hM.1 11 (by decide)) (hM.1 12 (by decide)) hM.2.2.1, fun r1 M1 hP1 => ?_⟩
  have h1 := WM.eq hP1.2 hM
  refine ⟨⟨_, h1.1 46 (by decide)⟩, _, c_X12_on l g _ m0 m1 m2 m3 m4 m5 m6 m7 tc m9 m10 m11 f L t a1 a2 fr by_ tr (h1.1 46 (by decide)) (h1.1 47 (by decide)) (h1.1 50 (by decide)) (h1.1 51 (by decide)) (h1.1 49 (by decide)) (hL.ok hK) f0 (by omega), fun r2 M2 hP2 => ?_⟩
  obtain ⟨v0, v1, v2, v3, hP2⟩ := hP2
  have h2 := WM.eq hP2.2 (WM.put hA (WM.put hA (WM.put hA (WM.put hA h1 46 (by decide) (noO (by decide))) 49 (by decide) noA) 50 (by decide) noA) 51 (by decide) noA)
  exact ⟨hP1.1.symm.trans ((on_tie hL hK hH hn ht f0 (e0.trans f1.symm) (e1.trans f2.symm) a1 a2).trans hP2.1), ik, tc, tf, r, kr, ra, sa, tz, tn, m0, m1, v0, m3, m4, m5, m6, m7, m9, m10, m11, f, im, v1, v2, v3, ha, wo, h2.to (by apply all55 <;> rfl) (fun h => h) (fun h => h) (fun h => h) (fun h => h), hC, hR, hI⟩
theorem w_when {g : Gp} {M : Mem} (hA : GI g) (hW : World g M) (l : Launch) (a1 : Int32) : ∃ P1, Met l yX11_when (wsM yX11_when cX11_when 2 (some .int)) (rmD 7 0 0) (Pre g M [.ref (gA g 0), .int a1]) (Qi g P1) 0 0 (gF g) ∧ ∀ r1 M1, P1 r1 M1 → (∃ fs, M1 (gA g 46) = some (.inr (12, fs))) ∧ ∃ P2, Met l yX12_when (wsM yX12_when cX12_when 3 (some .int)) (rmD 3 0 0) (Pre g M1 [.ref (gA g 46), .int a1]) (Qi g P2) 0 0 (gF g) ∧ ∀ r2 M2, P2 r2 M2 → r1 = r2 ∧ World g M2 := by
  obtain ⟨ik, tc, tf, r, kr, ra, sa, tz, tn, m0, m1, m2, m3, m4, m5, m6, m7, m9, m10, m11, f, im, fr, by_, tr, ha, wo, hM, hC, hR, hI⟩ := hW
  obtain ⟨L, k, t, s0, s1, hL, hK, hH, hn, ht, hs0, hs1, e0, e1, f0, f1, f2, hT, hN, hP, hB, hF⟩ := id hR
  refine ⟨_, c_X11_when l g _ ik (rE r) a1 (hM.1 0 (by decide)) (hM.1 3 (by decide)) (hM.1 5 (by decide)) (hM.1 6 (by decide)) (hM.1 7 (by decide)) hM.2.2.1, fun r1 M1 hP1 => ?_⟩
  have h1 := WM.eq hP1.2 hM
  refine ⟨⟨_, h1.1 46 (by decide)⟩, _, c_X12_when l g _ m0 m1 m2 m3 m4 m5 m6 m7 tc m9 m10 m11 f L t a1 (h1.1 46 (by decide)) (h1.1 47 (by decide)) (hL.ok hK) f0 (by omega), fun r2 M2 hP2 => ?_⟩
  have h2 := WM.eq hP2.2 h1
  exact ⟨hP1.1.symm.trans ((when_tie hL hH hn a1).trans hP2.1), ik, tc, tf, r, kr, ra, sa, tz, tn, m0, m1, m2, m3, m4, m5, m6, m7, m9, m10, m11, f, im, fr, by_, tr, ha, wo, h2.to (by apply all55 <;> rfl) (fun h => h) (fun h => h) (fun h => h) (fun h => h), hC, hR, hI⟩
theorem w_meet {g : Gp} {M : Mem} (hA : GI g) (hW : World g M) (l : Launch) (a1 a2 : Int32) : ∃ P1, Met l yX11_meet (wsM yX11_meet cX11_meet 3 (some .int)) (rmD 7 0 0) (Pre g M [.ref (gA g 0), .int a1, .int a2]) (Qi g P1) 0 0 (gF g) ∧ ∀ r1 M1, P1 r1 M1 → (∃ fs, M1 (gA g 46) = some (.inr (12, fs))) ∧ ∃ P2, Met l yX12_meet (wsM yX12_meet cX12_meet 4 (some .int)) (rmD 3 0 0) (Pre g M1 [.ref (gA g 46), .int a1, .int a2]) (Qi g P2) 0 0 (gF g) ∧ ∀ r2 M2, P2 r2 M2 → r1 = r2 ∧ World g M2 := by
  obtain ⟨ik, tc, tf, r, kr, ra, sa, tz, tn, m0, m1, m2, m3, m4, m5, m6, m7, m9, m10, m11, f, im, fr, by_, tr, ha, wo, hM, hC, hR, hI⟩ := hW
  obtain ⟨L, k, t, s0, s1, hL, hK, hH, hn, ht, hs0, hs1, e0, e1, f0, f1, f2, hT, hN, hP, hB, hF⟩ := id hR
  refine ⟨_, c_X11_meet l g _ ik (rE r) a1 a2 (hM.1 0 (by decide)) (hM.1 3 (by decide)) (hM.1 5 (by decide)) (hM.1 6 (by decide)) (hM.1 7 (by decide)) hM.2.2.1, fun r1 M1 hP1 => ?_⟩
  have h1 := WM.eq hP1.2 hM
  refine ⟨⟨_, h1.1 46 (by decide)⟩, _, c_X12_meet l g _ m0 m1 m2 m3 m4 m5 m6 m7 tc m9 m10 m11 f L t a1 a2 (h1.1 46 (by decide)) (h1.1 47 (by decide)) (hL.ok hK) f0 (by omega), fun r2 M2 hP2 => ?_⟩
  have h2 := WM.eq hP2.2 h1
  exact ⟨hP1.1.symm.trans ((meet_tie hL hH hn a1 a2).trans hP2.1), ik, tc, tf, r, kr, ra, sa, tz, tn, m0, m1, m2, m3, m4, m5, m6, m7, m9, m10, m11, f, im, fr, by_, tr, ha, wo, h2.to (by apply all55 <;> rfl) (fun h => h) (fun h => h) (fun h => h) (fun h => h), hC, hR, hI⟩
theorem w_deal {g : Gp} {M : Mem} (hA : GI g) (hW : World g M) (l : Launch) (a1 a2 a3 : Int32) : ∃ P1, Met l yX11_deal (wsM yX11_deal cX11_deal 5 (some .int)) (rmD 8 0 0) (Pre g M [.ref (gA g 0), .int a1, .int a2, .int a3]) (Qi g P1) 0 0 (gF g) ∧ ∀ r1 M1, P1 r1 M1 → (∃ fs, M1 (gA g 46) = some (.inr (12, fs))) ∧ ∃ P2, Met l yX12_deal (wsM yX12_deal cX12_deal 13 (some .int)) (rmD 6 0 0) (Pre g M1 [.ref (gA g 46), .int a1, .int a2, .int a3]) (Qi g P2) 0 0 (gF g) ∧ ∀ r2 M2, P2 r2 M2 → r1 = r2 ∧ World g M2 := by
  obtain ⟨ik, tc, tf, r, kr, ra, sa, tz, tn, m0, m1, m2, m3, m4, m5, m6, m7, m9, m10, m11, f, im, fr, by_, tr, ha, wo, hM, hC, hR, hI⟩ := hW
  obtain ⟨L, k, t, s0, s1, hL, hK, hH, hn, ht, hs0, hs1, e0, e1, f0, f1, f2, hT, hN, hP, hB, hF⟩ := id hR
  refine ⟨_, c_X11_deal l g _ ik (rE r) tz tn a1 a2 a3 (hM.1 0 (by decide)) (hM.1 3 (by decide)) (hM.1 4 (by decide)) (hM.1 5 (by decide)) (hM.1 6 (by decide)) (hM.1 7 (by decide)) (hM.1 8 (by decide)) (hM.1 9 (by decide)) (hM.1 10 (by decide)) (hM.1 11 (by decide)) (hM.1 12 (by decide)) (hM.1 44 (by decide)) (hM.1 45 (by decide)) hM.2.2.1, fun r1 M1 hP1 => ?_⟩
  obtain ⟨u0, u1, hP1⟩ := hP1
  have h1 := WM.eq hP1.2 (WM.put hA (WM.put hA hM 44 (by decide) noA) 45 (by decide) noA)
  refine ⟨⟨_, h1.1 46 (by decide)⟩, _, c_X12_deal l g _ m0 m1 m2 m3 m4 m5 m6 m7 tc m9 m10 m11 f L t a1 a2 a3 by_ tr ha (h1.1 46 (by decide)) (h1.1 47 (by decide)) (h1.1 50 (by decide)) (h1.1 51 (by decide)) (h1.1 52 (by decide)) (hL.ok hK) f0 (by omega), fun r2 M2 hP2 => ?_⟩
  obtain ⟨v0, v1, v2, v3, hP2⟩ := hP2
  have h2 := WM.eq hP2.2 (WM.put hA (WM.put hA (WM.put hA (WM.put hA h1 46 (by decide) (noO (by decide))) 50 (by decide) noA) 51 (by decide) noA) 52 (by decide) noA)
  exact ⟨hP1.1.symm.trans ((deal_tie hL hK hH hn ht tz tn ha a1 a2 a3).trans hP2.1), ik, tc, tf, r, kr, ra, sa, u0, u1, m0, m1, v0, m3, m4, m5, m6, m7, m9, m10, m11, f, im, fr, v1, v2, v3, wo, h2.to (by apply all55 <;> rfl) (fun h => h) (fun h => h) (fun h => h) (fun h => h), hC, hR, hI⟩
theorem w_shares {g : Gp} {M : Mem} (hA : GI g) (hW : World g M) (l : Launch) (a1 : Int32) : ∃ P1, Met l yX11_shares (wsM yX11_shares cX11_shares 3 (some .int)) (rmD 8 0 0) (Pre g M [.ref (gA g 0), .int a1]) (Qi g P1) 0 0 (gF g) ∧ ∀ r1 M1, P1 r1 M1 → (∃ fs, M1 (gA g 46) = some (.inr (12, fs))) ∧ ∃ P2, Met l yX12_shares (wsM yX12_shares cX12_shares 8 (some .int)) (rmD 6 0 0) (Pre g M1 [.ref (gA g 46), .int a1]) (Qi g P2) 0 0 (gF g) ∧ ∀ r2 M2, P2 r2 M2 → r1 = r2 ∧ World g M2 := by
  obtain ⟨ik, tc, tf, r, kr, ra, sa, tz, tn, m0, m1, m2, m3, m4, m5, m6, m7, m9, m10, m11, f, im, fr, by_, tr, ha, wo, hM, hC, hR, hI⟩ := hW
  obtain ⟨L, k, t, s0, s1, hL, hK, hH, hn, ht, hs0, hs1, e0, e1, f0, f1, f2, hT, hN, hP, hB, hF⟩ := id hR
  refine ⟨_, c_X11_shares l g _ ik (rE r) tz tn a1 (hM.1 0 (by decide)) (hM.1 3 (by decide)) (hM.1 4 (by decide)) (hM.1 5 (by decide)) (hM.1 6 (by decide)) (hM.1 7 (by decide)) (hM.1 8 (by decide)) (hM.1 9 (by decide)) (hM.1 10 (by decide)) (hM.1 11 (by decide)) (hM.1 12 (by decide)) (hM.1 44 (by decide)) (hM.1 45 (by decide)) hM.2.2.1, fun r1 M1 hP1 => ?_⟩
  obtain ⟨u0, u1, hP1⟩ := hP1
  have h1 := WM.eq hP1.2 (WM.put hA (WM.put hA hM 44 (by decide) noA) 45 (by decide) noA)
  refine ⟨⟨_, h1.1 46 (by decide)⟩, _, c_X12_shares l g _ m0 m1 m2 m3 m4 m5 m6 m7 tc m9 m10 m11 f L t by_ tr wo a1 (h1.1 46 (by decide)) (h1.1 47 (by decide)) (h1.1 50 (by decide)) (h1.1 51 (by decide)) (h1.1 53 (by decide)) (hL.ok hK) f0 (by omega), fun r2 M2 hP2 => ?_⟩
  obtain ⟨v0, v1, v2, hP2⟩ := hP2
  have h2 := WM.eq hP2.2 (WM.put hA (WM.put hA (WM.put hA h1 53 (by decide) noA) 50 (by decide) noA) 51 (by decide) noA)
  exact ⟨hP1.1.symm.trans ((shares_tie hL hK hH hn ht tz tn wo a1).trans hP2.1), ik, tc, tf, r, kr, ra, sa, u0, u1, m0, m1, m2, m3, m4, m5, m6, m7, m9, m10, m11, f, im, fr, v0, v1, ha, v2, h2.to (by apply all55 <;> rfl) (fun h => h) (fun h => h) (fun h => h) (fun h => h), hC, hR, hI⟩
theorem w_rounds {g : Gp} {M : Mem} (hA : GI g) (hW : World g M) (l : Launch) (a1 a2 : Int32) : ∃ P1, Met l yX11_rounds (wsM yX11_rounds cX11_rounds 3 (some .int)) (rmD 7 0 0) (Pre g M [.ref (gA g 0), .int a1, .int a2]) (Qi g P1) 0 0 (gF g) ∧ ∀ r1 M1, P1 r1 M1 → (∃ fs, M1 (gA g 46) = some (.inr (12, fs))) ∧ ∃ P2, Met l yX12_rounds (wsM yX12_rounds cX12_rounds 3 (some .int)) (rmD 4 0 0) (Pre g M1 [.ref (gA g 46), .int a1, .int a2]) (Qi g P2) 0 0 (gF g) ∧ ∀ r2 M2, P2 r2 M2 → r1 = r2 ∧ World g M2 := by
  obtain ⟨ik, tc, tf, r, kr, ra, sa, tz, tn, m0, m1, m2, m3, m4, m5, m6, m7, m9, m10, m11, f, im, fr, by_, tr, ha, wo, hM, hC, hR, hI⟩ := hW
  obtain ⟨L, k, t, s0, s1, hL, hK, hH, hn, ht, hs0, hs1, e0, e1, f0, f1, f2, hT, hN, hP, hB, hF⟩ := id hR
  refine ⟨_, c_X11_rounds l g _ ik (rE r) (rN r) (rNf r) a1 a2 (hM.1 0 (by decide)) (hM.1 3 (by decide)) (hM.1 5 (by decide)) (hM.1 6 (by decide)) (hM.1 7 (by decide)) (hM.1 15 (by decide)) (hM.1 16 (by decide)) hM.2.2.1 hN.2.1, fun r1 M1 hP1 => ?_⟩
  have h1 := WM.eq hP1.2 hM
  refine ⟨⟨_, h1.1 46 (by decide)⟩, _, c_X12_rounds l g _ m0 m1 m2 m3 m4 m5 m6 m7 tc m9 m10 m11 f L t (rN r) a1 a2 (h1.1 46 (by decide)) (h1.1 47 (by decide)) (hL.ok hK) f0 (by omega) hN.1 hN.2.1, fun r2 M2 hP2 => ?_⟩
  have h2 := WM.eq hP2.2 h1
  exact ⟨hP1.1.symm.trans (((fit_tie hL hH hN hn a1 a2).1).trans hP2.1), ik, tc, tf, r, kr, ra, sa, tz, tn, m0, m1, m2, m3, m4, m5, m6, m7, m9, m10, m11, f, im, fr, by_, tr, ha, wo, h2.to (by apply all55 <;> rfl) (fun h => h) (fun h => h) (fun h => h) (fun h => h), hC, hR, hI⟩
theorem w_phases {g : Gp} {M : Mem} (hA : GI g) (hW : World g M) (l : Launch) (a1 a2 : Int32) : ∃ P1, Met l yX11_phases (wsM yX11_phases cX11_phases 3 (some .int)) (rmD 7 0 0) (Pre g M [.ref (gA g 0), .int a1, .int a2]) (Qi g P1) 0 0 (gF g) ∧ ∀ r1 M1, P1 r1 M1 → (∃ fs, M1 (gA g 46) = some (.inr (12, fs))) ∧ ∃ P2, Met l yX12_phases (wsM yX12_phases cX12_phases 3 (some .int)) (rmD 4 0 0) (Pre g M1 [.ref (gA g 46), .int a1, .int a2]) (Qi g P2) 0 0 (gF g) ∧ ∀ r2 M2, P2 r2 M2 → r1 = r2 ∧ World g M2 := by
  obtain ⟨ik, tc, tf, r, kr, ra, sa, tz, tn, m0, m1, m2, m3, m4, m5, m6, m7, m9, m10, m11, f, im, fr, by_, tr, ha, wo, hM, hC, hR, hI⟩ := hW
  obtain ⟨L, k, t, s0, s1, hL, hK, hH, hn, ht, hs0, hs1, e0, e1, f0, f1, f2, hT, hN, hP, hB, hF⟩ := id hR
  refine ⟨_, c_X11_phases l g _ ik (rE r) (rN r) (rNf r) a1 a2 (hM.1 0 (by decide)) (hM.1 3 (by decide)) (hM.1 5 (by decide)) (hM.1 6 (by decide)) (hM.1 7 (by decide)) (hM.1 15 (by decide)) (hM.1 16 (by decide)) hM.2.2.1 hN.2.1, fun r1 M1 hP1 => ?_⟩
  have h1 := WM.eq hP1.2 hM
  refine ⟨⟨_, h1.1 46 (by decide)⟩, _, c_X12_phases l g _ m0 m1 m2 m3 m4 m5 m6 m7 tc m9 m10 m11 f L t (rN r) a1 a2 (h1.1 46 (by decide)) (h1.1 47 (by decide)) (hL.ok hK) f0 (by omega) hN.1 hN.2.1, fun r2 M2 hP2 => ?_⟩
  have h2 := WM.eq hP2.2 h1
  exact ⟨hP1.1.symm.trans (((fit_tie hL hH hN hn a1 a2).2.1).trans hP2.1), ik, tc, tf, r, kr, ra, sa, tz, tn, m0, m1, m2, m3, m4, m5, m6, m7, m9, m10, m11, f, im, fr, by_, tr, ha, wo, h2.to (by apply all55 <;> rfl) (fun h => h) (fun h => h) (fun h => h) (fun h => h), hC, hR, hI⟩
theorem w_firm {g : Gp} {M : Mem} (hA : GI g) (hW : World g M) (l : Launch) (a1 a2 : Int32) : ∃ P1, Met l yX11_firm (wsM yX11_firm cX11_firm 3 (some .int)) (rmD 7 0 0) (Pre g M [.ref (gA g 0), .int a1, .int a2]) (Qi g P1) 0 0 (gF g) ∧ ∀ r1 M1, P1 r1 M1 → (∃ fs, M1 (gA g 46) = some (.inr (12, fs))) ∧ ∃ P2, Met l yX12_firm (wsM yX12_firm cX12_firm 3 (some .int)) (rmD 4 0 0) (Pre g M1 [.ref (gA g 46), .int a1, .int a2]) (Qi g P2) 0 0 (gF g) ∧ ∀ r2 M2, P2 r2 M2 → r1 = r2 ∧ World g M2 := by
  obtain ⟨ik, tc, tf, r, kr, ra, sa, tz, tn, m0, m1, m2, m3, m4, m5, m6, m7, m9, m10, m11, f, im, fr, by_, tr, ha, wo, hM, hC, hR, hI⟩ := hW
  obtain ⟨L, k, t, s0, s1, hL, hK, hH, hn, ht, hs0, hs1, e0, e1, f0, f1, f2, hT, hN, hP, hB, hF⟩ := id hR
  refine ⟨_, c_X11_firm l g _ ik (rE r) (rN r) (rNf r) a1 a2 (hM.1 0 (by decide)) (hM.1 3 (by decide)) (hM.1 5 (by decide)) (hM.1 6 (by decide)) (hM.1 7 (by decide)) (hM.1 15 (by decide)) (hM.1 16 (by decide)) hM.2.2.1 hN.2.1, fun r1 M1 hP1 => ?_⟩
  have h1 := WM.eq hP1.2 hM
  refine ⟨⟨_, h1.1 46 (by decide)⟩, _, c_X12_firm l g _ m0 m1 m2 m3 m4 m5 m6 m7 tc m9 m10 m11 f L t (rN r) a1 a2 (h1.1 46 (by decide)) (h1.1 47 (by decide)) (hL.ok hK) f0 (by omega) hN.1 hN.2.1, fun r2 M2 hP2 => ?_⟩
  have h2 := WM.eq hP2.2 h1
  exact ⟨hP1.1.symm.trans (((fit_tie hL hH hN hn a1 a2).2.2).trans hP2.1), ik, tc, tf, r, kr, ra, sa, tz, tn, m0, m1, m2, m3, m4, m5, m6, m7, m9, m10, m11, f, im, fr, by_, tr, ha, wo, h2.to (by apply all55 <;> rfl) (fun h => h) (fun h => h) (fun h => h) (fun h => h), hC, hR, hI⟩
theorem w_odds {g : Gp} {M : Mem} (hA : GI g) (hW : World g M) (l : Launch) (a1 a2 a3 a4 : Int32) : ∃ P1, Met l yX11_odds (wsM yX11_odds cX11_odds 7 (some .long)) (rmD 7 0 0) (Pre g M [.ref (gA g 0), .int a1, .int a2, .int a3, .int a4]) (Ql g P1) 0 0 (gF g) ∧ ∀ r1 M1, P1 r1 M1 → (∃ fs, M1 (gA g 46) = some (.inr (12, fs))) ∧ ∃ P2, Met l yX12_odds (wsM yX12_odds cX12_odds 7 (some .long)) (rmD 7 0 0) (Pre g M1 [.ref (gA g 46), .int a1, .int a2, .int a3, .int a4]) (Ql g P2) 0 0 (gF g) ∧ ∀ r2 M2, P2 r2 M2 → r1 = r2 ∧ World g M2 := by
  obtain ⟨ik, tc, tf, r, kr, ra, sa, tz, tn, m0, m1, m2, m3, m4, m5, m6, m7, m9, m10, m11, f, im, fr, by_, tr, ha, wo, hM, hC, hR, hI⟩ := hW
  obtain ⟨L, k, t, s0, s1, hL, hK, hH, hn, ht, hs0, hs1, e0, e1, f0, f1, f2, hT, hN, hP, hB, hF⟩ := id hR
  refine ⟨_, c_X11_odds l g _ ik (rE r) tz a1 a2 a3 a4 (hM.1 0 (by decide)) (hM.1 3 (by decide)) (hM.1 4 (by decide)) (hM.1 5 (by decide)) (hM.1 6 (by decide)) (hM.1 7 (by decide)) (hM.1 8 (by decide)) (hM.1 9 (by decide)) (hM.1 10 (by decide)) (hM.1 11 (by decide)) (hM.1 12 (by decide)) (hM.1 44 (by decide)) hM.2.2.1, fun r1 M1 hP1 => ?_⟩
  obtain ⟨u0, hP1⟩ := hP1
  have h1 := WM.eq hP1.2 (WM.put hA hM 44 (by decide) noA)
  refine ⟨⟨_, h1.1 46 (by decide)⟩, _, c_X12_odds l g _ m0 m1 m2 m3 m4 m5 m6 m7 tc m9 m10 m11 f L t a1 a2 a3 a4 fr by_ tr (h1.1 46 (by decide)) (h1.1 47 (by decide)) (h1.1 50 (by decide)) (h1.1 51 (by decide)) (h1.1 49 (by decide)) (hL.ok hK) f0 (by omega), fun r2 M2 hP2 => ?_⟩
  obtain ⟨v0, v1, v2, v3, hP2⟩ := hP2
  have h2 := WM.eq hP2.2 (WM.put hA (WM.put hA (WM.put hA (WM.put hA h1 46 (by decide) (noO (by decide))) 49 (by decide) noA) 50 (by decide) noA) 51 (by decide) noA)
  exact ⟨hP1.1.symm.trans ((odds_tie hL hK hH hn ht f0 tz a1 a2 a3 a4).trans hP2.1), ik, tc, tf, r, kr, ra, sa, u0, tn, m0, m1, v0, m3, m4, m5, m6, m7, m9, m10, m11, f, im, v1, v2, v3, ha, wo, h2.to (by apply all55 <;> rfl) (fun h => h) (fun h => h) (fun h => h) (fun h => h), hC, hR, hI⟩
theorem w_mean {g : Gp} {M : Mem} (hA : GI g) (hW : World g M) (l : Launch) (a1 a2 : Int32) : ∃ P1, Met l yX11_mean (wsM yX11_mean cX11_mean 5 (some .long)) (rmD 7 0 0) (Pre g M [.ref (gA g 0), .int a1, .int a2]) (Ql g P1) 0 0 (gF g) ∧ ∀ r1 M1, P1 r1 M1 → (∃ fs, M1 (gA g 46) = some (.inr (12, fs))) ∧ ∃ P2, Met l yX12_mean (wsM yX12_mean cX12_mean 6 (some .long)) (rmD 5 0 0) (Pre g M1 [.ref (gA g 46), .int a1, .int a2]) (Ql g P2) 0 0 (gF g) ∧ ∀ r2 M2, P2 r2 M2 → r1 = r2 ∧ World g M2 := by
  obtain ⟨ik, tc, tf, r, kr, ra, sa, tz, tn, m0, m1, m2, m3, m4, m5, m6, m7, m9, m10, m11, f, im, fr, by_, tr, ha, wo, hM, hC, hR, hI⟩ := hW
  obtain ⟨L, k, t, s0, s1, hL, hK, hH, hn, ht, hs0, hs1, e0, e1, f0, f1, f2, hT, hN, hP, hB, hF⟩ := id hR
  refine ⟨_, c_X11_mean l g _ ik (rE r) a1 a2 (hM.1 0 (by decide)) (hM.1 3 (by decide)) (hM.1 4 (by decide)) (hM.1 5 (by decide)) (hM.1 6 (by decide)) (hM.1 7 (by decide)) (hM.1 8 (by decide)) (hM.1 9 (by decide)) (hM.1 10 (by decide)) (hM.1 11 (by decide)) (hM.1 12 (by decide)) hM.2.2.1, fun r1 M1 hP1 => ?_⟩
  have h1 := WM.eq hP1.2 hM
  refine ⟨⟨_, h1.1 46 (by decide)⟩, _, c_X12_mean l g _ m0 m1 m2 m3 m4 m5 m6 m7 tc m9 m10 m11 f L t a1 a2 by_ tr (h1.1 46 (by decide)) (h1.1 47 (by decide)) (h1.1 50 (by decide)) (h1.1 51 (by decide)) (hL.ok hK) f0 (by omega) (much_ok hL hK), fun r2 M2 hP2 => ?_⟩
  obtain ⟨v0, v1, v2, hP2⟩ := hP2
  have h2 := WM.eq hP2.2 (WM.put hA (WM.put hA (WM.put hA h1 46 (by decide) (noO (by decide))) 50 (by decide) noA) 51 (by decide) noA)
  exact ⟨hP1.1.symm.trans ((mean_tie hL hK hH hn ht a1 a2).trans hP2.1), ik, tc, tf, r, kr, ra, sa, tz, tn, m0, m1, v0, m3, m4, m5, m6, m7, m9, m10, m11, f, im, fr, v1, v2, ha, wo, h2.to (by apply all55 <;> rfl) (fun h => h) (fun h => h) (fun h => h) (fun h => h), hC, hR, hI⟩
theorem w_done {g : Gp} {M : Mem} (hA : GI g) (hW : World g M) (l : Launch) (a1 : Int32) : ∃ P1, Met l yX11_done (wsM yX11_done cX11_done 7 (some .int)) (rmD 7 0 0) (Pre g M [.ref (gA g 0), .int a1]) (Qi g P1) 0 0 (gF g) ∧ ∀ r1 M1, P1 r1 M1 → (∃ fs, M1 (gA g 46) = some (.inr (12, fs))) ∧ ∃ P2, Met l yX12_done (wsM yX12_done cX12_done 3 (some .int)) (rmD 7 0 0) (Pre g M1 [.ref (gA g 46), .int a1]) (Qi g P2) 0 0 (gF g) ∧ ∀ r2 M2, P2 r2 M2 → r1 = r2 ∧ World g M2 := by
  obtain ⟨ik, tc, tf, r, kr, ra, sa, tz, tn, m0, m1, m2, m3, m4, m5, m6, m7, m9, m10, m11, f, im, fr, by_, tr, ha, wo, hM, hC, hR, hI⟩ := hW
  obtain ⟨L, k, t, s0, s1, hL, hK, hH, hn, ht, hs0, hs1, e0, e1, f0, f1, f2, hT, hN, hP, hB, hF⟩ := id hR
  refine ⟨_, c_X11_done l g _ ik (rE r) (rP r) (rPf r) a1 (hM.1 0 (by decide)) (hM.1 3 (by decide)) (hM.1 4 (by decide)) (hM.1 5 (by decide)) (hM.1 6 (by decide)) (hM.1 7 (by decide)) (hM.1 8 (by decide)) (hM.1 9 (by decide)) (hM.1 10 (by decide)) (hM.1 11 (by decide)) (hM.1 12 (by decide)) (hM.1 17 (by decide)) (hM.1 18 (by decide)) hM.2.2.1 hP.2.1, fun r1 M1 hP1 => ?_⟩
  have h1 := WM.eq hP1.2 hM
  refine ⟨⟨_, h1.1 46 (by decide)⟩, _, c_X12_done l g _ m0 m1 m2 m3 m4 m5 m6 m7 tc m9 m10 m11 f L t (rP r) a1 fr by_ tr (h1.1 46 (by decide)) (h1.1 47 (by decide)) (h1.1 50 (by decide)) (h1.1 51 (by decide)) (h1.1 49 (by decide)) (hL.ok hK) f0 (by omega) hP.1 hP.2.1 (plan_ok hP), fun r2 M2 hP2 => ?_⟩
  obtain ⟨v0, v1, v2, v3, hP2⟩ := hP2
  have h2 := WM.eq hP2.2 (WM.put hA (WM.put hA (WM.put hA (WM.put hA h1 46 (by decide) (noO (by decide))) 49 (by decide) noA) 50 (by decide) noA) 51 (by decide) noA)
  exact ⟨hP1.1.symm.trans ((done_tie hL hK hH hn ht f0 (e0.trans f1.symm) (e1.trans f2.symm) hP a1).trans hP2.1), ik, tc, tf, r, kr, ra, sa, tz, tn, m0, m1, v0, m3, m4, m5, m6, m7, m9, m10, m11, f, im, v1, v2, v3, ha, wo, h2.to (by apply all55 <;> rfl) (fun h => h) (fun h => h) (fun h => h) (fun h => h), hC, hR, hI⟩
theorem w_looked {g : Gp} {M : Mem} (hA : GI g) (hW : World g M) (l : Launch) : ∃ P1, Met l yX11_looked (wsM yX11_looked cX11_looked 2 (some .int)) (rmD 3 0 0) (Pre g M [.ref (gA g 0)]) (Qi g P1) 0 0 (gF g) ∧ ∀ r1 M1, P1 r1 M1 → (∃ fs, M1 (gA g 46) = some (.inr (12, fs))) ∧ ∃ P2, Met l yX12_looked (wsM yX12_looked cX12_looked 2 (some .int)) (rmD 3 0 0) (Pre g M1 [.ref (gA g 46)]) (Qi g P2) 0 0 (gF g) ∧ ∀ r2 M2, P2 r2 M2 → r1 = r2 ∧ World g M2 := by
  obtain ⟨ik, tc, tf, r, kr, ra, sa, tz, tn, m0, m1, m2, m3, m4, m5, m6, m7, m9, m10, m11, f, im, fr, by_, tr, ha, wo, hM, hC, hR, hI⟩ := hW
  obtain ⟨L, k, t, s0, s1, hL, hK, hH, hn, ht, hs0, hs1, e0, e1, f0, f1, f2, hT, hN, hP, hB, hF⟩ := id hR
  refine ⟨_, c_X11_looked l g _ ik (rE r) (rB r) (rBf r) (hM.1 0 (by decide)) (hM.1 3 (by decide)) (hM.1 9 (by decide)) (hM.1 19 (by decide)) (hM.1 20 (by decide)) hB.2.1, fun r1 M1 hP1 => ?_⟩
  have h1 := WM.eq hP1.2 hM
  refine ⟨⟨_, h1.1 46 (by decide)⟩, _, c_X12_looked l g _ m0 m1 m2 m3 m4 m5 m6 m7 tc m9 m10 m11 f (rB r) (h1.1 46 (by decide)) (h1.1 47 (by decide)) hK.st.hd hB.1 hB.2.1, fun r2 M2 hP2 => ?_⟩
  have h2 := WM.eq hP2.2 h1
  exact ⟨hP1.1.symm.trans ((looked_tie hK hn f0 hB (rB r) 0 (by omega)).trans hP2.1), ik, tc, tf, r, kr, ra, sa, tz, tn, m0, m1, m2, m3, m4, m5, m6, m7, m9, m10, m11, f, im, fr, by_, tr, ha, wo, h2.to (by apply all55 <;> rfl) (fun h => h) (fun h => h) (fun h => h) (fun h => h), hC, hR, hI⟩
theorem w_trace {g : Gp} {M : Mem} (hA : GI g) (hW : World g M) (l : Launch) (a1 : Int32) : ∃ P1, Met l yX11_trace (wsM yX11_trace cX11_trace 2 (some .int)) (rmD 4 0 0) (Pre g M [.ref (gA g 0), .int a1]) (Qi g P1) 0 0 (gF g) ∧ ∀ r1 M1, P1 r1 M1 → (∃ fs, M1 (gA g 46) = some (.inr (12, fs))) ∧ ∃ P2, Met l yX12_trace (wsM yX12_trace cX12_trace 2 (some .int)) (rmD 2 0 0) (Pre g M1 [.ref (gA g 46), .int a1]) (Qi g P2) 0 0 (gF g) ∧ ∀ r2 M2, P2 r2 M2 → r1 = r2 ∧ World g M2 := by
  obtain ⟨ik, tc, tf, r, kr, ra, sa, tz, tn, m0, m1, m2, m3, m4, m5, m6, m7, m9, m10, m11, f, im, fr, by_, tr, ha, wo, hM, hC, hR, hI⟩ := hW
  obtain ⟨L, k, t, s0, s1, hL, hK, hH, hn, ht, hs0, hs1, e0, e1, f0, f1, f2, hT, hN, hP, hB, hF⟩ := id hR
  obtain ⟨n, hn20, rfl⟩ := hC
  refine ⟨_, c_X11_trace l g _ ik (nI n) tf a1 (hM.1 0 (by decide)) (hM.1 1 (by decide)) (hM.1 2 (by decide)), fun r1 M1 hP1 => ?_⟩
  have h1 := WM.eq hP1.2 hM
  refine ⟨⟨_, h1.1 46 (by decide)⟩, _, c_X12_trace l g _ m0 m1 m2 m3 m4 m5 m6 m7 (nI n) m9 m10 m11 tf 20 a1 (h1.1 46 (by decide)) (h1.1 54 (by decide)) ⟨n, hn20, rfl⟩ (by decide), fun r2 M2 hP2 => ?_⟩
  have h2 := WM.eq hP2.2 h1
  exact ⟨hP1.1.symm.trans ((trace_tie (by omega) tf a1).trans hP2.1), ik, (nI n), tf, r, kr, ra, sa, tz, tn, m0, m1, m2, m3, m4, m5, m6, m7, m9, m10, m11, f, im, fr, by_, tr, ha, wo, h2.to (by apply all55 <;> rfl) (fun h => h) (fun h => h) (fun h => h) (fun h => h), ⟨n, hn20, rfl⟩, hR, hI⟩
theorem w_as {g : Gp} {M : Mem} (hA : GI g) (hW : World g M) (l : Launch) (a1 a2 : Int32) : ∃ P1, Met l yX11_as (wsM yX11_as cX11_as 4 (some .int)) (rmD 3 0 0) (Pre g M [.ref (gA g 0), .int a1, .int a2]) (Qi g P1) 0 0 (gF g) ∧ ∀ r1 M1, P1 r1 M1 → (∃ fs, M1 (gA g 46) = some (.inr (12, fs))) ∧ ∃ P2, Met l yX12_as (wsM yX12_as cX12_as 3 (some .int)) (rmD 3 0 0) (Pre g M1 [.ref (gA g 46), .int a1, .int a2]) (Qi g P2) 0 0 (gF g) ∧ ∀ r2 M2, P2 r2 M2 → r1 = r2 ∧ World g M2 := by
  obtain ⟨ik, tc, tf, r, kr, ra, sa, tz, tn, m0, m1, m2, m3, m4, m5, m6, m7, m9, m10, m11, f, im, fr, by_, tr, ha, wo, hM, hC, hR, hI⟩ := hW
  obtain ⟨L, k, t, s0, s1, hL, hK, hH, hn, ht, hs0, hs1, e0, e1, f0, f1, f2, hT, hN, hP, hB, hF⟩ := id hR
  refine ⟨_, c_X11_as l g _ ik (rE r) a1 a2 (hM.1 0 (by decide)) (hM.1 3 (by decide)) (hM.1 5 (by decide)) hM.2.2.1, fun r1 M1 hP1 => ?_⟩
  have h1 := WM.eq hP1.2 hM
  refine ⟨⟨_, h1.1 46 (by decide)⟩, _, c_X12_as l g _ m0 m1 m2 m3 m4 m5 m6 m7 tc m9 m10 m11 f L a1 a2 (h1.1 46 (by decide)) (h1.1 47 (by decide)) hL.1 hL.2.2.1, fun r2 M2 hP2 => ?_⟩
  have h2 := WM.eq hP2.2 h1
  exact ⟨hP1.1.symm.trans ((as_tie hL a1 a2).trans hP2.1), ik, tc, tf, r, kr, ra, sa, tz, tn, m0, m1, m2, m3, m4, m5, m6, m7, m9, m10, m11, f, im, fr, by_, tr, ha, wo, h2.to (by apply all55 <;> rfl) (fun h => h) (fun h => h) (fun h => h) (fun h => h), hC, hR, hI⟩
theorem w_count {g : Gp} {M : Mem} (hA : GI g) (hW : World g M) (l : Launch) (a1 : Int32) : ∃ P1, Met l yX11_count (wsM yX11_count cX11_count 2 (some .int)) (rmD 1 0 0) (Pre g M [.ref (gA g 0), .int a1]) (Qi g P1) 0 0 (gF g) ∧ ∀ r1 M1, P1 r1 M1 → (∃ fs, M1 (gA g 46) = some (.inr (12, fs))) ∧ ∃ P2, Met l yX12_count (wsM yX12_count cX12_count 2 (some .int)) (rmD 2 0 0) (Pre g M1 [.ref (gA g 46), .int a1]) (Qi g P2) 0 0 (gF g) ∧ ∀ r2 M2, P2 r2 M2 → r1 = r2 ∧ World g M2 := by
  obtain ⟨ik, tc, tf, r, kr, ra, sa, tz, tn, m0, m1, m2, m3, m4, m5, m6, m7, m9, m10, m11, f, im, fr, by_, tr, ha, wo, hM, hC, hR, hI⟩ := hW
  obtain ⟨L, k, t, s0, s1, hL, hK, hH, hn, ht, hs0, hs1, e0, e1, f0, f1, f2, hT, hN, hP, hB, hF⟩ := id hR
  refine ⟨_, c_X11_count l g _ ik (rE r) (rN r) (rP r) (rB r) (nI (rT r)) tc a1 (hM.1 0 (by decide)) (hM.1 1 (by decide)) (hM.1 3 (by decide)) (hM.1 13 (by decide)) (hM.1 15 (by decide)) (hM.1 17 (by decide)) (hM.1 19 (by decide)), fun r1 M1 hP1 => ?_⟩
  have h1 := WM.eq hP1.2 hM
  refine ⟨⟨_, h1.1 46 (by decide)⟩, _, c_X12_count l g _ m0 m1 m2 m3 m4 m5 m6 m7 tc m9 m10 m11 f a1 (h1.1 46 (by decide)) (h1.1 47 (by decide)), fun r2 M2 hP2 => ?_⟩
  have h2 := WM.eq hP2.2 h1
  exact ⟨hP1.1.symm.trans ((count_tie hL hK hN hP hB hT tc a1).trans hP2.1), ik, tc, tf, r, kr, ra, sa, tz, tn, m0, m1, m2, m3, m4, m5, m6, m7, m9, m10, m11, f, im, fr, by_, tr, ha, wo, h2.to (by apply all55 <;> rfl) (fun h => h) (fun h => h) (fun h => h) (fun h => h), hC, hR, hI⟩
theorem w_act {g : Gp} {M : Mem} (hA : GI g) (hW : World g M) (l : Launch) (a1 a2 a3 : Int32) : ∃ P1, Met l yX11_act (wsM yX11_act cX11_act 5 (some .int)) (rmD 9 0 0) (Pre g M [.ref (gA g 0), .int a1, .int a2, .int a3]) (Qi g P1) 0 0 (gF g) ∧ ∀ r1 M1, P1 r1 M1 → (∃ fs, M1 (gA g 46) = some (.inr (12, fs))) ∧ ∃ P2, Met l yX12_act (wsM yX12_act cX12_act 4 (some .int)) (rmD 8 0 0) (Pre g M1 [.ref (gA g 46), .int a1, .int a2, .int a3]) (Qi g P2) 0 0 (gF g) ∧ ∀ r2 M2, P2 r2 M2 → r1 = r2 ∧ World g M2 := by
  obtain ⟨ik, tc, tf, r, kr, ra, sa, tz, tn, m0, m1, m2, m3, m4, m5, m6, m7, m9, m10, m11, f, im, fr, by_, tr, ha, wo, hM, hC, hR, hI⟩ := hW
  obtain ⟨L, k, t, s0, s1, hL, hK, hH, hn, ht, hs0, hs1, e0, e1, f0, f1, f2, hT, hN, hP, hB, hF⟩ := id hR
  refine ⟨_, c_X11_act l g _ ik (rE r) tc tf a1 a2 a3 (hM.1 0 (by decide)) (hM.1 3 (by decide)) (hM.1 5 (by decide)) (hM.1 1 (by decide)) (hM.1 2 (by decide)) hM.2.2.1, fun r1 M1 hP1 => ?_⟩
  have hc := act_cn (en := rE r) (tf := tf) (x := a1) (w := a2) (n := a3)
  rw [act_tie hL tf a1 a2 a3] at hP1 hc
  have h1 := WM.eq hP1.2 (WM.put hA (WM.put hA hM 1 (by decide) (noO (by decide))) 2 (by decide) noA)
  refine ⟨⟨_, h1.1 46 (by decide)⟩, _, c_X12_act l g _ m0 m1 m2 m3 m4 m5 m6 m7 tc m9 m10 m11 f L (eKd (rE r)) tf a1 a2 a3 (h1.1 46 (by decide)) (h1.1 47 (by decide)) (h1.1 54 (by decide)) hL.1 hL.2.2.1 (fun j hj => ⟨(hL.2.2.2 j hj).1, (hL.2.2.2 j hj).2.1⟩), fun r2 M2 hP2 => ?_⟩
  have h2 := WM.eq hP2.2 (WM.put hA (WM.put hA h1 46 (by decide) (noO (by decide))) 54 (by decide) noA)
  exact ⟨hP1.1.symm.trans ((rfl).trans hP2.1), ik, (mAct f L (eKd (rE r)) tf a1 a2 a3).2.1, (mAct f L (eKd (rE r)) tf a1 a2 a3).2.2, r, kr, ra, sa, tz, tn, m0, m1, m2, m3, m4, m5, m6, m7, _, _, _, f, im, fr, by_, tr, ha, wo, h2.to (by apply all55 <;> rfl) (fun h => h) (fun h => h) (fun h => h) (fun h => h), hc, hR, hI⟩
theorem w_feed {g : Gp} {M : Mem} (hA : GI g) (hW : World g M) (l : Launch) (a1 : Int32) : ∃ P1, Met l yX11_feed (wsM yX11_feed cX11_feed 2 (some .int)) (rmD 3 0 0) (Pre g M [.ref (gA g 0), .int a1]) (Qi g P1) 0 0 (gF g) ∧ ∀ r1 M1, P1 r1 M1 → (∃ fs, M1 (gA g 46) = some (.inr (12, fs))) ∧ ∃ P2, Met l yX12_feed (wsM yX12_feed cX12_feed 2 (some .int)) (rmD 2 0 0) (Pre g M1 [.ref (gA g 46), .int a1]) (Qi g P2) 0 0 (gF g) ∧ ∀ r2 M2, P2 r2 M2 → r1 = r2 ∧ World g M2 := by
  obtain ⟨ik, tc, tf, r, kr, ra, sa, tz, tn, m0, m1, m2, m3, m4, m5, m6, m7, m9, m10, m11, f, im, fr, by_, tr, ha, wo, hM, hC, hR, hI⟩ := hW
  obtain ⟨L, k, t, s0, s1, hL, hK, hH, hn, ht, hs0, hs1, e0, e1, f0, f1, f2, hT, hN, hP, hB, hF⟩ := id hR
  obtain ⟨y1, ⟨tc1, y2, y3⟩, y4⟩ := feed_tie hT a1
  refine ⟨_, c_X11_feed l g _ ik (eNi (rE r)) (nI (eL (rE r))) (eSk (rE r)) (eHi (rE r)) (nI (rT r)) (rTf r) a1 (hM.1 0 (by decide)) (hM.1 3 (by decide)) (hM.1 13 (by decide)) (hM.1 14 (by decide)), fun r1 M1 hP1 => ?_⟩
  rw [y2] at hP1
  have h1 := WM.eq hP1.2 (WM.put hA (WM.put hA hM 14 (by decide) noA) 13 (by decide) (noO (by decide)))
  refine ⟨⟨_, h1.1 46 (by decide)⟩, _, c_X12_feed l g _ m0 m1 m2 m3 m4 m5 m6 m7 tc m9 m10 m11 f (rT r) a1 (h1.1 46 (by decide)) (h1.1 47 (by decide)) hT.1 hT.2.1, fun r2 M2 hP2 => ?_⟩
  have h2 := WM.eq hP2.2 (WM.put hA h1 47 (by decide) noA)
  exact ⟨hP1.1.symm.trans ((y1).trans hP2.1), ik, tc, tf, ((rE r), (tc1, (opFeed (nI (rT r)) (rTf r) a1).2.2), r.2.2.1, r.2.2.2.1, r.2.2.2.2), kr, ra, sa, tz, tn, m0, m1, m2, m3, m4, m5, m6, m7, m9, m10, m11, (mFeedN f (rT r) a1).2, im, fr, by_, tr, ha, wo, h2.to (by apply all55 <;> rfl) (fun h => h) (fun h => h) (fun h => h) (fun h => h), hC, ⟨L, k, t, s0, s1, hL.cg (fun q hq => y4 q (by omega) (by omega)), hK.cg (fun q hq => y4 q (by omega) (by omega)), hH.cg hL.2.2.1 (fun q hq => y4 q (by omega) (by omega)), hn, ht, hs0, hs1, e0, e1, (y4 0 (by omega) (by omega)).trans f0, (y4 1 (by omega) (by omega)).trans f1, (y4 2 (by omega) (by omega)).trans f2, y3, hN.cg (fun q hq => y4 q (by omega) (by omega)), hP.cg (fun q hq => y4 q (by omega) (by omega)), hB.cg (fun q hq => y4 q (by omega) (by omega)), hF⟩, hI⟩
theorem w_note {g : Gp} {M : Mem} (hA : GI g) (hW : World g M) (l : Launch) (a1 a2 a3 : Int32) : ∃ P1, Met l yX11_note (wsM yX11_note cX11_note 4 (some .int)) (rmD 3 0 0) (Pre g M [.ref (gA g 0), .int a1, .int a2, .int a3]) (Qi g P1) 0 0 (gF g) ∧ ∀ r1 M1, P1 r1 M1 → (∃ fs, M1 (gA g 46) = some (.inr (12, fs))) ∧ ∃ P2, Met l yX12_note (wsM yX12_note cX12_note 4 (some .int)) (rmD 3 0 0) (Pre g M1 [.ref (gA g 46), .int a1, .int a2, .int a3]) (Qi g P2) 0 0 (gF g) ∧ ∀ r2 M2, P2 r2 M2 → r1 = r2 ∧ World g M2 := by
  obtain ⟨ik, tc, tf, r, kr, ra, sa, tz, tn, m0, m1, m2, m3, m4, m5, m6, m7, m9, m10, m11, f, im, fr, by_, tr, ha, wo, hM, hC, hR, hI⟩ := hW
  obtain ⟨L, k, t, s0, s1, hL, hK, hH, hn, ht, hs0, hs1, e0, e1, f0, f1, f2, hT, hN, hP, hB, hF⟩ := id hR
  obtain ⟨y1, ⟨nc1, y2, y3⟩, y4⟩ := note_tie hN hL.2.1 a1 a2 a3
  refine ⟨_, c_X11_note l g _ ik (rE r) (nI (rN r)) (rNf r) a1 a2 a3 (hM.1 0 (by decide)) (hM.1 3 (by decide)) (hM.1 5 (by decide)) (hM.1 15 (by decide)) (hM.1 16 (by decide)) hM.2.2.1, fun r1 M1 hP1 => ?_⟩
  rw [y2] at hP1
  have h1 := WM.eq hP1.2 (WM.put hA (WM.put hA hM 16 (by decide) noA) 15 (by decide) (noO (by decide)))
  refine ⟨⟨_, h1.1 46 (by decide)⟩, _, c_X12_note l g _ m0 m1 m2 m3 m4 m5 m6 m7 tc m9 m10 m11 f L (rN r) a1 a2 a3 (h1.1 46 (by decide)) (h1.1 47 (by decide)) hL.1 hL.2.2.1 hN.1 hN.2.1, fun r2 M2 hP2 => ?_⟩
  have h2 := WM.eq hP2.2 (WM.put hA h1 47 (by decide) noA)
  exact ⟨hP1.1.symm.trans ((y1).trans hP2.1), ik, tc, tf, ((rE r), r.2.1, (nc1, (opNote (rE r) (nI (rN r)) (rNf r) a1 a2 a3).2.2), r.2.2.2.1, r.2.2.2.2), kr, ra, sa, tz, tn, m0, m1, m2, m3, m4, m5, m6, m7, m9, m10, m11, (mNote f L (rN r) a1 a2 a3).2, im, fr, by_, tr, ha, wo, h2.to (by apply all55 <;> rfl) (fun h => h) (fun h => h) (fun h => h) (fun h => h), hC, ⟨L, k, t, s0, s1, hL.cg (fun q hq => y4 q (by omega) (by omega)), hK.cg (fun q hq => y4 q (by omega) (by omega)), hH.cg hL.2.2.1 (fun q hq => y4 q (by omega) (by omega)), hn, ht, hs0, hs1, e0, e1, (y4 0 (by omega) (by omega)).trans f0, (y4 1 (by omega) (by omega)).trans f1, (y4 2 (by omega) (by omega)).trans f2, hT.cg (fun q hq => y4 q (by omega) (by omega)), y3, hP.cg (fun q hq => y4 q (by omega) (by omega)), hB.cg (fun q hq => y4 q (by omega) (by omega)), hF⟩, hI⟩
theorem w_plan {g : Gp} {M : Mem} (hA : GI g) (hW : World g M) (l : Launch) (a1 a2 : Int32) : ∃ P1, Met l yX11_plan (wsM yX11_plan cX11_plan 3 (some .int)) (rmD 3 0 0) (Pre g M [.ref (gA g 0), .int a1, .int a2]) (Qi g P1) 0 0 (gF g) ∧ ∀ r1 M1, P1 r1 M1 → (∃ fs, M1 (gA g 46) = some (.inr (12, fs))) ∧ ∃ P2, Met l yX12_plan (wsM yX12_plan cX12_plan 3 (some .int)) (rmD 3 0 0) (Pre g M1 [.ref (gA g 46), .int a1, .int a2]) (Qi g P2) 0 0 (gF g) ∧ ∀ r2 M2, P2 r2 M2 → r1 = r2 ∧ World g M2 := by
  obtain ⟨ik, tc, tf, r, kr, ra, sa, tz, tn, m0, m1, m2, m3, m4, m5, m6, m7, m9, m10, m11, f, im, fr, by_, tr, ha, wo, hM, hC, hR, hI⟩ := hW
  obtain ⟨L, k, t, s0, s1, hL, hK, hH, hn, ht, hs0, hs1, e0, e1, f0, f1, f2, hT, hN, hP, hB, hF⟩ := id hR
  obtain ⟨y1, ⟨nc1, y2, y3⟩, y4⟩ := plan_tie hP hL.2.1 hL.2.2.1 a1 a2
  refine ⟨_, c_X11_plan l g _ ik (rE r) (nI (rP r)) (rPf r) a1 a2 (hM.1 0 (by decide)) (hM.1 3 (by decide)) (hM.1 5 (by decide)) (hM.1 17 (by decide)) (hM.1 18 (by decide)) hM.2.2.1, fun r1 M1 hP1 => ?_⟩
  rw [y2] at hP1
  have h1 := WM.eq hP1.2 (WM.put hA (WM.put hA hM 18 (by decide) noA) 17 (by decide) (noO (by decide)))
  refine ⟨⟨_, h1.1 46 (by decide)⟩, _, c_X12_plan l g _ m0 m1 m2 m3 m4 m5 m6 m7 tc m9 m10 m11 f L (rP r) a1 a2 (h1.1 46 (by decide)) (h1.1 47 (by decide)) hL.1 hL.2.2.1 hP.1 hP.2.1, fun r2 M2 hP2 => ?_⟩
  have h2 := WM.eq hP2.2 (WM.put hA h1 47 (by decide) noA)
  exact ⟨hP1.1.symm.trans ((y1).trans hP2.1), ik, tc, tf, ((rE r), r.2.1, r.2.2.1, (nc1, (opPlan (rE r) (nI (rP r)) (rPf r) a1 a2).2.2), r.2.2.2.2), kr, ra, sa, tz, tn, m0, m1, m2, m3, m4, m5, m6, m7, m9, m10, m11, (mPlan f L (rP r) a1 a2).2, im, fr, by_, tr, ha, wo, h2.to (by apply all55 <;> rfl) (fun h => h) (fun h => h) (fun h => h) (fun h => h), hC, ⟨L, k, t, s0, s1, hL.cg (fun q hq => y4 q (by omega) (by omega)), hK.cg (fun q hq => y4 q (by omega) (by omega)), hH.cg hL.2.2.1 (fun q hq => y4 q (by omega) (by omega)), hn, ht, hs0, hs1, e0, e1, (y4 0 (by omega) (by omega)).trans f0, (y4 1 (by omega) (by omega)).trans f1, (y4 2 (by omega) (by omega)).trans f2, hT.cg (fun q hq => y4 q (by omega) (by omega)), hN.cg (fun q hq => y4 q (by omega) (by omega)), y3, hB.cg (fun q hq => y4 q (by omega) (by omega)), hF⟩, hI⟩
theorem w_book {g : Gp} {M : Mem} (hA : GI g) (hW : World g M) (l : Launch) (a1 a2 : Int32) : ∃ P1, Met l yX11_book (wsM yX11_book cX11_book 3 (some .int)) (rmD 3 0 0) (Pre g M [.ref (gA g 0), .int a1, .int a2]) (Qi g P1) 0 0 (gF g) ∧ ∀ r1 M1, P1 r1 M1 → (∃ fs, M1 (gA g 46) = some (.inr (12, fs))) ∧ ∃ P2, Met l yX12_book (wsM yX12_book cX12_book 3 (some .int)) (rmD 3 0 0) (Pre g M1 [.ref (gA g 46), .int a1, .int a2]) (Qi g P2) 0 0 (gF g) ∧ ∀ r2 M2, P2 r2 M2 → r1 = r2 ∧ World g M2 := by
  obtain ⟨ik, tc, tf, r, kr, ra, sa, tz, tn, m0, m1, m2, m3, m4, m5, m6, m7, m9, m10, m11, f, im, fr, by_, tr, ha, wo, hM, hC, hR, hI⟩ := hW
  obtain ⟨L, k, t, s0, s1, hL, hK, hH, hn, ht, hs0, hs1, e0, e1, f0, f1, f2, hT, hN, hP, hB, hF⟩ := id hR
  obtain ⟨y1, ⟨nc1, y2, y3⟩, y4⟩ := book_tie hB a1 a2
  refine ⟨_, c_X11_book l g _ ik (eNi (rE r)) (nI (eL (rE r))) (eSk (rE r)) (eHi (rE r)) (nI (rB r)) (rBf r) a1 a2 (hM.1 0 (by decide)) (hM.1 3 (by decide)) (hM.1 19 (by decide)) (hM.1 20 (by decide)), fun r1 M1 hP1 => ?_⟩
  rw [y2] at hP1
  have h1 := WM.eq hP1.2 (WM.put hA (WM.put hA hM 20 (by decide) noA) 19 (by decide) (noO (by decide)))
  refine ⟨⟨_, h1.1 46 (by decide)⟩, _, c_X12_book l g _ m0 m1 m2 m3 m4 m5 m6 m7 tc m9 m10 m11 f (rB r) a1 a2 (h1.1 46 (by decide)) (h1.1 47 (by decide)) hB.1 hB.2.1, fun r2 M2 hP2 => ?_⟩
  have h2 := WM.eq hP2.2 (WM.put hA h1 47 (by decide) noA)
  exact ⟨hP1.1.symm.trans ((y1).trans hP2.1), ik, tc, tf, ((rE r), r.2.1, r.2.2.1, r.2.2.2.1, (nc1, (opBook (nI (rB r)) (rBf r) a1 a2).2.2)), kr, ra, sa, tz, tn, m0, m1, m2, m3, m4, m5, m6, m7, m9, m10, m11, (mBook f (rB r) a1 a2).2, im, fr, by_, tr, ha, wo, h2.to (by apply all55 <;> rfl) (fun h => h) (fun h => h) (fun h => h) (fun h => h), hC, ⟨L, k, t, s0, s1, hL.cg (fun q hq => y4 q (by omega) (by omega)), hK.cg (fun q hq => y4 q (by omega) (by omega)), hH.cg hL.2.2.1 (fun q hq => y4 q (by omega) (by omega)), hn, ht, hs0, hs1, e0, e1, (y4 0 (by omega) (by omega)).trans f0, (y4 1 (by omega) (by omega)).trans f1, (y4 2 (by omega) (by omega)).trans f2, hT.cg (fun q hq => y4 q (by omega) (by omega)), hN.cg (fun q hq => y4 q (by omega) (by omega)), hP.cg (fun q hq => y4 q (by omega) (by omega)), y3, hF⟩, hI⟩
theorem w_row {g : Gp} {M : Mem} (hA : GI g) (hW : World g M) (l : Launch) (a1 a2 a3 : Int32) : ∃ P1, Met l yX11_row (wsM yX11_row cX11_row 5 (some .int)) (rmD 3 0 0) (Pre g M [.ref (gA g 0), .int a1, .int a2, .int a3]) (Qi g P1) 0 0 (gF g) ∧ ∀ r1 M1, P1 r1 M1 → (∃ fs, M1 (gA g 46) = some (.inr (12, fs))) ∧ ∃ P2, Met l yX12_row (wsM yX12_row cX12_row 5 (some .int)) (rmD 3 0 0) (Pre g M1 [.ref (gA g 46), .int a1, .int a2, .int a3]) (Qi g P2) 0 0 (gF g) ∧ ∀ r2 M2, P2 r2 M2 → r1 = r2 ∧ World g M2 := by
  obtain ⟨ik, tc, tf, r, kr, ra, sa, tz, tn, m0, m1, m2, m3, m4, m5, m6, m7, m9, m10, m11, f, im, fr, by_, tr, ha, wo, hM, hC, hR, hI⟩ := hW
  obtain ⟨L, k, t, s0, s1, hL, hK, hH, hn, ht, hs0, hs1, e0, e1, f0, f1, f2, hT, hN, hP, hB, hF⟩ := id hR
  obtain ⟨y1, y3, y4⟩ := row_tie hL a1 a2 a3
  refine ⟨_, c_X11_row l g _ ik (rE r) a1 a2 a3 (hM.1 0 (by decide)) (hM.1 3 (by decide)) (hM.1 5 (by decide)) (hM.1 8 (by decide)) hM.2.2.1, fun r1 M1 hP1 => ?_⟩
  have h1 := WM.eq hP1.2 (WM.put hA hM 8 (by decide) noA)
  refine ⟨⟨_, h1.1 46 (by decide)⟩, _, c_X12_row l g _ m0 m1 m2 m3 m4 m5 m6 m7 tc m9 m10 m11 f L a1 a2 a3 (h1.1 46 (by decide)) (h1.1 47 (by decide)) hL.1 hL.2.2.1, fun r2 M2 hP2 => ?_⟩
  have h2 := WM.eq hP2.2 (WM.put hA h1 47 (by decide) noA)
  exact ⟨hP1.1.symm.trans ((y1).trans hP2.1), ik, tc, tf, (enRw (rE r) (opRow (rE r) a1 a2 a3).2, r.2.1, r.2.2.1, r.2.2.2.1, r.2.2.2.2), kr, ra, sa, tz, tn, m0, m1, m2, m3, m4, m5, m6, m7, m9, m10, m11, (mRow f L a1 a2 a3).2, im, fr, by_, tr, ha, wo, h2.to (by apply all55 <;> rfl) (fun h => h) (fun h => h) (fun h => h) (fun h => h), hC, ⟨L, k, t, s0, s1, y3, hK.cg (fun q hq => y4 q (by omega)), hH.cg hL.2.2.1 (fun q hq => y4 q (by omega)), hn, ht, hs0, hs1, e0, e1, (y4 0 (by omega)).trans f0, (y4 1 (by omega)).trans f1, (y4 2 (by omega)).trans f2, hT.cg (fun q hq => y4 q (by omega)), hN.cg (fun q hq => y4 q (by omega)), hP.cg (fun q hq => y4 q (by omega)), hB.cg (fun q hq => y4 q (by omega)), row_fr hL.2.1 hL.2.2.1 hF a1 a2 a3⟩, hI⟩
theorem w_set {g : Gp} {M : Mem} (hA : GI g) (hW : World g M) (l : Launch) (a1 a2 a3 : Int32) : ∃ P1, Met l yX11_set (wsM yX11_set cX11_set 4 (some .int)) (rmD 3 0 0) (Pre g M [.ref (gA g 0), .int a1, .int a2, .int a3]) (Qi g P1) 0 0 (gF g) ∧ ∀ r1 M1, P1 r1 M1 → (∃ fs, M1 (gA g 46) = some (.inr (12, fs))) ∧ ∃ P2, Met l yX12_set (wsM yX12_set cX12_set 6 (some .int)) (rmD 3 0 0) (Pre g M1 [.ref (gA g 46), .int a1, .int a2, .int a3]) (Qi g P2) 0 0 (gF g) ∧ ∀ r2 M2, P2 r2 M2 → r1 = r2 ∧ World g M2 := by
  obtain ⟨ik, tc, tf, r, kr, ra, sa, tz, tn, m0, m1, m2, m3, m4, m5, m6, m7, m9, m10, m11, f, im, fr, by_, tr, ha, wo, hM, hC, hR, hI⟩ := hW
  obtain ⟨L, k, t, s0, s1, hL, hK, hH, hn, ht, hs0, hs1, e0, e1, f0, f1, f2, hT, hN, hP, hB, hF⟩ := id hR
  obtain ⟨y1, y3, y4⟩ := set_tie hL a1 a2 a3
  refine ⟨_, c_X11_set l g _ ik (rE r) a1 a2 a3 (hM.1 0 (by decide)) (hM.1 3 (by decide)) (hM.1 5 (by decide)) (hM.1 6 (by decide)) (hM.1 7 (by decide)) hM.2.2.1, fun r1 M1 hP1 => ?_⟩
  have h1 := WM.eq hP1.2 (WM.put hA (WM.put hA hM 6 (by decide) noA) 7 (by decide) noA)
  refine ⟨⟨_, h1.1 46 (by decide)⟩, _, c_X12_set l g _ m0 m1 m2 m3 m4 m5 m6 m7 tc m9 m10 m11 f L a1 a2 a3 (h1.1 46 (by decide)) (h1.1 47 (by decide)) hL.1 hL.2.2.1, fun r2 M2 hP2 => ?_⟩
  have h2 := WM.eq hP2.2 (WM.put hA h1 47 (by decide) noA)
  exact ⟨hP1.1.symm.trans ((y1).trans hP2.1), ik, tc, tf, (enRP (rE r) (opSet (rE r) a1 a2 a3).2.1 (opSet (rE r) a1 a2 a3).2.2, r.2.1, r.2.2.1, r.2.2.2.1, r.2.2.2.2), kr, ra, sa, tz, tn, m0, m1, m2, m3, m4, m5, m6, m7, m9, m10, m11, (mSet f L a1 a2 a3).2, im, fr, by_, tr, ha, wo, h2.to (by apply all55 <;> rfl) (fun h => h) (fun h => h) (fun h => h) (fun h => h), hC, ⟨L, k, t, s0, s1, y3, hK.cg (fun q hq => y4 q (by omega)), hH.cg hL.2.2.1 (fun q hq => y4 q (by omega)), hn, ht, hs0, hs1, e0, e1, (y4 0 (by omega)).trans f0, (y4 1 (by omega)).trans f1, (y4 2 (by omega)).trans f2, hT.cg (fun q hq => y4 q (by omega)), hN.cg (fun q hq => y4 q (by omega)), hP.cg (fun q hq => y4 q (by omega)), hB.cg (fun q hq => y4 q (by omega)), hF⟩, hI⟩
theorem w_hide {g : Gp} {M : Mem} (hA : GI g) (hW : World g M) (l : Launch) (a1 a2 : Int32) : ∃ P1, Met l yX11_hide (wsM yX11_hide cX11_hide 4 (some .int)) (rmD 2 0 0) (Pre g M [.ref (gA g 0), .int a1, .int a2]) (Qi g P1) 0 0 (gF g) ∧ ∀ r1 M1, P1 r1 M1 → (∃ fs, M1 (gA g 46) = some (.inr (12, fs))) ∧ ∃ P2, Met l yX12_hide (wsM yX12_hide cX12_hide 4 (some .int)) (rmD 3 0 0) (Pre g M1 [.ref (gA g 46), .int a1, .int a2]) (Qi g P2) 0 0 (gF g) ∧ ∀ r2 M2, P2 r2 M2 → r1 = r2 ∧ World g M2 := by
  obtain ⟨ik, tc, tf, r, kr, ra, sa, tz, tn, m0, m1, m2, m3, m4, m5, m6, m7, m9, m10, m11, f, im, fr, by_, tr, ha, wo, hM, hC, hR, hI⟩ := hW
  obtain ⟨L, k, t, s0, s1, hL, hK, hH, hn, ht, hs0, hs1, e0, e1, f0, f1, f2, hT, hN, hP, hB, hF⟩ := id hR
  obtain ⟨y1, y3, y4⟩ := hide_tie hL.2.1 hL.2.2.1 hH a1 a2
  refine ⟨_, c_X11_hide l g _ ik (rE r) a1 a2 (hM.1 0 (by decide)) (hM.1 3 (by decide)) (hM.1 5 (by decide)) hM.2.2.1, fun r1 M1 hP1 => ?_⟩
  have h1 := WM.eq hP1.2 (WM.put hA hM 3 (by decide) (noO (by decide)))
  refine ⟨⟨_, h1.1 46 (by decide)⟩, _, c_X12_hide l g _ m0 m1 m2 m3 m4 m5 m6 m7 tc m9 m10 m11 f L a1 a2 (h1.1 46 (by decide)) (h1.1 47 (by decide)) hL.1 hL.2.2.1, fun r2 M2 hP2 => ?_⟩
  have h2 := WM.eq hP2.2 (WM.put hA h1 47 (by decide) noA)
  exact ⟨hP1.1.symm.trans ((y1).trans hP2.1), ik, tc, tf, (enHi (rE r) (opHide (rE r) a1 a2).2, r.2.1, r.2.2.1, r.2.2.2.1, r.2.2.2.2), kr, ra, sa, tz, tn, m0, m1, m2, m3, m4, m5, m6, m7, m9, m10, m11, (mHide f L a1 a2).2, im, fr, by_, tr, ha, wo, h2.to (by apply all55 <;> rfl) (fun h => h) (fun h => h) (fun h => h) (fun h => h), hC, ⟨L, k, t, s0, s1, hL.cg (fun q hq => y4 q (by omega)), hK.cg (fun q hq => y4 q (by omega)), y3, hn, ht, hs0, hs1, e0, e1, (y4 0 (by omega)).trans f0, (y4 1 (by omega)).trans f1, (y4 2 (by omega)).trans f2, hT.cg (fun q hq => y4 q (by omega)), hN.cg (fun q hq => y4 q (by omega)), hP.cg (fun q hq => y4 q (by omega)), hB.cg (fun q hq => y4 q (by omega)), hide_fr hL.2.1 hL.2.2.1 hF a1 a2⟩, hI⟩
theorem w_pass {g : Gp} {M : Mem} (hA : GI g) (hW : World g M) (l : Launch) (a1 : Int32) : ∃ P1, Met l yX11_pass (wsM yX11_pass cX11_pass 5 (some .int)) (rmD 7 0 0) (Pre g M [.ref (gA g 0), .int a1]) (Qi g P1) 0 0 (gF g) ∧ ∀ r1 M1, P1 r1 M1 → (∃ fs, M1 (gA g 46) = some (.inr (12, fs))) ∧ ∃ P2, Met l yX12_pass (wsM yX12_pass cX12_pass 3 (some .int)) (rmD 6 0 0) (Pre g M1 [.ref (gA g 46), .int a1]) (Qi g P2) 0 0 (gF g) ∧ ∀ r2 M2, P2 r2 M2 → r1 = r2 ∧ World g M2 := by
  obtain ⟨ik, tc, tf, r, kr, ra, sa, tz, tn, m0, m1, m2, m3, m4, m5, m6, m7, m9, m10, m11, f, im, fr, by_, tr, ha, wo, hM, hC, hR, hI⟩ := hW
  obtain ⟨L, k, t, s0, s1, hL, hK, hH, hn, ht, hs0, hs1, e0, e1, f0, f1, f2, hT, hN, hP, hB, hF⟩ := id hR
  obtain ⟨y1, t1, v0_, v1_, z1, z2, z3, z4, z5, z6, z7, z8, z9, y4⟩ := pass_tie hL hK hH hn ht hs0 hs1 e0 e1 f0 f1 f2 a1
  refine ⟨_, c_X11_pass l g _ ik (rE r) a1 (hM.1 0 (by decide)) (hM.1 3 (by decide)) (hM.1 4 (by decide)) (hM.1 5 (by decide)) (hM.1 6 (by decide)) (hM.1 7 (by decide)) (hM.1 8 (by decide)) (hM.1 9 (by decide)) (hM.1 10 (by decide)) (hM.1 11 (by decide)) (hM.1 12 (by decide)) hM.2.2.1, fun r1 M1 hP1 => ?_⟩
  have h1 := WM.eq hP1.2 (WM.put hA (WM.put hA hM 4 (by decide) noA) 3 (by decide) (noO (by decide)))
  refine ⟨⟨_, h1.1 46 (by decide)⟩, _, c_X12_pass l g _ m0 m1 m2 m3 m4 m5 m6 m7 tc m9 m10 m11 f L t by_ tr a1 (h1.1 46 (by decide)) (h1.1 47 (by decide)) (h1.1 50 (by decide)) (h1.1 51 (by decide)) (hL.ok hK) f0 (by omega), fun r2 M2 hP2 => ?_⟩
  obtain ⟨v0, v1, v2, hP2⟩ := hP2
  have h2 := WM.eq hP2.2 (WM.put hA (WM.put hA (WM.put hA (WM.put hA h1 46 (by decide) (noO (by decide))) 50 (by decide) noA) 51 (by decide) noA) 47 (by decide) noA)
  exact ⟨hP1.1.symm.trans ((y1).trans hP2.1), ik, tc, tf, (enNS (rE r) (opPass (rE r) a1).2.1 (opPass (rE r) a1).2.2, r.2.1, r.2.2.1, r.2.2.2.1, r.2.2.2.2), kr, ra, sa, tz, tn, m0, m1, v0, m3, m4, m5, m6, m7, m9, m10, m11, (mPass f L t a1).2, im, fr, v1, v2, ha, wo, h2.to (by apply all55 <;> rfl) (fun h => h) (fun h => h) (fun h => h) (fun h => h), hC, ⟨L, k, t1, v0_, v1_, hL.cg (fun q hq => y4 q (by omega)), hK.cg (fun q hq => y4 q (by omega)), hH.cg hL.2.2.1 (fun q hq => y4 q (by omega)), z4, z1, z2, z3, z5, z6, z7, z8, z9, hT.cg (fun q hq => y4 q (by omega)), hN.cg (fun q hq => y4 q (by omega)), hP.cg (fun q hq => y4 q (by omega)), hB.cg (fun q hq => y4 q (by omega)), hF⟩, hI⟩
