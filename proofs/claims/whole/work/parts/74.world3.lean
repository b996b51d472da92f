theorem ta_0 {af f : Nat → Int32} (h : f 14 = 0) : TiTa 0 af f := ⟨h, Nat.zero_le _, fun i hi => absurd hi (Nat.not_lt_zero i)⟩
theorem w_sky {g : Gp} {M : Mem} (hA : GI g) (hW : World g M) (l : Launch) : ∃ P1, Met l yX11_sky (wsM yX11_sky cX11_sky 2 (some .int)) (rmD 25 0 0) (Pre g M [.ref (gA g 0)]) (Qi g P1) 0 0 (gF g) ∧ ∀ r1 M1, P1 r1 M1 → (∃ fs, M1 (gA g 46) = some (.inr (12, fs))) ∧ ∃ P2, Met l yX12_sky (wsM yX12_sky cX12_sky 2 (some .int)) (rmD 27 0 0) (Pre g M1 [.ref (gA g 46)]) (Qi g P2) 0 0 (gF g) ∧ ∀ r2 M2, P2 r2 M2 → r1 = r2 ∧ World g M2 := by
  obtain ⟨ik, tc, tf, r, kr, ra, sa, tz, tn, m0, m1, m2, m3, m4, m5, m6, m7, m9, m10, m11, f, im, fr, by_, tr, ha, wo, hM, hC, hR, hI⟩ := hW
  obtain ⟨L, k, t, s0, s1, hL, hK, hH, hn, ht, hs0, hs1, e0, e1, f0, f1, f2, hT, hN, hP, hB, hF⟩ := id hR
  rcases Nat.lt_or_ge k 5 with hk5 | hk5
  · have q5 : eSk (rE r) < 5 := by
      rw [hK.1]
      exact nI_lt (b := 5) hk5 (by decide)
    obtain ⟨⟨y1, y2, n, y3, y4, y5⟩ | ⟨y1, y2, y5⟩, z1, z2⟩ := sky_tie hK hk5 hT ra sa (eF1 (rE r)) (eF2 (rE r)) (eF3 (rE r))
    · obtain ⟨Q, hQ⟩ : ∃ Q, rdN (nI (rT r)) (rTf r) ra sa = Q := ⟨_, rfl⟩
      refine ⟨_, c_X11_sky_g l g _ ik (eNi (rE r)) (nI (eL (rE r))) (eSk (rE r)) (eHi (rE r)) (nI (rT r)) (rTf r) ra sa (nI (eZ (rE r))) (eTu (rE r)) (eCl (rE r)) (eF1 (rE r)) (eF2 (rE r)) (eF3 (rE r)) (hM.1 0 (by decide)) (hM.1 3 (by decide)) (hM.1 39 (by decide)) (hM.1 13 (by decide)) (hM.1 14 (by decide)) (hM.1 40 (by decide)) (hM.1 41 (by decide)) (hM.1 42 (by decide)) (hM.1 43 (by decide)) (hM.1 9 (by decide)) (hM.1 10 (by decide)) (hM.1 11 (by decide)) (hM.1 12 (by decide)) q5 y1, fun r1 M1 hP1 => ?_⟩
      rw [hQ] at hP1 y1 y3 y5
      have e5 : eSk (rE r) + 1 = nI (k + 1) := by
        rw [hK.1]
        exact nI_add k 1
      rw [e5, y3] at hP1
      have h1 := WM.eq hP1.2 (WM.put hA (WM.put hA (WM.put hA (WM.put hA (WM.put hA (WM.put hA (WM.put hA (WM.put hA (WM.put hA (WM.put hA (WM.put hA hM 39 (by decide) (noO (by decide))) 40 (by decide) (noO (by decide))) 41 (by decide) noA) 42 (by decide) noA) 43 (by decide) noA) 13 (by decide) (noO (by decide))) 9 (by decide) (noO (by decide))) 10 (by decide) noA) 11 (by decide) noA) 12 (by decide) noA) 3 (by decide) (noO (by decide)))
      refine ⟨⟨_, h1.1 46 (by decide)⟩, _, c_X12_sky l g _ m0 m1 m2 m3 m4 m5 m6 m7 tc m9 m10 m11 k (rT r) f (h1.1 46 (by decide)) (h1.1 47 (by decide)) hK.2.1 hk5 hT.1 hT.2.1, fun r2 M2 hP2 => ?_⟩
      have h2 := WM.eq hP2.2 (WM.put hA (WM.put hA h1 46 (by decide) (noO (by decide))) 47 (by decide) noA)
      exact ⟨hP1.1.symm.trans (hK.1.trans (y2.symm.trans hP2.1)), ik, tc, tf, (enSk (rE r) (k + 1) n (zT Q.2) (zC Q.2) (fCopy 100 100 (zA Q.2) (eF1 (rE r))) (fCopy 100 100 (zB Q.2) (eF2 (rE r))) (fCopy 100 100 (zD Q.2) (eF3 (rE r))), (0, rTf r), r.2.2.1, r.2.2.2.1, r.2.2.2.2), kr, Q.1, ((nI n, zT Q.2, zC Q.2), zA Q.2, zB Q.2, zD Q.2), tz, tn, m0, m1, m2, _, _, _, _, 0, m9, m10, m11, (mSky f (rT r) k).2, im, fr, by_, tr, ha, wo, h2.to (by apply all55 <;> rfl) (fun h => ⟨h.1, y4, h.2.2⟩) (fun h => h) (fun h => h) (fun h => h), hC, ⟨L, k + 1, t, s0, s1, hL.cg (fun q hq => z2 q (by omega) (by omega) (by omega) (by omega)), y5, hH.cg hL.2.2.1 (fun q hq => z2 q (by omega) (by omega) (by omega) (by omega)), hn, ht, hs0, hs1, e0, e1, (z2 0 (by omega) (by omega) (by omega) (by omega)).trans f0, (z2 1 (by omega) (by omega) (by omega) (by omega)).trans f1, (z2 2 (by omega) (by omega) (by omega) (by omega)).trans f2, ta_0 z1, hN.cg (fun q hq => z2 q (by omega) (by omega) (by omega) (by omega)), hP.cg (fun q hq => z2 q (by omega) (by omega) (by omega) (by omega)), hB.cg (fun q hq => z2 q (by omega) (by omega) (by omega) (by omega)), hF⟩, hI⟩
    · obtain ⟨Q, hQ⟩ : ∃ Q, rdN (nI (rT r)) (rTf r) ra sa = Q := ⟨_, rfl⟩
      refine ⟨_, c_X11_sky_b l g _ ik (eNi (rE r)) (nI (eL (rE r))) (eSk (rE r)) (eHi (rE r)) (nI (rT r)) (rTf r) ra sa (nI (eZ (rE r))) (eTu (rE r)) (eCl (rE r)) (eF1 (rE r)) (eF2 (rE r)) (eF3 (rE r)) (hM.1 0 (by decide)) (hM.1 3 (by decide)) (hM.1 39 (by decide)) (hM.1 13 (by decide)) (hM.1 14 (by decide)) (hM.1 40 (by decide)) (hM.1 41 (by decide)) (hM.1 42 (by decide)) (hM.1 43 (by decide)) (hM.1 9 (by decide)) (hM.1 10 (by decide)) (hM.1 11 (by decide)) (hM.1 12 (by decide)) q5 y1, fun r1 M1 hP1 => ?_⟩
      rw [hQ] at hP1 y1 y2
      have h1 := WM.eq hP1.2 (WM.put hA (WM.put hA (WM.put hA (WM.put hA (WM.put hA (WM.put hA hM 39 (by decide) (noO (by decide))) 40 (by decide) (noO (by decide))) 41 (by decide) noA) 42 (by decide) noA) 43 (by decide) noA) 13 (by decide) (noO (by decide)))
      refine ⟨⟨_, h1.1 46 (by decide)⟩, _, c_X12_sky l g _ m0 m1 m2 m3 m4 m5 m6 m7 tc m9 m10 m11 k (rT r) f (h1.1 46 (by decide)) (h1.1 47 (by decide)) hK.2.1 hk5 hT.1 hT.2.1, fun r2 M2 hP2 => ?_⟩
      have h2 := WM.eq hP2.2 (WM.put hA (WM.put hA h1 46 (by decide) (noO (by decide))) 47 (by decide) noA)
      exact ⟨hP1.1.symm.trans (y2.symm.trans hP2.1), ik, tc, tf, (rE r, (0, rTf r), r.2.2.1, r.2.2.2.1, r.2.2.2.2), kr, Q.1, Q.2, tz, tn, m0, m1, m2, _, _, _, _, 0, m9, m10, m11, (mSky f (rT r) k).2, im, fr, by_, tr, ha, wo, h2.to (by apply all55 <;> rfl) (fun h => h) (fun h => h) (fun h => h) (fun h => h), hC, ⟨L, k, t, s0, s1, hL.cg (fun q hq => z2 q (by omega) (by omega) (by omega) (by omega)), y5, hH.cg hL.2.2.1 (fun q hq => z2 q (by omega) (by omega) (by omega) (by omega)), hn, ht, hs0, hs1, e0, e1, (z2 0 (by omega) (by omega) (by omega) (by omega)).trans f0, (z2 1 (by omega) (by omega) (by omega) (by omega)).trans f1, (z2 2 (by omega) (by omega) (by omega) (by omega)).trans f2, ta_0 z1, hN.cg (fun q hq => z2 q (by omega) (by omega) (by omega) (by omega)), hP.cg (fun q hq => z2 q (by omega) (by omega) (by omega) (by omega)), hB.cg (fun q hq => z2 q (by omega) (by omega) (by omega) (by omega)), hF⟩, hI⟩
  · obtain rfl : k = 5 := by
      have := hK.2.2.1
      omega
    have q5 : ¬ eSk (rE r) < 5 := by
      rw [hK.1]
      decide
    refine ⟨_, c_X11_sky_f l g _ ik (eNi (rE r)) (nI (eL (rE r))) (eSk (rE r)) (eHi (rE r)) (hM.1 0 (by decide)) (hM.1 3 (by decide)) q5, fun r1 M1 hP1 => ?_⟩
    have h1 := WM.eq hP1.2 hM
    refine ⟨⟨_, h1.1 46 (by decide)⟩, _, c_X12_sky_f l g _ m0 m1 m2 m3 m4 m5 m6 m7 tc m9 m10 m11 f (h1.1 46 (by decide)) (h1.1 47 (by decide)) hK.2.1, fun r2 M2 hP2 => ?_⟩
    have h2 := WM.eq hP2.2 h1
    exact ⟨hP1.1.symm.trans hP2.1, ik, tc, tf, r, kr, ra, sa, tz, tn, m0, m1, m2, m3, m4, m5, m6, m7, m9, m10, m11, f, im, fr, by_, tr, ha, wo, h2, hC, hR, hI⟩
set_option maxHeartbeats 4000000 in
theorem w_light {g : Gp} {M : Mem} (hA : GI g) (hW : World g M) (l : Launch) (a1 a2 a3 a4 : Int32) : ∃ P1, Met l yX11_light (wsM yX11_light cX11_light 5 (some .int)) (rmD 7 1 4) (Pre g M [.ref (gA g 0), .int a1, .int a2, .int a3, .int a4]) (Qi g P1) 1 4 (gF g) ∧ ∀ r1 M1, P1 r1 M1 → (∃ fs, M1 (gA g 46) = some (.inr (12, fs))) ∧ ∃ P2, Met l yX12_light (wsM yX12_light cX12_light 7 (some .int)) (rmD 2 0 0) (Pre g M1 [.ref (gA g 46), .int a1, .int a2, .int a3, .int a4]) (Qi g P2) 0 0 (gF g) ∧ ∀ r2 M2, P2 r2 M2 → r1 = r2 ∧ World g M2 := by
  obtain ⟨ik, tc, tf, r, kr, ra, sa, tz, tn, m0, m1, m2, m3, m4, m5, m6, m7, m9, m10, m11, f, im, fr, by_, tr, ha, wo, hM, hC, hR, hI⟩ := hW
  obtain ⟨L, k, t, s0, s1, hL, hK, hH, hn, ht, hs0, hs1, e0, e1, f0, f1, f2, hT, hN, hP, hB, hF⟩ := id hR
  refine ⟨_, c_X11_light l g _ ik (rE r) a1 a2 a3 a4 (hM.1 0 (by decide)) (hM.1 3 (by decide)) (hM.1 5 (by decide)) (hM.1 6 (by decide)) (hM.1 7 (by decide)) hM.2.2.1, fun r1 M1 hP1 => ?_⟩
  rcases hP1 with ⟨c1, c2, c3⟩ | ⟨c1, c2, a, ha9, c3⟩
  · have h1 := WM.eq c3 hM
    obtain ⟨y1, y2⟩ := light_no (f := f) hL.2.1 hL.2.2.1 c1
    refine ⟨⟨_, h1.1 46 (by decide)⟩, _, c_X12_light l g _ m0 m1 m2 m3 m4 m5 m6 m7 tc m9 m10 m11 f L a1 a2 a3 a4 (h1.1 46 (by decide)) (h1.1 47 (by decide)) hL.1 hL.2.2.1, fun r2 M2 hP2 => ?_⟩
    rw [y2] at hP2
    have h2 := WM.eq hP2.2 (WM.put hA h1 47 (by decide) noA)
    exact ⟨c2.symm.trans (y1.trans hP2.1), ik, tc, tf, r, kr, ra, sa, tz, tn, m0, m1, m2, m3, m4, m5, m6, m7, m9, m10, m11, f, im, fr, by_, tr, ha, wo, h2.to (by apply all55 <;> rfl) (fun h => h) (fun h => h) (fun h => h) (fun h => h), hC, hR, hI⟩
  · obtain ⟨kd, hkd, rfl, y1, y2, y3, y5, y4⟩ := light_yes hL hH hF c1 a
    have hne : ∀ i, i < 55 → a ≠ gA g i := fun i hi q => by
      have := hM.1 i hi
      rw [← q, ha9] at this
      cases this
    have e8 : nI (eL (rE r)) + 1 = nI (eL (rE r) + 1) := nI_add _ 1
    unfold lightM at c3
    rw [e8, nI_clamp (show kd < 2147483648 by omega)] at c3
    have hS : M1 a = some (starC g kd (nI (eL (rE r))) a2) := by
      rw [← c3]
      exact mup_r (hne 3 (by decide)) (mup_r (hne 7 (by decide)) (mup_r (hne 6 (by decide)) (mup_r (hne 5 (by decide)) (mup_s _ _ _))))
    have h1 := WM.eq c3 (WM.put hA (WM.put hA (WM.put hA (WM.put hA (hM.star ha9) 5 (by decide) noA) 6 (by decide) noA) 7 (by decide) noA) 3 (by decide) (noO (by decide)))
    have h1' : WM g M1 _ (enLi (rE r) a kd a2 a3 a4) (rE kr) := h1.to (fun j hj => rfl) (fun h => ⟨by have := hL.2.1; show eL (rE r) + 1 ≤ 6; omega, h.2.1, fun j hj => by
        have hj : j < eL (rE r) + 1 := hj
        by_cases c : j = eL (rE r)
        · subst c
          refine ⟨?_, ?_, ?_⟩
          · show va_up (eS (rE r)) (eL (rE r)) (some a) (eL (rE r)) = some (if eL (rE r) = eL (rE r) then a else eSt (rE r) (eL (rE r)))
            rw [if_pos rfl]
            unfold va_up
            rw [if_pos rfl]
          · show M1 (if eL (rE r) = eL (rE r) then a else eSt (rE r) (eL (rE r))) = some (starC g (if eL (rE r) = eL (rE r) then kd else eKd (rE r) (eL (rE r))) (nI (eL (rE r))) (upd (eVv (rE r)) (eL (rE r)) a2 (eL (rE r))))
            rw [if_pos rfl, if_pos rfl, upd_eq]
            exact hS
          · show (if eL (rE r) = eL (rE r) then kd else eKd (rE r) (eL (rE r))) ≤ 6
            rw [if_pos rfl]
            exact hkd
        · obtain ⟨u1, u2, u3⟩ := h.2.2 j (by omega)
          refine ⟨?_, ?_, ?_⟩
          · show va_up (eS (rE r)) (eL (rE r)) (some a) j = some (if j = eL (rE r) then a else eSt (rE r) j)
            rw [if_neg c]
            unfold va_up
            rw [if_neg c]
            exact u1
          · show M1 (if j = eL (rE r) then a else eSt (rE r) j) = some (starC g (if j = eL (rE r) then kd else eKd (rE r) j) (nI j) (upd (eVv (rE r)) (eL (rE r)) a2 j))
            rw [if_neg c, if_neg c, upd_ne c]
            exact u2
          · show (if j = eL (rE r) then kd else eKd (rE r) j) ≤ 6
            rw [if_neg c]
            exact u3⟩) (fun h j hj => by
        show StQ g M1 (va_up (eS (rE r)) (eL (rE r)) (some a) j)
        unfold va_up
        by_cases c : j = eL (rE r)
        · rw [if_pos c]
          exact StQ.one hS hkd
        · rw [if_neg c]
          exact h j hj) (fun h => h) (fun h => h)
    refine ⟨⟨_, h1.1 46 (by decide)⟩, _, c_X12_light l g _ m0 m1 m2 m3 m4 m5 m6 m7 tc m9 m10 m11 f L (nI kd) a2 a3 a4 (h1'.1 46 (by decide)) (h1'.1 47 (by decide)) hL.1 hL.2.2.1, fun r2 M2 hP2 => ?_⟩
    have h2 := WM.eq hP2.2 (WM.put hA h1' 47 (by decide) noA)
    exact ⟨c2.symm.trans ((congrArg nI hL.2.1).trans (y2.symm.trans hP2.1)), ik, tc, tf, (enLi (rE r) a kd a2 a3 a4, r.2.1, r.2.2.1, r.2.2.2.1, r.2.2.2.2), kr, ra, sa, tz, tn, m0, m1, m2, m3, m4, m5, m6, m7, m9, m10, m11, (mLight f L (nI kd) a2 a3 a4).2, im, fr, by_, tr, ha, wo, h2.to (by apply all55 <;> rfl) (fun h => h) (fun h => h) (fun h => h) (fun h => h), hC, ⟨L + 1, k, t, s0, s1, y3, hK.cg (fun q hq => y4 q (by omega) (by omega) (by omega)), y5, hn, ht, hs0, hs1, e0, e1, (y4 0 (by omega) (by omega) (by omega)).trans f0, (y4 1 (by omega) (by omega) (by omega)).trans f1, (y4 2 (by omega) (by omega) (by omega)).trans f2, hT.cg (fun q hq => y4 q (by omega) (by omega) (by omega)), hN.cg (fun q hq => y4 q (by omega) (by omega) (by omega)), hP.cg (fun q hq => y4 q (by omega) (by omega) (by omega)), hB.cg (fun q hq => y4 q (by omega) (by omega) (by omega)), light_fr hF⟩, hI⟩
set_option maxHeartbeats 4000000 in
theorem w_image {g : Gp} {M : Mem} (hA : GI g) (hW : World g M) (l : Launch) : ∃ P1, Met l yX11_image (wsM yX11_image cX11_image 1 (some .int)) (rmD 5 0 0) (Pre g M [.ref (gA g 0)]) (Qi g P1) 0 0 (gF g) ∧ ∀ r1 M1, P1 r1 M1 → (∃ fs, M1 (gA g 46) = some (.inr (12, fs))) ∧ ∃ P2, Met l yX12_image (wsM yX12_image cX12_image 2 (some .int)) (rmD 1 0 0) (Pre g M1 [.ref (gA g 46)]) (Qi g P2) 0 0 (gF g) ∧ ∀ r2 M2, P2 r2 M2 → r1 = r2 ∧ World g M2 := by
  obtain ⟨ik, tc, tf, r, kr, ra, sa, tz, tn, m0, m1, m2, m3, m4, m5, m6, m7, m9, m10, m11, f, im, fr, by_, tr, ha, wo, hM, hC, hR, hI⟩ := hW
  obtain ⟨L, k, t, s0, s1, hL, hK, hH, hn, ht, hs0, hs1, e0, e1, f0, f1, f2, hT, hN, hP, hB, hF⟩ := id hR
  refine ⟨_, c_X11_image l g _ ik (eNi (rE r)) (nI (eL (rE r))) (eSk (rE r)) (eHi (rE r)) (nI (eZ (rE r))) (eTu (rE r)) (eCl (rE r)) (nI (rT r)) (nI (rN r)) (nI (rP r)) (nI (rB r)) (eSe (rE r)) (eRo (rE r)) (ePh (rE r)) (eRw (rE r)) (eF1 (rE r)) (eF2 (rE r)) (eF3 (rE r)) (rTf r) (rNf r) (rPf r) (rBf r) (eS (rE r)) (eNi (rE kr)) (nI (eL (rE kr))) (eSk (rE kr)) (eHi (rE kr)) (nI (eZ (rE kr))) (eTu (rE kr)) (eCl (rE kr)) (nI (rT kr)) (nI (rN kr)) (nI (rP kr)) (nI (rB kr)) (eSe (rE kr)) (eRo (rE kr)) (ePh (rE kr)) (eRw (rE kr)) (eF1 (rE kr)) (eF2 (rE kr)) (eF3 (rE kr)) (rTf kr) (rNf kr) (rPf kr) (rBf kr) (eS (rE kr)) (hM.1 0 (by decide)) (hM.1 21 (by decide)) (hM.1 22 (by decide)) (hM.1 23 (by decide)) (hM.1 24 (by decide)) (hM.1 25 (by decide)) (hM.1 26 (by decide)) (hM.1 27 (by decide)) (hM.1 28 (by decide)) (hM.1 29 (by decide)) (hM.1 30 (by decide)) (hM.1 31 (by decide)) (hM.1 32 (by decide)) (hM.1 33 (by decide)) (hM.1 34 (by decide)) (hM.1 35 (by decide)) (hM.1 36 (by decide)) (hM.1 37 (by decide)) (hM.1 38 (by decide)) (hM.1 3 (by decide)) (hM.1 4 (by decide)) (hM.1 5 (by decide)) (hM.1 6 (by decide)) (hM.1 7 (by decide)) (hM.1 8 (by decide)) (hM.1 9 (by decide)) (hM.1 10 (by decide)) (hM.1 11 (by decide)) (hM.1 12 (by decide)) (hM.1 13 (by decide)) (hM.1 14 (by decide)) (hM.1 15 (by decide)) (hM.1 16 (by decide)) (hM.1 17 (by decide)) (hM.1 18 (by decide)) (hM.1 19 (by decide)) (hM.1 20 (by decide)) hM.2.2.2.1, fun r1 M1 hP1 => ?_⟩
  have h1 := WM.eq hP1.2 (WM.put hA (WM.put hA (WM.put hA (WM.put hA (WM.put hA (WM.put hA (WM.put hA (WM.put hA (WM.put hA (WM.put hA (WM.put hA (WM.put hA (WM.put hA (WM.put hA (WM.put hA (WM.put hA (WM.put hA (WM.put hA (WM.put hA hM 21 (by decide) (noO (by decide))) 23 (by decide) noA) 22 (by decide) noA) 24 (by decide) noA) 25 (by decide) noA) 26 (by decide) noA) 27 (by decide) (noO (by decide))) 28 (by decide) noA) 29 (by decide) noA) 30 (by decide) noA) 31 (by decide) (noO (by decide))) 32 (by decide) noA) 33 (by decide) (noO (by decide))) 34 (by decide) noA) 35 (by decide) (noO (by decide))) 36 (by decide) noA) 37 (by decide) (noO (by decide))) 38 (by decide) noA) 0 (by decide) (noO (by decide)))
  refine ⟨⟨_, h1.1 46 (by decide)⟩, _, c_X12_image l g _ m0 m1 m2 m3 m4 m5 m6 m7 tc m9 m10 m11 f im (h1.1 46 (by decide)) (h1.1 47 (by decide)) (h1.1 48 (by decide)), fun r2 M2 hP2 => ?_⟩
  have h2 := WM.eq hP2.2 (WM.put hA (WM.put hA h1 48 (by decide) noA) 46 (by decide) (noO (by decide)))
  exact ⟨hP1.1.symm.trans ((congrArg nI hL.2.1).trans (hL.1.symm.trans hP2.1)), 1, tc, tf, r, rCp r kr, ra, sa, tz, tn, m0, 1, m2, m3, m4, m5, m6, m7, m9, m10, m11, f, (mCp 929 f im), fr, by_, tr, ha, wo, h2.to (by apply all55 <;> rfl) (fun h => h) (fun h => h) (fun _ => h2.2.2.1.copy) (fun _ => StQ.copy h2.2.2.2.1), hC, hR, Or.inr ⟨rfl, rfl, hR.copy (fun q hq => if_pos hq)⟩⟩
set_option maxHeartbeats 4000000 in
theorem w_undo {g : Gp} {M : Mem} (hA : GI g) (hW : World g M) (l : Launch) : ∃ P1, Met l yX11_undo (wsM yX11_undo cX11_undo 1 (some .int)) (rmD 5 0 0) (Pre g M [.ref (gA g 0)]) (Qi g P1) 0 0 (gF g) ∧ ∀ r1 M1, P1 r1 M1 → (∃ fs, M1 (gA g 46) = some (.inr (12, fs))) ∧ ∃ P2, Met l yX12_undo (wsM yX12_undo cX12_undo 2 (some .int)) (rmD 1 0 0) (Pre g M1 [.ref (gA g 46)]) (Qi g P2) 0 0 (gF g) ∧ ∀ r2 M2, P2 r2 M2 → r1 = r2 ∧ World g M2 := by
  obtain ⟨ik, tc, tf, r, kr, ra, sa, tz, tn, m0, m1, m2, m3, m4, m5, m6, m7, m9, m10, m11, f, im, fr, by_, tr, ha, wo, hM, hC, hR, hI⟩ := hW
  obtain ⟨L, k, t, s0, s1, hL, hK, hH, hn, ht, hs0, hs1, e0, e1, f0, f1, f2, hT, hN, hP, hB, hF⟩ := id hR
  rcases hI with ⟨rfl, rfl⟩ | ⟨rfl, rfl, hR2⟩
  · refine ⟨_, c_X11_undo_0 l g _ (hM.1 0 (by decide)), fun r1 M1 hP1 => ?_⟩
    have h1 := WM.eq hP1.2 hM
    refine ⟨⟨_, h1.1 46 (by decide)⟩, _, c_X12_undo_0 l g _ m0 m2 m3 m4 m5 m6 m7 tc m9 m10 m11 (h1.1 46 (by decide)), fun r2 M2 hP2 => ?_⟩
    have h2 := WM.eq hP2.2 h1
    exact ⟨hP1.1.symm.trans hP2.1, 0, tc, tf, r, kr, ra, sa, tz, tn, m0, 0, m2, m3, m4, m5, m6, m7, m9, m10, m11, f, im, fr, by_, tr, ha, wo, h2, hC, hR, Or.inl ⟨rfl, rfl⟩⟩
  · obtain ⟨L2, k2, t2, s2, s3, hL2, -⟩ := id hR2
    refine ⟨_, c_X11_undo_1 l g _ (eNi (rE kr)) (nI (eL (rE kr))) (eSk (rE kr)) (eHi (rE kr)) (nI (eZ (rE kr))) (eTu (rE kr)) (eCl (rE kr)) (nI (rT kr)) (nI (rN kr)) (nI (rP kr)) (nI (rB kr)) (eSe (rE kr)) (eRo (rE kr)) (ePh (rE kr)) (eRw (rE kr)) (eF1 (rE kr)) (eF2 (rE kr)) (eF3 (rE kr)) (rTf kr) (rNf kr) (rPf kr) (rBf kr) (eS (rE kr)) (eNi (rE r)) (nI (eL (rE r))) (eSk (rE r)) (eHi (rE r)) (nI (eZ (rE r))) (eTu (rE r)) (eCl (rE r)) (nI (rT r)) (nI (rN r)) (nI (rP r)) (nI (rB r)) (eSe (rE r)) (eRo (rE r)) (ePh (rE r)) (eRw (rE r)) (eF1 (rE r)) (eF2 (rE r)) (eF3 (rE r)) (rTf r) (rNf r) (rPf r) (rBf r) (eS (rE r)) (hM.1 0 (by decide)) (hM.1 3 (by decide)) (hM.1 4 (by decide)) (hM.1 5 (by decide)) (hM.1 6 (by decide)) (hM.1 7 (by decide)) (hM.1 8 (by decide)) (hM.1 9 (by decide)) (hM.1 10 (by decide)) (hM.1 11 (by decide)) (hM.1 12 (by decide)) (hM.1 13 (by decide)) (hM.1 14 (by decide)) (hM.1 15 (by decide)) (hM.1 16 (by decide)) (hM.1 17 (by decide)) (hM.1 18 (by decide)) (hM.1 19 (by decide)) (hM.1 20 (by decide)) (hM.1 21 (by decide)) (hM.1 22 (by decide)) (hM.1 23 (by decide)) (hM.1 24 (by decide)) (hM.1 25 (by decide)) (hM.1 26 (by decide)) (hM.1 27 (by decide)) (hM.1 28 (by decide)) (hM.1 29 (by decide)) (hM.1 30 (by decide)) (hM.1 31 (by decide)) (hM.1 32 (by decide)) (hM.1 33 (by decide)) (hM.1 34 (by decide)) (hM.1 35 (by decide)) (hM.1 36 (by decide)) (hM.1 37 (by decide)) (hM.1 38 (by decide)) hM.2.2.2.2.2, fun r1 M1 hP1 => ?_⟩
    have h1 := WM.eq hP1.2 (WM.put hA (WM.put hA (WM.put hA (WM.put hA (WM.put hA (WM.put hA (WM.put hA (WM.put hA (WM.put hA (WM.put hA (WM.put hA (WM.put hA (WM.put hA (WM.put hA (WM.put hA (WM.put hA (WM.put hA (WM.put hA hM 3 (by decide) (noO (by decide))) 5 (by decide) noA) 4 (by decide) noA) 6 (by decide) noA) 7 (by decide) noA) 8 (by decide) noA) 9 (by decide) (noO (by decide))) 10 (by decide) noA) 11 (by decide) noA) 12 (by decide) noA) 13 (by decide) (noO (by decide))) 14 (by decide) noA) 15 (by decide) (noO (by decide))) 16 (by decide) noA) 17 (by decide) (noO (by decide))) 18 (by decide) noA) 19 (by decide) (noO (by decide))) 20 (by decide) noA)
    refine ⟨⟨_, h1.1 46 (by decide)⟩, _, c_X12_undo_1 l g _ m0 m2 m3 m4 m5 m6 m7 tc m9 m10 m11 f im (h1.1 46 (by decide)) (h1.1 47 (by decide)) (h1.1 48 (by decide)), fun r2 M2 hP2 => ?_⟩
    have h2 := WM.eq hP2.2 (WM.put hA h1 47 (by decide) noA)
    exact ⟨hP1.1.symm.trans ((congrArg nI hL2.2.1).trans (hL2.1.symm.trans hP2.1)), 1, tc, tf, rCp kr r, kr, ra, sa, tz, tn, m0, 1, m2, m3, m4, m5, m6, m7, m9, m10, m11, (mCp 929 im f), im, fr, by_, tr, ha, wo, h2.to (by apply all55 <;> rfl) (fun _ => h2.2.2.2.2.1.copy) (fun _ => StQ.copy h2.2.2.2.2.2) (fun h => h) (fun h => h), hC, hR2.copy (fun q hq => if_pos hq), Or.inr ⟨rfl, rfl, hR2⟩⟩
