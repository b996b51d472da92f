/-! What nights have is not much; nights that go. -/
theorem toInt_nI {n : Nat} (h : n < 2147483648) : (nI n).toInt = (n : Int) := nI_toInt h
theorem bm_id {x : Int} (h1 : -2147483648 ≤ x) (h2 : x < 2147483648) : x.bmod (2 ^ 32) = x := Int.bmod_eq_of_le (by omega) (by omega)
theorem toInt_sub2 {P N : Nat} (h1 : P < 1073741824) (h2 : N < 1073741824) : (nI P - nI N).toInt = (P : Int) - N := by
  rw [Int32.toInt_sub, toInt_nI (by omega), toInt_nI (by omega), bm_id (by omega) (by omega)]
theorem clipN {P N : Nat} (h1 : P < 1073741824) (h2 : N < 1073741824) : (if 0 ≤ nI P - nI N then nI P - nI N else 0) = nI (P - N) := by
  by_cases c : N ≤ P
  · rw [if_pos (by rw [nI_subn c]; exact nI_pos' (by omega)), nI_subn c]
  · have hn : ¬ 0 ≤ nI P - nI N := by
      intro q
      have := Int32.le_iff_toInt_le.mp q
      rw [toInt_sub2 h1 h2, show (0 : Int32).toInt = 0 from by decide] at this
      omega
    rw [if_neg hn, show P - N = 0 by omega]
    rfl
/-- a number told by what it has above and below 0 -/
def Df (x : Int32) (a : Nat) : Prop := ∃ P N : Nat, P ≤ a ∧ N ≤ a ∧ x = nI P - nI N
theorem Df.w {x : Int32} {a b : Nat} (h : Df x a) (hb : a ≤ b) : Df x b := by
  obtain ⟨P, N, h1, h2, e⟩ := h
  exact ⟨P, N, by omega, by omega, e⟩
theorem Df.n {k : Nat} : Df (nI k) k := ⟨k, 0, Nat.le_refl _, Nat.zero_le _, (Int32.sub_zero (nI k)).symm⟩
theorem i32_pn (a b c d : Int32) : (a - b) + (c - d) = (a + c) - (b + d) := by grind
theorem i32_mn (a b c d : Int32) : (a - b) - (c - d) = (a + d) - (b + c) := by grind
theorem Df.add {x y : Int32} {a b : Nat} (h : Df x a) (g : Df y b) : Df (x + y) (a + b) := by
  obtain ⟨P, N, h1, h2, rfl⟩ := h
  obtain ⟨P', N', g1, g2, rfl⟩ := g
  exact ⟨P + P', N + N', by omega, by omega, by rw [i32_pn, nI_add, nI_add]⟩
theorem Df.sub {x y : Int32} {a b : Nat} (h : Df x a) (g : Df y b) : Df (x - y) (a + b) := by
  obtain ⟨P, N, h1, h2, rfl⟩ := h
  obtain ⟨P', N', g1, g2, rfl⟩ := g
  exact ⟨P + N', N + P', by omega, by omega, by rw [i32_mn, nI_add, nI_add]⟩
theorem Df.two {x : Int32} {a : Nat} (h : Df x a) : Df (2 * x) (a + a) := by
  rw [show 2 * x = x + x from by grind]
  exact h.add h
theorem Df.clip {x : Int32} {a : Nat} (h : Df x a) (ha : a < 1073741824) : ∃ u : Nat, u ≤ a ∧ (if 0 ≤ x then x else 0) = nI u := by
  obtain ⟨P, N, h1, h2, rfl⟩ := h
  exact ⟨P - N, by omega, clipN (by omega) (by omega)⟩
theorem neg_k {x : Int32} (h : x < 0) (h2 : -299 ≤ x) : ∃ k : Nat, k < 299 ∧ x = nI k - nI 299 := by
  have a1 := Int32.lt_iff_toInt_lt.mp h
  have a2 := Int32.le_iff_toInt_le.mp h2
  rw [show (0 : Int32).toInt = 0 from by decide] at a1
  rw [show (-299 : Int32).toInt = -299 from by decide] at a2
  refine ⟨(x.toInt + 299).toNat, by omega, Int32.toInt_inj.mp ?_⟩
  rw [toInt_sub2 (by omega) (by omega)]
  omega
theorem de_k : ∀ k : Nat, k < 299 → (nI k - nI 299 ≤ -10) → (if nI k - nI 299 ≤ -200 then 0 else -10 - (nI k - nI 299)) = nI (if k < 100 then 0 else 289 - k) := by decide +kernel
theorem di_k : ∀ k : Nat, k < 299 → (if -200 < nI k - nI 299 then 0 else -200 - (nI k - nI 299)) = nI (if k < 100 then 99 - k else 0) := by decide +kernel
theorem cDe_b {x : Int32} (h : x < 0) (h2 : -299 ≤ x) (h3 : x ≤ -10) (z : Int32) : Df (cDe x z) 189 ∧ Df (cDi x z) 99 := by
  obtain ⟨k, hk, rfl⟩ := neg_k h h2
  unfold cDe cDi
  by_cases c : z = 0
  · rw [if_pos c, if_pos c]
    exact ⟨⟨0, 0, by omega, by omega, by decide⟩, ⟨0, 0, by omega, by omega, by decide⟩⟩
  · rw [if_neg c, if_neg c, de_k k hk h3, di_k k hk]
    refine ⟨Df.n.w ?_, Df.n.w ?_⟩
    · split <;> omega
    · split <;> omega
theorem br_b {fa g : Nat → Int32} {n : Nat} (hO : ∀ i, i < n → okS (g i) (mTop g i)) : ∀ i, i ≤ n → Df (mBr fa g i).1 (288 * i) := fun i => by
  induction i with
  | zero => exact fun _ => ⟨0, 0, by omega, by omega, (show (0 : Int32) = nI 0 - nI 0 by decide)⟩
  | succ i ih =>
    intro hi
    have h := ih (by omega)
    obtain ⟨-, -, -, -, -, o5⟩ := hO i (by omega)
    show Df (mB1 fa (g i) (mTop g i) (mBr fa g i)).1 _
    unfold mB1
    by_cases c1 : g i < 0
    · rw [if_pos c1]
      by_cases c2 : g i = -1
      · rw [if_pos c2]; exact h.w (by omega)
      · rw [if_neg c2]
        by_cases c3 : g i ≤ -10
        · rw [if_pos c3]
          have hb := cDe_b c1 o5 c3 ((mBr fa g i).2 0)
          exact ((h.add hb.1).sub hb.2).w (by omega)
        · rw [if_neg c3]; exact h.w (by omega)
    · rw [if_neg c1]; exact h.w (by omega)
section MUCH
variable {en : En} {f : Nat → Int32} {L k : Nat}
theorem base_b (hk : TiK en f k) (j : Nat) (ho ni : Int32) : Df (mBase f j ho ni) 28800 := by
  rcases hk.2.2.2 with ⟨-, a2, -⟩ | ⟨a, n, tu, cl, -, b2, b3, -⟩
  · rw [mBase, if_pos a2]
    exact ⟨0, 0, by omega, by omega, by decide⟩
  · rw [mBase_h b2]
    exact (br_b b2.2.2.2.2.2.2.2.2 n (Nat.le_refl _)).w (by omega)
theorem wor_b {j : Nat} (h : TiJ en f j) (hk : TiK en f k) (hj : j < 6) (ho : Int32) (t : Nat) : ∃ u : Nat, u ≤ 60000 ∧ mWor f j ho t = nI u := by
  have hb := base_b hk j ho (nI t)
  obtain ⟨h1, h2, h3, -, -, ⟨v, v1, v2⟩, -, -, h9⟩ := h
  have hv : Df (f (22 + j)) 9 := by rw [h3, v2]; exact Df.n.w v1
  have hr : Df (f (40 + 4 * j + t % 4)) 9 := by
    obtain ⟨e, d, d1, d2⟩ := h9 (t % 4) (by omega)
    rw [e, d2]
    exact Df.n.w d1
  have h5 : Df 5 5 := (Df.n (k := 5))
  have h22 : Df 2 2 := (Df.n (k := 2))
  have hw : Df (mWo f j ho (mBase f j ho (nI t)) t) 60000 := by
    unfold mWo
    split
    · exact (h22.add hb).w (by omega)
    · split
      · exact (h5.add hb).w (by omega)
      · split
        · exact (hb.add hv).w (by omega)
        · split
          · exact (h22.add hb).two.w (by omega)
          · split
            · split
              · exact ((h5.add hb).add hv).w (by omega)
              · exact ((h5.add hb).add (show Df 0 0 from ⟨0, 0, by omega, by omega, by decide⟩)).w (by omega)
            · split
              · exact ((hb.add hv).add hr).w (by omega)
              · exact (h5.add hb).w (by omega)
  exact hw.clip (by omega)
theorem sum_b (h : TiL en f L) (hk : TiK en f k) (ho : Int32) (t : Nat) : ∀ i, i ≤ L → ∃ u : Nat, u ≤ 60000 * i ∧ mSum f t ho i = nI u := fun i => by
  induction i with
  | zero => exact fun _ => ⟨0, by omega, rfl⟩
  | succ i ih =>
    intro hi
    obtain ⟨u, u1, u2⟩ := ih (by omega)
    have h6 := h.2.2.1
    obtain ⟨v, v1, v2⟩ := wor_b (h.2.2.2 i (by omega)) hk (by omega) ho t
    rw [mSum, u2]
    by_cases c : mUp f i (nI t) = 0
    · rw [if_pos c]
      exact ⟨u, by omega, Int32.add_zero _⟩
    · rw [if_neg c, v2]
      exact ⟨u + v, by omega, nI_add u v⟩
theorem has_b (h : TiL en f L) (hk : TiK en f k) (cl ho : Int32) (t : Nat) : ∃ u : Nat, u ≤ 360000 ∧ mHas f L cl t ho = nI u := by
  unfold mHas
  split
  · obtain ⟨u, u1, u2⟩ := sum_b h hk ho t L (Nat.le_refl _)
    have := h.2.2.1
    exact ⟨u, by omega, u2⟩
  · exact ⟨0, by omega, rfl⟩
end MUCH
