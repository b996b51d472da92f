/-! Ties between the class' pure words and the reference's: bits. -/
def bL (x : Int32) (k : Nat) : Bool := x.toBitVec.getLsbD k
theorem bL_and (x y : Int32) (k : Nat) : bL (x &&& y) k = (bL x k && bL y k) := by simp [bL]
theorem bL_or (x y : Int32) (k : Nat) : bL (x ||| y) k = (bL x k || bL y k) := by simp [bL]
theorem bL_xor (x y : Int32) (k : Nat) : bL (x ^^^ y) k = (bL x k ^^ bL y k) := by simp [bL]
theorem bL_nI (n k : Nat) : bL (nI n) k = (decide (k < 32) && n.testBit k) := by
  show (BitVec.ofNat 32 n).getLsbD k = _
  rw [BitVec.getLsbD_ofNat]
theorem bL_pow {j k : Nat} (hk : k < 32) : bL (nI (2 ^ j)) k = decide (j = k) := by
  rw [bL_nI, Nat.testBit_two_pow, decide_eq_true hk, Bool.true_and]
theorem bL_m1 {k : Nat} (hk : k < 32) : bL (-1) k = true := by
  have h : ∀ k : Fin 32, bL (-1) k.val = true := by decide
  exact h ⟨k, hk⟩
theorem bL_m2 {k : Nat} (hk : k < 32) : bL (-2) k = decide (k ≠ 0) := by
  have h : ∀ k : Fin 32, bL (-2) k.val = decide (k.val ≠ 0) := by decide
  exact h ⟨k, hk⟩
theorem bL_1 (k : Nat) : bL 1 k = decide (k = 0) := by
  rw [show (1 : Int32) = nI (2 ^ 0) from rfl, bL_nI, Nat.testBit_two_pow]
  by_cases h : k = 0
  · subst h; decide
  · rw [decide_eq_false (fun e : 0 = k => h e.symm), Bool.and_false, decide_eq_false h]
theorem bL_0 (k : Nat) : bL 0 k = false := by
  rw [show (0 : Int32) = nI 0 from rfl, bL_nI, Nat.zero_testBit, Bool.and_false]
theorem bL_ext {x y : Int32} (h : ∀ k, k < 32 → bL x k = bL y k) : x = y := Int32.toBitVec_inj.mp (BitVec.eq_of_getLsbD_eq fun i hi => h i hi)
theorem sm32 : ∀ j : Nat, j < 32 → ((nI j &&& 31).toBitVec.smod 32).toNat = j := by decide +kernel
theorem bL_shl (x : Int32) {j : Nat} (hj : j < 32) (k : Nat) (hk : k < 32) : bL (x <<< (nI j &&& 31)) k = (decide (j ≤ k) && bL x (k - j)) := by
  unfold bL
  rw [Int32.toBitVec_shiftLeft, BitVec.shiftLeft_eq', sm32 j hj, BitVec.getLsbD_shiftLeft, decide_eq_true hk, Bool.true_and]
  by_cases h : j ≤ k
  · rw [decide_eq_true h, decide_eq_false (by omega : ¬ k < j)]
    simp
  · rw [decide_eq_false h, decide_eq_true (by omega : k < j)]
    simp
theorem bL_shr (x : Int32) {j : Nat} (hj : j < 32) (k : Nat) (hk : j + k < 32) : bL (x >>> (nI j &&& 31)) k = bL x (j + k) := by
  unfold bL
  rw [Int32.toBitVec_shiftRight, BitVec.sshiftRight_eq', sm32 j hj, BitVec.getLsbD_sshiftRight, decide_eq_false (by omega : ¬ 32 ≤ k)]
  simp [hk]
def b2 (b : Bool) : Int32 := if b then 1 else 0
theorem and1 (x : Int32) : x &&& 1 = b2 (bL x 0) := by
  apply bL_ext
  intro k hk
  rw [bL_and, bL_1]
  unfold b2
  by_cases h : k = 0
  · subst h
    cases bL x 0 <;> simp [bL_1, bL_0]
  · cases bL x 0 <;> simp [bL_1, bL_0, h]
theorem fBit_b {x : Int32} {j : Nat} (hj : j < 32) : fBit x (nI j) = b2 (bL x j) := by
  rw [fBit, and1, bL_shr x hj 0 (by omega), Nat.add_zero]
theorem b2_0 {b : Bool} : b2 b = 0 ↔ b = false := by cases b <;> simp [b2]
theorem b2_1 {b : Bool} : b2 b = 1 ↔ b = true := by cases b <;> simp [b2]
theorem bL_with {b z : Int32} {j i : Nat} (hj : j < 10) (hi : i < 32) : bL (fWith b (nI j) z) i = if i = j then decide (¬ z = 0) else bL b i := by
  unfold fWith
  rw [shl1 j hj]
  by_cases hz : z = 0
  · rw [if_pos hz, bL_and, bL_xor, bL_pow hi, bL_m1 hi]
    by_cases h : i = j
    · rw [if_pos h, decide_eq_true h.symm]; simp [hz]
    · rw [if_neg h, decide_eq_false (fun e : j = i => h e.symm)]; simp
  · rw [if_neg hz, bL_or, bL_pow hi]
    by_cases h : i = j
    · rw [if_pos h, decide_eq_true h.symm]; simp [hz]
    · rw [if_neg h, decide_eq_false (fun e : j = i => h e.symm)]; simp
theorem fBit_with {b z : Int32} {j i : Nat} (hj : j < 10) (hi : i < 32) : fBit (fWith b (nI j) z) (nI i) = if i = j then (if z = 0 then 0 else 1) else fBit b (nI i) := by
  rw [fBit_b hi, fBit_b hi, bL_with hj hi]
  by_cases h : i = j
  · rw [if_pos h, if_pos h]
    by_cases hz : z = 0 <;> simp [hz, b2]
  · rw [if_neg h, if_neg h]
