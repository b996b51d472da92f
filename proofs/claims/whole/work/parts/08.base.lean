def rowsE (x0 : Nat) (x1 : Int32) (x2 : Int32) (x3 : Int32) : va_E := .inr (5, [.ref x0, .int x1, .int x2, .int x3])
def skyE (x0 : Nat) (x1 : Nat) (x2 : Nat) (x3 : Int32) (x4 : Int32) (x5 : Int32) : va_E := .inr (6, [.ref x0, .ref x1, .ref x2, .int x3, .int x4, .int x5])
def roofN (g : Gp) (x0 : Int32) (x1 : Int32) (x2 : Int32) (x3 : Int32) : va_E := .inr (4, [.int x0, .int x1, .int x2, .int x3, .ref (gA g 4), .ref (gA g 5), .ref (gA g 6), .ref (gA g 7), .ref (gA g 8), .ref (gA g 9), .ref (gA g 13), .ref (gA g 15), .ref (gA g 17), .ref (gA g 19)])
def roofK (g : Gp) (x0 : Int32) (x1 : Int32) (x2 : Int32) (x3 : Int32) : va_E := .inr (4, [.int x0, .int x1, .int x2, .int x3, .ref (gA g 22), .ref (gA g 23), .ref (gA g 24), .ref (gA g 25), .ref (gA g 26), .ref (gA g 27), .ref (gA g 31), .ref (gA g 33), .ref (gA g 35), .ref (gA g 37)])
def rdrE (g : Gp) (x0 : Int32) (x1 : Int32) (x2 : Int32) : va_E := .inr (7, [.ref (gA g 13), .ref (gA g 40), .int x0, .int x1, .int x2])
def custE (g : Gp) (x0 : Int32) : va_E := .inr (11, [.ref (gA g 1), .ref (gA g 3), .ref (gA g 21), .ref (gA g 39), .ref (gA g 44), .ref (gA g 45), .int x0])
def mdE (g : Gp) (x0 : Int32) (x1 : Int32) (x2 : Int32) (x3 : Int32) (x4 : Int32) (x5 : Int32) (x6 : Int32) (x7 : Int32) (x8 : Int32) (x9 : Int32) (x10 : Int32) (x11 : Int32) : va_E := .inr (12, [.int x0, .ref (gA g 47), .ref (gA g 48), .ref (gA g 49), .int x1, .int x2, .int x3, .int x4, .int x5, .int x6, .int x7, .ref (gA g 50), .ref (gA g 51), .ref (gA g 52), .ref (gA g 53), .ref (gA g 54), .int x8, .int x9, .int x10, .int x11])
def starE0 (g : Gp) (x0 : Int32) (x1 : Int32) (x2 : Int32) : va_E := .inr (8, [.int x0, .int x1, .int x2, .ref (gA g 1)])
def starE1 (g : Gp) (x0 : Int32) (x1 : Int32) (x2 : Int32) : va_E := .inr (2, [.int x0, .int x1, .int x2, .ref (gA g 1)])
def starE2 (g : Gp) (x0 : Int32) (x1 : Int32) (x2 : Int32) : va_E := .inr (0, [.int x0, .int x1, .int x2, .ref (gA g 1)])
def starE3 (g : Gp) (x0 : Int32) (x1 : Int32) (x2 : Int32) : va_E := .inr (3, [.int x0, .int x1, .int x2, .ref (gA g 1)])
def starE4 (g : Gp) (x0 : Int32) (x1 : Int32) (x2 : Int32) : va_E := .inr (10, [.int x0, .int x1, .int x2, .ref (gA g 1)])
def starE5 (g : Gp) (x0 : Int32) (x1 : Int32) (x2 : Int32) : va_E := .inr (1, [.int x0, .int x1, .int x2, .ref (gA g 1)])
def starE6 (g : Gp) (x0 : Int32) (x1 : Int32) (x2 : Int32) : va_E := .inr (9, [.int x0, .int x1, .int x2, .ref (gA g 1)])
set_option maxRecDepth 100000 in
theorem iX0 : ∀ w ∈ u_ws RX0 TX0 4, w ∈ gT := by decide +kernel
set_option maxRecDepth 100000 in
theorem iX1 : ∀ w ∈ u_ws RX1 TX1 4, w ∈ gT := by decide +kernel
set_option maxRecDepth 100000 in
theorem iX2 : ∀ w ∈ u_ws RX2 TX2 4, w ∈ gT := by decide +kernel
set_option maxRecDepth 100000 in
theorem iX3 : ∀ w ∈ u_ws RX3 TX3 4, w ∈ gT := by decide +kernel
set_option maxRecDepth 100000 in
theorem iX4 : ∀ w ∈ u_ws RX4 TX4 14, w ∈ gT := by decide +kernel
set_option maxRecDepth 100000 in
theorem iX5 : ∀ w ∈ u_ws RX5 TX5 4, w ∈ gT := by decide +kernel
set_option maxRecDepth 100000 in
theorem iX6 : ∀ w ∈ u_ws RX6 TX6 6, w ∈ gT := by decide +kernel
set_option maxRecDepth 100000 in
theorem iX7 : ∀ w ∈ u_ws RX7 TX7 5, w ∈ gT := by decide +kernel
set_option maxRecDepth 100000 in
theorem iX8 : ∀ w ∈ u_ws RX8 TX8 4, w ∈ gT := by decide +kernel
set_option maxRecDepth 100000 in
theorem iX9 : ∀ w ∈ u_ws RX9 TX9 4, w ∈ gT := by decide +kernel
set_option maxRecDepth 100000 in
theorem iX10 : ∀ w ∈ u_ws RX10 TX10 4, w ∈ gT := by decide +kernel
set_option maxRecDepth 100000 in
theorem iX11 : ∀ w ∈ u_ws RX11 TX11 7, w ∈ gT := by decide +kernel
set_option maxRecDepth 100000 in
theorem iX12 : ∀ w ∈ u_ws RX12 TX12 20, w ∈ gT := by decide +kernel
theorem i32ne {x c : Int32} {k : Int} (h : ¬ x = c) (hc : c.toInt = k) : x.toInt ≠ k := fun e => h (Int32.toInt_inj.mp (e.trans hc.symm))
section MORE
variable {p : Program} {l : Launch} {e : Env} {R : Room} {s : State} {m : MethodId} {args : Array Value} {below : List Frame} {meth : Method} {c : Code} {H : Heap} {locs : List Loc} {cells slots : Nat} {Q : State → Prop}
variable {cc : ByteArray} {pc : Nat} {ls : Array Slot} {rest : List Value}
theorem l_irem (hexec : p.tables.exec = Jvm.exec) (hb : c.code = cc) {x y : Int32} (hdg : decode cc pc = .ok (.irem, 1)) (hne : ¬ y = 0)
    (k : W p l e R s m args below meth c H locs cells slots Q (F0 m (pc + 1) ls (.int (iR x y) :: rest))) : W p l e R s m args below meth c H locs cells slots Q (F0 m pc ls (.int y :: .int x :: rest)) := lv_irem hexec hb hdg hne k
theorem l_nload_n (hexec : p.tables.exec = Jvm.exec) (hb : c.code = cc) {k : Fin 4} {i : Nat} (hdg : decode cc pc = .ok (.aload_n k, 1)) (hi : (k : Nat) = i) (hl : ls[i]? = some (.val .null))
    (k : W p l e R s m args below meth c H locs cells slots Q (F0 m (pc + 1) ls (.null :: rest))) : W p l e R s m args below meth c H locs cells slots Q (F0 m pc ls (rest)) := by
  subst hi
  intro T hT X
  obtain ⟨t, a, b⟩ := k T hT X
  refine ⟨t, ?_, b⟩
  jvm_step X.here [X.here.top, hexec, hb, hdg, hl, Value.isRef]
  exact a
theorem l_nload (hexec : p.tables.exec = Jvm.exec) (hb : c.code = cc) {i : Nat} (hdg : decode cc pc = .ok (.aload i, 2)) (hl : ls[i]? = some (.val .null))
    (k : W p l e R s m args below meth c H locs cells slots Q (F0 m (pc + 2) ls (.null :: rest))) : W p l e R s m args below meth c H locs cells slots Q (F0 m pc ls (rest)) := by
  intro T hT X
  obtain ⟨t, a, b⟩ := k T hT X
  refine ⟨t, ?_, b⟩
  jvm_step X.here [X.here.top, hexec, hb, hdg, hl, Value.isRef]
  exact a
theorem l_nstore_n (hexec : p.tables.exec = Jvm.exec) (hb : c.code = cc) {k : Fin 4} {i nL : Nat} {lv lv' : List (Nat × Value)} (hdg : decode cc pc = .ok (.astore_n k, 1)) (hi : (k : Nat) = i) (h : lv_has ls nL lv) (hn : i < nL) (hl : (i, Value.null) :: lv.filter (fun q => !(q.1 == i) && !(q.1 + 1 == i && q.2.category == 2)) = lv')
    (kk : ∀ ls' : Array Slot, lv_has ls' nL lv' → W p l e R s m args below meth c H locs cells slots Q (F0 m (pc + 1) ls' rest)) : W p l e R s m args below meth c H locs cells slots Q (F0 m pc ls (.null :: rest)) := by
  subst hi
  obtain ⟨ls', e', h'⟩ := lv_store1 (v := .null) h hn rfl
  intro T hT X
  obtain ⟨t, a, b⟩ := kk ls' (hl ▸ h') T hT X
  refine ⟨t, ?_, b⟩
  jvm_step X.here [X.here.top, ↓top_set X.here.top, hexec, hb, hdg, e', Value.isRef]
  exact a
theorem l_nstore (hexec : p.tables.exec = Jvm.exec) (hb : c.code = cc) {i nL : Nat} {lv lv' : List (Nat × Value)} (hdg : decode cc pc = .ok (.astore i, 2)) (h : lv_has ls nL lv) (hn : i < nL) (hl : (i, Value.null) :: lv.filter (fun q => !(q.1 == i) && !(q.1 + 1 == i && q.2.category == 2)) = lv')
    (kk : ∀ ls' : Array Slot, lv_has ls' nL lv' → W p l e R s m args below meth c H locs cells slots Q (F0 m (pc + 2) ls' rest)) : W p l e R s m args below meth c H locs cells slots Q (F0 m pc ls (.null :: rest)) := by
  obtain ⟨ls', e', h'⟩ := lv_store1 (v := .null) h hn rfl
  intro T hT X
  obtain ⟨t, a, b⟩ := kk ls' (hl ▸ h') T hT X
  refine ⟨t, ?_, b⟩
  jvm_step X.here [X.here.top, ↓top_set X.here.top, hexec, hb, hdg, e', Value.isRef]
  exact a
end MORE
theorem ne_kind {M : Mem} {a b : Nat} {x y : va_E} (ha : M a = some x) (hb : M b = some y) (h : x ≠ y) : a ≠ b := fun e => h (Option.some.inj (ha.symm.trans (e ▸ hb)))
theorem ne_cls {i j : Nat} {a b : List Value} (h : i ≠ j) : (Sum.inr (i, a) : va_E) ≠ Sum.inr (j, b) := fun e => h (congrArg (fun x : va_E => match x with | .inr o => o.1 | .inl _ => 0) e)

