/-! The memory picture: which address holds what; contracts of methods over it; the machine's rows over it. -/
abbrev Mem : Type := Nat → Option va_E
def mup (M : Mem) (a : Nat) (e : va_E) : Mem := fun b => if b = a then some e else M b
theorem mup_s (M : Mem) (a : Nat) (e : va_E) : mup M a e a = some e := if_pos rfl
theorem mup_n {M : Mem} {a b : Nat} {e : va_E} (h : b ≠ a) : mup M a e b = M b := if_neg h
theorem mup_r {M : Mem} {a b : Nat} {e : va_E} {x : Option va_E} (h : b ≠ a) (hx : M b = x) : mup M a e b = x := (mup_n h).trans hx
theorem mup_i (M : Mem) (a : Nat) (e e' : va_E) : mup (mup M a e) a e' = mup M a e' := by
  funext b
  by_cases h : b = a <;> simp [mup, h]
theorem mup_w (M : Mem) {a b : Nat} (e e' : va_E) (h : a ≠ b) : mup (mup M a e) b e' = mup (mup M b e') a e := by
  funext x
  by_cases h1 : x = a
  · subst h1
    simp [mup, h]
  · by_cases h2 : x = b
    · subst h2
      simp [mup, h1]
    · simp [mup, h1, h2]
theorem mup_id {M : Mem} {a : Nat} {e : va_E} (h : M a = some e) : mup M a e = M := by
  funext b
  by_cases hb : b = a
  · subst hb
    simp [mup, h]
  · simp [mup, hb]
/-- the claim's fixed things: the classes' ids and slots, the array classes, the heap at the law's start, the fixed cells' addresses, the String constants' -/
abbrev Gp : Type := va_G × (ClassId × ClassId × ClassId) × Heap × (Nat → Nat) × (Nat → Nat) × (Nat → Nat)
def gD (g : Gp) : va_G := g.1
def gI (g : Gp) : ClassId := g.2.1.1
def gZ (g : Gp) : ClassId := g.2.1.2.1
def gS (g : Gp) : ClassId := g.2.1.2.2
def gH (g : Gp) : Heap := g.2.2.1
def gA (g : Gp) : Nat → Nat := g.2.2.2.1
def gK (g : Gp) : Nat → Nat := g.2.2.2.2.1
def gV (g : Gp) : Nat → Nat := g.2.2.2.2.2
def gF (g : Gp) : Nat → Prop := fun q => (gH g).size ≤ q
abbrev aI (g : Gp) (n : Nat) (f : Nat → Int32) : va_E := .inl (gI g, n, .inl f)
abbrev aZ (g : Gp) (n : Nat) (f : Nat → Int32) : va_E := .inl (gZ g, n, .inl f)
abbrev aS (g : Gp) (n : Nat) (f : Nat → Option Nat) : va_E := .inl (gS g, n, .inr (.inr (.inr (.inr f))))
abbrev tyl (g : Gp) : List (ClassId × FieldType) := [(gI g, .int), (gZ g, .boolean), (gS g, .object "StarCustody$Star")]
def MW (g : Gp) (M : Mem) (H : Heap) (locs : List Loc) : Prop := (gH g).size ≤ H.size ∧ (∀ q : Nat, q < (gH g).size → H[q]? = (gH g)[q]?) ∧ (∀ (a : Nat) (e : va_E), M a = some e → (gH g).size ≤ a ∧ va_at (gD g) vwCl (a, e) H) ∧ ∀ q ∈ locs, (gH g).size ≤ q.base
theorem MW.nil {g : Gp} {M : Mem} {H : Heap} {locs : List Loc} (h : MW g M H locs) : MW g M H [] := ⟨h.1, h.2.1, h.2.2.1, fun _ h => by cases h⟩
theorem MW.free {g : Gp} {M : Mem} {H : Heap} {locs : List Loc} (h : MW g M H locs) : ∀ q ∈ locs, gF g q.base := h.2.2.2
theorem MW.one {g : Gp} {M : Mem} {H : Heap} {locs : List Loc} (h : MW g M H locs) {a : Nat} {e : va_E} (he : M a = some e) : va_P (gD g) vwCl [(a, e)] H := by
  intro k q hk
  cases k with
  | zero => cases hk; exact (h.2.2.1 a e he).2
  | succ k => simp at hk
theorem MW.lt {g : Gp} {M : Mem} {H : Heap} {locs : List Loc} (h : MW g M H locs) {a : Nat} {e : va_E} (he : M a = some e) : a < H.size := (h.2.2.1 a e he).2.lt
/-- one old cell is written -/
theorem MW.put {g : Gp} {M : Mem} {H H1 : Heap} {locs : List Loc} {a k : Nat} {e0 e : va_E} (h : MW g M H locs) (h0 : M a = some e0) (z : H1.size = H.size) (oq : ∀ q : Nat, q ≠ a → H1[q]? = H[q]?) (he : va_at (gD g) vwCl (a, e) H1) : MW g (mup M a e) H1 (locs ++ [⟨a, k⟩]) := by
  have ha := (h.2.2.1 a e0 h0).1
  refine ⟨by rw [z]; exact h.1, fun q hq => ?_, fun b x hb => ?_, fun q hq => ?_⟩
  · rw [oq q (by omega)]
    exact h.2.1 q hq
  · by_cases hba : b = a
    · subst hba
      rw [mup_s] at hb
      cases hb
      exact ⟨ha, he⟩
    · rw [mup_n hba] at hb
      exact ⟨(h.2.2.1 b x hb).1, (h.2.2.1 b x hb).2.kept (oq b hba)⟩
  · rcases List.mem_append.mp hq with h1 | h1
    · exact h.2.2.2 q h1
    · rw [List.mem_singleton.mp h1]
      exact ha
/-- a new cell -/
theorem MW.new {g : Gp} {M : Mem} {H H1 : Heap} {locs : List Loc} {e : va_E} (h : MW g M H locs) (z : H.size ≤ H1.size) (oq : ∀ q : Nat, q < H.size → H1[q]? = H[q]?) (he : va_at (gD g) vwCl (H.size, e) H1) : MW g (mup M H.size e) H1 locs := by
  refine ⟨Nat.le_trans h.1 z, fun q hq => ?_, fun b x hb => ?_, h.2.2.2⟩
  · rw [oq q (Nat.lt_of_lt_of_le hq h.1)]
    exact h.2.1 q hq
  · by_cases hba : b = H.size
    · subst hba
      rw [mup_s] at hb
      cases hb
      exact ⟨h.1, he⟩
    · rw [mup_n hba] at hb
      exact ⟨(h.2.2.1 b x hb).1, (h.2.2.1 b x hb).2.kept (oq b (h.lt hb))⟩
/-- links among nest mates, String constants, casts that fail -/
def nestP : List (String × Nat × MethodName × String) := [("StarCustody", 22, ⟨"StarCustody$Roof", "<init>", "()V"⟩, "StarCustody"), ("StarCustody$Roof", 45, ⟨"StarCustody$Sky", "<init>", "()V"⟩, "StarCustody"), ("StarCustody$SkyReader", 11, ⟨"StarCustody$Sky", "<init>", "()V"⟩, "StarCustody"), ("StarCustody$SkyReader", 54, ⟨"StarCustody", "at", "([II)I"⟩, "StarCustody"), ("StarCustody$Sky", 35, ⟨"StarCustody", "put", "([III)V"⟩, "StarCustody"), ("StarCustody$Sky", 31, ⟨"StarCustody", "copy", "([I[I)V"⟩, "StarCustody"), ("StarCustody$Roof", 79, ⟨"StarCustody", "put", "([III)V"⟩, "StarCustody"), ("StarCustody$Roof", 90, ⟨"StarCustody", "bitOf", "(II)I"⟩, "StarCustody"), ("StarCustody$Roof", 97, ⟨"StarCustody", "at", "([II)I"⟩, "StarCustody"), ("StarCustody$Sky", 39, ⟨"StarCustody", "at", "([II)I"⟩, "StarCustody"), ("StarCustody$Roof", 109, ⟨"StarCustody", "withBit", "(IIZ)I"⟩, "StarCustody"), ("StarCustody$Roof", 129, ⟨"StarCustody", "isClouded", "(II)Z"⟩, "StarCustody"), ("StarCustody$Rows", 29, ⟨"StarCustody", "put", "([III)V"⟩, "StarCustody"), ("StarCustody$Rows", 35, ⟨"StarCustody", "at", "([II)I"⟩, "StarCustody"), ("StarCustody$Roof", 68, ⟨"StarCustody", "copy", "([I[I)V"⟩, "StarCustody"), ("StarCustody$Rows", 39, ⟨"StarCustody", "copy", "([I[I)V"⟩, "StarCustody")]
def ncP : List (String × String) := [("StarCustody$Comet", "StarCustody$Moon"), ("StarCustody$Nebula", "StarCustody$Moon"), ("StarCustody$Guest", "StarCustody$Moon"), ("StarCustody$Told", "StarCustody$Moon"), ("StarCustody$Star", "StarCustody$Moon"), ("StarCustody$Moon", "StarCustody$Comet"), ("StarCustody$Nebula", "StarCustody$Comet"), ("StarCustody$Twin", "StarCustody$Comet"), ("StarCustody$Told", "StarCustody$Comet"), ("StarCustody$Star", "StarCustody$Comet"), ("StarCustody$Moon", "StarCustody$Nebula"), ("StarCustody$Comet", "StarCustody$Nebula"), ("StarCustody$Twin", "StarCustody$Nebula"), ("StarCustody$Guest", "StarCustody$Nebula"), ("StarCustody$Star", "StarCustody$Nebula"), ("StarCustody$Moon", "StarCustody$Twin"), ("StarCustody$Comet", "StarCustody$Twin"), ("StarCustody$Nebula", "StarCustody$Twin"), ("StarCustody$Guest", "StarCustody$Twin"), ("StarCustody$Told", "StarCustody$Twin"), ("StarCustody$Star", "StarCustody$Twin"), ("StarCustody$Moon", "StarCustody$Guest"), ("StarCustody$Comet", "StarCustody$Guest"), ("StarCustody$Nebula", "StarCustody$Guest"), ("StarCustody$Twin", "StarCustody$Guest"), ("StarCustody$Told", "StarCustody$Guest"), ("StarCustody$Star", "StarCustody$Guest"), ("StarCustody$Moon", "StarCustody$Told"), ("StarCustody$Comet", "StarCustody$Told"), ("StarCustody$Nebula", "StarCustody$Told"), ("StarCustody$Twin", "StarCustody$Told"), ("StarCustody$Guest", "StarCustody$Told"), ("StarCustody$Star", "StarCustody$Told")]
def caP : List (String × String) := [("StarCustody$Twin", "StarCustody$Moon"), ("StarCustody$Guest", "StarCustody$Comet"), ("StarCustody$Told", "StarCustody$Nebula"), ("StarCustody$Moon", "StarCustody$Star"), ("StarCustody$Comet", "StarCustody$Star"), ("StarCustody$Nebula", "StarCustody$Star"), ("StarCustody$Twin", "StarCustody$Star"), ("StarCustody$Guest", "StarCustody$Star"), ("StarCustody$Told", "StarCustody$Star")]
def sW : List (String × Nat × String) := [("StarCustody$SkyReader", 71, "turn "), ("StarCustody$SkyReader", 89, "cloud "), ("StarCustody$SkyReader", 94, "im "), ("StarCustody$SkyReader", 96, "ear "), ("StarCustodyModel", 120, "turn "), ("StarCustodyModel", 125, "cloud "), ("StarCustodyModel", 112, "ear "), ("StarCustodyModel", 94, "pkvhnm"), ("StarCustodyModel", 100, "<=>"), ("StarCustodyModel", 118, "im ")]
def lenS : List Nat := [5, 6, 3, 4, 5, 6, 4, 6, 3, 3]
def bytS : List (List Int32) := [[116, 117, 114, 110, 32], [99, 108, 111, 117, 100, 32], [105, 109, 32], [101, 97, 114, 32], [116, 117, 114, 110, 32], [99, 108, 111, 117, 100, 32], [101, 97, 114, 32], [112, 107, 118, 104, 110, 109], [60, 61, 62], [105, 109, 32]]
/-- the String constants: what they hold; two of equal text are one object, so nothing is said of their being apart -/
def kS (adK adV : Nat → Nat) (A : Nat → Prop) (U : State) (H : Heap) : Prop := (∀ i : Nat, i < 10 → va_O "java/lang/String" (adK i) A U H ∧ va_OF "java/lang/String" "coder" "B" (.int 0) (adK i) A U H ∧ va_OF "java/lang/String" "value" "[B" (.ref (adV i)) (adK i) A U H ∧ va_T .byte (adV i) (lenS.getD i 0) (fun j => .int ((bytS.getD i []).getD j 0)) A U H) ∧ True
theorem kS.moved {adK adV : Nat → Nat} {A : Nat → Prop} {u U : State} {H : Heap} (hvm : u.vm.Alike U.vm) (h : kS adK adV A u H) : kS adK adV A U H :=
  ⟨fun i hi => ⟨va_O.moved hvm (h.1 i hi).1, va_OF.moved hvm (h.1 i hi).2.1, va_OF.moved hvm (h.1 i hi).2.2.1, va_T.moved hvm (h.1 i hi).2.2.2⟩, trivial⟩
def KK (g : Gp) (U : State) : Prop := va_K (gD g) vwCl (tyl g) U ∧ (∀ q ∈ nestP, va_Nw (.methodLinkNest q.1 q.2.1 q.2.2.1 q.2.2.2) U) ∧ va_AO "StarCustody$Star" U ∧ (∀ q ∈ ncP, va_Nc q.1 q.2 U) ∧ (∀ q ∈ caP, va_Nw (.castable q.1 q.2) U) ∧ (∀ (i : Nat) (q : String × Nat × String), sW[i]? = some q → vk_R q.1 q.2.1 q.2.2 (gK g i) U) ∧ kS (gK g) (gV g) (gF g) U (gH g) ∧ va_Z "java/lang/String" "COMPACT_STRINGS" "Z" (.int 1) (gF g) U (gH g) ∧ va_Zq "jdk/internal/util/Preconditions" "SIOOBE_FORMATTER" "Ljava/util/function/BiFunction;" (gF g) U (gH g) ∧ ∀ i j : Nat, i < 55 → j < 55 → gA g i = gA g j → i = j
theorem KK.warm {g : Gp} {s U : State} (hW : s.WarmedH U.vm) (h : KK g s) : KK g U := by
  obtain ⟨h1, h2, h3, h4, hc, h5, h6, h7, h8, h9⟩ := h
  have ha := hW.alike
  exact ⟨va_K.moved ha h1, fun q hq => va_Nw.warmM hW (h2 q hq), va_AO.moved ha h3, fun q hq => va_Nc.moved ha (h4 q hq), fun q hq => va_Nw.warmC hW (hc q hq), fun i q hq => vk_R.warm hW (h5 i q hq), kS.moved ha h6, va_Z.moved ha h7, va_Zq.moved ha h8, h9⟩
theorem KK.same {g : Gp} {u U : State} (hv : U.vm = u.vm) (h : KK g u) : KK g U := by
  obtain ⟨h1, h2, h3, h4, hc, h5, h6, h7, h8, h9⟩ := h
  have ha : u.vm.Alike U.vm := by rw [hv]; exact Vm.Alike.refl u.vm
  exact ⟨va_K.moved ha h1, fun q hq => va_Nw.same rfl hv.symm (h2 q hq), va_AO.moved ha h3, fun q hq => va_Nc.moved ha (h4 q hq), fun q hq => va_Nw.same rfl hv.symm (hc q hq), fun i q hq => vk_R.same hv (h5 i q hq), kS.moved ha h6, va_Z.moved ha h7, va_Zq.moved ha h8, h9⟩
theorem KK.ne {g : Gp} {s : State} (h : KK g s) {i j : Nat} (hi : i < 55) (hj : j < 55) (hij : i ≠ j) : gA g i ≠ gA g j := fun e => hij (h.2.2.2.2.2.2.2.2.2 i j hi hj e)
/-- a method's start and its ends -/
def Pre (g : Gp) (M : Mem) (vs : List Value) : Array Value → State → Prop := va_Pc vs (fun U => MW g M U.heap [] ∧ KK g U)
def Qi (g : Gp) (post : Int32 → Mem → Prop) : Array Value → State → Outcome → State → Prop := fun _ _ oc t => ∃ (r : Int32) (M1 : Mem), oc = .returned (some (.int r)) ∧ post r M1 ∧ MW g M1 t.heap []
def Ql (g : Gp) (post : Int64 → Mem → Prop) : Array Value → State → Outcome → State → Prop := fun _ _ oc t => ∃ (r : Int64) (M1 : Mem), oc = .returned (some (.long r)) ∧ post r M1 ∧ MW g M1 t.heap []
def Qv (g : Gp) (post : Mem → Prop) : Array Value → State → Outcome → State → Prop := fun _ _ oc t => ∃ M1 : Mem, oc = .returned none ∧ post M1 ∧ MW g M1 t.heap []
def Qq (g : Gp) (post : Option Nat → Mem → Prop) : Array Value → State → Outcome → State → Prop := fun _ _ oc t => ∃ (r : Option Nat) (M1 : Mem), oc = .returned (some (va_rf r)) ∧ post r M1 ∧ MW g M1 t.heap []
theorem Pre.blind {g : Gp} {M : Mem} {vs : List Value} : FrameBlind (Pre g M vs) := fun a U gg mk h => ⟨h.1, h.2.1, KK.same rfl h.2.2⟩
abbrev wsM (y : MethodName) (c : ByteArray) (n : Nat) (ret : Option FieldType) : List Cond := .code y c n ret :: gT
abbrev rmD (d mc ms : Nat) : Room := { frames := d, cells := mc, slots := ms, locals := 40 * d }
def Cx (g : Gp) (p : Program) (m : MethodId) (c : Code) (cc : ByteArray) (nL : Nat) (s : State) (args : Array Value) (own : String) : Prop := CallFix p m c cc nL s args gT own ∧ KK g s
/-- a method's body, from its entry -/
theorem M_start {l : Launch} {y : MethodName} {cc : ByteArray} {maxL : Nat} {ret : Option FieldType} {d mc ms : Nat} {g : Gp} {M : Mem} {vs : List Value} {Qc : Array Value → State → Outcome → State → Prop} (hy : plainName y.cls = true) (hn : (lg_sl vs).length ≤ maxL)
    (body : ∀ (p : Program) (e : Env) (s : State) (m : MethodId) (args : Array Value) (below : List Frame) (meth : Method) (c : Code) (ls : Array Slot), Cx g p m c cc maxL s args y.cls → meth.sig.returnType = ret → meth.locks = false → meth.name = y.name → MW g M s.heap [] → lv_has ls maxL (lv_args 0 vs) →
      W p l e (rmD d mc ms) s m args below meth c s.heap [] 0 0 (MQ below Qc args s mc ms (gF g)) (F0 m 0 ls [])) : Met l y (wsM y cc maxL ret) (rmD d mc ms) (Pre g M vs) Qc mc ms (gF g) := by
  refine Met.ofW (cc := cc) (maxL := maxL) (ret := ret) hy rfl ?_
  intro p e s m args below meth c s₁ B hml hv
  obtain ⟨rfl, hM, hK⟩ := hv
  have hts := atoms_spec (ws := wsM y cc maxL ret) B.pre
  have hl := lv_entry vs hn
  rw [lg_entry_eq]
  exact body p e s m _ below meth c _ ⟨⟨B.exec, B.bytes, hml, findClass_of_methodNamed B.named, fun w hw => hts w (List.mem_cons_of_mem _ hw)⟩, hK⟩ B.returns B.notSynchronized (name_of_methodNamed B.named B.method).1 hM hl
section ROWS
variable {g : Gp} {p : Program} {l : Launch} {e : Env} {R : Room} {s : State} {m : MethodId} {args : Array Value} {below : List Frame} {meth : Method} {c : Code} {H : Heap} {locs : List Loc} {cells slots : Nat} {Q : State → Prop}
variable {cc : ByteArray} {nL : Nat} {own : String} {M : Mem} {pc : Nat} {ls : Array Slot} {rest : List Value} {a : Nat}
theorem R_i {post : Int32 → Mem → Prop} {r : Int32} (X : Cx g p m c cc nL s args own) (hr : meth.sig.returnType = some .int) (hk : meth.locks = false) (hM : MW g M H locs) (hp : post r M) (hdg : decode cc pc = .ok (.ireturn, 1)) : W p l e R s m args below meth c H locs cells slots (MQ below (Qi g post) args s cells slots (gF g)) (F0 m pc ls [.int r]) :=
  W.iret X.1.1 X.1.2.1 hr (fun t ht _ => ⟨r, M, rfl, hp, by rw [ht]; exact hM.nil⟩) hM.free hdg hk
theorem R_z {post : Int32 → Mem → Prop} {r : Int32} (X : Cx g p m c cc nL s args own) (hr : meth.sig.returnType = some .boolean) (hk : meth.locks = false) (hn : r = 0 ∨ r = 1) (hM : MW g M H locs) (hp : post r M) (hdg : decode cc pc = .ok (.ireturn, 1)) : W p l e R s m args below meth c H locs cells slots (MQ below (Qi g post) args s cells slots (gF g)) (F0 m pc ls [.int r]) :=
  W.zret X.1.1 X.1.2.1 hr (by rcases hn with rfl | rfl <;> rfl) (fun t ht _ => ⟨r, M, rfl, hp, by rw [ht]; exact hM.nil⟩) hM.free hdg hk
theorem R_n {post : Int32 → Mem → Prop} {r : Int32} {ty : FieldType} (X : Cx g p m c cc nL s args own) (hr : meth.sig.returnType = some ty) (hk : meth.locks = false) (hn : narrow ty (.int r) = .int r) (hM : MW g M H locs) (hp : post r M) (hdg : decode cc pc = .ok (.ireturn, 1)) : W p l e R s m args below meth c H locs cells slots (MQ below (Qi g post) args s cells slots (gF g)) (F0 m pc ls [.int r]) :=
  W.zret X.1.1 X.1.2.1 hr hn (fun t ht _ => ⟨r, M, rfl, hp, by rw [ht]; exact hM.nil⟩) hM.free hdg hk
theorem R_l {post : Int64 → Mem → Prop} {r : Int64} (X : Cx g p m c cc nL s args own) (hr : meth.sig.returnType = some .long) (hk : meth.locks = false) (hM : MW g M H locs) (hp : post r M) (hdg : decode cc pc = .ok (.lreturn, 1)) : W p l e R s m args below meth c H locs cells slots (MQ below (Ql g post) args s cells slots (gF g)) (F0 m pc ls [.long r]) :=
  W.lret X.1.1 X.1.2.1 hr (fun t ht _ => ⟨r, M, rfl, hp, by rw [ht]; exact hM.nil⟩) hM.free hdg hk
theorem R_v {post : Mem → Prop} (X : Cx g p m c cc nL s args own) (hr : meth.sig.returnType = none) (hk : meth.locks = false) (hM : MW g M H locs) (hp : post M) (hdg : decode cc pc = .ok (.return_, 1)) : W p l e R s m args below meth c H locs cells slots (MQ below (Qv g post) args s cells slots (gF g)) (F0 m pc ls []) :=
  W.vret X.1.1 X.1.2.1 hr (fun t ht _ => ⟨M, rfl, hp, by rw [ht]; exact hM.nil⟩) hM.free hdg hk
theorem R_q {post : Option Nat → Mem → Prop} {r : Option Nat} {n : String} {v : Value} (hv : va_rf r = v) (X : Cx g p m c cc nL s args own) (hr : meth.sig.returnType = some (.object n)) (hk : meth.locks = false) (hM : MW g M H locs) (hp : post r M) (hdg : decode cc pc = .ok (.areturn, 1)) : W p l e R s m args below meth c H locs cells slots (MQ below (Qq g post) args s cells slots (gF g)) (F0 m pc ls [v]) := by
  subst hv
  exact W.aret X.1.1 X.1.2.1 hr (Or.inl ⟨n, rfl⟩) (va_rf_or r) (fun t ht _ => ⟨r, M, rfl, hp, by rw [ht]; exact hM.nil⟩) hM.free hdg hk
/-- fields -/
theorem r_get {ref C : String} {T : u_T} {N ci index : Nat} (X : Cx g p m c cc nL s args own) (hM : MW g M H locs) (hin : ∀ w ∈ u_ws C T N, w ∈ gT) (hc : vwCl[ci]? = some (C, T, N)) (k : Nat) (hk : k < N) (hlink : Cond.fieldLink own index ref (T k).2.1 (T k).2.2.1 ∈ gT) (hsame : (T k).1 = ref ∨ Cond.sameField ref (T k).1 (T k).2.1 (T k).2.2.1 ∈ gT) {fs : List Value} (he : M a = some (.inr (ci, fs))) {v : Value} (hv : fs[k]? = some v) (hdg : decode cc pc = .ok (.getfield index, 3))
    (kk : W p l e R s m args below meth c H locs cells slots Q (F0 m (pc + 3) ls (v :: rest))) : W p l e R s m args below meth c H locs cells slots Q (F0 m pc ls (.ref a :: rest)) :=
  va_get X.1.1 X.1.2.1 X.1.2.2.2.2 hin X.1.2.2.2.1 X.2.1 (hM.one he) 0 rfl hc k hk (X.1.2.2.2.2 _ hlink) (fun x9 h9 => by
    rcases hsame with h | h
    · rw [← h]; exact h9
    · exact u_same (X.1.2.2.2.2 _ h) x9 h9) hv hdg kk
theorem r_put {ref C : String} {T : u_T} {N ci index : Nat} (X : Cx g p m c cc nL s args own) (hM : MW g M H locs) (hin : ∀ w ∈ u_ws C T N, w ∈ gT) (ty0 : Nat → FieldType) (hty : ∀ k, k < N → parseFieldDescriptor (T k).2.2.1 = some (ty0 k)) (hnm : ∀ a, a < N → ∀ b, b < N → a ≠ b → (T a).2.1 ≠ (T b).2.1) (hc : vwCl[ci]? = some (C, T, N)) (k : Nat) (hk : k < N) (hlink : Cond.fieldLink own index ref (T k).2.1 (T k).2.2.1 ∈ gT) (hsame : (T k).1 = ref) (hfin : (T k).2.2.2 = false ∨ (meth.name = "<init>" ∧ (T k).1 = own)) {fs : List Value} (he : M a = some (.inr (ci, fs))) {v : Value} (hn : narrow (ty0 k) v = v) (hfit : fits (ty0 k) v = true) (hl : k < fs.length) (hdg : decode cc pc = .ok (.putfield index, 3))
    (kk : ∀ (H1 : Heap) (locs1 : List Loc), MW g (mup M a (.inr (ci, fs.set k v))) H1 locs1 → W p l e R s m args below meth c H1 locs1 cells slots Q (F0 m (pc + 3) ls rest)) : W p l e R s m args below meth c H locs cells slots Q (F0 m pc ls (v :: .ref a :: rest)) := by
  have hts := X.1.2.2.2.2
  have hown := X.1.2.2.2.1
  have hK := X.2.1
  have hap := va_apart (own := own) hts hin ty0 hty hnm hK hc
  obtain ⟨r, h1, cell, q1, q2, q3, q4⟩ := (hM.2.2.1 a _ he).2
  have hr : r = (C, T, N) := Option.some.inj (h1.symm.trans hc)
  subst hr
  obtain ⟨hS, hfc, kC, hkC, hkind⟩ := hK.1 ci _ hc
  obtain ⟨cf, kf, fi, f, hi, hsl⟩ := hS k hk
  have hlay := hts _ (hin _ (u_in_lay hk))
  have hst := (u_facts hfc hkC (u_lays hts hin hk) hi).1
  have hd := hty k hk
  have hi2 : s.fieldFound? ref (T k).2.1 (T k).2.2.1 = some (cf, kf, fi, f) := by rw [← hsame]; exact hi
  have done : ∀ H' : Heap, H'[a]? = some (cell.setSlot f.slot v) → H'.size = H.size → (∀ q : Nat, q ≠ a → H'[q]? = H[q]?) → MW g (mup M a (.inr (ci, fs.set k v))) H' (locs ++ [⟨a, f.slot⟩]) := by
    intro H' e1 e2 e3
    rw [hsl] at e1 ⊢
    exact hM.put he e2 e3 ⟨_, hc, t_OB.to (V := updV (vp_V fs) k v) ⟨_, e1, q2, q3, t_set q4 hap hk v⟩ (fun j _ => vp_updV_set hl v j)⟩
  unfold u_lay at hlay
  rcases hfin with hfin | ⟨hin2, hdecl⟩
  · rw [if_neg (by rw [hfin]; decide)] at hlay
    have h6 := u_store hfc hkC hkind hlay hi hd hn hfit
    exact W.putK X.1.1 X.1.2.1 (f := f) ⟨hown, hts _ hlink, ⟨_, _, _, hi2⟩, hst⟩ (by rw [q2]; exact h6) q1 q3 (by rw [hsl]; exact k2_hasslot (q4 k hk)) rfl rfl hdg fun H' e1 e2 e3 => kk H' _ (done H' e1 e2 e3)
  · by_cases hfin : (T k).2.2.2 = true
    · rw [if_pos hfin] at hlay
      have hcf : m.cls = cf := by
        obtain ⟨_, _, c', _, _, _, -, -, hf', -, -, -, hown2, -⟩ := Cond.laysFinal_spec hlay
        have e1 : c' = cf := by have := hi.symm.trans hf'; simp at this; exact this.1.symm
        rw [hdecl] at hown2
        rw [← e1]; exact Option.some.inj (hown.symm.trans hown2)
      have h6 := u_fits hfc hkC hkind (Or.inr hlay) hi hd hn hfit
      exact W.putFinK X.1.1 X.1.2.1 hown (hts _ hlink) hi2 hst hcf hin2 (by rw [q2]; exact h6) q1 q3 (by rw [hsl]; exact k2_hasslot (q4 k hk)) rfl rfl hdg fun H' e1 e2 e3 => kk H' _ (done H' e1 e2 e3)
    · rw [if_neg hfin] at hlay
      have h6 := u_store hfc hkC hkind hlay hi hd hn hfit
      exact W.putK X.1.1 X.1.2.1 (f := f) ⟨hown, hts _ hlink, ⟨_, _, _, hi2⟩, hst⟩ (by rw [q2]; exact h6) q1 q3 (by rw [hsl]; exact k2_hasslot (q4 k hk)) rfl rfl hdg fun H' e1 e2 e3 => kk H' _ (done H' e1 e2 e3)
/-- arrays -/
theorem MW.D {A : Nat → Prop} {a : Nat} {e : va_E} (h : A a) : va_D A [(a, e)] := by
  refine ⟨fun i j x y hi hj _ => ?_, fun k q hk => ?_⟩
  · have h1 := (List.getElem?_eq_some_iff.mp hi).1
    have h2 := (List.getElem?_eq_some_iff.mp hj).1
    simp at h1 h2
    omega
  · have h1 := (List.getElem?_eq_some_iff.mp hk).1
    simp at h1
    subst h1
    cases hk
    exact h
theorem r_alen {x : vp_A} {cA : ClassId} (t0 : Nat) (X : Cx g p m c cc nL s args own) (hM : MW g M H locs) (he : M a = some (.inl (cA, x))) {ty : FieldType} (ht : (tyl g)[t0]? = some (cA, ty)) {v : Int32} (hv : Int32.ofNat x.1 = v) (hdg : decode cc pc = .ok (.arraylength, 1))
    (kk : W p l e R s m args below meth c H locs cells slots Q (F0 m (pc + 1) ls (.int v :: rest))) : W p l e R s m args below meth c H locs cells slots Q (F0 m pc ls (.ref a :: rest)) :=
  va_alen X.1.1 X.1.2.1 X.2.1 (hM.one he) 0 t0 rfl ht hv hdg kk
theorem r_iald {n : Nat} {f : Nat → Int32} {i : Int32} (X : Cx g p m c cc nL s args own) (hM : MW g M H locs) (he : M a = some (aI g n f)) (hin : vp_in i n) (hdg : decode cc pc = .ok (.iaload, 1))
    (kk : W p l e R s m args below meth c H locs cells slots Q (F0 m (pc + 1) ls (.int (f i.toNatClampNeg) :: rest))) : W p l e R s m args below meth c H locs cells slots Q (F0 m pc ls (.int i :: .ref a :: rest)) :=
  va_iald X.1.1 X.1.2.1 X.2.1 (hM.one he) 0 0 rfl rfl hin hdg kk
theorem r_zald {n : Nat} {f : Nat → Int32} {i : Int32} (X : Cx g p m c cc nL s args own) (hM : MW g M H locs) (he : M a = some (aZ g n f)) (hin : vp_in i n) (hdg : decode cc pc = .ok (.baload, 1))
    (kk : W p l e R s m args below meth c H locs cells slots Q (F0 m (pc + 1) ls (.int (f i.toNatClampNeg) :: rest))) : W p l e R s m args below meth c H locs cells slots Q (F0 m pc ls (.int i :: .ref a :: rest)) :=
  va_zald X.1.1 X.1.2.1 X.2.1 (hM.one he) 0 1 rfl rfl hin hdg kk
theorem r_aald {n : Nat} {f : Nat → Option Nat} {i : Int32} (X : Cx g p m c cc nL s args own) (hM : MW g M H locs) (he : M a = some (aS g n f)) (hin : vp_in i n) (hdg : decode cc pc = .ok (.aaload, 1))
    (kk : W p l e R s m args below meth c H locs cells slots Q (F0 m (pc + 1) ls (va_rf (f i.toNatClampNeg) :: rest))) : W p l e R s m args below meth c H locs cells slots Q (F0 m pc ls (.int i :: .ref a :: rest)) :=
  va_aldq X.1.1 X.1.2.1 X.2.1 (hM.one he) 0 2 rfl rfl hin hdg kk
/-- what va_S says of the others, and back -/
theorem MW.frame {M : Mem} {H H1 : Heap} {locs locs1 : List Loc} {a : Nat} {e0 e : va_E} (hM : MW g M H locs) (h0 : M a = some e0) (hP : va_P (gD g) vwCl [(a, e)] H1) (hS : va_S (fun q => q = a) H H1 locs1) (hsz : H1.size = H.size) (hl : ∀ q ∈ locs1, (gH g).size ≤ q.base) : MW g (mup M a e) H1 locs1 := by
  have ha := (hM.2.2.1 a e0 h0).1
  have oq : ∀ q : Nat, q ≠ a → H1[q]? = H[q]? := by
    intro q hq
    by_cases h : q < H.size
    · exact hS.2.1 q h hq
    · have h1 : H[q]? = none := by simp; omega
      have h2 : H1[q]? = none := by simp; omega
      rw [h1, h2]
  refine ⟨by rw [hsz]; exact hM.1, fun q hq => ?_, fun b x hb => ?_, hl⟩
  · rw [oq q (by omega)]
    exact hM.2.1 q hq
  · by_cases hba : b = a
    · subst hba
      rw [mup_s] at hb
      cases hb
      exact ⟨ha, hP 0 (b, e) rfl⟩
    · rw [mup_n hba] at hb
      exact ⟨(hM.2.2.1 b x hb).1, (hM.2.2.1 b x hb).2.kept (oq b hba)⟩
theorem r_iast {n : Nat} {f : Nat → Int32} {i x : Int32} (X : Cx g p m c cc nL s args own) (hM : MW g M H locs) (he : M a = some (aI g n f)) (hin : vp_in i n) (hdg : decode cc pc = .ok (.iastore, 1))
    (kk : ∀ (H1 : Heap) (locs1 : List Loc), MW g (mup M a (aI g n (upd f i.toNatClampNeg x))) H1 locs1 → W p l e R s m args below meth c H1 locs1 cells slots Q (F0 m (pc + 1) ls rest)) : W p l e R s m args below meth c H locs cells slots Q (F0 m pc ls (.int x :: .int i :: .ref a :: rest)) := by
  refine W.iast X.1.1 X.1.2.1 (hM.one he 0 _ rfl) ((X.2.1.2 0 _ rfl).1 n (fun j => .int (f j))) (fun q => by cases q) (by show ¬ (i < 0 ∨ (arrV _ _ _).slots.size ≤ _); rw [arrV_size]; exact hin) rfl rfl hdg fun H1 e z oq => ?_
  refine kk H1 _ (hM.put he z oq ?_)
  show H1[a]? = some (vp_cell _ _)
  rw [e]
  rw [vp_cell_i, vp_cell_i, arrV_store]
  congr 2
  funext q
  by_cases hq : q = i.toNatClampNeg
  · subst hq
    simp [updV, upd]
  · simp [updV, upd, hq]
theorem r_zast {n : Nat} {f : Nat → Int32} {i x : Int32} (X : Cx g p m c cc nL s args own) (hM : MW g M H locs) (he : M a = some (aZ g n f)) (hx : x = 0 ∨ x = 1) (hin : vp_in i n) (hdg : decode cc pc = .ok (.bastore, 1))
    (kk : ∀ (H1 : Heap) (locs1 : List Loc), MW g (mup M a (aZ g n (upd f i.toNatClampNeg x))) H1 locs1 → W p l e R s m args below meth c H1 locs1 cells slots Q (F0 m (pc + 1) ls rest)) : W p l e R s m args below meth c H locs cells slots Q (F0 m pc ls (.int x :: .int i :: .ref a :: rest)) := by
  refine W.zast X.1.1 X.1.2.1 (hM.one he 0 _ rfl) ((X.2.1.2 1 _ rfl).1 n (fun j => .int (f j))) (fun q => by cases q) (by show ¬ (i < 0 ∨ (arrV _ _ _).slots.size ≤ _); rw [arrV_size]; exact hin) rfl rfl hdg fun H1 e z oq => ?_
  refine kk H1 _ (hM.put he z oq ?_)
  show H1[a]? = some (vp_cell _ _)
  rw [e]
  rw [vp_cell_i, vp_cell_i, arrV_store]
  congr 2
  funext q
  by_cases hq : q = i.toNatClampNeg
  · subst hq
    rcases hx with rfl | rfl <;> simp [updV, upd, narrow]
  · simp [updV, upd, hq]
theorem r_aast {n v ci : Nat} {r : vw_C} {vs : List Value} {f : Nat → Option Nat} {i : Int32} (X : Cx g p m c cc nL s args own) (hM : MW g M H locs) (he : M a = some (aS g n f)) (hv : M v = some (.inr (ci, vs))) (hc : vwCl[ci]? = some r) (hcast : r.1 = "StarCustody$Star" ∨ (r.1, "StarCustody$Star") ∈ caP) (hin : vp_in i n) (hdg : decode cc pc = .ok (.aastore, 1))
    (kk : ∀ (H1 : Heap) (locs1 : List Loc), MW g (mup M a (aS g n (va_up f i.toNatClampNeg (some v)))) H1 locs1 → W p l e R s m args below meth c H1 locs1 cells slots Q (F0 m (pc + 1) ls rest)) : W p l e R s m args below meth c H locs cells slots Q (F0 m pc ls (.ref v :: .int i :: .ref a :: rest)) := by
  have hK := X.2.1
  have hP := hM.one he
  have hlt : i.toNatClampNeg < n := Nat.not_le.mp fun q => hin (Or.inr q)
  have h0 : ¬ i < 0 := fun q => hin (Or.inl q)
  obtain ⟨r', hr', cellV, g1, g2, g3, -⟩ := (hM.2.2.1 v _ hv).2
  have hcls := (hK.1 ci r hc).2
  obtain ⟨kA, comp, k1, k2, k3, -⟩ := (hK.2 2 _ rfl).2
  obtain ⟨kC, hkC, -⟩ := hcls.2
  have done : ∀ H1 : Heap, H1[a]? = some ((vp_cell (gS g) (n, .inr (.inr (.inr (.inr f))))).setSlot i.toNatClampNeg (.ref v)) → H1.size = H.size → (∀ q : Nat, q ≠ a → H1[q]? = H[q]?) → MW g (mup M a (aS g n (va_up f i.toNatClampNeg (some v)))) H1 (locs ++ [⟨a, i.toNatClampNeg⟩]) := by
    intro H1 e z oq
    refine hM.put he z oq ?_
    show H1[a]? = some (vp_cell _ _)
    rw [e]
    rw [vp_cell_q, vp_cell_q, arrV_store]
    congr 2
    funext q
    by_cases hq : q = i.toNatClampNeg
    · subst hq
      simp [updV, va_up, va_rf]
    · simp [updV, va_up, hq]
  rcases hcast with hcs | hca
  · have hcomp : comp = (gD g).1 ci := Option.some.inj (k3.symm.trans (hcs ▸ hcls.1))
    subst hcomp
    refine W.aast X.1.1 X.1.2.1 (hP 0 _ rfl) (fun q h => by cases h) (fun h => by cases h) k1 k2 rfl hkC ⟨h0, by show _ < (arrV _ _ _).slots.size; rw [arrV_size]; exact hlt⟩ g1 (fun q h => by rw [g3] at h; cases h) (by rw [g2]; exact hkC) (by rw [g2]; exact va_assign hcls) rfl rfl hdg fun H1 e z oq => kk H1 _ (done H1 e z oq)
  · obtain ⟨kE, hkE, -⟩ := Vm.findClass_spec k3
    obtain ⟨c0, t1, f1, f2, f3⟩ := Cond.castable_spec (va_Nw.use (A := args) rfl (X.2.2.2.2.2.1 _ hca))
    cases hcls.1.symm.trans f1
    cases k3.symm.trans f2
    refine W.aast X.1.1 X.1.2.1 (hP 0 _ rfl) (fun q h => by cases h) (fun h => by cases h) k1 k2 rfl hkE ⟨h0, by show _ < (arrV _ _ _).slots.size; rw [arrV_size]; exact hlt⟩ g1 (fun q h => by rw [g3] at h; cases h) (by rw [g2]; exact hkC) (by rw [g2]; exact f3) rfl rfl hdg fun H1 e z oq => kk H1 _ (done H1 e z oq)
theorem r_aastN {n : Nat} {f : Nat → Option Nat} {i : Int32} (X : Cx g p m c cc nL s args own) (hM : MW g M H locs) (he : M a = some (aS g n f)) (hin : vp_in i n) (hdg : decode cc pc = .ok (.aastore, 1))
    (kk : ∀ (H1 : Heap) (locs1 : List Loc), MW g (mup M a (aS g n (va_up f i.toNatClampNeg none))) H1 locs1 → W p l e R s m args below meth c H1 locs1 cells slots Q (F0 m (pc + 1) ls rest)) : W p l e R s m args below meth c H locs cells slots Q (F0 m pc ls (.null :: .int i :: .ref a :: rest)) := by
  refine va_WaastN (C := "StarCustody$Star") X.1.1 X.1.2.1 (hM.one he 0 _ rfl) ((X.2.1.2 2 _ rfl).1 n (fun j => va_rf (f j))) (fun h => by cases h) (by show ¬ (i < 0 ∨ (arrV _ _ _).slots.size ≤ _); rw [arrV_size]; exact hin) rfl rfl hdg fun H1 e z oq => ?_
  refine kk H1 _ (hM.put he z oq ?_)
  show H1[a]? = some (vp_cell _ _)
  rw [e]
  rw [vp_cell_q, vp_cell_q, arrV_store]
  congr 2
  funext q
  by_cases hq : q = i.toNatClampNeg
  · subst hq
    simp [updV, va_up, va_rf]
  · simp [updV, va_up, hq]
/-- new cells -/
theorem r_newI {n : Int32} {N' : Nat} (X : Cx g p m c cc nL s args own) (hM : MW g M H locs) (hn : ¬ n < 0) (hN : n.toNatClampNeg = N') (hbytes : N' ≤ 100000) (hcells : cells + 1 ≤ R.cells) (hslots : slots + N' ≤ R.slots) (harr : Cond.arrayClass .int ∈ gT) (hdg : decode cc pc = .ok (.newarray .int, 2))
    (kk : ∀ H1 : Heap, H1.size = H.size + 1 → MW g (mup M H.size (aI g N' (fun _ => 0))) H1 locs → W p l e R s m args below meth c H1 locs (cells + 1) (slots + N') Q (F0 m (pc + 2) ls (.ref H.size :: rest))) : W p l e R s m args below meth c H locs cells slots Q (F0 m pc ls (.int n :: rest)) := by
  refine va_newaK (atype := .int) X.1.1 X.1.2.1 (X.1.2.2.2.2 _ harr) rfl hdg rfl hn hN (by show N' * 4 ≤ _; omega) hcells hslots rfl fun H1 cA e1 z1 o1 hAr hNm => ?_
  have hcA : cA = gI g := Option.some.inj (hNm.symm.trans (X.2.1.2 0 _ rfl).2)
  subst hcA
  refine kk H1 z1 (hM.new (by omega) o1 ?_)
  show H1[H.size]? = some (vp_cell _ _)
  rw [vp_cell_i]
  exact e1
theorem r_newZ {n : Int32} {N' : Nat} (X : Cx g p m c cc nL s args own) (hM : MW g M H locs) (hn : ¬ n < 0) (hN : n.toNatClampNeg = N') (hbytes : N' ≤ 100000) (hcells : cells + 1 ≤ R.cells) (hslots : slots + N' ≤ R.slots) (harr : Cond.arrayClass .boolean ∈ gT) (hdg : decode cc pc = .ok (.newarray .boolean, 2))
    (kk : ∀ H1 : Heap, H1.size = H.size + 1 → MW g (mup M H.size (aZ g N' (fun _ => 0))) H1 locs → W p l e R s m args below meth c H1 locs (cells + 1) (slots + N') Q (F0 m (pc + 2) ls (.ref H.size :: rest))) : W p l e R s m args below meth c H locs cells slots Q (F0 m pc ls (.int n :: rest)) := by
  refine va_newaK (atype := .boolean) X.1.1 X.1.2.1 (X.1.2.2.2.2 _ harr) rfl hdg rfl hn hN (by show N' * 1 ≤ _; omega) hcells hslots rfl fun H1 cA e1 z1 o1 hAr hNm => ?_
  have hcA : cA = gZ g := Option.some.inj (hNm.symm.trans (X.2.1.2 1 _ rfl).2)
  subst hcA
  refine kk H1 z1 (hM.new (by omega) o1 ?_)
  show H1[H.size]? = some (vp_cell _ _)
  rw [vp_cell_i]
  exact e1
theorem r_newQ {n : Int32} {N' index : Nat} (X : Cx g p m c cc nL s args own) (hM : MW g M H locs) (hlink : Cond.classLink own index "StarCustody$Star" ∈ gT) (hn : ¬ n < 0) (hN : n.toNatClampNeg = N') (hbytes : N' ≤ 100000) (hcells : cells + 1 ≤ R.cells) (hslots : slots + N' ≤ R.slots) (hdg : decode cc pc = .ok (.anewarray index, 3))
    (kk : ∀ H1 : Heap, H1.size = H.size + 1 → MW g (mup M H.size (aS g N' (fun _ => none))) H1 locs → W p l e R s m args below meth c H1 locs (cells + 1) (slots + N') Q (F0 m (pc + 3) ls (.ref H.size :: rest))) : W p l e R s m args below meth c H locs cells slots Q (F0 m pc ls (.int n :: rest)) := by
  subst hN
  refine W.anew X.1.1 X.1.2.1 X.1.2.2.2.1 (X.1.2.2.2.2 _ hlink) (va_AO.use X.2.2.2.1) rfl hdg rfl hn (by omega) hcells hslots fun cA kA comp f1 f2 f3 f4 => ?_
  generalize hH1 : H.push ({ cls := cA, slots := Array.replicate n.toNatClampNeg .null, vm := .none } : Cell) = H1
  have z1 : H1.size = H.size + 1 := by rw [← hH1, Array.size_push]
  have e1 : H1[H.size]? = some (arrV cA n.toNatClampNeg (fun _ => .null)) := by rw [← hH1, Array.getElem?_push_size, ← arrV_new]
  have o1 : ∀ q : Nat, q < H.size → H1[q]? = H[q]? := fun q hq => by rw [← hH1, Array.getElem?_push, if_neg (Nat.ne_of_lt hq)]
  obtain ⟨_, _, _, _, _, k4⟩ := (X.2.1.2 2 _ rfl).2
  have hcA : cA = gS g := Option.some.inj (f1.symm.trans k4)
  subst hcA
  refine kk H1 z1 (hM.new (by omega) o1 ?_)
  show H1[H.size]? = some (vp_cell _ _)
  rw [vp_cell_q]
  exact e1
theorem r_new {c0 : Code} {C : String} {T : u_T} {N ci index : Nat} (X : Cx g p m c0 cc nL s args own) (hM : MW g M H locs) (hin : ∀ w ∈ u_ws C T N, w ∈ gT) (ty : Nat → FieldType) (hty : ∀ k, k < N → parseFieldDescriptor (T k).2.2.1 = some (ty k)) (hcl : Cond.classLink own index C ∈ gT) (hinst : Cond.instantiable C N ∈ gT) (hini : Cond.initialized C ∈ gT) (hc : vwCl[ci]? = some (C, T, N)) {fs : List Value} (hfs : ∀ j, j < N → defaultValue (ty j) = vp_V fs j) (hcells : cells + 1 ≤ R.cells) (hslots : slots + N ≤ R.slots) (hdg : decode cc pc = .ok (.new index, 3))
    (kk : ∀ H1 : Heap, H1.size = H.size + 1 → MW g (mup M H.size (.inr (ci, fs))) H1 locs → W p l e R s m args below meth c0 H1 locs (cells + 1) (slots + N) Q (F0 m (pc + 3) ls (.ref H.size :: rest))) : W p l e R s m args below meth c0 H locs cells slots Q (F0 m pc ls rest) := by
  have hts := X.1.2.2.2.2
  have hKn := X.2.1.1 ci _ hc
  refine W.newcK X.1.1 X.1.2.1 X.1.2.2.2.1 (hts _ hcl) (hts _ hinst) (hts _ hini) rfl hdg hcells hslots hKn.2.1 rfl fun H1 kC hkC e1 z1 o1 => ?_
  exact kk H1 z1 (hM.new (by omega) o1 ⟨_, hc, (u_born ty hts hin hKn hkC e1 hty).to hfs⟩)
/-- Math.max, min; System.arraycopy; instanceof; Object's constructor -/
theorem r_max {x y : Int32} {index d mcR msR : Nat} (X : Cx g p m c cc nL s args own) (hls : ls.size = nL) (hlink : Cond.methodLink own index Lib.Math.max.name ∈ gT) (hstat : Cond.static Lib.Math.max.name ∈ gT) (hini : Cond.initialized "java/lang/Math" ∈ gT) (hcode : Cond.code Lib.Math.max.name Lib.Math.max.code 2 (some .int) ∈ gT) (hd : 1 ≤ d) (hW : (rest.map fun v => v.category).sum ≤ 8) (hc : cells ≤ mcR) (hs : slots ≤ msR) (hdg : decode cc pc = .ok (.invokestatic index, 3))
    (kk : W p l e (rmD d mcR msR) s m args below meth c H locs cells slots Q (F0 m (pc + 3) ls (.int (if x < y then y else x) :: rest))) : W p l e (rmD d mcR msR) s m args below meth c H locs cells slots Q (F0 m pc ls (.int y :: .int x :: rest)) :=
  va_mmax X.1.1 X.1.2.1 (X.1.2.2.1.trans hls.symm) X.1.2.2.2.1 (X.1.2.2.2.2 _ hlink) (X.1.2.2.2.2 _ hstat) (X.1.2.2.2.2 _ hini) (X.1.2.2.2.2 _ hcode) hd (by show _ ≤ 40 * d; omega) hc hs hdg kk
theorem r_min {x y : Int32} {index d mcR msR : Nat} (X : Cx g p m c cc nL s args own) (hls : ls.size = nL) (hlink : Cond.methodLink own index Lib.Math.min.name ∈ gT) (hstat : Cond.static Lib.Math.min.name ∈ gT) (hini : Cond.initialized "java/lang/Math" ∈ gT) (hcode : Cond.code Lib.Math.min.name Lib.Math.min.code 2 (some .int) ∈ gT) (hd : 1 ≤ d) (hW : (rest.map fun v => v.category).sum ≤ 8) (hc : cells ≤ mcR) (hs : slots ≤ msR) (hdg : decode cc pc = .ok (.invokestatic index, 3))
    (kk : W p l e (rmD d mcR msR) s m args below meth c H locs cells slots Q (F0 m (pc + 3) ls (.int (if y < x then y else x) :: rest))) : W p l e (rmD d mcR msR) s m args below meth c H locs cells slots Q (F0 m pc ls (.int y :: .int x :: rest)) :=
  va_mmin X.1.1 X.1.2.1 (X.1.2.2.1.trans hls.symm) X.1.2.2.2.1 (X.1.2.2.2.2 _ hlink) (X.1.2.2.2.2 _ hstat) (X.1.2.2.2.2 _ hini) (X.1.2.2.2.2 _ hcode) hd (by show _ ≤ 40 * d; omega) hc hs hdg kk
theorem r_copy {a0 n0 n1 index d mcR msR : Nat} {f h : Nat → Int32} {sp dp n : Int32} (X : Cx g p m c cc nL s args own) (hM : MW g M H locs) (hls : ls.size = nL) (ha0 : M a0 = some (aI g n0 f)) (ha1 : M a = some (aI g n1 h)) (hlink : Cond.methodLink own index arraycopyName ∈ gT) (hnat : Cond.native arraycopyName ∈ gT) (hstat : Cond.static arraycopyName ∈ gT) (hini : Cond.initialized "java/lang/System" ∈ gT) (h1 : ¬ sp < 0) (h2 : ¬ dp < 0) (h3 : ¬ n < 0) (h4 : sp.toNatClampNeg + n.toNatClampNeg ≤ n0) (h5 : dp.toNatClampNeg + n.toNatClampNeg ≤ n1) (hne : a0 ≠ a) (hd : 1 ≤ d) (hW : (rest.map fun v => v.category).sum ≤ 8) (hdg : decode cc pc = .ok (.invokestatic index, 3))
    (kk : ∀ (H1 : Heap) (locs1 : List Loc), MW g (mup M a (aI g n1 (va_cpy f h sp.toNatClampNeg dp.toNatClampNeg n.toNatClampNeg))) H1 locs1 → W p l e (rmD d mcR msR) s m args below meth c H1 locs1 cells slots Q (F0 m (pc + 3) ls rest)) : W p l e (rmD d mcR msR) s m args below meth c H locs cells slots Q (F0 m pc ls (.int n :: .int dp :: .ref a :: .int sp :: .ref a0 :: rest)) := by
  have nn : ∀ z : Int32, ¬ z < 0 → z.toInt = (z.toNatClampNeg : Int) := by
    intro z hz
    have hz0 : (0 : Int) ≤ z.toInt := by
      have := Int32.not_lt.mp hz
      simpa using Int32.le_iff_toInt_le.mp this
    show z.toInt = ((z.toInt.toNat : Nat) : Int)
    omega
  have hnf : nativeFrameWords "java/lang/System" "arraycopy" 5 ≤ 20 := by decide +kernel
  intro T hT X0
  have hc0 : H[a0]? = some (vp_cell (gI g) (n0, .inl f)) := (hM.2.2.1 a0 _ ha0).2
  have hc1 : H[a]? = some (vp_cell (gI g) (n1, .inl h)) := (hM.2.2.1 a _ ha1).2
  obtain ⟨-, k0, hk0, cm0, hkk0⟩ := (X.2.1.2 0 _ rfl).1 n0 (fun j => .int (f j))
  obtain ⟨vm', X', step⟩ := X0.arraycopy X.1.1 X.1.2.2.2.1 (X.1.2.2.2.2 _ hlink) (X.1.2.2.2.2 _ hnat) (X.1.2.2.2.2 _ hstat) (X.1.2.2.2.2 _ hini) (src := a0) (dst := a) (cs := vp_cell (gI g) (n0, .inl f)) (cd := vp_cell (gI g) (n1, .inl h)) (srcPos := sp) (destPos := dp) (n := n) (by rw [hT]; exact hc0) (by rw [hT]; exact hc1)
    (fun _ h => by cases h) (fun _ h => by cases h) (fun h => by cases h) (fun h => by cases h) hk0 hk0 hkk0 hkk0 (by simp) h1 h2 h3
    (by rw [nn sp h1, nn n h3]; show ¬ _ > ((arrV (gI g) n0 (fun j => .int (f j))).slots.size : Int); rw [arrV_size]; omega)
    (by rw [nn dp h2, nn n h3]; show ¬ _ > ((arrV (gI g) n1 (fun j => .int (h j))).slots.size : Int); rw [arrV_size]; omega)
    (fun vm₁ _ i hi => by
      have e : (vp_cell (gI g) (n0, .inl f)).slots.getD (sp.toNatClampNeg + i) .null = .int (f (sp.toNatClampNeg + i)) := by
        show (arrV (gI g) n0 (fun j => .int (f j))).slots.getD _ _ = _
        rw [Array.getD_eq_getD_getElem?, arrV_read _ _ (by omega)]
        rfl
      refine ⟨?_, ?_⟩
      · rw [e]
        rfl
      · rw [e]
        exact trivial)
    (g := F0 m pc ls (.int n :: .int dp :: .ref a :: .int sp :: .ref a0 :: rest)) rfl (hls.trans X.1.2.2.1.symm) (rest := rest) rfl (by rw [X.1.2.1]; exact hdg) hd (by show 2 * 0 + _ + (nativeFrameWords "java/lang/System" "arraycopy" 5 + 11) ≤ 40 * d; omega)
  have e1 : copied (vp_cell (gI g) (n0, .inl f)) (vp_cell (gI g) (n1, .inl h)) sp dp n = vp_cell (gI g) (n1, .inl (va_cpy f h sp.toNatClampNeg dp.toNatClampNeg n.toNatClampNeg)) := va_copied (fun z => .int z) (gI g) (gI g) f h h4
  rw [e1] at X' step
  have hl : a < H.size := (Array.getElem?_eq_some_iff.mp hc1).1
  have hheap : ((T.setVm vm').setCell a (vp_cell (gI g) (n1, .inl (va_cpy f h sp.toNatClampNeg dp.toNatClampNeg n.toNatClampNeg)))).heap = H.setIfInBounds a (vp_cell (gI g) (n1, .inl (va_cpy f h sp.toNatClampNeg dp.toNatClampNeg n.toNatClampNeg))) := by rw [← hT]; rfl
  have oq : ∀ q : Nat, q ≠ a → (H.setIfInBounds a (vp_cell (gI g) (n1, .inl (va_cpy f h sp.toNatClampNeg dp.toNatClampNeg n.toNatClampNeg))))[q]? = H[q]? := fun q hq => by simp [Array.getElem?_setIfInBounds, Ne.symm hq]
  have hMp := hM.put (k := 0) (e := aI g n1 (va_cpy f h sp.toNatClampNeg dp.toNatClampNeg n.toNatClampNeg)) ha1 (by simp) oq (show (H.setIfInBounds a _)[a]? = some _ by simp [Array.getElem?_setIfInBounds, hl])
  obtain ⟨t, a1, b1⟩ := kk _ _ ⟨hMp.1, hMp.2.1, hMp.2.2.1, fun q hq => by
      rcases List.mem_append.mp hq with h9 | h9
      · exact hM.2.2.2 q h9
      · obtain ⟨z, -, hz⟩ := List.mem_map.mp h9
        rw [← hz]
        exact (hM.2.2.1 a _ ha1).1⟩ _ hheap X'
  exact ⟨t, step t a1, b1⟩
theorem r_objI {index : Nat} {d mcR msR : Nat} (X : Cx g p m c cc nL s args own) (hls : ls.size = nL) (hlink : Cond.methodLink own index Lib.objectInit ∈ gT) (hinst : Cond.instanceMethod Lib.objectInit ∈ gT) (hcode : Cond.code Lib.objectInit ⟨#[0xb1]⟩ 1 none ∈ gT) (hd : 1 ≤ d) (hW : (rest.map fun v => v.category).sum ≤ 8) (hdg : decode cc pc = .ok (.invokespecial index, 3))
    (kk : W p l e (rmD d mcR msR) s m args below meth c H locs cells slots Q (F0 m (pc + 3) ls rest)) : W p l e (rmD d mcR msR) s m args below meth c H locs cells slots Q (F0 m pc ls (.ref a :: rest)) := by
  refine W.objInit X.1.1 X.1.2.1 X.1.2.2.2.1 (X.1.2.2.2.2 _ hlink) (X.1.2.2.2.2 _ hinst) (X.1.2.2.2.2 _ hcode) rfl (hls.trans X.1.2.2.1.symm) rfl hdg hd (by show 2 * 0 + _ + 12 ≤ 40 * d; omega) ?_
  exact kk
/-- calls: what is written down once of a link -/
def LkV (own : String) (idx : Nat) (y : MethodName) (bytes : ByteArray) (maxL : Nat) (ret : Option FieldType) (n : Nat) : Prop := GoodIn gT (wsV own idx y.cls y (wsM y bytes maxL ret)) ∧ (y.cls ≠ "java/lang/invoke/MethodHandle" ∧ y.cls ≠ "java/lang/invoke/VarHandle" ∧ (parseMethodDescriptor y.desc).map (fun d => d.parameters.length) = some n) ∧ maxL ≤ 21
def LkS (own : String) (idx : Nat) (y : MethodName) (bytes : ByteArray) (maxL : Nat) (ret : Option FieldType) (n : Nat) : Prop := GoodIn gT (wsS own idx y (wsM y bytes maxL ret)) ∧ (y.cls = own ∧ y.cls ≠ "java/lang/invoke/MethodHandle" ∧ y.cls ≠ "java/lang/invoke/VarHandle" ∧ (parseMethodDescriptor y.desc).map (fun d => d.parameters.length) = some n) ∧ maxL ≤ 21
def LkT (own : String) (idx : Nat) (y : MethodName) (bytes : ByteArray) (maxL : Nat) (ret : Option FieldType) (n : Nat) : Prop := GoodIn gT (va_wsS own idx y (wsM y bytes maxL ret)) ∧ (y.cls ≠ "java/lang/invoke/MethodHandle" ∧ y.cls ≠ "java/lang/invoke/VarHandle" ∧ (parseMethodDescriptor y.desc).map (fun d => d.parameters.length) = some n) ∧ maxL ≤ 21
def LkI (own : String) (idx : Nat) (y : MethodName) (bytes : ByteArray) (maxL : Nat) (n : Nat) : Prop := GoodIn gT (wsM y bytes maxL none) ∧ (Cond.initialized y.cls ∈ gT ∧ Cond.methodLink own idx y ∈ gT ∧ Cond.instanceMethod y ∈ gT ∧ y.name = "<init>") ∧ (y.cls ≠ "java/lang/invoke/MethodHandle" ∧ y.cls ≠ "java/lang/invoke/VarHandle" ∧ (parseMethodDescriptor y.desc).map (fun d => d.parameters.length) = some n) ∧ maxL ≤ 21
def LkN (own : String) (idx : Nat) (y : MethodName) (host : String) (bytes : ByteArray) (maxL : Nat) (ret : Option FieldType) (n : Nat) : Prop := GoodIn gT (wsM y bytes maxL ret) ∧ ((own, idx, y, host) ∈ nestP ∧ Cond.initialized y.cls ∈ gT ∧ (Cond.static y ∈ gT ∨ (Cond.instanceMethod y ∈ gT ∧ y.name = "<init>"))) ∧ (y.cls ≠ "java/lang/invoke/MethodHandle" ∧ y.cls ≠ "java/lang/invoke/VarHandle" ∧ (parseMethodDescriptor y.desc).map (fun d => d.parameters.length) = some n) ∧ maxL ≤ 21
theorem room_ok {d d' mc ms mc' ms' maxL : Nat} (hd : d' + 1 ≤ d) (hm : maxL ≤ 21) : (rmD d' mc' ms').frames + 1 ≤ (rmD d mc ms).frames ∧ 8 + (maxL + 11) + (rmD d' mc' ms').locals ≤ (rmD d mc ms).locals := by
  refine ⟨hd, ?_⟩
  show 8 + (maxL + 11) + 40 * d' ≤ 40 * d
  omega
section CALLS
variable {y : MethodName} {bytes : ByteArray} {maxL mc ms n idx d d' mcR msR : Nat} {ret : Option FieldType} {Qc : Array Value → State → Outcome → State → Prop} {As st0 : List Value} {b ci N : Nat} {T : u_T} {fs : List Value} {host : String}
theorem G_V (X : Cx g p m c cc nL s args own) (hM : MW g M H locs) (met : Met l y (wsM y bytes maxL ret) (rmD d' mc ms) (Pre g M (.ref b :: As)) Qc mc ms (gF g)) (hG : LkV own idx y bytes maxL ret n) (he : M b = some (.inr (ci, fs))) (hc : vwCl[ci]? = some (y.cls, T, N)) (hn : As.length = n) (hls : ls.size = nL) (hst : st0 = As.reverse ++ .ref b :: rest) (hW : (rest.map fun v => v.category).sum ≤ 8) (hd : d' + 1 ≤ d) (hdg : decode cc pc = .ok (.invokevirtual idx, 3)) (hf : cells + mc ≤ mcR ∧ slots + ms ≤ msR) :
    va_Run p l e (rmD d mcR msR) s m args below meth c H locs cells slots mc ms (F0 m pc ls st0) rest (Qc (Value.ref b :: As).toArray) (gF g) :=
  va_runV X.1 met (cwV n X.1.2.2.2.2 hG.1 rfl rfl rfl ⟨rfl, hG.2.1⟩ (room_ok hd hG.2.2)) ⟨Pre.blind, va_recv X.2.1 (hM.one he) (q0 := 0) hc rfl, fun U hU hw => ⟨rfl, by rw [hU]; exact hM.nil, KK.warm hw X.2⟩⟩ rfl hn hls hst (by show 2 * 0 + _ ≤ 8; omega) hdg hf
theorem G_S (X : Cx g p m c cc nL s args own) (hM : MW g M H locs) (met : Met l y (wsM y bytes maxL ret) (rmD d' mc ms) (Pre g M As) Qc mc ms (gF g)) (hG : LkS own idx y bytes maxL ret n) (hn : As.length = n) (hls : ls.size = nL) (hst : st0 = As.reverse ++ rest) (hW : (rest.map fun v => v.category).sum ≤ 8) (hd : d' + 1 ≤ d) (hdg : decode cc pc = .ok (.invokestatic idx, 3)) (hf : cells + mc ≤ mcR ∧ slots + ms ≤ msR) :
    va_Run p l e (rmD d mcR msR) s m args below meth c H locs cells slots mc ms (F0 m pc ls st0) rest (Qc As.toArray) (gF g) :=
  va_runS X.1 met (cwS n X.1.2.2.2.2 hG.1 rfl rfl rfl hG.2.1 (room_ok hd hG.2.2)) ⟨Pre.blind, fun U hU hw => ⟨rfl, by rw [hU]; exact hM.nil, KK.warm hw X.2⟩⟩ rfl hn hls hst (by show 2 * 0 + _ ≤ 8; omega) hdg hf
theorem G_T (X : Cx g p m c cc nL s args own) (hM : MW g M H locs) (met : Met l y (wsM y bytes maxL ret) (rmD d' mc ms) (Pre g M As) Qc mc ms (gF g)) (hG : LkT own idx y bytes maxL ret n) (hn : As.length = n) (hls : ls.size = nL) (hst : st0 = As.reverse ++ rest) (hW : (rest.map fun v => v.category).sum ≤ 8) (hd : d' + 1 ≤ d) (hdg : decode cc pc = .ok (.invokestatic idx, 3)) (hf : cells + mc ≤ mcR ∧ slots + ms ≤ msR) :
    va_Run p l e (rmD d mcR msR) s m args below meth c H locs cells slots mc ms (F0 m pc ls st0) rest (Qc As.toArray) (gF g) :=
  va_runS X.1 met (va_cwS n X.1.2.2.2.2 hG.1 rfl rfl rfl hG.2.1 (room_ok hd hG.2.2)) ⟨Pre.blind, fun U hU hw => ⟨rfl, by rw [hU]; exact hM.nil, KK.warm hw X.2⟩⟩ rfl hn hls hst (by show 2 * 0 + _ ≤ 8; omega) hdg hf
theorem G_I (X : Cx g p m c cc nL s args own) (hM : MW g M H locs) (met : Met l y (wsM y bytes maxL none) (rmD d' mc ms) (Pre g M (.ref b :: As)) Qc mc ms (gF g)) (hG : LkI own idx y bytes maxL n) (hn : As.length = n) (hls : ls.size = nL) (hst : st0 = As.reverse ++ .ref b :: rest) (hW : (rest.map fun v => v.category).sum ≤ 8) (hd : d' + 1 ≤ d) (hdg : decode cc pc = .ok (.invokespecial idx, 3)) (hf : cells + mc ≤ mcR ∧ slots + ms ≤ msR) :
    va_Run p l e (rmD d mcR msR) s m args below meth c H locs cells slots mc ms (F0 m pc ls st0) rest (Qc (Value.ref b :: As).toArray) (gF g) :=
  va_runI X.1 met (cwI n X.1.2.2.2.2 hG.1 rfl rfl rfl (X.1.2.2.2.2 _ hG.2.1.1) (X.1.2.2.2.2 _ hG.2.1.2.1) (X.1.2.2.2.2 _ hG.2.1.2.2.1) hG.2.1.2.2.2 hG.2.2.1 (room_ok hd hG.2.2.2)) ⟨Pre.blind, fun U hU hw => ⟨rfl, by rw [hU]; exact hM.nil, KK.warm hw X.2⟩⟩ rfl hn hls hst (by show 2 * 0 + _ ≤ 8; omega) hdg hf
theorem G_SN (X : Cx g p m c cc nL s args own) (hM : MW g M H locs) (met : Met l y (wsM y bytes maxL ret) (rmD d' mc ms) (Pre g M As) Qc mc ms (gF g)) (hG : LkN own idx y host bytes maxL ret n) (hss : Cond.static y ∈ gT) (hn : As.length = n) (hls : ls.size = nL) (hst : st0 = As.reverse ++ rest) (hW : (rest.map fun v => v.category).sum ≤ 8) (hd : d' + 1 ≤ d) (hdg : decode cc pc = .ok (.invokestatic idx, 3)) (hf : cells + mc ≤ mcR ∧ slots + ms ≤ msR) :
    va_Run p l e (rmD d mcR msR) s m args below meth c H locs cells slots mc ms (F0 m pc ls st0) rest (Qc As.toArray) (gF g) :=
  va_runSN X.1 met ⟨va_cnB n X.1.2.2.2.2 hG.1 rfl rfl rfl (X.2.2.1 _ hG.2.1.1) (X.1.2.2.2.2 _ hG.2.1.2.1) hG.2.2.1 (room_ok hd hG.2.2.2), X.1.2.2.2.2 _ hss, trivial⟩ ⟨Pre.blind, fun U hU hw => ⟨rfl, by rw [hU]; exact hM.nil, KK.warm hw X.2⟩⟩ rfl hn hls hst (by show 2 * 0 + _ ≤ 8; omega) hdg hf
theorem G_IN (X : Cx g p m c cc nL s args own) (hM : MW g M H locs) (met : Met l y (wsM y bytes maxL none) (rmD d' mc ms) (Pre g M (.ref b :: As)) Qc mc ms (gF g)) (hG : LkN own idx y host bytes maxL none n) (hss : Cond.instanceMethod y ∈ gT) (hy1 : y.name = "<init>") (hn : As.length = n) (hls : ls.size = nL) (hst : st0 = As.reverse ++ .ref b :: rest) (hW : (rest.map fun v => v.category).sum ≤ 8) (hd : d' + 1 ≤ d) (hdg : decode cc pc = .ok (.invokespecial idx, 3)) (hf : cells + mc ≤ mcR ∧ slots + ms ≤ msR) :
    va_Run p l e (rmD d mcR msR) s m args below meth c H locs cells slots mc ms (F0 m pc ls st0) rest (Qc (Value.ref b :: As).toArray) (gF g) :=
  va_runIN X.1 met ⟨va_cnB n X.1.2.2.2.2 hG.1 rfl rfl rfl (X.2.2.1 _ hG.2.1.1) (X.1.2.2.2.2 _ hG.2.1.2.1) hG.2.2.1 (room_ok hd hG.2.2.2), hy1, X.1.2.2.2.2 _ hss⟩ ⟨Pre.blind, fun U hU hw => ⟨rfl, by rw [hU]; exact hM.nil, KK.warm hw X.2⟩⟩ rfl hn hls hst (by show 2 * 0 + _ ≤ 8; omega) hdg hf
variable {av : Array Value}
theorem MW.app {H1 : Heap} {M1 : Mem} {L : List Loc} (h1 : MW g M1 H1 []) (hM : MW g M H locs) (hL : ∀ q ∈ L, gF g q.base) : MW g M1 H1 (locs ++ L) := ⟨h1.1, h1.2.1, h1.2.2.1, fun q hq => by
  rcases List.mem_append.mp hq with h | h
  · exact hM.2.2.2 q h
  · exact hL q h⟩
theorem K_i {post : Int32 → Mem → Prop} (hr : va_Run p l e R s m args below meth c H locs cells slots mc ms (F0 m pc ls st0) rest (Qi g post av) (gF g)) (hM : MW g M H locs)
    (kk : ∀ (r : Int32) (M1 : Mem) (H1 : Heap) (locs1 : List Loc), MW g M1 H1 locs1 → post r M1 → W p l e R s m args below meth c H1 locs1 (cells + mc) (slots + ms) Q (F0 m (pc + 3) ls (.int r :: rest))) : W p l e R s m args below meth c H locs cells slots Q (F0 m pc ls st0) := by
  intro T hT X
  obtain ⟨v, st₀, t, T', L, h0, X', hL, e1, e2, ⟨r, M1, hv, hp, hm⟩, st⟩ := hr T hT X
  cases hv
  rw [← e1] at hm
  obtain ⟨t2, a1, b1⟩ := kk r M1 T'.heap (locs ++ L) (hm.app hM hL) hp T' rfl X'
  exact ⟨t2, st t2 a1, b1⟩
theorem K_l {post : Int64 → Mem → Prop} (hr : va_Run p l e R s m args below meth c H locs cells slots mc ms (F0 m pc ls st0) rest (Ql g post av) (gF g)) (hM : MW g M H locs)
    (kk : ∀ (r : Int64) (M1 : Mem) (H1 : Heap) (locs1 : List Loc), MW g M1 H1 locs1 → post r M1 → W p l e R s m args below meth c H1 locs1 (cells + mc) (slots + ms) Q (F0 m (pc + 3) ls (.long r :: rest))) : W p l e R s m args below meth c H locs cells slots Q (F0 m pc ls st0) := by
  intro T hT X
  obtain ⟨v, st₀, t, T', L, h0, X', hL, e1, e2, ⟨r, M1, hv, hp, hm⟩, st⟩ := hr T hT X
  cases hv
  rw [← e1] at hm
  obtain ⟨t2, a1, b1⟩ := kk r M1 T'.heap (locs ++ L) (hm.app hM hL) hp T' rfl X'
  exact ⟨t2, st t2 a1, b1⟩
theorem K_q {post : Option Nat → Mem → Prop} (hr : va_Run p l e R s m args below meth c H locs cells slots mc ms (F0 m pc ls st0) rest (Qq g post av) (gF g)) (hM : MW g M H locs)
    (kk : ∀ (r : Option Nat) (M1 : Mem) (H1 : Heap) (locs1 : List Loc), MW g M1 H1 locs1 → post r M1 → W p l e R s m args below meth c H1 locs1 (cells + mc) (slots + ms) Q (F0 m (pc + 3) ls (va_rf r :: rest))) : W p l e R s m args below meth c H locs cells slots Q (F0 m pc ls st0) := by
  intro T hT X
  obtain ⟨v, st₀, t, T', L, h0, X', hL, e1, e2, ⟨r, M1, hv, hp, hm⟩, st⟩ := hr T hT X
  cases hv
  rw [← e1] at hm
  obtain ⟨t2, a1, b1⟩ := kk r M1 T'.heap (locs ++ L) (hm.app hM hL) hp T' rfl X'
  exact ⟨t2, st t2 a1, b1⟩
theorem K_v {post : Mem → Prop} (hr : va_Run p l e R s m args below meth c H locs cells slots mc ms (F0 m pc ls st0) rest (Qv g post av) (gF g)) (hM : MW g M H locs)
    (kk : ∀ (M1 : Mem) (H1 : Heap) (locs1 : List Loc), MW g M1 H1 locs1 → post M1 → W p l e R s m args below meth c H1 locs1 (cells + mc) (slots + ms) Q (F0 m (pc + 3) ls rest)) : W p l e R s m args below meth c H locs cells slots Q (F0 m pc ls st0) := by
  intro T hT X
  obtain ⟨v, st₀, t, T', L, h0, X', hL, e1, e2, ⟨M1, hv, hp, hm⟩, st⟩ := hr T hT X
  cases hv
  rw [← e1] at hm
  obtain ⟨t2, a1, b1⟩ := kk M1 T'.heap (locs ++ L) (hm.app hM hL) hp T' rfl X'
  exact ⟨t2, st t2 a1, b1⟩
end CALLS
end ROWS
theorem mem4 {α : Type} {P : α → Prop} {a b c d e : α} {l : List α} (h1 : P a) (h2 : P b) (h3 : P c) (h4 : P d) (h5 : P e) (h6 : ∀ w ∈ l, P w) : ∀ w ∈ ([a, b, c, d] : List α) ++ (e :: l), P w := by
  intro w hw
  simp only [List.cons_append, List.nil_append, List.mem_cons] at hw
  rcases hw with rfl | rfl | rfl | rfl | rfl | hw
  · exact h1
  · exact h2
  · exact h3
  · exact h4
  · exact h5
  · exact h6 w hw
theorem mem3 {α : Type} {P : α → Prop} {a b c e : α} {l : List α} (h1 : P a) (h2 : P b) (h3 : P c) (h5 : P e) (h6 : ∀ w ∈ l, P w) : ∀ w ∈ ([a, b, c] : List α) ++ (e :: l), P w := by
  intro w hw
  simp only [List.cons_append, List.nil_append, List.mem_cons] at hw
  rcases hw with rfl | rfl | rfl | rfl | hw
  · exact h1
  · exact h2
  · exact h3
  · exact h5
  · exact h6 w hw
section LINKS
variable {own host : String} {idx maxL n : Nat} {y : MethodName} {bytes : ByteArray} {ret : Option FieldType}
theorem lkV_of (h1 : Cond.methodLink own idx y ∈ gT) (h2 : Cond.instanceMethod y ∈ gT) (h3 : Cond.selects y.cls y y ∈ gT) (h4 : Cond.initialized y.cls ∈ gT) (h5 : Cond.code y bytes maxL ret ∈ gT) (h6 : y.cls ≠ "java/lang/invoke/MethodHandle" ∧ y.cls ≠ "java/lang/invoke/VarHandle" ∧ (parseMethodDescriptor y.desc).map (fun d => d.parameters.length) = some n) (h7 : maxL ≤ 21) : LkV own idx y bytes maxL ret n := ⟨gIn (mem4 h1 h2 h3 h4 h5 (fun _ h => h)), h6, h7⟩
theorem lkS_of (h1 : Cond.methodLink own idx y ∈ gT) (h2 : Cond.static y ∈ gT) (h4 : Cond.initialized own ∈ gT) (h5 : Cond.code y bytes maxL ret ∈ gT) (h6 : y.cls = own ∧ y.cls ≠ "java/lang/invoke/MethodHandle" ∧ y.cls ≠ "java/lang/invoke/VarHandle" ∧ (parseMethodDescriptor y.desc).map (fun d => d.parameters.length) = some n) (h7 : maxL ≤ 21) : LkS own idx y bytes maxL ret n := ⟨gIn (mem3 h1 h2 h4 h5 (fun _ h => h)), h6, h7⟩
theorem lkT_of (h1 : Cond.methodLink own idx y ∈ gT) (h2 : Cond.static y ∈ gT) (h4 : Cond.initialized y.cls ∈ gT) (h5 : Cond.code y bytes maxL ret ∈ gT) (h6 : y.cls ≠ "java/lang/invoke/MethodHandle" ∧ y.cls ≠ "java/lang/invoke/VarHandle" ∧ (parseMethodDescriptor y.desc).map (fun d => d.parameters.length) = some n) (h7 : maxL ≤ 21) : LkT own idx y bytes maxL ret n := ⟨gIn (mem3 h1 h2 h4 h5 (fun _ h => h)), h6, h7⟩
theorem lkI_of (h1 : Cond.methodLink own idx y ∈ gT) (h2 : Cond.instanceMethod y ∈ gT) (h4 : Cond.initialized y.cls ∈ gT) (h5 : Cond.code y bytes maxL none ∈ gT) (h0 : y.name = "<init>") (h6 : y.cls ≠ "java/lang/invoke/MethodHandle" ∧ y.cls ≠ "java/lang/invoke/VarHandle" ∧ (parseMethodDescriptor y.desc).map (fun d => d.parameters.length) = some n) (h7 : maxL ≤ 21) : LkI own idx y bytes maxL n := ⟨gIn (List.forall_mem_cons.mpr ⟨h5, fun _ h => h⟩), ⟨h4, h1, h2, h0⟩, h6, h7⟩
theorem lkNS_of (h1 : (own, idx, y, host) ∈ nestP) (h2 : Cond.static y ∈ gT) (h4 : Cond.initialized y.cls ∈ gT) (h5 : Cond.code y bytes maxL ret ∈ gT) (h6 : y.cls ≠ "java/lang/invoke/MethodHandle" ∧ y.cls ≠ "java/lang/invoke/VarHandle" ∧ (parseMethodDescriptor y.desc).map (fun d => d.parameters.length) = some n) (h7 : maxL ≤ 21) : LkN own idx y host bytes maxL ret n := ⟨gIn (List.forall_mem_cons.mpr ⟨h5, fun _ h => h⟩), ⟨h1, h4, Or.inl h2⟩, h6, h7⟩
theorem lkNI_of (h1 : (own, idx, y, host) ∈ nestP) (h2 : Cond.instanceMethod y ∈ gT) (h0 : y.name = "<init>") (h4 : Cond.initialized y.cls ∈ gT) (h5 : Cond.code y bytes maxL ret ∈ gT) (h6 : y.cls ≠ "java/lang/invoke/MethodHandle" ∧ y.cls ≠ "java/lang/invoke/VarHandle" ∧ (parseMethodDescriptor y.desc).map (fun d => d.parameters.length) = some n) (h7 : maxL ≤ 21) : LkN own idx y host bytes maxL ret n := ⟨gIn (List.forall_mem_cons.mpr ⟨h5, fun _ h => h⟩), ⟨h1, h4, Or.inr ⟨h2, h0⟩⟩, h6, h7⟩
end LINKS
section JOINS
variable {p : Program} {l : Launch} {e : Env} {R : Room} {s : State} {m : MethodId} {args : Array Value} {below : List Frame} {meth : Method} {c : Code} {H : Heap} {locs : List Loc} {cells slots : Nat} {Q : State → Prop} {g0 : JFrame} {ls : Array Slot} {rest : List Value}
theorem l_join (j : Nat) (E : Int32) (rest : List Value) (k : W p l e R s m args below meth c H locs cells slots Q (F0 m j ls (.int E :: rest))) (h : (∀ y : Int32, y = E → W p l e R s m args below meth c H locs cells slots Q (F0 m j ls (.int y :: rest))) → W p l e R s m args below meth c H locs cells slots Q g0) : W p l e R s m args below meth c H locs cells slots Q g0 := h (fun y hy => by rw [hy]; exact k)
theorem l_joinM {g : Gp} {M : Mem} (hM : MW g M H locs) (j : Nat) (E : Int32) (rest : List Value) (k : ∀ (H : Heap) (locs : List Loc), MW g M H locs → W p l e R s m args below meth c H locs cells slots Q (F0 m j ls (.int E :: rest))) (h : (∀ (H : Heap) (locs : List Loc) (y : Int32), MW g M H locs → y = E → W p l e R s m args below meth c H locs cells slots Q (F0 m j ls (.int y :: rest))) → W p l e R s m args below meth c H locs cells slots Q g0) : W p l e R s m args below meth c H locs cells slots Q g0 := h (fun H locs y hM hy => by rw [hy]; exact k H locs hM)
theorem l_goto (j : Nat) (rest : List Value) (k : W p l e R s m args below meth c H locs cells slots Q (F0 m j ls rest)) (h : W p l e R s m args below meth c H locs cells slots Q (F0 m j ls rest) → W p l e R s m args below meth c H locs cells slots Q g0) : W p l e R s m args below meth c H locs cells slots Q g0 := h k
end JOINS
def iR (x y : Int32) : Int32 := x - x / y * y
