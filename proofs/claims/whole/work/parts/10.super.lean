/-! super.m(..), also where the superclass itself inherits m; virtual calls by the receiver's class; instanceof -/
section SUPER
variable {p : Program} {l : Launch} {e : Env} {R : Room} {s : State} {m : MethodId} {args : Array Value} {below : List Frame} {meth : Method} {c : Code} {H : Heap} {locs : List Loc} {cells slots : Nat} {Q : State → Prop}
theorem x_callS {T : State} {locs : List Loc} {cells slots : Nat} (X : Stand p l e R s m args below meth c T locs cells slots) (hexec : p.tables.exec = Jvm.exec) {own : String} {index : Nat} {x y : MethodName} {bytes : ByteArray} {maxL : Nat} {ret : Option FieldType}
    (hyx : y = ⟨y.cls, x.name, x.desc⟩) (hown : s.vm.findClass own = some m.cls) (hlink : (Cond.methodLink own index x).before args s = true) (hsame : (Cond.sameMethod x.cls y.cls x.name x.desc).before args s = true) (hsup : (Cond.superclass own x.cls).before args s = true)
    (hsub : ∀ a b : ClassId, s.vm.findClass x.cls = some a → s.vm.findClass y.cls = some b → s.vm.isSubclass a b = true)
    (hinst : (Cond.instanceMethod y).before args s = true) (hcode : (Cond.code y bytes maxL ret).before args s = true) (hno : x.name ≠ "<init>")
    {W : Nat} {Pre : Pt → Array Value → Prop} {Post : Pt → Array Value → Option Value → Pt → Prop} (hK : Back l R p e below s args y 3 W Pre Post)
    {b : Addr} {cellB : Cell} {kB : Class} (hcell : T.heap[b]? = some cellB) (hobj : cellB.vm.isStatics = false) (hkB : s.vm.classes[cellB.cls]? = some kB)
    {g : JFrame} (hg : g.method = m) (hsize : g.locals.size = c.maxLocals) {argsL rest : List Value} (hlen : ∀ sig, parseMethodDescriptor y.desc = some sig → argsL.length = sig.parameters.length)
    (hstack : g.stack = argsL.reverse ++ .ref b :: rest) (hW : 2 * g.monitorRoom + (rest.map fun v => v.category).sum ≤ W) (hdg : decode c.code g.pc = .ok (.invokespecial index, 3))
    (hpre : ∀ vm₁, s.WarmedH vm₁ → Pre ⟨T.setVm vm₁, locs, cells, slots⟩ (Value.ref b :: argsL).toArray) :
    ∃ (v : Option Value) (vm₁ : Vm) (B : Pt), s.WarmedH vm₁ ∧ Stand p l e R s m args below meth c B.U B.locs B.cells B.slots ∧ Post ⟨T.setVm vm₁, locs, cells, slots⟩ (Value.ref b :: argsL).toArray v B ∧
      ∀ target, Steps p.tables e below (B.U.setTop { g with pc := g.pc + 3, stack := v.toList ++ rest }) target → Steps p.tables e below (T.setTop g) target := by
  obtain ⟨mk, methM, hnamed, hmethM, hstM, habM⟩ := Cond.instanceMethod_spec hinst
  obtain ⟨methM', cM, hmethM', -, -, -, -, -, -, hsigM⟩ := Cond.code_spec hnamed hcode
  cases hmethM.symm.trans hmethM'
  obtain ⟨ps, dk, kp, hps, hdk, hkp, hsuper, -, -, hnid⟩ := Cond.superclass_spec hown hsup
  have hn : s.methodNamed? ⟨y.cls, x.name, x.desc⟩ = some mk := by rw [← hyx]; exact hnamed
  obtain ⟨vm₁, X₁, hstep₁⟩ := X.invokespecialUp hexec hown hlink hsame hn hmethM hstM habM hno hdk hnid hps hsuper (hsub _ _ hps (findClass_of_methodNamed hnamed)) (a := b) (cell := cellB) hcell
    (fun z h => by rw [h] at hobj; cases hobj) hkB (g := g) hg (argsL := argsL) (rest := rest) (hlen _ hsigM) hstack hdg
  obtain ⟨v, B, X', hpost, hsteps⟩ := hK m meth c ⟨T.setVm vm₁, locs, cells, slots⟩ { g with stack := rest } (.invokespecial index) mk (Value.ref b :: argsL).toArray X₁ hg hsize hdg hW (X₁.named hnamed) (hpre vm₁ X₁.warmed)
  exact ⟨v, vm₁, B, X₁.warmed, X', hpost, fun target h => hstep₁ _ (by rw [doInvoke_state]; exact hsteps.trans h)⟩
theorem sub_self {x : String} : ∀ a b : ClassId, s.vm.findClass x = some a → s.vm.findClass x = some b → s.vm.isSubclass a b = true := by
  intro a b ha hb
  cases ha.symm.trans hb
  simp [Vm.isSubclass, Vm.isSubclassAux]
theorem sub_step {x y : String} (h : (Cond.superclass x y).before args s = true) : ∀ a b : ClassId, s.vm.findClass x = some a → s.vm.findClass y = some b → s.vm.isSubclass a b = true := by
  intro a b ha hb
  obtain ⟨ps, dk, kp, hps, hdk, hkp, hsuper, -, -, hnid⟩ := Cond.superclass_spec ha h
  cases hb.symm.trans hps
  have hz : 0 < s.vm.classes.size := Nat.lt_of_le_of_lt (Nat.zero_le _) (Array.getElem?_eq_some_iff.mp hdk).1
  obtain ⟨z, hz⟩ : ∃ z, s.vm.classes.size = z + 1 := ⟨s.vm.classes.size - 1, by omega⟩
  simp [Vm.isSubclass, Vm.isSubclassAux, hz, hdk, hsuper]
/-- what is written down once of a link -/
def LkX (own : String) (idx : Nat) (x y : MethodName) (bytes : ByteArray) (maxL : Nat) (ret : Option FieldType) (n : Nat) : Prop := GoodIn gT (wsM y bytes maxL ret) ∧ (Cond.methodLink own idx x ∈ gT ∧ Cond.sameMethod x.cls y.cls x.name x.desc ∈ gT ∧ Cond.superclass own x.cls ∈ gT ∧ (x.cls = y.cls ∨ Cond.superclass x.cls y.cls ∈ gT) ∧ Cond.instanceMethod y ∈ gT ∧ Cond.initialized y.cls ∈ gT ∧ Cond.code y bytes maxL ret ∈ gT ∧ x.name ≠ "<init>" ∧ y = ⟨y.cls, x.name, x.desc⟩) ∧ (parseMethodDescriptor y.desc).map (fun d => d.parameters.length) = some n ∧ maxL ≤ 21
theorem lkX_of {own : String} {idx maxL n : Nat} {x y : MethodName} {bytes : ByteArray} {ret : Option FieldType} (h1 : Cond.methodLink own idx x ∈ gT) (h2 : Cond.sameMethod x.cls y.cls x.name x.desc ∈ gT) (h3 : Cond.superclass own x.cls ∈ gT) (h4 : x.cls = y.cls ∨ Cond.superclass x.cls y.cls ∈ gT) (h5 : Cond.instanceMethod y ∈ gT) (h6 : Cond.initialized y.cls ∈ gT) (h7 : Cond.code y bytes maxL ret ∈ gT) (h8 : x.name ≠ "<init>") (h9 : y = ⟨y.cls, x.name, x.desc⟩) (ha : (parseMethodDescriptor y.desc).map (fun d => d.parameters.length) = some n) (hb : maxL ≤ 21) : LkX own idx x y bytes maxL ret n :=
  ⟨gIn (List.forall_mem_cons.mpr ⟨h7, fun _ h => h⟩), ⟨h1, h2, h3, h4, h5, h6, h7, h8, h9⟩, ha, hb⟩
variable {g : Gp} {cc : ByteArray} {nL : Nat} {own : String} {M : Mem} {pc : Nat} {ls : Array Slot} {rest : List Value}
variable {x y : MethodName} {bytes : ByteArray} {maxL mc ms n idx d d' mcR msR : Nat} {ret : Option FieldType} {Qc : Array Value → State → Outcome → State → Prop} {As st0 : List Value} {b ci N : Nat} {C : String} {T : u_T} {fs : List Value}
theorem G_X (X : Cx g p m c cc nL s args own) (hM : MW g M H locs) (met : Met l y (wsM y bytes maxL ret) (rmD d' mc ms) (Pre g M (.ref b :: As)) Qc mc ms (gF g)) (hG : LkX own idx x y bytes maxL ret n) (he : M b = some (.inr (ci, fs))) (hc : vwCl[ci]? = some (C, T, N)) (hn : As.length = n) (hls : ls.size = nL) (hst : st0 = As.reverse ++ .ref b :: rest) (hW : (rest.map fun v => v.category).sum ≤ 8) (hd : d' + 1 ≤ d) (hdg : decode cc pc = .ok (.invokespecial idx, 3)) (hf : cells + mc ≤ mcR ∧ slots + ms ≤ msR) :
    va_Run p l e (rmD d mcR msR) s m args below meth c H locs cells slots mc ms (F0 m pc ls st0) rest (Qc (Value.ref b :: As).toArray) (gF g) := by
  obtain ⟨hG1, ⟨h1, h2, h3, h4, h5, h6, h7, h8, h9⟩, hlen, hm⟩ := hG
  have hts := X.1.2.2.2.2
  obtain ⟨hfr, hlo⟩ := room_ok (mc := mcR) (ms := msR) (mc' := mc) (ms' := ms) hd hm
  have hK : Back l (rmD d mcR msR) p e below s args y 3 8 (PreOf (rmD d mcR msR) mc ms (Pre g M (.ref b :: As))) (PostOf Qc mc ms (gF g)) := back_of (bytes := bytes) (maxL := maxL) (ret := ret) met Pre.blind rfl rfl hfr hlo (pay_in hts hG1) List.mem_cons_self (fun a' U hW => word_at hW (Or.inl (by first | rfl | simp [Cond.onTables, Cond.keeps, Cond.steady])) (hts _ h6))
  obtain ⟨cellB, hcB, hoB, hclB⟩ := va_recv X.2.1 (hM.one he) (q0 := 0) hc rfl
  obtain ⟨kB, hkB, -⟩ := (X.2.1.1 ci _ hc).2.2
  have hcl2 : cellB.cls = (gD g).1 ci := Option.some.inj (hclB.symm.trans (X.2.1.1 ci _ hc).2.1)
  intro T hT X0
  obtain ⟨v, vm₁, ⟨U', l2, c2, s2⟩, hW₁, X', ⟨g', mk, t, L, e1, e2, hq, z1, hL, z2, z3⟩, st⟩ := x_callS X0 X.1.1 (x := x) (bytes := bytes) (maxL := maxL) (ret := ret) h9 X.1.2.2.2.1 (hts _ h1) (hts _ h2) (hts _ h3) (by
      rcases h4 with h4 | h4
      · rw [h4]; exact sub_self
      · exact sub_step (hts _ h4)) (hts _ h5) (hts _ h7) h8 hK (by rw [hT]; exact hcB) hoB (by rw [hcl2]; exact hkB) (g := F0 m pc ls st0) rfl (hls.trans X.1.2.2.1.symm) (argsL := As) (rest := rest) (fun sig h => by
      rw [h] at hlen
      exact hn.trans (Option.some.inj hlen).symm) hst (by show 2 * 0 + _ ≤ 8; omega) (by rw [X.1.2.1]; exact hdg)
    (fun vm₁ hW₁ => ⟨hf.1, hf.2, ⟨rfl, by show MW g M (T.setVm vm₁).heap []; rw [show (T.setVm vm₁).heap = H from hT]; exact hM.nil, KK.warm hW₁ X.2⟩⟩)
  dsimp only [Pt.U, Pt.locs, Pt.cells, Pt.slots] at X' e1 e2 z1 z2 z3 st
  subst z1; subst z2; subst z3
  exact ⟨v, (T.setVm vm₁).calling g' mk (Value.ref b :: As).toArray, t, U', L, hT, X', hL, e1, e2, hq, st⟩
/-- a virtual call: the link names x, declared in owner; the receiver's class C has y for it -/
def LkU (own : String) (idx : Nat) (C owner : String) (x y : MethodName) (bytes : ByteArray) (maxL : Nat) (ret : Option FieldType) (n : Nat) : Prop := GoodIn gT (wsM y bytes maxL ret) ∧ (Cond.methodLink own idx x ∈ gT ∧ Cond.sameMethod x.cls owner x.name x.desc ∈ gT ∧ Cond.selects C x y ∈ gT ∧ Cond.instanceMethod y ∈ gT ∧ Cond.initialized y.cls ∈ gT ∧ Cond.code y bytes maxL ret ∈ gT ∧ ∃ (b0 : ByteArray) (m0 : Nat) (r0 : Option FieldType), Cond.code ⟨owner, x.name, x.desc⟩ b0 m0 r0 ∈ gT ∧ Cond.instanceMethod ⟨owner, x.name, x.desc⟩ ∈ gT) ∧ (owner ≠ "java/lang/invoke/MethodHandle" ∧ owner ≠ "java/lang/invoke/VarHandle" ∧ (parseMethodDescriptor x.desc).map (fun d => d.parameters.length) = some n) ∧ maxL ≤ 21
theorem lkU_of {own C owner : String} {idx maxL n : Nat} {x y : MethodName} {bytes : ByteArray} {ret : Option FieldType} {b0 : ByteArray} {m0 : Nat} {r0 : Option FieldType} (h1 : Cond.methodLink own idx x ∈ gT) (h2 : Cond.sameMethod x.cls owner x.name x.desc ∈ gT) (h3 : Cond.selects C x y ∈ gT) (h4 : Cond.instanceMethod y ∈ gT) (h5 : Cond.initialized y.cls ∈ gT) (h6 : Cond.code y bytes maxL ret ∈ gT) (h7 : Cond.code ⟨owner, x.name, x.desc⟩ b0 m0 r0 ∈ gT) (h8 : Cond.instanceMethod ⟨owner, x.name, x.desc⟩ ∈ gT) (h9 : owner ≠ "java/lang/invoke/MethodHandle" ∧ owner ≠ "java/lang/invoke/VarHandle" ∧ (parseMethodDescriptor x.desc).map (fun d => d.parameters.length) = some n) (ha : maxL ≤ 21) : LkU own idx C owner x y bytes maxL ret n :=
  ⟨gIn (List.forall_mem_cons.mpr ⟨h6, fun _ h => h⟩), ⟨h1, h2, h3, h4, h5, h6, b0, m0, r0, h7, h8⟩, h9, ha⟩
theorem G_U {owner : String} (X : Cx g p m c cc nL s args own) (hM : MW g M H locs) (met : Met l y (wsM y bytes maxL ret) (rmD d' mc ms) (Pre g M (.ref b :: As)) Qc mc ms (gF g)) (hG : LkU own idx C owner x y bytes maxL ret n) (he : M b = some (.inr (ci, fs))) (hc : vwCl[ci]? = some (C, T, N)) (hn : As.length = n) (hls : ls.size = nL) (hst : st0 = As.reverse ++ .ref b :: rest) (hW : (rest.map fun v => v.category).sum ≤ 8) (hd : d' + 1 ≤ d) (hdg : decode cc pc = .ok (.invokevirtual idx, 3)) (hf : cells + mc ≤ mcR ∧ slots + ms ≤ msR) :
    va_Run p l e (rmD d mcR msR) s m args below meth c H locs cells slots mc ms (F0 m pc ls st0) rest (Qc (Value.ref b :: As).toArray) (gF g) := by
  obtain ⟨hG1, ⟨h1, h2, h3, h4, h5, h6, b0, m0, r0, h7, h8⟩, h9, hm⟩ := hG
  have hts := X.1.2.2.2.2
  obtain ⟨hfr, hlo⟩ := room_ok (mc := mcR) (ms := msR) (mc' := mc) (ms' := ms) hd hm
  refine va_runU (C := C) (owner := owner) (x := x) (n := n) X.1 met ⟨⟨rfl, rfl, hfr, hlo, pay_in hts hG1, List.mem_cons_self⟩, hts _ h6, hts _ h5, ⟨h9.1, h9.2.1⟩, fun sig h => ?_, hts _ h1, hts _ h2, va_Decl.of (hts _ h8) (hts _ h7), hts _ h3, hts _ h4⟩ ⟨Pre.blind, va_recv X.2.1 (hM.one he) (q0 := 0) hc rfl, fun U hU hw => ⟨rfl, by rw [hU]; exact hM.nil, KK.warm hw X.2⟩⟩ rfl hn hls hst (by show 2 * 0 + _ ≤ 8; omega) hdg hf
  have h := h
  have h10 := h9.2.2
  rw [h] at h10
  exact (Option.some.inj h10).symm
theorem r_instY {a index : Nat} {C nm : String} {N : Nat} {T : u_T} {fs : List Value} {ci : Nat} (X : Cx g p m c cc nL s args own) (hM : MW g M H locs) (he : M a = some (.inr (ci, fs))) (hc : vwCl[ci]? = some (C, T, N)) (hlink : Cond.classLink own index nm ∈ gT) (hca : (C, nm) ∈ caP) (hdg : decode cc pc = .ok (.instanceof index, 3))
    (k : W p l e R s m args below meth c H locs cells slots Q (F0 m (pc + 3) ls (.int 1 :: rest))) : W p l e R s m args below meth c H locs cells slots Q (F0 m pc ls (.ref a :: rest)) :=
  va_instY X.1.1 X.1.2.1 X.1.2.2.2.1 (X.1.2.2.2.2 _ hlink) (X.2.2.2.2.2.1 _ hca) (va_recv X.2.1 (hM.one he) (q0 := 0) hc rfl) hdg k
theorem r_instS {a index : Nat} {C : String} {N : Nat} {T : u_T} {fs : List Value} {ci : Nat} (X : Cx g p m c cc nL s args own) (hM : MW g M H locs) (he : M a = some (.inr (ci, fs))) (hc : vwCl[ci]? = some (C, T, N)) (hlink : Cond.classLink own index C ∈ gT) (hdg : decode cc pc = .ok (.instanceof index, 3))
    (k : W p l e R s m args below meth c H locs cells slots Q (F0 m (pc + 3) ls (.int 1 :: rest))) : W p l e R s m args below meth c H locs cells slots Q (F0 m pc ls (.ref a :: rest)) :=
  va_instS X.1.1 X.1.2.1 X.1.2.2.2.1 (X.1.2.2.2.2 _ hlink) (X.2.1.1 ci _ hc).2 (va_recv X.2.1 (hM.one he) (q0 := 0) hc rfl) hdg k
theorem r_instN {a index : Nat} {C nm : String} {N : Nat} {T : u_T} {fs : List Value} {ci : Nat} (X : Cx g p m c cc nL s args own) (hM : MW g M H locs) (he : M a = some (.inr (ci, fs))) (hc : vwCl[ci]? = some (C, T, N)) (hlink : Cond.classLink own index nm ∈ gT) (hnc : (C, nm) ∈ ncP) (hdg : decode cc pc = .ok (.instanceof index, 3))
    (k : W p l e R s m args below meth c H locs cells slots Q (F0 m (pc + 3) ls (.int 0 :: rest))) : W p l e R s m args below meth c H locs cells slots Q (F0 m pc ls (.ref a :: rest)) :=
  va_instNo X.1.1 X.1.2.1 X.1.2.2.2.1 (X.1.2.2.2.2 _ hlink) (X.2.2.2.2.1 _ hnc) (va_recv X.2.1 (hM.one he) (q0 := 0) hc rfl) hdg k
end SUPER
