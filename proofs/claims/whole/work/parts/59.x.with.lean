/-! a method with a table of handlers: its contract, and a static call of it; cells are made (mc, ms) -/
def MetIc (l : Launch) (y : MethodName) (wy : List Cond) (rm : Room) (D : va_G) (cl : List vw_C) (tys : List (ClassId × FieldType)) (SP : (Nat → Prop) → State → Heap → Prop) (av : List Value) (ws : va_W) {S : Type} (post : Int32 → S → Prop) (wf : S → va_W) (mc ms : Nat) : Prop :=
  ∀ sz, Met l y wy rm (va_Pc av (preC D cl tys SP ws sz)) (va_Qi post (fun u t => atC D cl tys (va_A ws sz) (wf u) t) (va_A ws sz)) mc ms (va_A ws sz)
def QIc (below : List Frame) (args : Array Value) (s : State) (D : va_G) (cl : List vw_C) (tys : List (ClassId × FieldType)) (A : Nat → Prop) {S : Type} (post : Int32 → S → Prop) (wf : S → va_W) (mc ms : Nat) : State → Prop := MQ below (va_Qi post (fun u t => atC D cl tys A (wf u) t) A) args s mc ms A
theorem one_row {t : List ExceptionTableEntry} {a b c d : Nat} (h : t.map (fun h => (h.startPc, h.endPc, h.handlerPc, h.catchType)) = [(a, b, c, d)]) : ∃ x, t = [x] ∧ x.startPc = a ∧ x.endPc = b ∧ x.handlerPc = c ∧ x.catchType = d := by
  cases t with
  | nil => simp at h
  | cons x t =>
    cases t with
    | nil =>
      simp only [List.map_cons, List.map_nil, List.cons.injEq, Prod.mk.injEq, and_true] at h
      exact ⟨x, rfl, h.1, h.2.1, h.2.2.1, h.2.2.2⟩
    | cons y t => simp at h
section XW
variable {p : Program} {l : Launch} {e : Env} {R : Room} {s : State} {m : MethodId} {args : Array Value} {below : List Frame} {meth : Method} {c : Code} {cells slots : Nat} {Q : State → Prop}
variable {cc : ByteArray} {own : String} {Ts : List Cond} {SP : (Nat → Prop) → State → Heap → Prop} {nL : Nat} {D : va_G} {cl : List vw_C} {tys : List (ClassId × FieldType)} {A : Nat → Prop} {ret : Option FieldType}
variable {ws ws2 : va_W} {pc : Nat} {L : List (Nat × Value)} {rest : List Value}
theorem vv_entryW {y : MethodName} {wy TB : List Cond} {rm : Room} {av : List Value} {S : Type} {post : Int32 → S → Prop} {wf : S → va_W} {maxL mc ms : Nat} {hh : List (Nat × Nat × Nat × Nat)} (hy : plainName y.cls = true) (hw : wy = Cond.codeWith y cc maxL ret hh :: TB) (ho : y.cls = own) (hal : (lg_sl av).length ≤ maxL) (hL : lv_args 0 av = L) (body : ∀ (p : Program) (e : Env) (s : State) (m : MethodId) (args : Array Value) (below : List Frame) (meth : Method) (c : Code) (A : Nat → Prop), CX p s m args meth c cc own TB maxL D cl tys A SP ret → c.exceptionTable.toList.map (fun h => (h.startPc, h.endPc, h.handlerPc, h.catchType)) = hh → VV p l e rm s m args below meth c maxL D cl A 0 0 (QIc below args s D cl tys A post wf mc ms) ws 0 L []) : MetIc l y wy rm D cl tys SP av ws post wf mc ms := by
  intro sz
  refine va_MetW (cc := cc) (maxL := maxL) (ret := ret) (hh := hh) hy hw ?_
  intro p e s m args below meth c s₁ B hml hv
  obtain ⟨rfl, hsz, hP, hK, hD0, hNa, hNW⟩ := hv
  have hts := atoms_spec (ws := wy) B.pre
  have hown : s.vm.findClass own = some m.cls := by rw [← ho]; exact findClass_of_methodNamed B.named
  have htab : c.exceptionTable.toList.map (fun h => (h.startPc, h.endPc, h.handlerPc, h.catchType)) = hh := by
    obtain ⟨n9, m9, c9, q0, q1, q2, -, -, q5, -⟩ := Cond.codeWith_spec (hts _ (by rw [hw]; exact List.mem_cons_self))
    cases B.named.symm.trans q0
    have e1 : m9 = meth := Option.some.inj (q1.symm.trans B.method)
    subst e1
    have e2 : c9 = c := Option.some.inj (q2.symm.trans (Stand.of_body B).code)
    subst e2
    exact q5
  subst hsz
  have hD := hD0.self (sz := s.heap.size)
  have h0 := lv_entry av (n := maxL) hal
  rw [lg_entry_eq]
  rw [hL] at h0
  exact body p e s m _ below meth c (va_A ws s.heap.size) ⟨B.exec, B.bytes, hml, hown, fun w hw2 => hts w (by rw [hw]; exact List.mem_cons_of_mem _ hw2), hK, fun q h => Or.inr h, ⟨hNa, hNW⟩, B.returns, B.notSynchronized⟩ htab s.heap [] _ hP hD va_S.rf h0
theorem vv_iretc {S : Type} {post : Int32 → S → Prop} {wf : S → va_W} {v : Int32} {mc ms : Nat} (hC : CX p s m args meth c cc own Ts nL D cl tys A SP (some .int)) (hdg : decode cc pc = .ok (.ireturn, 1)) (u : S) (hp : post v u) (hw : ws = wf u) (hc : cells ≤ mc) (hs : slots ≤ ms) : VV p l e R s m args below meth c nL D cl A cells slots (QIc below args s D cl tys A post wf mc ms) ws pc L [.int v] := fun H locs ls hP hD hS h => W.widen (k := mc) (n := ms) hc hs (W.iret hC.1 hC.2.1 hC.2.2.2.2.2.2.2.2.1 (fun t ht hW => ⟨⟨v, u, rfl, hp, by rw [ht]; exact hw ▸ hP, va_K.moved hW.alike hC.2.2.2.2.2.1, hw ▸ hD⟩, hS.F ht⟩) hS.2.2 hdg hC.2.2.2.2.2.2.2.2.2)
theorem vv_last (hC : CX p s m args meth c cc own Ts nL D cl tys A SP ret) {cT : ClassId} {a n : Nat} {f : Nat → Int64} {i : Int32} {x : Int64} (q0 t0 : Nat) (hdg : decode cc pc = .ok (.lastore, 1)) (ha : ws[q0]? = some (a, .inl (cT, n, .inr (.inl f)))) (ht : tys[t0]? = some (cT, .long)) (hi : vp_in i n) (hs : ws.set q0 (a, .inl (cT, n, .inr (.inl (vp_updL f i.toNatClampNeg x)))) = ws2) (kk : VV p l e R s m args below meth c nL D cl A cells slots Q ws2 (pc + 1) L rest) : VV p l e R s m args below meth c nL D cl A cells slots Q ws pc L (.long x :: .int i :: .ref a :: rest) := fun H locs ls hP hD hS h => va_last hC.1 hC.2.1 hC.2.2.2.2.2.1 hP hD hS q0 t0 ha ht hi hdg (fun H1 locs1 hP hD hS => kk H1 locs1 ls (hs ▸ hP) (hs ▸ hD) hS h)
theorem vv_lald (hC : CX p s m args meth c cc own Ts nL D cl tys A SP ret) {cT : ClassId} {a n : Nat} {f : Nat → Int64} {i : Int32} (q0 t0 : Nat) (hdg : decode cc pc = .ok (.laload, 1)) (ha : ws[q0]? = some (a, .inl (cT, n, .inr (.inl f)))) (ht : tys[t0]? = some (cT, .long)) (hi : vp_in i n) (kk : VV p l e R s m args below meth c nL D cl A cells slots Q ws (pc + 1) L (.long (f i.toNatClampNeg) :: rest)) : VV p l e R s m args below meth c nL D cl A cells slots Q ws pc L (.int i :: .ref a :: rest) := fun H locs ls hP hD hS h => va_lald hC.1 hC.2.1 hC.2.2.2.2.2.1 hP q0 t0 ha ht hi hdg (kk H locs ls hP hD hS h)
/-- the static call of a method with handlers -/
theorem xw_run {y : MethodName} {bytes : ByteArray} {maxL mc ms n index : Nat} {rt : Option FieldType} {hh : List (Nat × Nat × Nat × Nat)} {wy : List Cond} {rm : Room} {Pc : Array Value → State → Prop} {Qc : Array Value → State → Outcome → State → Prop} {free : Addr → Prop} {As : List Value} {g : JFrame} {H : Heap} {locs : List Loc}
    (hx : p.tables.exec = Jvm.exec) (hb : c.code = cc) (hml : c.maxLocals = nL) (hown : s.vm.findClass own = some m.cls) (hM : Met l y wy rm Pc Qc mc ms free) (hrc : rm.cells = mc) (hrs : rm.slots = ms) (hfr : rm.frames + 1 ≤ R.frames) (hlo : 8 + (maxL + 11) + rm.locals ≤ R.locals)
    (hws : ∀ w ∈ wy, ∀ (a' : Array Value) (U : State), s.WarmedH U.vm → w.before a' U = true) (hcw : Cond.codeWith y bytes maxL rt hh ∈ wy) (hini : (Cond.initialized y.cls).before args s = true) (hy : y.cls ≠ "java/lang/invoke/MethodHandle" ∧ y.cls ≠ "java/lang/invoke/VarHandle") (hlenS : ∀ sig, parseMethodDescriptor y.desc = some sig → n = sig.parameters.length) (hl : (Cond.methodLink own index y).before args s = true) (hst : (Cond.static y).before args s = true)
    (hblind : FrameBlind Pc) (hPc : ∀ U : State, U.heap = H → s.WarmedH U.vm → Pc As.toArray U) (hg : g.method = m) (hn : As.length = n) (hsize : g.locals.size = nL) (hstack : g.stack = As.reverse ++ rest) (hW : 2 * g.monitorRoom + (rest.map fun v => v.category).sum ≤ 8) (hdg : decode cc g.pc = .ok (.invokestatic index, 3)) (hf : cells + mc ≤ R.cells ∧ slots + ms ≤ R.slots) :
    va_Run p l e R s m args below meth c H locs cells slots mc ms g rest (Qc As.toArray) free := by
  have hK : Back l R p e below s args y 3 8 (PreOf R mc ms Pc) (PostOf Qc mc ms free) := va_backW (bytes := bytes) (maxL := maxL) (ret := rt) (hh := hh) hM hblind hrc hrs hfr hlo hws hcw (fun a' U hW9 => word_at hW9 (Or.inl (by first | rfl | simp [Cond.onTables, Cond.keeps, Cond.steady])) hini)
  intro T hT X
  obtain ⟨mk, methM, cM, hnamed, hmethM, -, -, -, -, -, -, hsigM⟩ := Cond.codeWith_spec (hws _ hcw args s (State.WarmedH.refl s))
  have hstatic : methM.isStatic = true := Cond.static_spec hnamed hmethM hst
  obtain ⟨kP, hkP, -⟩ := className_of_methodNamed hnamed
  have hiP : kP.init = .initialized := Cond.initialized_spec (findClass_of_methodNamed hnamed) hkP hini
  obtain ⟨vm1, X1, hstep1⟩ := X.invokestatic hx hown hl hnamed hmethM hstatic hkP hiP hy (g := g) hg (argsL := As) (rest := rest) (hn.trans (hlenS _ hsigM)) hstack (by rw [hb]; exact hdg)
  obtain ⟨v, ⟨U2, l2, c2, s2⟩, X2, ⟨g2, mk2, t, L, e1, e2, hq, h1, hL, h2, h3⟩, hsteps⟩ := hK m meth c ⟨T.setVm vm1, locs, cells, slots⟩ { g with stack := rest } (.invokestatic index) mk As.toArray X1 hg (hsize.trans hml.symm) (by rw [hb]; exact hdg) hW (X1.named hnamed) ⟨hf.1, hf.2, hPc (T.setVm vm1) hT X1.warmed⟩
  dsimp only [Pt.U, Pt.locs, Pt.cells, Pt.slots] at X2 e1 e2 h1 h2 h3 hsteps
  subst h1; subst h2; subst h3
  exact ⟨v, (T.setVm vm1).calling g2 mk2 As.toArray, t, U2, L, hT, X2, hL, e1, e2, hq, fun target h => hstep1 _ fun acts => by rw [doInvoke_state]; exact hsteps.trans h⟩
end XW
