/-! a method that answers an int, or throws an object of class E -/
def QX (D : va_G) (cl : List vw_C) (tys : List (ClassId × FieldType)) (A : Nat → Prop) {S : Type} (post : Int32 → S → Prop) (thr : S → Prop) (wf : S → va_W) (E : String) (mc ms : Nat) : Array Value → State → Outcome → State → Prop := fun a st o t =>
  (va_Qi post (fun u t => atC D cl tys A (wf u) t) A a st o t ∧ ∃ L, FrameEnd st o t L mc ms ∧ ∀ q ∈ L, A q.base) ∨
  ∃ (q : Addr) (u : S) (ce : Cell) (L : List Loc), o = .threw q ∧ thr u ∧ atC D cl tys A (wf u) t ∧ va_F A st t ∧ t.heap[q]? = some ce ∧ ce.vm = .none ∧ st.vm.findClass E = some ce.cls ∧ st.WarmedH t.vm ∧ st.sameButNew ({ t with vm := st.vm } : State) L mc ms ∧ ∀ z ∈ L, A z.base
def MetX (l : Launch) (y : MethodName) (wy : List Cond) (rm : Room) (D : va_G) (cl : List vw_C) (tys : List (ClassId × FieldType)) (SP : (Nat → Prop) → State → Heap → Prop) (av : List Value) (ws : va_W) {S : Type} (post : Int32 → S → Prop) (thr : S → Prop) (wf : S → va_W) (E : String) (mc ms : Nat) : Prop :=
  ∀ sz, MetFree l y (headSpec wy rm) (va_Pc av (preC D cl tys SP ws sz)) (fun _ _ _ _ _ => True) (QX D cl tys (va_A ws sz) post thr wf E mc ms)
def QXs (below : List Frame) (args : Array Value) (s : State) (D : va_G) (cl : List vw_C) (tys : List (ClassId × FieldType)) (A : Nat → Prop) {S : Type} (post : Int32 → S → Prop) (thr : S → Prop) (wf : S → va_W) (E : String) (mc ms : Nat) : State → Prop := fun t => ∃ o, t.status = .running ∧ Ended t below o ∧ QX D cl tys A post thr wf E mc ms args s o t
section XM
variable {p : Program} {l : Launch} {e : Env} {R : Room} {s : State} {m : MethodId} {args : Array Value} {below : List Frame} {meth : Method} {c : Code} {cells slots : Nat} {Q : State → Prop}
variable {cc : ByteArray} {own : String} {Ts : List Cond} {SP : (Nat → Prop) → State → Heap → Prop} {nL : Nat} {D : va_G} {cl : List vw_C} {tys : List (ClassId × FieldType)} {A : Nat → Prop} {ret : Option FieldType}
variable {ws ws2 : va_W} {pc : Nat} {L : List (Nat × Value)} {rest : List Value} {S : Type} {post : Int32 → S → Prop} {thr : S → Prop} {wf : S → va_W} {E : String} {mc ms : Nat}
theorem vv_entryX {y : MethodName} {wy TB : List Cond} {rm : Room} {av : List Value} {maxL : Nat} (hy : plainName y.cls = true) (hw : wy = Cond.code y cc maxL ret :: TB) (ho : y.cls = own) (hal : (lg_sl av).length ≤ maxL) (hL : lv_args 0 av = L) (body : ∀ (p : Program) (e : Env) (s : State) (m : MethodId) (args : Array Value) (below : List Frame) (meth : Method) (c : Code) (A : Nat → Prop), CX p s m args meth c cc own TB maxL D cl tys A SP ret → c.exceptionTable.toList = [] → VV p l e rm s m args below meth c maxL D cl A 0 0 (QXs below args s D cl tys A post thr wf E mc ms) ws 0 L []) : MetX l y wy rm D cl tys SP av ws post thr wf E mc ms := by
  intro sz
  refine MetFree.of_bodyS (code := cc) (maxLocals := maxL) (ret := ret) hy ?_ ?_
  · intro args s m h hn
    obtain ⟨meth, c, h1, h2, h3, h4, h5, h6, -, -⟩ := Cond.code_spec hn (atoms_spec (ws := wy) h _ (by rw [hw]; exact List.mem_cons_self))
    exact ⟨meth, c, h1, h2, h3, h4, h5, h6⟩
  · intro p e s m args below meth c s₁ B hml hv _
    obtain ⟨rfl, hsz, hP, hK, hD0, hNa, hNW⟩ := hv
    have hts := atoms_spec (ws := wy) B.pre
    have hown : s.vm.findClass own = some m.cls := by rw [← ho]; exact findClass_of_methodNamed B.named
    have hout : c.exceptionTable.toList = [] := by
      obtain ⟨m9, c9, q1, q2, -, -, -, -, q7, -⟩ := Cond.code_spec B.named (hts _ (by rw [hw]; exact List.mem_cons_self))
      have e1 : m9 = meth := Option.some.inj (q1.symm.trans B.method)
      subst e1
      have e2 : c9 = c := Option.some.inj (q2.symm.trans (Stand.of_body B).code)
      subst e2
      simpa using q7
    subst hsz
    have hD := hD0.self (sz := s.heap.size)
    have h0 := lv_entry av (n := maxL) hal
    have hh0 : s₁.heap = s.heap := by rw [B.state]; rfl
    rw [hL] at h0
    have K := body p e s m _ below meth c (va_A ws s.heap.size) ⟨B.exec, B.bytes, hml, hown, fun w hw2 => hts w (by rw [hw]; exact List.mem_cons_of_mem _ hw2), hK, fun q h => Or.inr h, ⟨hNa, hNW⟩, B.returns, B.notSynchronized⟩ hout s.heap [] _ hP hD va_S.rf h0
    rw [← lg_entry_eq] at K
    obtain ⟨t, a1, o, b1, b2, b3⟩ := K s₁ hh0 (Stand.of_body B)
    exact ⟨t, o, a1, b1, b2, b3⟩
theorem vv_iretX {v : Int32} (hC : CX p s m args meth c cc own Ts nL D cl tys A SP (some .int)) (hdg : decode cc pc = .ok (.ireturn, 1)) (u : S) (hp : post v u) (hw : ws = wf u) (hc : cells ≤ mc := by exact Nat.le_of_ble_eq_true rfl) (hs : slots ≤ ms := by exact Nat.le_of_ble_eq_true rfl) : VV p l e R s m args below meth c nL D cl A cells slots (QXs below args s D cl tys A post thr wf E mc ms) ws pc L [.int v] := fun H locs ls hP hD hS h => by
  have k : W p l e R s m args below meth c H locs cells slots (MQ below (va_Qi post (fun u t => atC D cl tys A (wf u) t) A) args s mc ms A) (F0 m pc ls [.int v]) := W.widen (k := mc) (n := ms) hc hs (W.iret hC.1 hC.2.1 hC.2.2.2.2.2.2.2.2.1 (fun t ht hW => ⟨⟨v, u, rfl, hp, by rw [ht]; exact hw ▸ hP, va_K.moved hW.alike hC.2.2.2.2.2.1, hw ▸ hD⟩, hS.F ht⟩) hS.2.2 hdg hC.2.2.2.2.2.2.2.2.2)
  intro T hT X
  obtain ⟨t, a1, o, b1, b2, b3, b4⟩ := k T hT X
  exact ⟨t, a1, o, b1, b2, Or.inl ⟨b3, b4⟩⟩
end XM
section XM2
variable {p : Program} {l : Launch} {e : Env} {R : Room} {s : State} {m : MethodId} {args : Array Value} {below : List Frame} {meth : Method} {c : Code}
variable {cc : ByteArray} {nL : Nat} {D : va_G} {cA : Nat → ClassId} {sx : Nat → Nat} {A : Nat → Prop} {ret : Option FieldType} {ws : va_W} {pc : Nat} {L : List (Nat × Value)} {S : Type} {post : Int32 → S → Prop} {thr : S → Prop} {wf : S → va_W}
theorem vv_throwX (hC : CX p s m args meth c cc R_F TB nL D vwCl (tyl cA) A (SPl sx) ret) (hl : l.stackTraces = false) {ik : Nat} (h1 : Cond.classLink R_F ik XE ∈ TB) (h2 : Cond.instantiable XE 6 ∈ TB) (h3 : Cond.initialized XE ∈ TB) (hout : c.exceptionTable.toList = [])
    (d0 : decode cc pc = .ok (.new ik, 3)) (d3 : decode cc (pc + 3) = .ok (.dup, 1)) (d4 : decode cc (pc + 4) = .ok (.ldc 62, 2)) (d6 : decode cc (pc + 6) = .ok (.invokespecial 64, 3)) (d9 : decode cc (pc + 9) = .ok (.athrow, 1))
    (hRf : 6 ≤ R.frames ∧ 1 ≤ R.cells ∧ 6 ≤ R.slots) (hRl : 90 ≤ R.locals) (u : S) (hp : thr u) (hw : ws = wf u) : VV p l e R s m args below meth c nL D vwCl A 0 0 (QXs below args s D vwCl (tyl cA) A post thr wf XE 1 6) ws pc L [] := by
  refine vv_throw hC hl h1 h2 h3 hout d0 d3 d4 d6 d9 (by omega) (by omega) (by omega) (by simpa using hRl) (fun H locs U q ce hP hD hS hrun hend hW hsame hce hvm hcl k1 k2 => ?_)
  refine ⟨.threw q, hrun, hend, Or.inr ⟨q, u, ce, locs, rfl, hp, ⟨?_, va_K.moved hW.alike hC.2.2.2.2.2.1, hw ▸ hD⟩, ⟨Nat.le_trans hS.1 k1, fun a g1 g2 => ?_⟩, hce, hvm, hcl, hW, by simpa using hsame, hS.2.2⟩⟩
  · rw [← hw]
    exact hP.kept (fun k z hz => k2 z.1 (hP k z hz).lt)
  · rw [k2 a (Nat.lt_of_lt_of_le g1 hS.1)]
    exact hS.2.1 a g1 g2
end XM2
