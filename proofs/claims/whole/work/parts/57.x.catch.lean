/-! THE CATCH: a table of one row, whose class the search itself may link for the first time -/
section XH
variable {p : Program} {l : Launch} {e : Env} {R : Room} {s : State} {m : MethodId} {sargs : Array Value} {below : List Frame} {meth : Method} {c : Code} {T : State} {Ls : List Loc} {c0 s0 : Nat}
theorem xh_find {S : State} {f : JFrame} {a : Addr} {mt : Method} {cd : Code} {x : ExceptionTableEntry} {k : ClassId} {cell : Cell} (hm : S.vm.method? f.method = some mt) (hc : mt.code = some cd) (htab : cd.exceptionTable.toList = [x]) (hx : covers x f.pc = true) (h0 : x.catchType ≠ 0)
    (hl : S.vm.ClassLinks e.platform f.method.cls x.catchType k) (hcell : S.heap[a]? = some cell) (hobj : ∀ z, cell.vm ≠ .statics z) (h1 : ∃ z, S.vm.classes[cell.cls]? = some z) (h2 : ∃ z, S.vm.classes[k]? = some z) (hfit : S.vm.assignable cell.cls k = true) (Q : Handler → Pre) (E : CtlPost) (d : Bool) (acts : List Action) :
    wp (findHandler f a) Q E e d acts S ↔ Q (.found x.handlerPc) d acts (S.setVm (S.vm.noted f.method.cls x.catchType (.cls k))) := by
  rw [Jvm.W.findHandler_eq hm hc, htab]
  simp only [covers] at hx
  obtain ⟨g1, g2⟩ := (resolveClass_links e.toSetting hl).op (op := VmOp.resolveClass f.method.cls x.catchType) rfl
  have hal : S.vm.Alike (S.vm.noted f.method.cls x.catchType (.cls k)) := (Vm.Alike.refl S.vm).noted _ _ _
  obtain ⟨z1, hz1⟩ := h1
  obtain ⟨z2, hz2⟩ := h2
  obtain ⟨y1, hy1, -⟩ := hal.2.2 _ _ hz1
  obtain ⟨y2, hy2, -⟩ := hal.2.2 _ _ hz2
  have hf2 : (S.vm.noted f.method.cls x.catchType (.cls k)).assignable cell.cls k = true := by rw [hal.assignable]; exact hfit
  simp [findHandler.go, hx, h0, g1, g2, hcell, hobj, hy1, hy2, hf2, VmOp.dirties, VmOp.acts]
theorem xh_step {S : State} {a : Addr} {f : JFrame} {r : List Frame} {hp : Nat} {vm2 : Vm} (hfind : ∀ (Q : Handler → Pre) (E : CtlPost) (d : Bool) (acts : List Action), wp (findHandler f a) Q E e d acts S ↔ Q (.found hp) d acts (S.setVm vm2)) :
    (stepThrowing e S a (.java f :: r)).Is ((S.setVm vm2).setFrames (.java { f with pc := hp, stack := [.ref a] } :: r)) [] := by
  simp only [stepThrowing, searchFrame, vmDo]
  generalize hr : Sem.go _ e false [] S = res
  obtain ⟨as, rfl, ha⟩ := Sem.eq_ok_of hr (a := Handler.found hp) (s' := S.setVm vm2) (acts' := []) (by simp [hfind _ _ _ _])
  exact ⟨rfl, ha⟩
theorem xh_catch {own name : String} {a : Addr} {g : JFrame} {x : ExceptionTableEntry} {k : ClassId} {cell : Cell} (X : Stand p l e R s m sargs below meth c T Ls c0 s0) (hg : g.method = m) (hown : s.vm.findClass own = some m.cls) (htab : c.exceptionTable.toList = [x]) (hx : covers x g.pc = true) (h0 : x.catchType ≠ 0)
    (hlink : (Cond.classLink own x.catchType name).before sargs s = true) (hk : s.vm.findClass name = some k) (hcell : T.heap[a]? = some cell) (hobj : cell.vm = .none) (hkc : cell.cls = k) (hfit : s.vm.assignable k k = true) :
    ∃ vm2 : Vm, Stand p l e R s m sargs below meth c (T.setVm vm2) Ls c0 s0 ∧ ∀ target, Steps p.tables e below ((T.setVm vm2).setTop { g with pc := x.handlerPc, stack := [.ref a] }) target → Steps p.tables e below ((T.setTop g).pushFrame (.throwing a)) target := by
  have hpl : e.platform.magicAccessors = ({} : Platform).magicAccessors := by rw [X.admits.platform]
  obtain ⟨k2, hk2, hcl⟩ := Cond.classLink_spec hown hlink e.platform hpl
  cases hk.symm.trans hk2
  obtain ⟨dk, _, _, kt, hd, _, _, _, _, hkt, _, hopen⟩ := hcl.here
  have hcl0 := X.warmed.classLinks hcl
  have hW2 : s.WarmedH (T.vm.noted m.cls x.catchType (.cls k)) := X.warmed.noted hd hopen (State.rightAt_cls hcl)
  have hal := X.warmed.alike
  obtain ⟨kt2, hkt2, -⟩ := hal.2.2 _ _ hkt
  subst hkc
  subst hg
  have hfit2 : T.vm.assignable cell.cls cell.cls = true := by rw [hal.assignable]; exact hfit
  refine ⟨_, X.noted hW2, fun target hrest => ?_⟩
  have hfind := xh_find (e := e) (S := (T.setTop g).pushFrame (.throwing a)) (f := g) (a := a) X.method' X.code htab hx h0 hcl0 hcell (fun z hz => by rw [hobj] at hz; cases hz) ⟨kt2, hkt2⟩ ⟨kt2, hkt2⟩ hfit2
  obtain ⟨hgo, hw⟩ := X.here.throwing a
  refine Steps.head hgo hw ?_
  rw [stepThread_throwing (frames_entered X.here.top _), (xh_step (S := (T.setTop g).pushFrame (.throwing a)) hfind).1]
  obtain ⟨g0, hg0⟩ := Option.isSome_iff_exists.mp X.here.top
  obtain ⟨r, hr⟩ := State.topJava?_eq_some.mp hg0
  have hr2 : (T.setVm (T.vm.noted g.method.cls x.catchType (.cls cell.cls))).frames = .java g0 :: r := hr
  have hsv : ∀ (u : State) (vm2 : Vm) (F G : List Frame), ((u.setFrames F).setVm vm2).setFrames G = (u.setVm vm2).setFrames G := fun u vm2 F G => by
    rw [show (u.setFrames F).setVm vm2 = (u.setVm vm2).setFrames F from rfl, State.setFrames_setFrames]
  rw [State.setTop_of_frames _ hr2] at hrest
  rw [hr, List.tail_cons, State.pushFrame, hsv, State.setTop_of_frames _ hr, hsv]
  exact hrest
end XH
