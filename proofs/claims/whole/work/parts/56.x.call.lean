/-! THE CALL OF A METHOD THAT ANSWERS OR THROWS, from a method whose handler catches it -/
section XC
variable {p : Program} {l : Launch} {e : Env} {R : Room} {s : State} {m : MethodId} {sargs : Array Value} {below : List Frame} {meth : Method} {c : Code} {U : State} {Ls : List Loc} {c0 s0 : Nat}
/-- the callee runs, and ends in one way or the other -/
theorem xc_run {y : MethodName} {S : Spec} {P : Array Value → State → Prop} {Qx : Array Value → State → Outcome → State → Prop} {bytes : ByteArray} {maxL len W9 : Nat} {ret : Option FieldType} {ig : Instr} {mk : MethodId} {a : Array Value} {g : JFrame}
    (X : Stand p l e R s m sargs below meth c U Ls c0 s0) (hM : MetFree l y S P (fun _ _ _ _ _ => True) Qx) (hg : g.method = m) (hsize : g.locals.size = c.maxLocals) (hdg : decode c.code g.pc = .ok (ig, len)) (hW : 2 * g.monitorRoom + (g.stack.map fun v => v.category).sum ≤ W9) (hn : U.methodNamed? y = some mk)
    (h1 : S.pre.before a U = true) (h2 : (Cond.code y bytes maxL ret).before a U = true) (h3 : (Cond.initialized y.cls).before a U = true) (h4 : c0 + S.room.cells ≤ R.cells) (h5 : s0 + S.room.slots ≤ R.slots) (hframes : S.room.frames + 1 ≤ R.frames) (hlocals : W9 + (maxL + 11) + S.room.locals ≤ R.locals) (hP : P a (U.calling g mk a)) :
    ∃ (o : Outcome) (t : State), Steps p.tables e below (doInvoke e (U.setTop g) [] mk a).1 t ∧ Ended t (.java g :: U.frames.tail) o ∧ Qx a (U.calling g mk a) o t := by
  obtain ⟨methY, cY, hmY, hcY, -, hlY, -, -, -, -⟩ := Cond.code_spec hn h2
  obtain ⟨kY, hkY, -⟩ := className_of_methodNamed hn
  have hiY : kY.init = .initialized := Cond.initialized_spec (findClass_of_methodNamed hn) hkY h3
  have h : At U g.method c below := by rw [hg]; exact X.here
  have happ : S.appliesLoose y e.platform (U.calling g mk a) = true := Spec.appliesLoose_calling (g := g) h hdg hn hkY hiY (X.room_calling (g := g) (R' := S.room) hsize hmY hcY hframes (by rw [hlY]; omega) h4 h5) h1
  obtain ⟨mid, hmid⟩ := h.above
  have hfr : (U.setTop g).frames = (.java g :: mid) ++ below := by rw [State.frames_setTop' g h.top, hmid]; rfl
  obtain ⟨o, t, k1, -, k3, k4⟩ := Steps.callFree hM p X.admits X.cas X.clock (acts := []) hfr happ hP trivial
  rw [State.frames_setTop' g h.top] at k3
  exact ⟨o, t, k1, k3, k4⟩
/-- the machine behind it: its heap and tables are the callee's last -/
def xc_at (U t : State) : State := ({ U with heap := t.heap, slotsUsed := t.slotsUsed } : State).setVm t.vm
theorem xc_stand {g : JFrame} {mk : MethodId} {a : Array Value} {t : State} {L : List Loc} {mc ms : Nat} (X : Stand p l e R s m sargs below meth c U Ls c0 s0) (hW : (U.calling g mk a).WarmedH t.vm) (hsm : (U.calling g mk a).sameButNew ({ t with vm := (U.calling g mk a).vm } : State) L mc ms) :
    Stand p l e R s m sargs below meth c (xc_at U t) (Ls ++ L) (c0 + mc) (s0 + ms) := by
  obtain ⟨-, q2, q3, q4, q5, q6⟩ := hsm
  have hW2 : U.WarmedH t.vm := hW
  obtain ⟨g0, hg0⟩ := Option.isSome_iff_exists.mp X.here.top
  obtain ⟨r, hr⟩ := State.topJava?_eq_some.mp hg0
  have hsame : U.sameButNew ({ U with heap := t.heap, slotsUsed := t.slotsUsed } : State) L mc ms := by
    refine ⟨?_, q2, q3, q4, q5, q6⟩
    obtain ⟨th, ht, -⟩ := State.frames_cons hr
    show ({ U with heap := t.heap, slotsUsed := t.slotsUsed } : State) = { U.setFrames U.frames with heap := t.heap, slotsUsed := t.slotsUsed }
    rw [State.setFrames_self ht]
  exact ⟨X.admits, X.cas, X.clock, X.frames, X.room, X.hears, X.method, X.code, (X.here.setHeapUsed t.heap t.slotsUsed).setVm hW2.alike, X.tail, State.WarmedH.trans X.warmed hW2, X.limits, X.bytes, X.same.trans (hsame.setVm s.vm)⟩
theorem xc_eq {g : JFrame} {mk : MethodId} {a : Array Value} {t : State} {L : List Loc} {mc ms : Nat} (hsm : (U.calling g mk a).sameButNew ({ t with vm := (U.calling g mk a).vm } : State) L mc ms) : t = ({ (U.calling g mk a).setFrames t.frames with heap := t.heap, slotsUsed := t.slotsUsed } : State).setVm t.vm := by
  have h : t = ({ t with vm := (U.calling g mk a).vm } : State).setVm t.vm := rfl
  rw [hsm.1] at h
  exact h
theorem xc_threw {g : JFrame} {mk : MethodId} {a : Array Value} {t : State} {L : List Loc} {mc ms : Nat} {q : Addr} (X : Stand p l e R s m sargs below meth c U Ls c0 s0) (hsm : (U.calling g mk a).sameButNew ({ t with vm := (U.calling g mk a).vm } : State) L mc ms) (hend : Ended t (.java g :: U.frames.tail) (.threw q)) : t = ((xc_at U t).setTop g).pushFrame (.throwing q) := by
  obtain ⟨g0, hg0⟩ := Option.isSome_iff_exists.mp X.here.top
  obtain ⟨r, hr⟩ := State.topJava?_eq_some.mp hg0
  have hr2 : (xc_at U t).frames = .java g0 :: r := hr
  have hf : t.frames = .throwing q :: .java g :: U.frames.tail := hend
  refine (xc_eq hsm).trans ?_
  rw [hf, State.calling_eq X.here.top, State.setFrames_setFrames, State.pushFrame, State.frames_setTop _ hr2, State.setTop_of_frames _ hr2, State.setFrames_setFrames, hr]
  rfl
theorem xc_back {g : JFrame} {mk : MethodId} {a : Array Value} {t : State} {L : List Loc} {mc ms len : Nat} {ig : Instr} {v : Option Value} (X : Stand p l e R s m sargs below meth c U Ls c0 s0) (hg : g.method = m) (hdg : decode c.code g.pc = .ok (ig, len)) (hW : (U.calling g mk a).WarmedH t.vm) (hsm : (U.calling g mk a).sameButNew ({ t with vm := (U.calling g mk a).vm } : State) L mc ms) (hend : Ended t (.java g :: U.frames.tail) (.returned v)) : t = (xc_at U t).setTop { g with pc := g.pc + len, stack := v.toList ++ g.stack } := by
  have h : At U g.method c below := by rw [hg]; exact X.here
  obtain ⟨g0, hg0⟩ := Option.isSome_iff_exists.mp h.top
  obtain ⟨r, hr⟩ := State.topJava?_eq_some.mp hg0
  have hr2 : (xc_at U t).frames = .java g0 :: r := hr
  obtain ⟨c2, i2, len2, hc2, hd2, hf2⟩ := hend
  have hW2 : U.WarmedH t.vm := hW
  have e1 : t.code? g.method = U.code? g.method := by rw [State.code?_eq, State.code?_eq, hW2.alike.method?]
  have e2 : c2 = c := Option.some.inj (hc2.symm.trans (e1.trans h.code))
  subst e2
  have e3 : len2 = len := by rw [hdg] at hd2; cases hd2; rfl
  subst e3
  refine (xc_eq hsm).trans ?_
  rw [hf2, State.calling_eq h.top, State.setFrames_setFrames, State.setTop_of_frames _ hr2, hr]
  rfl
end XC
