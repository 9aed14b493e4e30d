/-! a virtual call of a method that answers or throws, in a method whose one handler catches what it throws -/
section XV
variable {p : Program} {l : Launch} {e : Env} {R : Room} {s : State} {m : MethodId} {args : Array Value} {below : List Frame} {meth : Method} {c : Code} {cells slots : Nat} {Q : State → Prop}
variable {cc : ByteArray} {own : String} {Ts : List Cond} {SP : (Nat → Prop) → State → Heap → Prop} {nL : Nat} {D : va_G} {cl : List vw_C} {tys : List (ClassId × FieldType)} {A : Nat → Prop} {ret : Option FieldType}
variable {ws : va_W} {pc : Nat} {L : List (Nat × Value)}
set_option maxHeartbeats 4000000 in
theorem vv_callX (hC : CX p s m args meth c cc own Ts nL D cl tys A SP ret) {y : MethodName} {wy : List Cond} {rm : Room} {bytes : ByteArray} {maxL n index : Nat} {rt : Option FieldType} {C E : String} {T : u_T} {N ci b mc ms : Nat} {fs : List Value} {As st0 : List Value} {S : Type} {post : Int32 → S → Prop} {thr : S → Prop} {wf : S → va_W} {wc wr : va_W} {x : ExceptionTableEntry}
    (hM : MetX l y wy rm D cl tys SP (.ref b :: As) wc post thr wf E mc ms) (cw : CallW R s args own C index y bytes maxL rt wy rm mc ms n) (hdg : decode cc pc = .ok (.invokevirtual index, 3)) (rest : List Value) (isC isR isB : List Nat) (wg : S → va_W) (hc : cells + mc ≤ R.cells ∧ slots + ms ≤ R.slots)
    (hCs : isC.map (fun i => ws[i]?) = wc.map some) (hRs : isR.map (fun i => ws[i]?) = wr.map some) (hBs : ∀ u, isB.map (fun i => (wr ++ wf u)[i]?) = (wg u).map some) (hnC : va_nd isC = true) (hnR : va_nd isR = true) (hnB : va_nd isB = true) (hdis : isR.all (fun i => !isC.contains i) = true) (he : wc[0]? = some (b, .inr (ci, fs))) (hcl : cl[ci]? = some (C, T, N)) (hlen : As.length = n) (hst : st0 = As.reverse ++ .ref b :: rest) (hrm : (rest.map fun v => v.category).sum ≤ 8)
    (htab : c.exceptionTable.toList = [x]) (hx9 : covers x pc = true) (h0 : x.catchType ≠ 0) (hlink : Cond.classLink own x.catchType E ∈ Ts) (hcast : va_Nw (.castable E E) s)
    (kk : ∀ (r : Int32) (u : S), post r u → VV p l e R s m args below meth c nL D cl A (cells + mc) (slots + ms) Q (wg u) (pc + 3) L (.int r :: rest))
    (kx : ∀ (q : Nat) (u : S), thr u → VV p l e R s m args below meth c nL D cl A (cells + mc) (slots + ms) Q (wg u) x.handlerPc L [.ref q]) : VV p l e R s m args below meth c nL D cl A cells slots Q ws pc L st0 := by
  obtain ⟨hx, hb, hml, hown, hts, hK, hA, ⟨hNa, hNW⟩, hr, hlk⟩ := hC
  intro H locs ls hP hD hS h
  have hPc := hP.sub (ws' := wc) isC (vq_fm _ _ _ hCs)
  have hDc := hD.sub (ws' := wc) isC hnC hCs
  have hFc := va_free (wc := wc) hD hS hA isC hCs
  obtain ⟨⟨hrc, hrs, hfr, hlo, hws, hcw, hcode, hini, hy, hlenS, hl⟩, hin, hse⟩ := cw
  obtain ⟨mk, methM, hnamed, hmethM, hstM, habM⟩ := Cond.instanceMethod_spec hin
  obtain ⟨methN, cM, hmethN, -, -, -, -, -, -, hsigM⟩ := Cond.code_spec hnamed hcode
  cases hmethM.symm.trans hmethN
  obtain ⟨c2, r2, m2, q1, q2, q3, q4, kP, hkP, hkPi⟩ := Cond.selects_spec hse
  obtain ⟨cellB, hcB, hoB, hclB⟩ := va_recv hK hPc hcl he
  cases hclB.symm.trans q1
  cases (State.methodFound?_of_named hnamed hy).symm.trans q2
  cases hnamed.symm.trans q3
  -- what is behind the call, in either way
  have join : ∀ (t : State) (u : S) (Lx : List Loc), atC D cl tys (va_A wc H.size) (wf u) t → va_F (va_A wc H.size) ({ (default : State) with heap := H } : State) t → (∀ z ∈ Lx, va_A wc H.size z.base) → va_P D cl (wg u) t.heap ∧ va_D A (wg u) ∧ va_S A s.heap t.heap (locs ++ Lx) := by
    intro t u Lx hB hF hL
    obtain ⟨hP1, hK1, hD1⟩ := hB
    obtain ⟨hP2, hD2⟩ := va_join (wr := wr) (w1 := wf u) hP hD isC isR hCs hRs hnR (fun i hi hj => by have := List.all_eq_true.mp hdis i hi; simp at this; exact this hj) hF.2 hFc hP1 hD1
    refine ⟨hP2.sub isB (vq_fm _ _ _ (hBs u)), hD2.sub isB hnB (hBs u), Nat.le_trans hS.1 hF.1, fun q g1 g2 => ?_, fun z hz => ?_⟩
    · have g3 : q < H.size := Nat.lt_of_lt_of_le g1 hS.1
      have g4 := hF.2 q g3 (fun g => g2 (hFc q g))
      rw [g4]
      exact hS.2.1 q g1 g2
    · rcases List.mem_append.mp hz with g | g
      · exact hS.2.2 z g
      · exact hFc _ (hL z g)
  intro T0 hT X
  have hselP : selectMethod e.platform s.vm cellB.cls mk = .method mk := by rw [Launch.admits_selectMethod X.admits]; exact q4
  obtain ⟨vm1, X1, hstep1⟩ := X.invokevirtual hx hown hl hnamed hmethM hstM hkP hkPi hy (a := b) (cell := cellB) (by rw [hT]; exact hcB) (fun z h9 => by rw [h9] at hoB; cases hoB) hselP hmethM habM hkP hkPi (g := F0 m pc ls st0) rfl (argsL := As) (rest := rest) (hlen.trans (hlenS _ hsigM)) hst (by rw [hb]; exact hdg)
  have hW1 : s.WarmedH (T0.setVm vm1).vm := X1.warmed
  have hpre : ∀ g : JFrame, va_Pc (.ref b :: As) (preC D cl tys SP wc H.size) (Value.ref b :: As).toArray ((T0.setVm vm1).calling g mk (Value.ref b :: As).toArray) := fun g => by
    refine ⟨rfl, ?_, ?_, ?_, hDc.weaken (fun _ _ _ _ => trivial), hNa, ?_⟩
    · show T0.heap.size = H.size
      rw [hT]
    · show va_P D cl wc T0.heap
      rw [hT]; exact hPc
    · exact va_K.moved (u := T0.setVm vm1) (U := (T0.setVm vm1).calling g mk (Value.ref b :: As).toArray) (Vm.Alike.refl _) (va_K.moved hW1.alike hK)
    · refine hNa.2.2.2 _ (T0.setVm vm1) ((T0.setVm vm1).calling g mk (Value.ref b :: As).toArray) _ rfl ?_
      show SP (va_A wc H.size) (T0.setVm vm1) T0.heap
      rw [hT]
      exact hNa.2.2.1 _ s (T0.setVm vm1) _ hW1 (hNa.2.1 _ _ _ _ (hNa.1 _ _ _ _ hNW (fun a g1 g2 => hS.2.1 a g1 g2)) hFc)
  obtain ⟨o, t, hsteps, hend, hq⟩ := xc_run (bytes := bytes) (maxL := maxL) (ret := rt) (W9 := 8) (g := { F0 m pc ls st0 with stack := rest }) (ig := .invokevirtual index) (len := 3) (a := (Value.ref b :: As).toArray) X1 (hM H.size) rfl (by rw [hml]; exact h.1) (by rw [hb]; exact hdg) (lv_room hrm) (X1.named hnamed)
    (atoms_intro fun w hw => hws w hw _ _ X1.warmed) (hws _ hcw _ _ X1.warmed) (word_at hW1 (Or.inl (by first | rfl | simp [Cond.onTables, Cond.keeps, Cond.steady])) hini) (by rw [show (headSpec wy rm).room.cells = mc from hrc]; exact hc.1) (by rw [show (headSpec wy rm).room.slots = ms from hrs]; exact hc.2) hfr hlo (hpre _)
  have hheap : ∀ g : JFrame, ((T0.setVm vm1).calling g mk (Value.ref b :: As).toArray).heap = H := fun g => hT
  rcases hq with ⟨⟨⟨r, u, ho, hp, hB⟩, hF⟩, Lx, hfe, hL⟩ | ⟨q, u, ce, Lx, ho, hp, hB, hF, hce, hvm, hcE, hWx, hsm, hL⟩
  · subst ho
    obtain ⟨-, hWx, hsm⟩ := hfe
    have ht := xc_back X1 rfl (by rw [hb]; exact hdg) hWx hsm hend
    have Xn := xc_stand X1 hWx hsm
    obtain ⟨g1, g2, g3⟩ := join t u Lx hB ⟨by have := hF.1; rw [hheap] at this; exact this, fun q h1 h2 => by have := hF.2 q (by rw [hheap]; exact h1) h2; rw [hheap] at this; exact this⟩ hL
    obtain ⟨tt, s1, s2⟩ := kk r u hp t.heap (locs ++ Lx) ls g1 g2 g3 h (xc_at (T0.setVm vm1) t) rfl Xn
    refine ⟨tt, hstep1 _ fun acts => ?_, s2⟩
    rw [doInvoke_state]
    refine Steps.trans ?_ s1
    rw [ht] at hsteps
    exact hsteps
  · subst ho
    have ht := xc_threw X1 hsm hend
    have Xn := xc_stand X1 hWx hsm
    obtain ⟨g1, g2, g3⟩ := join t u Lx hB ⟨by have := hF.1; rw [hheap] at this; exact this, fun q h1 h2 => by have := hF.2 q (by rw [hheap]; exact h1) h2; rw [hheap] at this; exact this⟩ hL
    obtain ⟨kE, kE2, f1, f2, f3⟩ := Cond.castable_spec (va_Nw.use (A := args) rfl hcast)
    have e1 : kE2 = kE := Option.some.inj (f2.symm.trans f1)
    subst e1
    have hcE2 : s.vm.findClass E = some ce.cls := by
      have h8 : (T0.setVm vm1).vm.findClass E = some ce.cls := hcE
      rw [hW1.alike.findClass] at h8
      exact h8
    have e2 : ce.cls = kE2 := Option.some.inj (hcE2.symm.trans f1)
    obtain ⟨vm2, Xc, hstep2⟩ := xh_catch (g := { F0 m pc ls st0 with stack := rest }) (a := q) Xn rfl hown htab hx9 h0 (hts _ hlink) f1 hce hvm e2 f3
    obtain ⟨tt, s1, s2⟩ := kx q u hp t.heap (locs ++ Lx) ls g1 g2 g3 h ((xc_at (T0.setVm vm1) t).setVm vm2) rfl Xc
    refine ⟨tt, hstep1 _ fun acts => ?_, s2⟩
    rw [doInvoke_state]
    refine Steps.trans ?_ (hstep2 _ s1)
    rw [ht] at hsteps
    exact hsteps
end XV
