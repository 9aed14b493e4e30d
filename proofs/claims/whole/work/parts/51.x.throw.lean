/-! 'throw new IllegalArgumentException("the file has a fault")' in CircuitFiles.load -/
def XE : String := "java/lang/IllegalArgumentException"
def XN : List String := ["java/lang/RuntimeException", "java/lang/Exception"]
def XSp : List Cond := [.castable XE XE, .declares ⟨"java/lang/RuntimeException", "<init>", "(Ljava/lang/String;)V"⟩, .declares ⟨"java/lang/Exception", "<init>", "(Ljava/lang/String;)V"⟩, .declares ⟨"java/lang/Throwable", "<init>", "(Ljava/lang/String;)V"⟩, .laysStatic Bundle.tN "UNASSIGNED_STACK" Bundle.steD, .laysStatic Bundle.tN "SUPPRESSED_SENTINEL" Bundle.listD, .isRef (.static Bundle.tN "UNASSIGNED_STACK" Bundle.steD), .isRef (.static Bundle.tN "SUPPRESSED_SENTINEL" Bundle.listD)]
theorem own_split : ∀ w ∈ Bundle.ownAtoms R_F 64 XE XN, w ∈ TB ∨ w ∈ XSp := by decide +kernel
theorem zs_isRef {C n d : String} {A : Nat → Prop} {U : State} {args : Array Value} (h : zs C n d A U U.heap) : (Cond.isRef (.static C n d)).before args U = true := by
  obtain ⟨c, k, i, f, a, cell, v, h1, h2, h3, h4, h5, h6, h7, h8, h9, h10, h11, h12⟩ := h
  have he : (Term.static C n d).eval args U none [] U = some v := by
    simp [Term.eval, State.fieldNamed?, h2, h3, h4, h5, h6, h10]
  simp only [Cond.before, Cond.holds, Cond.value, he]
  cases v <;> simp_all [Value.isRef]
theorem zs_lays {C n d : String} {A : Nat → Prop} {U : State} {args : Array Value} (h : zs C n d A U U.heap) : (Cond.laysStatic C n d).before args U = true := by
  obtain ⟨c, k, i, f, a, cell, v, h1, h2, h3, h4, h5, h6, h7, h8, h9, h10, h11, h12⟩ := h
  exact Cond.laysStatic_of h1 h2 h3 h4 h5 h6 h7 h8 h9
theorem own_words {sx : Nat → Nat} {A : Nat → Prop} {U : State} {args : Array Value} (hts : ∀ w ∈ TB, w.before args U = true) (hsp : SPl sx A U U.heap) : ∀ w ∈ Bundle.ownAtoms R_F 64 XE XN, w.before args U = true := by
  intro w hw
  rcases own_split w hw with h | h
  · exact hts w h
  · have hd := hsp.2.2.2.2.2.2.2
    simp only [XSp, List.mem_cons, List.not_mem_nil, or_false] at h
    rcases h with rfl | rfl | rfl | rfl | rfl | rfl | rfl | rfl
    · exact va_Nw.use rfl (hsp.2.2.2.2.2.1 (XE, XE) (List.mem_of_getElem? (i := 0) rfl))
    · exact va_Nw.use rfl (hd _ (List.mem_of_getElem? (i := 0) rfl))
    · exact va_Nw.use rfl (hd _ (List.mem_of_getElem? (i := 1) rfl))
    · exact va_Nw.use rfl (hd _ (List.mem_of_getElem? (i := 2) rfl))
    · exact zs_lays hsp.2.2.2.2.1.1
    · exact zs_lays hsp.2.2.2.2.1.2
    · exact zs_isRef hsp.2.2.2.2.1.1
    · exact zs_isRef hsp.2.2.2.2.1.2
section XT
variable {p : Program} {l : Launch} {e : Env} {R : Room} {s : State} {m : MethodId} {args : Array Value} {below : List Frame} {meth : Method} {c : Code} {cells slots : Nat} {Q : State → Prop}
variable {cc : ByteArray} {nL : Nat} {D : va_G} {cA : Nat → ClassId} {sx : Nat → Nat} {A : Nat → Prop} {ret : Option FieldType} {ws : va_W} {pc : Nat} {L : List (Nat × Value)} {rest : List Value}
set_option maxHeartbeats 4000000 in
theorem vv_throw (hC : CX p s m args meth c cc R_F TB nL D vwCl (tyl cA) A (SPl sx) ret) (hl : l.stackTraces = false) {ik : Nat} (h1 : Cond.classLink R_F ik XE ∈ TB) (h2 : Cond.instantiable XE 6 ∈ TB) (h3 : Cond.initialized XE ∈ TB) (hout : c.exceptionTable.toList = [])
    (d0 : decode cc pc = .ok (.new ik, 3)) (d3 : decode cc (pc + 3) = .ok (.dup, 1)) (d4 : decode cc (pc + 4) = .ok (.ldc 62, 2)) (d6 : decode cc (pc + 6) = .ok (.invokespecial 64, 3)) (d9 : decode cc (pc + 9) = .ok (.athrow, 1))
    (hc : cells + 1 ≤ R.cells) (hs : slots + 6 ≤ R.slots) (hRf : 5 < R.frames) (hRl : (rest.map fun v => v.category).sum + 90 ≤ R.locals)
    (kk : ∀ (H : Heap) (locs : List Loc) (U : State) (q : Addr) (ce : Cell), va_P D vwCl ws H → va_D A ws → va_S A s.heap H locs → U.status = .running → Ended U below (.threw q) → s.WarmedH U.vm → s.sameButNew ({ U with vm := s.vm } : State) locs (cells + 1) (slots + 6) → U.heap[q]? = some ce → ce.vm = .none → s.vm.findClass XE = some ce.cls → H.size ≤ U.heap.size → (∀ a : Nat, a < H.size → U.heap[a]? = H[a]?) → Q U) : VV p l e R s m args below meth c nL D vwCl A cells slots Q ws pc L rest := by
  obtain ⟨hx, hb, hml, hown, hts, hK, hA, ⟨hNa, hsp⟩, hr, hlk⟩ := hC
  intro H locs ls hP hD hS h
  refine W_anew (R2 := { frames := R.frames, locals := R.locals, cells := 1, slots := 6 }) (Nat.le_refl _) (Nat.le_refl _) hc hs (fun s2 hv hh hsm => ?_)
  have hW2 : s.WarmedH s2.vm := by rw [hv]; exact State.WarmedH.refl s
  have hts2 : ∀ w ∈ TB, w.before args s2 = true := fun w hw => word_at hW2 (good_of_word (List.mem_filter.mp hw).2) (hts w hw)
  have hsp2 : SPl sx A s2 s2.heap := by rw [hh]; exact (SPl_ok sx).2.2.2 _ s s2 _ hv.symm ((SPl_ok sx).1 _ _ _ _ hsp (fun a g1 g2 => hS.2.1 a g1 g2))
  have hown2 : s2.vm.findClass R_F = some m.cls := by rw [hv]; exact hown
  obtain ⟨cX, kX, hcX, hkX, -⟩ := Cond.instantiable_spec (hts2 _ h2)
  refine W.newcK hx hb hown2 (hts2 _ h1) (hts2 _ h2) (hts2 _ h3) rfl d0 (Nat.le_refl _) (Nat.le_refl _) hcX rfl (fun H1 kC hkC e1 z1 o1 => ?_)
  refine lv_dup hx hb d3 rfl ?_
  refine va_ldcS hx hb hown2 hsp2.2.1.2.2 d4 ?_
  intro T hT X
  have htr : e.platform.stackTraces = false := by rw [X.admits.platform]; exact hl
  obtain ⟨U, hsteps, hrun, hend, hW, hsame, ce, hce, hO⟩ := X.ctorThrowS hx htr (own := R_F) (cls := XE) (names := XN) (ic := 64) hown2 (by decide) (by decide) (own_words hts2 hsp2) (fun x hx => nomatch hx) hcX hkC (by rw [hT]; exact e1) (by rw [hh]; exact Nat.le_refl _) (msg := .ref (sx 2)) rfl
    (g := { method := m, pc := pc + 6, locals := ls, stack := .ref (sx 2) :: .ref H.size :: .ref H.size :: rest, locked := none }) rfl (by rw [hml]; exact h.1) rfl rfl (rest := rest) rfl (by rw [hb]; exact d6) (by rw [hb]; exact d9) (fun x hx => by rw [hout] at hx; cases hx) hRf (by
      show 2 * 0 + (1 + (rest.map fun v => v.category).sum) + (13 * (2 + 1) + 42) ≤ R.locals
      omega) hlk
  obtain ⟨k1, k2⟩ := xb_kept hsame
  have hv2 : s2.vm = s.vm := hv
  refine ⟨U, hsteps, kk H locs U H.size ce hP hD hS hrun hend (State.WarmedH.trans hW2 hW) (hsm U 1 6 hsame) hce hO.vm ?_ ?_ ?_⟩
  · rw [← hv]; exact hO.cls
  · rw [← hh]; exact k1
  · intro a ha
    rw [← hh] at ha ⊢
    exact k2 a ha
end XT
