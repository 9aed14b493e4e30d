def R_law : String := "CircuitFilesLaw"
def lw_P (b : Addr) (xs : List Int32) (args : Array Value) (s : State) : Prop := args = #[.ref b] ∧ s.IntsAt b xs ∧ xs.length ≤ 3072 ∧ (Jvm.Cond.and given_1 narrow_1).before args s = true
def lw_Q (_ : Array Value) (s : State) (o : Outcome) (t : State) : Prop := o = .returned (some (.int 1)) ∧ Framed s o t [] 1095 58612
def lw_Z (below : List Frame) (a : Array Value) (s : State) : State → Prop := fun t => ∃ o, t.status = .running ∧ Ended t below o ∧ lw_Q a s o t
/-- the law's own end, with 1 on the stack, nothing written that was there before, its room as the claim has it -/
theorem lw_ret {p : Program} {l : Launch} {e : Env} {s : State} {m : MethodId} {below : List Frame} {meth : Method} {c : Code} {b : Nat} (hx : p.tables.exec = Jvm.exec) (hb : c.code = code) (hr : meth.sig.returnType = ret) (hlocks : meth.locks = false) {pc : Nat} {H : Heap} {ls : Array Slot} (hdg : decode code pc = .ok (.ireturn, 1)) : W p l e room_1 s m #[Value.ref b] below meth c H [] 1095 58612 (lw_Z below #[Value.ref b] s) (F0 m pc ls [.int 1]) := by
  intro T hT X
  obtain ⟨fs, hret, hrun, hended, hW, hframe⟩ := X.leave (v := some (.int 1)) (hlocks := hlocks) (fun h => by rw [hr] at h; cases h)
  have hmeth' : T.vm.method? m = some meth := X.method'
  refine ⟨T.setFrames fs, ?_, .returned (some (.int 1)), hrun, hended, rfl, ⟨_, rfl⟩, hW, hframe⟩
  jvm_step X.here [X.here.top, hx, hb, hdg, hmeth', hr, ret, narrow_b1]
  (try refine ⟨rfl, ?_⟩); (try refine ⟨rfl, ?_⟩)
  first | (intro acts; rw [hret _ acts rfl rfl rfl]) | rw [hret _ _ rfl rfl rfl]
  exact Steps.refl _
/-- what holds at the law's entry: the machine, the code, the tables' words (any of lw_tbl by 'hts w (by decide +kernel)'), the script of L ints xs at the cell b, what the Statement gives of the start (any of its parts by flat_of_before) -/
def lw_At (p : Program) (s : State) (m : MethodId) (meth : Method) (c : Code) (b L : Nat) (xs : Nat → Int32) : Prop :=
  p.tables.exec = Jvm.exec ∧ c.code = code ∧ meth.sig.returnType = ret ∧ c.maxLocals = 7 ∧ s.vm.findClass R_law = some m.cls ∧ (∀ w ∈ lw_tbl, w.before #[Value.ref b] s = true) ∧ va_X b L xs s s.heap ∧ b < s.heap.size ∧ meth.locks = false ∧ (Jvm.Cond.and given_1 narrow_1).before #[Value.ref b] s = true

theorem vv_lret {p : Program} {l : Launch} {e : Env} {s : State} {m : MethodId} {below : List Frame} {meth : Method} {c : Code} {D : va_G} {cA : Nat → ClassId} {sx : Nat → Nat} {b cells slots pc : Nat} {ws : va_W} {L : List (Nat × Value)} (hC : CX p s m #[Value.ref b] meth c code R_L TB 7 D vwCl (tyl cA) (fun q : Nat => s.heap.size ≤ q) (SPl sx) ret) (hdg : decode code pc = .ok (.ireturn, 1)) (hc : cells ≤ 1095) (hs : slots ≤ 58612) : VV p l e room_1 s m #[Value.ref b] below meth c 7 D vwCl (fun q : Nat => s.heap.size ≤ q) cells slots (lw_Z below #[Value.ref b] s) ws pc L [.int 1] := fun H locs ls hP hD hS h => va_forget (fun q hq => hS.2.2 q hq) (W.widen (k := 1095) (n := 58612) hc hs (lw_ret hC.1 hC.2.1 hC.2.2.2.2.2.2.2.2.1 hC.2.2.2.2.2.2.2.2.2 hdg))
theorem go_on {Ln j : Nat} (hL : Ln ≤ 3072) (hj : j ≤ 3078) (h : ¬ (Int32.ofNat Ln - (6 : Int32)) < nI j) : j + 6 ≤ Ln := by
  by_cases g : j + 6 ≤ Ln
  · exact g
  · refine absurd ?_ h
    rw [Int32.lt_iff_toInt_lt, show (Int32.ofNat Ln - (6 : Int32)).toInt = ((Ln : Int) - 6) from pk_sub_toInt (a := Ln) (b := 6) (by omega) (by decide), nI_toInt (by omega)]
    omega
set_option maxHeartbeats 4000000 in
set_option maxRecDepth 100000 in
theorem law_loop {p : Program} {l : Launch} {e : Env} {s : State} {m : MethodId} {below : List Frame} {meth : Method} {c : Code} {D : va_G} {cA : Nat → ClassId} {sx : Nat → Nat} {b Ln : Nat} {xs : Nat → Int32} {ao : Nat} {a_F a_R a_U a_T a_S a_X a_Y a_M : Nat → Nat} (hl : l.stackTraces = false) (hLn : Ln ≤ 3072) (hC : CX p s m #[Value.ref b] meth c code R_L TB 7 D vwCl (tyl cA) (fun q : Nat => s.heap.size ≤ q) (SPl sx) ret) (hX : va_X b Ln xs s s.heap) (hbl : b < s.heap.size) : ∀ (n j cells slots : Nat) (a_C a_D : Nat → Nat) (J : Nat → Int64) (I_R : NI) (A_R : NNI) (I_U I_T : NI) (A_T : NNI) (I_S : NI) (A_S : NNI) (I_X : NI) (A_X : NNI) (I_Y : NI) (A_Y : NNI) (I_C : NI) (A_C : NNI) (I_D : NI) (A_D : NNI) (I_M : NI) (A_M : NNI), Ln + 1 ≤ j + 6 * n → j ≤ 3078 → 6 * cells ≤ 420 + j → slots ≤ 50414 + j → RL I_U I_T A_T I_X A_X I_Y A_Y I_C A_C A_D I_M A_M → VV p l e room_1 s m #[Value.ref b] below meth c 7 D vwCl (fun q : Nat => s.heap.size ≤ q) cells slots (lw_Z below #[Value.ref b] s) (wL cA ao a_F a_R a_U a_T a_S a_X a_Y a_C a_D a_M J I_R A_R I_U I_T A_T I_S A_S I_X A_X I_Y A_Y I_C A_C I_D A_D I_M A_M) 23 [(0, .ref b), (1, .ref (a_F 0)), (2, .ref (a_M 0)), (3, .ref ao), (4, .int (nI j))] [] := by
  intro n
  induction n with
  | zero =>
    intro j cells slots a_C a_D J I_R A_R I_U I_T A_T I_S A_S I_X A_X I_Y A_Y I_C A_C I_D A_D I_M A_M hn hj hce hsl r
    refine vv_iload hC d_law_23 4 rfl ?_
    refine vv_aload_n hC d_law_25 0 rfl rfl ?_
    refine vv_slen hC hX hbl (Nat.not_le.mpr hbl) d_law_26 ?_
    refine vv_bipush hC d_law_27 (v := (6 : Int32)) (by decide) ?_
    refine vv_isub hC d_law_29 ?_
    refine vv_icmp_gt hC 484 d_law_30 (by decide) (fun _ => ?_) (fun z => ?_)
    · refine vv_iconst hC d_law_484 (v := (1 : Int32)) (by decide) ?_
      exact vv_lret hC d_law_485 (by omega) (by omega)
    · have := go_on hLn hj z
      omega
  | succ n ih =>
    intro j cells slots a_C a_D J I_R A_R I_U I_T A_T I_S A_S I_X A_X I_Y A_Y I_C A_C I_D A_D I_M A_M hn hj hce hsl r
    refine vv_iload hC d_law_23 4 rfl ?_
    refine vv_aload_n hC d_law_25 0 rfl rfl ?_
    refine vv_slen hC hX hbl (Nat.not_le.mpr hbl) d_law_26 ?_
    refine vv_bipush hC d_law_27 (v := (6 : Int32)) (by decide) ?_
    refine vv_isub hC d_law_29 ?_
    refine vv_icmp_gt hC 484 d_law_30 (by decide) (fun _ => ?_) (fun z => ?_)
    · refine vv_iconst hC d_law_484 (v := (1 : Int32)) (by decide) ?_
      exact vv_lret hC d_law_485 (by omega) (by omega)
    · have hj6 := go_on hLn hj z
      have hi : ∀ k, k < 6 → vp_in (nI j + nI k) Ln := fun k hk => by
        rw [nI_add]
        exact vp_in_nI (by omega) (by omega)
      have hi0 : vp_in (nI j) Ln := vp_in_nI (by omega) (by omega)
      have hrm : cells ≤ room_1.cells ∧ slots ≤ room_1.slots := ⟨show cells ≤ 1095 by omega, show slots ≤ 58612 by omega⟩
      have hrm2 : cells + 1 ≤ room_1.cells ∧ slots + 6 ≤ room_1.slots := ⟨show cells + 1 ≤ 1095 by omega, show slots + 6 ≤ 58612 by omega⟩
      have nxt : ∀ cells' slots', 6 * cells' ≤ 420 + (j + 6) → slots' ≤ 50414 + (j + 6) → KK p l e s m below meth c D cA b ao a_F a_R a_U a_T a_S a_X a_Y a_M cells' slots' (lw_Z below #[Value.ref b] s) (nI j) := fun cells' slots' g1 g2 a_C a_D J I_R A_R I_U I_T A_T I_S A_S I_X A_X I_Y A_Y I_C A_C I_D A_D I_M A_M r => by
        refine vv_iinc hC (v := nI (j + 6)) d_law_478 4 rfl (show nI j + nI 6 = nI (j + 6) from nI_add j 6) (by decide) [1, 2, 3, 4, 0] (L2 := [(0, .ref b), (1, .ref (a_F 0)), (2, .ref (a_M 0)), (3, .ref ao), (4, .int (nI (j + 6)))]) rfl ?_
        refine vv_goto hC 23 d_law_481 (by decide) ?_
        exact ih (j + 6) cells' slots' a_C a_D J I_R A_R I_U I_T A_T I_S A_S I_X A_X I_Y A_Y I_C A_C I_D A_D I_M A_M (by omega) (by omega) g1 g2 r
      refine vv_aload_n hC d_law_33 0 rfl rfl ?_
      refine vv_iload hC d_law_34 4 rfl ?_
      refine vv_sld hC hX hbl (Nat.not_le.mpr hbl) hi0 d_law_36 ?_
      refine vv_bipush hC d_law_37 (v := (15 : Int32)) (by decide) ?_
      refine vv_iand hC d_law_39 ?_
      generalize xs (nI j).toNatClampNeg &&& (15 : Int32) = op
      refine sw_cases (x := op) (k := (0 : Int32)) (fun cd => ?_) (fun cd0 => ?_)
      · refine vv_tabIn hC (0 : Int32) 60 100 d_law_40 cd (by decide) (by decide) rfl (by decide) ?_
        exact law_feed hC hX hbl hrm r (hi 1 (by decide)) (hi 2 (by decide)) (hi 3 (by decide)) (hi 4 (by decide)) (hi 5 (by decide)) (nxt _ _ (by omega) (by omega))
      refine sw_cases (x := op) (k := (1 : Int32)) (fun cd => ?_) (fun cd1 => ?_)
      · refine vv_tabIn hC (1 : Int32) 131 171 d_law_40 cd (by decide) (by decide) rfl (by decide) ?_
        exact law_end hC hX hbl hrm r (hi 1 (by decide)) (hi 2 (by decide)) (hi 3 (by decide)) (hi 4 (by decide)) (hi 5 (by decide)) (nxt _ _ (by omega) (by omega))
      refine sw_cases (x := op) (k := (2 : Int32)) (fun cd => ?_) (fun cd2 => ?_)
      · refine vv_tabIn hC (2 : Int32) 156 196 d_law_40 cd (by decide) (by decide) rfl (by decide) ?_
        exact law_load hC hX hbl hrm r hl hrm2 (nxt _ _ (by omega) (by omega))
      refine sw_cases (x := op) (k := (3 : Int32)) (fun cd => ?_) (fun cd3 => ?_)
      · refine vv_tabIn hC (3 : Int32) 200 240 d_law_40 cd (by decide) (by decide) rfl (by decide) ?_
        exact law_fault hC hX hbl hrm r (hi 1 (by decide)) (hi 2 (by decide)) (hi 3 (by decide)) (hi 4 (by decide)) (hi 5 (by decide)) (nxt _ _ (by omega) (by omega))
      refine sw_cases (x := op) (k := (4 : Int32)) (fun cd => ?_) (fun cd4 => ?_)
      · refine vv_tabIn hC (4 : Int32) 225 265 d_law_40 cd (by decide) (by decide) rfl (by decide) ?_
        exact law_many hC hX hbl hrm r (hi 1 (by decide)) (hi 2 (by decide)) (hi 3 (by decide)) (hi 4 (by decide)) (hi 5 (by decide)) (nxt _ _ (by omega) (by omega))
      refine sw_cases (x := op) (k := (5 : Int32)) (fun cd => ?_) (fun cd5 => ?_)
      · refine vv_tabIn hC (5 : Int32) 250 290 d_law_40 cd (by decide) (by decide) rfl (by decide) ?_
        exact law_symbol hC hX hbl hrm r (hi 1 (by decide)) (hi 2 (by decide)) (hi 3 (by decide)) (hi 4 (by decide)) (hi 5 (by decide)) (nxt _ _ (by omega) (by omega))
      refine sw_cases (x := op) (k := (6 : Int32)) (fun cd => ?_) (fun cd6 => ?_)
      · refine vv_tabIn hC (6 : Int32) 299 339 d_law_40 cd (by decide) (by decide) rfl (by decide) ?_
        exact law_form hC hX hbl hrm r (hi 1 (by decide)) (hi 2 (by decide)) (hi 3 (by decide)) (hi 4 (by decide)) (hi 5 (by decide)) (nxt _ _ (by omega) (by omega))
      refine sw_cases (x := op) (k := (7 : Int32)) (fun cd => ?_) (fun cd7 => ?_)
      · refine vv_tabIn hC (7 : Int32) 352 392 d_law_40 cd (by decide) (by decide) rfl (by decide) ?_
        exact law_reset hC hX hbl hrm r (hi 1 (by decide)) (hi 2 (by decide)) (hi 3 (by decide)) (hi 4 (by decide)) (hi 5 (by decide)) (nxt _ _ (by omega) (by omega))
      refine sw_cases (x := op) (k := (8 : Int32)) (fun cd => ?_) (fun cd8 => ?_)
      · refine vv_tabIn hC (8 : Int32) 363 403 d_law_40 cd (by decide) (by decide) rfl (by decide) ?_
        exact law_state hC hX hbl hrm r (hi 1 (by decide)) (hi 2 (by decide)) (hi 3 (by decide)) (hi 4 (by decide)) (hi 5 (by decide)) (nxt _ _ (by omega) (by omega))
      refine sw_cases (x := op) (k := (9 : Int32)) (fun cd => ?_) (fun cd9 => ?_)
      · refine vv_tabIn hC (9 : Int32) 376 416 d_law_40 cd (by decide) (by decide) rfl (by decide) ?_
        exact law_value hC hX hbl hrm r (hi 1 (by decide)) (hi 2 (by decide)) (hi 3 (by decide)) (hi 4 (by decide)) (hi 5 (by decide)) (nxt _ _ (by omega) (by omega))
      refine sw_cases (x := op) (k := (10 : Int32)) (fun cd => ?_) (fun cd10 => ?_)
      · refine vv_tabIn hC (10 : Int32) 413 453 d_law_40 cd (by decide) (by decide) rfl (by decide) ?_
        exact law_step hC hX hbl hrm r (hi 1 (by decide)) (hi 2 (by decide)) (hi 3 (by decide)) (hi 4 (by decide)) (hi 5 (by decide)) (nxt _ _ (by omega) (by omega))
      refine vv_tabOut hC 478 d_law_40 (sw_out 10 (by decide) (fun k hk => by rcases (show k = 0 ∨ k = 1 ∨ k = 2 ∨ k = 3 ∨ k = 4 ∨ k = 5 ∨ k = 6 ∨ k = 7 ∨ k = 8 ∨ k = 9 ∨ k = 10 by omega) with rfl | rfl | rfl | rfl | rfl | rfl | rfl | rfl | rfl | rfl | rfl <;> first | exact cd0 | exact cd1 | exact cd2 | exact cd3 | exact cd4 | exact cd5 | exact cd6 | exact cd7 | exact cd8 | exact cd9 | exact cd10)) (by decide) ?_
      exact nxt _ _ (by omega) (by omega) a_C a_D J I_R A_R I_U I_T A_T I_S A_S I_X A_X I_Y A_Y I_C A_C I_D A_D I_M A_M r
