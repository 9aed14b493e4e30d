def R_JS : String := "java/lang/String"
def R_JL : String := "java/lang/StringLatin1"
def R_JP : String := "jdk/internal/util/Preconditions"
abbrev b_JcA : ByteArray := prog_14_method_56_code
def y_JcA : MethodName := ⟨R_JS, "charAt", "(I)C"⟩
abbrev b_JiL : ByteArray := prog_14_method_154_code
def y_JiL : MethodName := ⟨R_JS, "isLatin1", "()Z"⟩
abbrev b_JlC : ByteArray := prog_15_method_2_code
def y_JlC : MethodName := ⟨R_JL, "charAt", "([BI)C"⟩
abbrev b_JcI : ByteArray := prog_14_method_155_code
def y_JcI : MethodName := ⟨R_JS, "checkIndex", "(II)V"⟩
abbrev b_JpI : ByteArray := prog_18_method_11_code
def y_JpI : MethodName := ⟨R_JP, "checkIndex", "(IILjava/util/function/BiFunction;)I"⟩
theorem tb_9 : Cond.initialized R_JS ∈ TB := tb_mem (i := 72) (by decide +kernel) (by decide +kernel)
theorem tb_10 : Cond.initialized R_JL ∈ TB := tb_mem (i := 73) (by decide +kernel) (by decide +kernel)
theorem tb_11 : Cond.initialized R_JP ∈ TB := tb_mem (i := 74) (by decide +kernel) (by decide +kernel)
theorem tb_17 : Cond.initialized "java/lang/Math" ∈ TB := tb_mem (i := 80) (by decide +kernel) (by decide +kernel)
theorem tb_344 : Cond.static Lib.Math.max.name ∈ TB := tb_mem (i := 407) (by decide +kernel) (by decide +kernel)
theorem tb_345 : Cond.code Lib.Math.max.name Lib.Math.max.code 2 (some .int) ∈ TB := tb_mem (i := 408) (by decide +kernel) (by decide +kernel)
theorem tb_351 : Cond.static Lib.Math.min.name ∈ TB := tb_mem (i := 414) (by decide +kernel) (by decide +kernel)
theorem tb_352 : Cond.code Lib.Math.min.name Lib.Math.min.code 2 (some .int) ∈ TB := tb_mem (i := 415) (by decide +kernel) (by decide +kernel)
theorem tb_361 : Cond.instanceMethod y_JcA ∈ TB := tb_mem (i := 424) (by decide +kernel) (by decide +kernel)
theorem tb_362 : Cond.selects R_JS y_JcA y_JcA ∈ TB := tb_mem (i := 425) (by decide +kernel) (by decide +kernel)
theorem tb_363 : Cond.code y_JcA b_JcA 2 (some .char) ∈ TB := tb_mem (i := 426) (by decide +kernel) (by decide +kernel)
theorem tb_364 : Cond.methodLink R_JS 492 y_JiL ∈ TB := tb_mem (i := 427) (by decide +kernel) (by decide +kernel)
theorem tb_365 : Cond.instanceMethod y_JiL ∈ TB := tb_mem (i := 428) (by decide +kernel) (by decide +kernel)
theorem tb_366 : Cond.selects R_JS y_JiL y_JiL ∈ TB := tb_mem (i := 429) (by decide +kernel) (by decide +kernel)
theorem tb_367 : Cond.code y_JiL b_JiL 1 (some .boolean) ∈ TB := tb_mem (i := 430) (by decide +kernel) (by decide +kernel)
theorem tb_368 : Cond.fieldLink R_JS 38 "java/lang/String" "COMPACT_STRINGS" "Z" ∈ TB := tb_mem (i := 431) (by decide +kernel) (by decide +kernel)
theorem tb_370 : Cond.methodLink R_JS 495 y_JlC ∈ TB := tb_mem (i := 433) (by decide +kernel) (by decide +kernel)
theorem tb_371 : Cond.static y_JlC ∈ TB := tb_mem (i := 434) (by decide +kernel) (by decide +kernel)
theorem tb_372 : Cond.code y_JlC b_JlC 2 (some .char) ∈ TB := tb_mem (i := 435) (by decide +kernel) (by decide +kernel)
theorem tb_373 : Cond.methodLink R_JL 9 y_JcI ∈ TB := tb_mem (i := 436) (by decide +kernel) (by decide +kernel)
theorem tb_374 : Cond.static y_JcI ∈ TB := tb_mem (i := 437) (by decide +kernel) (by decide +kernel)
theorem tb_375 : Cond.code y_JcI b_JcI 2 none ∈ TB := tb_mem (i := 438) (by decide +kernel) (by decide +kernel)
theorem tb_376 : Cond.fieldLink R_JS 1053 "jdk/internal/util/Preconditions" "SIOOBE_FORMATTER" "Ljava/util/function/BiFunction;" ∈ TB := tb_mem (i := 439) (by decide +kernel) (by decide +kernel)
theorem tb_378 : Cond.methodLink R_JS 1059 y_JpI ∈ TB := tb_mem (i := 441) (by decide +kernel) (by decide +kernel)
theorem tb_379 : Cond.static y_JpI ∈ TB := tb_mem (i := 442) (by decide +kernel) (by decide +kernel)
theorem tb_380 : Cond.code y_JpI b_JpI 3 (some .int) ∈ TB := tb_mem (i := 443) (by decide +kernel) (by decide +kernel)
theorem tb_960 : Cond.fieldLink R_JS 15 "java/lang/String" "coder" "B" ∈ TB := tb_mem (i := 1023) (by decide +kernel) (by decide +kernel)
theorem tb_961 : Cond.fieldLink R_JS 9 "java/lang/String" "value" "[B" ∈ TB := tb_mem (i := 1024) (by decide +kernel) (by decide +kernel)
theorem d_JcA_0 : decode b_JcA 0 = .ok (.aload_n 0, 1) := by decide +kernel
theorem d_JcA_1 : decode b_JcA 1 = .ok (.invokevirtual 492, 3) := by decide +kernel
theorem d_JcA_4 : decode b_JcA 4 = .ok (.ifCond .eq 12, 3) := by decide +kernel
theorem d_JcA_7 : decode b_JcA 7 = .ok (.aload_n 0, 1) := by decide +kernel
theorem d_JcA_8 : decode b_JcA 8 = .ok (.getfield 9, 3) := by decide +kernel
theorem d_JcA_11 : decode b_JcA 11 = .ok (.iload_n 1, 1) := by decide +kernel
theorem d_JcA_12 : decode b_JcA 12 = .ok (.invokestatic 495, 3) := by decide +kernel
theorem d_JcA_15 : decode b_JcA 15 = .ok (.ireturn, 1) := by decide +kernel
theorem d_JiL_0 : decode b_JiL 0 = .ok (.getstatic 38, 3) := by decide +kernel
theorem d_JiL_3 : decode b_JiL 3 = .ok (.ifCond .eq 14, 3) := by decide +kernel
theorem d_JiL_6 : decode b_JiL 6 = .ok (.aload_n 0, 1) := by decide +kernel
theorem d_JiL_7 : decode b_JiL 7 = .ok (.getfield 15, 3) := by decide +kernel
theorem d_JiL_10 : decode b_JiL 10 = .ok (.ifCond .ne 7, 3) := by decide +kernel
theorem d_JiL_13 : decode b_JiL 13 = .ok (.iconst 1, 1) := by decide +kernel
theorem d_JiL_14 : decode b_JiL 14 = .ok (.goto 4, 3) := by decide +kernel
theorem d_JiL_18 : decode b_JiL 18 = .ok (.ireturn, 1) := by decide +kernel
theorem d_JlC_0 : decode b_JlC 0 = .ok (.iload_n 1, 1) := by decide +kernel
theorem d_JlC_1 : decode b_JlC 1 = .ok (.aload_n 0, 1) := by decide +kernel
theorem d_JlC_2 : decode b_JlC 2 = .ok (.arraylength, 1) := by decide +kernel
theorem d_JlC_3 : decode b_JlC 3 = .ok (.invokestatic 9, 3) := by decide +kernel
theorem d_JlC_6 : decode b_JlC 6 = .ok (.aload_n 0, 1) := by decide +kernel
theorem d_JlC_7 : decode b_JlC 7 = .ok (.iload_n 1, 1) := by decide +kernel
theorem d_JlC_8 : decode b_JlC 8 = .ok (.baload, 1) := by decide +kernel
theorem d_JlC_9 : decode b_JlC 9 = .ok (.sipush 255, 3) := by decide +kernel
theorem d_JlC_12 : decode b_JlC 12 = .ok (.iand, 1) := by decide +kernel
theorem d_JlC_13 : decode b_JlC 13 = .ok (.i2c, 1) := by decide +kernel
theorem d_JlC_14 : decode b_JlC 14 = .ok (.ireturn, 1) := by decide +kernel
theorem d_JcI_0 : decode b_JcI 0 = .ok (.iload_n 0, 1) := by decide +kernel
theorem d_JcI_1 : decode b_JcI 1 = .ok (.iload_n 1, 1) := by decide +kernel
theorem d_JcI_2 : decode b_JcI 2 = .ok (.getstatic 1053, 3) := by decide +kernel
theorem d_JcI_5 : decode b_JcI 5 = .ok (.invokestatic 1059, 3) := by decide +kernel
theorem d_JcI_8 : decode b_JcI 8 = .ok (.pop, 1) := by decide +kernel
theorem d_JcI_9 : decode b_JcI 9 = .ok (.return_, 1) := by decide +kernel
theorem d_JpI_0 : decode b_JpI 0 = .ok (.iload_n 0, 1) := by decide +kernel
theorem d_JpI_1 : decode b_JpI 1 = .ok (.ifCond .lt 8, 3) := by decide +kernel
theorem d_JpI_4 : decode b_JpI 4 = .ok (.iload_n 0, 1) := by decide +kernel
theorem d_JpI_5 : decode b_JpI 5 = .ok (.iload_n 1, 1) := by decide +kernel
theorem d_JpI_6 : decode b_JpI 6 = .ok (.if_icmp .lt 10, 3) := by decide +kernel
theorem d_JpI_16 : decode b_JpI 16 = .ok (.iload_n 0, 1) := by decide +kernel
theorem d_JpI_17 : decode b_JpI 17 = .ok (.ireturn, 1) := by decide +kernel
section VSTR9
variable {p : Program} {l : Launch} {e : Env} {R : Room} {s : State} {m : MethodId} {args : Array Value} {below : List Frame} {meth : Method} {c : Code} {cells slots : Nat} {Q : State → Prop}
variable {cc : ByteArray} {own : String} {Ts : List Cond} {SP : (Nat → Prop) → State → Heap → Prop} {nL : Nat} {D : va_G} {cl : List vw_C} {tys : List (ClassId × FieldType)} {A : Nat → Prop} {ret : Option FieldType}
variable {ws ws2 : va_W} {pc : Nat} {L L2 : List (Nat × Value)} {rest : List Value}
theorem vv_i2c (hC : CX p s m args meth c cc own Ts nL D cl tys A SP ret) {x : Int32} (hdg : decode cc pc = .ok (.i2c, 1)) (k : VV p l e R s m args below meth c nL D cl A cells slots Q ws (pc + 1) L (.int (x.toUInt32 % 65536).toInt32 :: rest)) : VV p l e R s m args below meth c nL D cl A cells slots Q ws pc L (.int x :: rest) := fun H locs ls hP hD hS h => lv_i2c hC.1 hC.2.1 hdg rfl (k H locs ls hP hD hS h)
theorem vv_popN (hC : CX p s m args meth c cc own Ts nL D cl tys A SP ret) {v : Value} (hdg : decode cc pc = .ok (.pop, 1)) (hv : v.category = 1) (k : VV p l e R s m args below meth c nL D cl A cells slots Q ws (pc + 1) L rest) : VV p l e R s m args below meth c nL D cl A cells slots Q ws pc L (v :: rest) := fun H locs ls hP hD hS h => lv_pop hC.1 hC.2.1 hdg hv (k H locs ls hP hD hS h)
theorem vv_gets (hC : CX p s m args meth c cc own Ts nL D cl tys A SP ret) {C n d ref : String} {v : Value} {index : Nat} (hZ : va_Z C n d v A s s.heap) (hlk : Cond.fieldLink own index ref n d ∈ Ts) (hrf : C = ref) (hdg : decode cc pc = .ok (.getstatic index, 3)) (k : VV p l e R s m args below meth c nL D cl A cells slots Q ws (pc + 3) L (v :: rest)) : VV p l e R s m args below meth c nL D cl A cells slots Q ws pc L rest := fun H locs ls hP hD hS h => va_gets hC.1 hC.2.1 hZ hS hC.2.2.2.1 (hC.2.2.2.2.1 _ hlk) (fun x h9 => by rw [← hrf]; exact h9) hdg (k H locs ls hP hD hS h)
theorem vv_getO (hC : CX p s m args meth c cc own Ts nL D cl tys A SP ret) {o n d ref : String} {v : Value} {q index : Nat} (hE : va_OF o n d v q A s s.heap) (hlk : Cond.fieldLink own index ref n d ∈ Ts) (hrf : o = ref) (hdg : decode cc pc = .ok (.getfield index, 3)) (k : VV p l e R s m args below meth c nL D cl A cells slots Q ws (pc + 3) L (v :: rest)) : VV p l e R s m args below meth c nL D cl A cells slots Q ws pc L (.ref q :: rest) := fun H locs ls hP hD hS h => vk_getf hC.1 hC.2.1 hE hS hC.2.2.2.1 (hC.2.2.2.2.1 _ hlk) (fun x h9 => by rw [← hrf]; exact h9) hdg (k H locs ls hP hD hS h)
theorem vv_tb (hC : CX p s m args meth c cc own Ts nL D cl tys A SP ret) {t N : Nat} {f : Nat → Value} {i : Int32} {v : Value} (hT : va_T .byte t N f A s s.heap) (hdg : decode cc pc = .ok (.baload, 1)) (hi : vp_in i N) (hv : f i.toNatClampNeg = v) (k : VV p l e R s m args below meth c nL D cl A cells slots Q ws (pc + 1) L (v :: rest)) : VV p l e R s m args below meth c nL D cl A cells slots Q ws pc L (.int i :: .ref t :: rest) := fun H locs ls hP hD hS h => va_tb hC.1 hC.2.1 hT hS hi hv hdg (k H locs ls hP hD hS h)
theorem vv_tlen (hC : CX p s m args meth c cc own Ts nL D cl tys A SP ret) {t N : Nat} {f : Nat → Value} {ty : FieldType} {v : Int32} (hT : va_T ty t N f A s s.heap) (hdg : decode cc pc = .ok (.arraylength, 1)) (hv : Int32.ofNat N = v) (k : VV p l e R s m args below meth c nL D cl A cells slots Q ws (pc + 1) L (.int v :: rest)) : VV p l e R s m args below meth c nL D cl A cells slots Q ws pc L (.ref t :: rest) := fun H locs ls hP hD hS h => va_tlen hC.1 hC.2.1 hT hS hv hdg (k H locs ls hP hD hS h)
theorem vv_cret {S : Type} {post : Int32 → S → Prop} {wf : S → va_W} {v : Int32} (hC : CX p s m args meth c cc own Ts nL D cl tys A SP (some .char)) (hdg : decode cc pc = .ok (.ireturn, 1)) (hn : narrow .char (.int v) = .int v) (u : S) (hp : post v u) (hw : ws = wf u) : VV p l e R s m args below meth c nL D cl A 0 0 (QI below args s D cl tys A post wf) ws pc L [.int v] := fun H locs ls hP hD hS h => W.zret hC.1 hC.2.1 hC.2.2.2.2.2.2.2.2.1 hn (fun t ht hW => ⟨⟨v, u, rfl, hp, by rw [ht]; exact hw ▸ hP, va_K.moved hW.alike hC.2.2.2.2.2.1, hw ▸ hD⟩, hS.F ht⟩) hS.2.2 hdg hC.2.2.2.2.2.2.2.2.2
theorem vv_callOI (hC : CX p s m args meth c cc own Ts nL D cl tys A SP ret) {y : MethodName} {wy : List Cond} {rm : Room} {bytes : ByteArray} {maxL n index b : Nat} {rt : Option FieldType} {C : String} {As st0 : List Value} {S : Type} {post : Int32 → S → Prop} {wf : S → va_W} (hM : MetI l y wy rm D cl tys SP (.ref b :: As) [] post wf) (cw : CallW R s args own C index y bytes maxL rt wy rm 0 0 n) (hO : va_O C b A s s.heap) (hdg : decode cc pc = .ok (.invokevirtual index, 3)) (rest : List Value) (hwf : ∀ u, wf u = []) (hc : cells ≤ R.cells ∧ slots ≤ R.slots) (hlen : As.length = n) (hst : st0 = As.reverse ++ .ref b :: rest) (hrm : (rest.map fun v => v.category).sum ≤ 8) (kk : ∀ (r : Int32) (u : S), post r u → VV p l e R s m args below meth c nL D cl A cells slots Q ws (pc + 3) L (.int r :: rest)) : VV p l e R s m args below meth c nL D cl A cells slots Q ws pc L st0 := by
  obtain ⟨hx, hb, hml, hown, hts, hK, hA, ⟨hNa, hNW⟩, hr, hlk⟩ := hC
  intro H locs ls hP hD hS h
  have hPc : va_P D cl [] H := fun k q h => by simp at h
  have hDc : va_D A ([] : va_W) := ⟨fun i j p q h => by simp at h, fun k q h => by simp at h⟩
  have hFc : ∀ q, va_A ([] : va_W) H.size q → A q := fun q hq => by
    rcases hq with ⟨k, e9, h9⟩ | h9
    · simp at h9
    · exact hA q (Nat.le_trans hS.1 h9)
  have hrv : ∃ cellB : Cell, H[b]? = some cellB ∧ cellB.vm.isStatics = false ∧ s.vm.findClass C = some cellB.cls := by
    obtain ⟨cell, h1, h2, h3, -⟩ := hO.kept hS.2.1
    exact ⟨cell, h1, h2, h3⟩
  refine va_calli (va_runV (As := As) (rest := rest) (Ts := Ts) ⟨hx, hb, hml, hown, hts⟩ (hM H.size) cw ⟨fun a U g mk q => by obtain ⟨q0, q1, qP, qK, qD, qa, qN⟩ := q; exact ⟨q0, q1, qP, va_K.moved (u := U) (U := U.calling g mk a) (Vm.Alike.refl U.vm) qK, qD, qa, qa.2.2.2 _ U (U.calling g mk a) _ rfl qN⟩, hrv, fun U hU hW => ⟨rfl, by rw [hU], by rw [hU]; exact hPc, va_K.moved hW.alike hK, hDc.weaken (fun _ _ _ _ => trivial), hNa, by rw [hU]; exact hNa.2.2.1 _ s U _ hW (hNa.2.1 _ _ _ _ (hNa.1 _ _ _ _ hNW (fun a h1 h2 => hS.2.1 a h1 h2)) hFc)⟩⟩ rfl hlen h.1 hst (lv_room hrm) hdg hc) hS (fun q _ h => hFc q h) hFc (fun r u t H1 locs1 ht hvm hw hB hz1 hk1 hS1 => ?_)
  refine kk r u hw H1 locs1 ls (hP.kept (fun k q hq => hk1 q.1 (hP k q hq).lt (fun h9 => ?_))) hD hS1 h
  rcases h9 with ⟨k9, e9, h9⟩ | h9
  · simp at h9
  · exact absurd (hP k q hq).lt (by omega)
end VSTR9
set_option maxHeartbeats 4000000 in
set_option maxRecDepth 100000 in
theorem c_JpIN (l : Launch) (D : va_G) (cA : Nat → ClassId) (sx : Nat → Nat) (x0 x1 : Int32) (h0 : ¬ x0 < 0) (h1 : x0 < x1) : MetI l y_JpI (Cond.code y_JpI b_JpI 3 (some .int) :: TB) ({ frames := 0, cells := 0, slots := 0, locals := 0 } : Room) D vwCl (tyl cA) (SPl sx) [.int x0, .int x1, .null] [] (fun (r : Int32) (u : Unit) => True) (fun u : Unit => []) := by
  refine vv_entryI (cc := b_JpI) (own := R_JP) (L := [(0, .int x0), (1, .int x1), (2, .null)]) (by decide) rfl rfl (Nat.le_of_ble_eq_true rfl) rfl (fun p e s m args below meth c A hC => ?_)
  refine vv_iload_n hC d_JpI_0 0 rfl rfl ?_
  refine vv_if_lt hC 9 d_JpI_1 (by decide) (fun cd => absurd cd h0) (fun cd => ?_)
  refine vv_iload_n hC d_JpI_4 0 rfl rfl ?_
  refine vv_iload_n hC d_JpI_5 1 rfl rfl ?_
  refine vv_icmp_lt hC 16 d_JpI_6 (by decide) (fun cd => ?_) (fun cd => absurd h1 cd)
  refine vv_iload_n hC d_JpI_16 0 rfl rfl ?_
  exact vv_iret hC d_JpI_17 () trivial rfl
set_option maxHeartbeats 4000000 in
set_option maxRecDepth 100000 in
theorem c_JpIR (l : Launch) (D : va_G) (cA : Nat → ClassId) (sx : Nat → Nat) (t : Nat) (x0 x1 : Int32) (h0 : ¬ x0 < 0) (h1 : x0 < x1) : MetI l y_JpI (Cond.code y_JpI b_JpI 3 (some .int) :: TB) ({ frames := 0, cells := 0, slots := 0, locals := 0 } : Room) D vwCl (tyl cA) (SPl sx) [.int x0, .int x1, .ref t] [] (fun (r : Int32) (u : Unit) => True) (fun u : Unit => []) := by
  refine vv_entryI (cc := b_JpI) (own := R_JP) (L := [(0, .int x0), (1, .int x1), (2, .ref t)]) (by decide) rfl rfl (Nat.le_of_ble_eq_true rfl) rfl (fun p e s m args below meth c A hC => ?_)
  refine vv_iload_n hC d_JpI_0 0 rfl rfl ?_
  refine vv_if_lt hC 9 d_JpI_1 (by decide) (fun cd => absurd cd h0) (fun cd => ?_)
  refine vv_iload_n hC d_JpI_4 0 rfl rfl ?_
  refine vv_iload_n hC d_JpI_5 1 rfl rfl ?_
  refine vv_icmp_lt hC 16 d_JpI_6 (by decide) (fun cd => ?_) (fun cd => absurd h1 cd)
  refine vv_iload_n hC d_JpI_16 0 rfl rfl ?_
  exact vv_iret hC d_JpI_17 () trivial rfl
set_option maxHeartbeats 4000000 in
set_option maxRecDepth 100000 in
theorem c_JcI (l : Launch) (D : va_G) (cA : Nat → ClassId) (sx : Nat → Nat) (x0 x1 : Int32) (h0 : ¬ x0 < 0) (h1 : x0 < x1) : MetV l y_JcI (Cond.code y_JcI b_JcI 2 none :: TB) ({ frames := 1, cells := 0, slots := 0, locals := 22 } : Room) D vwCl (tyl cA) (SPl sx) [.int x0, .int x1] [] (fun (u : Unit) => True) (fun u : Unit => []) := by
  refine vv_entryV (cc := b_JcI) (own := R_JS) (L := [(0, .int x0), (1, .int x1)]) (by decide) rfl rfl (Nat.le_of_ble_eq_true rfl) rfl (fun p e s m args below meth c A hC => ?_)
  refine vv_iload_n hC d_JcI_0 0 rfl rfl ?_
  refine vv_iload_n hC d_JcI_1 1 rfl rfl ?_
  rcases SPl_form hC.2.2.2.2.2.2.2.1.2 with hZ | ⟨t, hZ⟩
  · refine vv_gets hC hZ tb_376 rfl d_JcI_2 ?_
    refine vv_callSI (wr := []) hC (c_JpIN l D cA sx x0 x1 h0 h1) ⟨callB_of 3 hC.2.2.2.2.1 (gC tb_380) rfl rfl rfl (hC.2.2.2.2.1 _ tb_11) (hC.2.2.2.2.1 _ tb_378) (by decide +kernel) ⟨Nat.le_of_ble_eq_true rfl, Nat.le_of_ble_eq_true rfl⟩, hC.2.2.2.2.1 _ tb_379⟩ d_JcI_5 [] [] [] [] (fun u : Unit => []) ⟨Nat.zero_le _, Nat.zero_le _⟩ rfl rfl (fun _ => rfl) rfl rfl rfl rfl rfl rfl (Nat.le_of_ble_eq_true rfl) (fun r u hw => ?_)
    refine vv_popN hC d_JcI_8 rfl ?_
    exact vv_vret hC d_JcI_9 () trivial rfl
  · refine vv_gets hC hZ tb_376 rfl d_JcI_2 ?_
    refine vv_callSI (wr := []) hC (c_JpIR l D cA sx t x0 x1 h0 h1) ⟨callB_of 3 hC.2.2.2.2.1 (gC tb_380) rfl rfl rfl (hC.2.2.2.2.1 _ tb_11) (hC.2.2.2.2.1 _ tb_378) (by decide +kernel) ⟨Nat.le_of_ble_eq_true rfl, Nat.le_of_ble_eq_true rfl⟩, hC.2.2.2.2.1 _ tb_379⟩ d_JcI_5 [] [] [] [] (fun u : Unit => []) ⟨Nat.zero_le _, Nat.zero_le _⟩ rfl rfl (fun _ => rfl) rfl rfl rfl rfl rfl rfl (Nat.le_of_ble_eq_true rfl) (fun r u hw => ?_)
    refine vv_popN hC d_JcI_8 rfl ?_
    exact vv_vret hC d_JcI_9 () trivial rfl
/-- the char at x of "ilo" -/
def kl (x : Int32) : Int32 := (((([[105, 108, 111]] : List (List Int32)).getD 0 []).getD x.toNatClampNeg 0 &&& 255).toUInt32 % 65536).toInt32
theorem in3 {x : Int32} (h : vp_in x 3) : ¬ x < 0 ∧ x < 3 := by
  obtain ⟨j, hj, rfl⟩ := vp_in_of h (by decide)
  exact ⟨nI_pos (by omega), nI_lt hj (by decide)⟩
set_option maxHeartbeats 4000000 in
set_option maxRecDepth 100000 in
theorem c_JlC (l : Launch) (D : va_G) (cA : Nat → ClassId) (sx : Nat → Nat) (x : Int32) (hi : vp_in x 3) : MetI l y_JlC (Cond.code y_JlC b_JlC 2 (some .char) :: TB) ({ frames := 2, cells := 0, slots := 0, locals := 43 } : Room) D vwCl (tyl cA) (SPl sx) [.ref (sx 1), .int x] [] (fun (r : Int32) (u : Unit) => r = kl x) (fun u : Unit => []) := by
  refine vv_entryI (cc := b_JlC) (own := R_JL) (L := [(0, .ref (sx 1)), (1, .int x)]) (by decide) rfl rfl (Nat.le_of_ble_eq_true rfl) rfl (fun p e s m args below meth c A hC => ?_)
  have hT := (hC.2.2.2.2.2.2.2.1.2.2.2.1.1 0 (by decide)).2.2.2
  refine vv_iload_n hC d_JlC_0 1 rfl rfl ?_
  refine vv_aload_n hC d_JlC_1 0 rfl rfl ?_
  refine vv_tlen hC hT d_JlC_2 (v := (3 : Int32)) (by decide) ?_
  refine vv_callSV (wr := []) hC (c_JcI l D cA sx x 3 (in3 hi).1 (in3 hi).2) ⟨callB_of 2 hC.2.2.2.2.1 (gC tb_375) rfl rfl rfl (hC.2.2.2.2.1 _ tb_9) (hC.2.2.2.2.1 _ tb_373) (by decide +kernel) ⟨Nat.le_of_ble_eq_true rfl, Nat.le_of_ble_eq_true rfl⟩, hC.2.2.2.2.1 _ tb_374⟩ d_JlC_3 [] [] [] [] (fun u : Unit => []) ⟨Nat.zero_le _, Nat.zero_le _⟩ rfl rfl (fun _ => rfl) rfl rfl rfl rfl rfl rfl (Nat.le_of_ble_eq_true rfl) (fun u hw => ?_)
  refine vv_aload_n hC d_JlC_6 0 rfl rfl ?_
  refine vv_iload_n hC d_JlC_7 1 rfl rfl ?_
  refine vv_tb hC hT d_JlC_8 hi rfl ?_
  refine vv_sipush hC d_JlC_9 (v := (255 : Int32)) (by decide) ?_
  refine vv_iand hC d_JlC_12 ?_
  refine vv_i2c hC d_JlC_13 ?_
  exact vv_cret hC d_JlC_14 (pk_nc _) () rfl rfl
set_option maxHeartbeats 4000000 in
set_option maxRecDepth 100000 in
theorem c_JiL (l : Launch) (D : va_G) (cA : Nat → ClassId) (sx : Nat → Nat) : MetI l y_JiL (Cond.code y_JiL b_JiL 1 (some .boolean) :: TB) ({ frames := 0, cells := 0, slots := 0, locals := 0 } : Room) D vwCl (tyl cA) (SPl sx) [.ref (sx 0)] [] (fun (r : Int32) (u : Unit) => r = 1) (fun u : Unit => []) := by
  refine vv_entryI (cc := b_JiL) (own := R_JS) (L := [(0, .ref (sx 0))]) (by decide) rfl rfl (Nat.le_of_ble_eq_true rfl) rfl (fun p e s m args below meth c A hC => ?_)
  have hE := (hC.2.2.2.2.2.2.2.1.2.2.2.1.1 0 (by decide)).2.1
  refine vv_gets hC hC.2.2.2.2.2.2.2.1.2.2.2.2.1 tb_368 rfl d_JiL_0 ?_
  refine vv_if_eq hC 17 d_JiL_3 (by decide) (fun cd => absurd cd (by decide)) (fun cd => ?_)
  refine vv_aload_n hC d_JiL_6 0 rfl rfl ?_
  refine vv_getO hC hE tb_960 rfl d_JiL_7 ?_
  refine vv_if_ne hC 17 d_JiL_10 (by decide) (fun cd => absurd rfl cd) (fun cd => ?_)
  refine vv_iconst hC d_JiL_13 (v := (1 : Int32)) (by decide) ?_
  refine vv_goto hC 18 d_JiL_14 (by decide) ?_
  exact vv_zret hC d_JiL_18 rfl () rfl rfl
set_option maxHeartbeats 4000000 in
set_option maxRecDepth 100000 in
theorem c_JcA (l : Launch) (D : va_G) (cA : Nat → ClassId) (sx : Nat → Nat) (x : Int32) (hi : vp_in x 3) : MetI l y_JcA (Cond.code y_JcA b_JcA 2 (some .char) :: TB) ({ frames := 3, cells := 0, slots := 0, locals := 64 } : Room) D vwCl (tyl cA) (SPl sx) [.ref (sx 0), .int x] [] (fun (r : Int32) (u : Unit) => r = kl x) (fun u : Unit => []) := by
  refine vv_entryI (cc := b_JcA) (own := R_JS) (L := [(0, .ref (sx 0)), (1, .int x)]) (by decide) rfl rfl (Nat.le_of_ble_eq_true rfl) rfl (fun p e s m args below meth c A hC => ?_)
  have hV := hC.2.2.2.2.2.2.2.1.2.2.2.1.1 0 (by decide)
  refine vv_aload_n hC d_JcA_0 0 rfl rfl ?_
  refine vv_callOI hC (c_JiL l D cA sx) (cwV 0 hC.2.2.2.2.1 (gV tb_364 tb_365 tb_366 tb_9 tb_367) rfl rfl rfl (by decide +kernel) ⟨Nat.le_of_ble_eq_true rfl, Nat.le_of_ble_eq_true rfl⟩) hV.1 d_JcA_1 [] (fun _ => rfl) ⟨Nat.zero_le _, Nat.zero_le _⟩ rfl rfl (Nat.le_of_ble_eq_true rfl) (fun r u hw => ?_)
  refine vv_if_eq hC 16 d_JcA_4 (by decide) (fun cd => absurd (hw.symm.trans cd) (by decide)) (fun cd => ?_)
  refine vv_aload_n hC d_JcA_7 0 rfl rfl ?_
  refine vv_getO hC hV.2.2.1 tb_961 rfl d_JcA_8 ?_
  refine vv_iload_n hC d_JcA_11 1 rfl rfl ?_
  refine vv_callSI (wr := []) hC (c_JlC l D cA sx x hi) ⟨callB_of 2 hC.2.2.2.2.1 (gC tb_372) rfl rfl rfl (hC.2.2.2.2.1 _ tb_10) (hC.2.2.2.2.1 _ tb_370) (by decide +kernel) ⟨Nat.le_of_ble_eq_true rfl, Nat.le_of_ble_eq_true rfl⟩, hC.2.2.2.2.1 _ tb_371⟩ d_JcA_12 [] [] [] [] (fun u : Unit => []) ⟨Nat.zero_le _, Nat.zero_le _⟩ rfl rfl (fun _ => rfl) rfl rfl rfl rfl rfl rfl (Nat.le_of_ble_eq_true rfl) (fun r u hw => ?_)
  exact vv_cret hC d_JcA_15 (by rw [hw]; exact pk_nc _) () hw rfl
section VCHAR
variable {p : Program} {l : Launch} {e : Env} {R : Room} {s : State} {m : MethodId} {args : Array Value} {below : List Frame} {meth : Method} {c : Code} {cells slots : Nat} {Q : State → Prop}
variable {cc : ByteArray} {own : String} {nL : Nat} {D : va_G} {cA : Nat → ClassId} {sx : Nat → Nat} {A : Nat → Prop} {ret : Option FieldType} {ws : va_W} {pc : Nat} {L : List (Nat × Value)} {rest : List Value}
theorem vv_ldcS (hC : CX p s m args meth c cc own TB nL D vwCl (tyl cA) A (SPl sx) ret) {tx : String} {index q : Nat} (hZ : vk_R own index tx q s) (hdg : decode cc pc = .ok (.ldc index, 2)) (k : VV p l e R s m args below meth c nL D vwCl A cells slots Q ws (pc + 2) L (.ref q :: rest)) : VV p l e R s m args below meth c nL D vwCl A cells slots Q ws pc L rest := fun H locs ls hP hD hS h => va_ldcS hC.1 hC.2.1 hC.2.2.2.1 hZ hdg (k H locs ls hP hD hS h)
theorem vv_charAt (hC : CX p s m args meth c cc own TB nL D vwCl (tyl cA) A (SPl sx) ret) {index : Nat} {i : Int32} (hlk : Cond.methodLink own index y_JcA ∈ TB) (hdg : decode cc pc = .ok (.invokevirtual index, 3)) (hi : vp_in i 3) (hrm : (rest.map fun v => v.category).sum ≤ 8) (hc : cells ≤ R.cells ∧ slots ≤ R.slots) (hR : 3 + 1 ≤ R.frames ∧ 8 + (2 + 11) + 64 ≤ R.locals) (k : VV p l e R s m args below meth c nL D vwCl A cells slots Q ws (pc + 3) L (.int (kl i) :: rest)) : VV p l e R s m args below meth c nL D vwCl A cells slots Q ws pc L (.int i :: .ref (sx 0) :: rest) := by
  have hV := hC.2.2.2.2.2.2.2.1.2.2.2.1.1 0 (by decide)
  refine vv_callOI hC (c_JcA l D cA sx i hi) (cwV 1 hC.2.2.2.2.1 (gV hlk tb_361 tb_362 tb_9 tb_363) rfl rfl rfl (by decide +kernel) hR) hV.1 hdg rest (fun _ => rfl) hc rfl rfl hrm (fun r u hw => ?_)
  rw [hw]
  exact k

theorem vv_mmax (hC : CX p s m args meth c cc own TB nL D vwCl (tyl cA) A (SPl sx) ret) {index : Nat} {x y : Int32} (hlk : Cond.methodLink own index Lib.Math.max.name ∈ TB) (hdg : decode cc pc = .ok (.invokestatic index, 3)) (hc : cells ≤ R.cells ∧ slots ≤ R.slots) (hR : 1 ≤ R.frames ∧ (rest.map fun v => v.category).sum + 13 ≤ R.locals) (k : VV p l e R s m args below meth c nL D vwCl A cells slots Q ws (pc + 3) L (.int (if x < y then y else x) :: rest)) : VV p l e R s m args below meth c nL D vwCl A cells slots Q ws pc L (.int y :: .int x :: rest) := fun H locs ls hP hD hS h => va_mmax hC.1 hC.2.1 (hC.2.2.1.trans h.1.symm) hC.2.2.2.1 (hC.2.2.2.2.1 _ hlk) (hC.2.2.2.2.1 _ tb_344) (hC.2.2.2.2.1 _ tb_17) (hC.2.2.2.2.1 _ tb_345) hR.1 hR.2 hc.1 hc.2 hdg (k H locs ls hP hD hS h)
theorem vv_mmin (hC : CX p s m args meth c cc own TB nL D vwCl (tyl cA) A (SPl sx) ret) {index : Nat} {x y : Int32} (hlk : Cond.methodLink own index Lib.Math.min.name ∈ TB) (hdg : decode cc pc = .ok (.invokestatic index, 3)) (hc : cells ≤ R.cells ∧ slots ≤ R.slots) (hR : 1 ≤ R.frames ∧ (rest.map fun v => v.category).sum + 13 ≤ R.locals) (k : VV p l e R s m args below meth c nL D vwCl A cells slots Q ws (pc + 3) L (.int (if y < x then y else x) :: rest)) : VV p l e R s m args below meth c nL D vwCl A cells slots Q ws pc L (.int y :: .int x :: rest) := fun H locs ls hP hD hS h => va_mmin hC.1 hC.2.1 (hC.2.2.1.trans h.1.symm) hC.2.2.2.1 (hC.2.2.2.2.1 _ hlk) (hC.2.2.2.2.1 _ tb_351) (hC.2.2.2.2.1 _ tb_17) (hC.2.2.2.2.1 _ tb_352) hR.1 hR.2 hc.1 hc.2 hdg (k H locs ls hP hD hS h)
end VCHAR
