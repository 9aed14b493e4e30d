set_option maxHeartbeats 4000000 in
set_option maxRecDepth 100000 in
theorem l_S_awaitAnds_L2 {p : Program} {l : Launch} {e : Env} {s : State} {m : MethodId} {args : Array Value} {below : List Frame} {meth : Method} {c : Code} {D : va_G} {cA : Nat → ClassId} {sx : Nat → Nat} {A : Nat → Prop} (a_S a_C : Nat → Nat) (I_S : (Nat → Int32)) (I_C : (Nat → Int32)) (A_C : (Nat → Nat → Int32)) (Q : (Nat → Nat → Int32) → Prop) (X2 : (Nat → Nat → Int32) → Prop) (hC : CX p s m args meth c b_S_awaitAnds R_S TB 3 D vwCl (tyl cA) A (SPl sx) none) (hX2 : ∀ (A_S : (Nat → Nat → Int32)), X2 A_S → VV p l e ({ frames := 0, cells := 0, slots := 0, locals := 0 } : Room) s m args below meth c 3 D vwCl A 0 0 (QV below args s D vwCl (tyl cA) A (fun (u : (Nat → Nat → Int32)) => Q u) (fun u : (Nat → Nat → Int32) => kc_S cA a_S I_S u ++ kc_C cA a_C I_C A_C)) (kc_S cA a_S I_S A_S ++ kc_C cA a_C I_C A_C) 22 [(0, .ref (a_S 0)), (1, .ref (a_C 0))] []) : ∀ (n2 : Nat) (A_S : (Nat → Nat → Int32)) (v2 : Int32), wp_S_awaitAnds_L2 I_C A_C Q X2 n2 A_S v2 → VV p l e ({ frames := 0, cells := 0, slots := 0, locals := 0 } : Room) s m args below meth c 3 D vwCl A 0 0 (QV below args s D vwCl (tyl cA) A (fun (u : (Nat → Nat → Int32)) => Q u) (fun u : (Nat → Nat → Int32) => kc_S cA a_S I_S u ++ kc_C cA a_C I_C A_C)) (kc_S cA a_S I_S A_S ++ kc_C cA a_C I_C A_C) 2 [(0, .ref (a_S 0)), (1, .ref (a_C 0)), (2, .int v2)] [] := by
  intro n2
  induction n2 with
  | zero =>
    intro A_S v2 hw
    exact absurd hw (fun z => z)
  | succ n2 ih =>
    intro A_S v2 hw
    unfold wp_S_awaitAnds_L2 at hw
    refine vv_iload_n hC d_S_awaitAnds_2 2 rfl rfl ?_
    refine vv_sipush hC d_S_awaitAnds_3 (v := (400 : Int32)) (by decide) ?_
    refine vv_icmp_gt hC 22 d_S_awaitAnds_6 (by decide) (fun cd => ?_) (fun cd => ?_)
    · have hw := hw.1 cd
      exact vv_sub [0, 1] (by rfl) (hX2 A_S hw)
    · have hw := hw.2 cd
      refine vv_aload_n hC d_S_awaitAnds_9 0 rfl rfl ?_
      refine vv_get hC (v := .ref (a_S 1)) hin_S 0 0 tb_57 d_S_awaitAnds_10 rfl rfl (by decide) rfl rfl ?_
      refine vv_iload_n hC d_S_awaitAnds_13 2 rfl rfl ?_
      refine vv_iconst hC d_S_awaitAnds_14 (v := (1 : Int32)) (by decide) ?_
      obtain ⟨hin_1, hw⟩ := hw
      refine vv_zast hC 1 1 d_S_awaitAnds_15 rfl rfl hin_1 (ws2 := kc_S cA a_S I_S (va_up A_S 0 (upd (A_S 0) (v2).toNatClampNeg (1 : Int32))) ++ kc_C cA a_C I_C A_C) (st_SC_SA0 ..) ?_
      refine vv_iinc hC d_S_awaitAnds_16 2 rfl (v := (v2 + (1 : Int32))) rfl (by decide) [1, 2, 0] (L2 := [(0, .ref (a_S 0)), (1, .ref (a_C 0)), (2, .int (v2 + (1 : Int32)))]) rfl ?_
      refine vv_goto hC 2 d_S_awaitAnds_19 (by decide) ?_
      exact vv_sub [0, 1, 2] (by rfl) (ih (va_up A_S 0 (upd (A_S 0) (v2).toNatClampNeg (1 : Int32))) (v2 + (1 : Int32)) hw)
set_option maxHeartbeats 4000000 in
set_option maxRecDepth 100000 in
theorem l_S_awaitAnds_L24 {p : Program} {l : Launch} {e : Env} {s : State} {m : MethodId} {args : Array Value} {below : List Frame} {meth : Method} {c : Code} {D : va_G} {cA : Nat → ClassId} {sx : Nat → Nat} {A : Nat → Prop} (a_S a_C : Nat → Nat) (I_S : (Nat → Int32)) (I_C : (Nat → Int32)) (A_C : (Nat → Nat → Int32)) (Q : (Nat → Nat → Int32) → Prop) (X24 : (Nat → Nat → Int32) → Prop) (hC : CX p s m args meth c b_S_awaitAnds R_S TB 3 D vwCl (tyl cA) A (SPl sx) none) (hX24 : ∀ (A_S : (Nat → Nat → Int32)), X24 A_S → VV p l e ({ frames := 0, cells := 0, slots := 0, locals := 0 } : Room) s m args below meth c 3 D vwCl A 0 0 (QV below args s D vwCl (tyl cA) A (fun (u : (Nat → Nat → Int32)) => Q u) (fun u : (Nat → Nat → Int32) => kc_S cA a_S I_S u ++ kc_C cA a_C I_C A_C)) (kc_S cA a_S I_S A_S ++ kc_C cA a_C I_C A_C) 62 [] []) : ∀ (n24 : Nat) (A_S : (Nat → Nat → Int32)) (v2 : Int32), wp_S_awaitAnds_L24 I_C A_C Q X24 n24 A_S v2 → VV p l e ({ frames := 0, cells := 0, slots := 0, locals := 0 } : Room) s m args below meth c 3 D vwCl A 0 0 (QV below args s D vwCl (tyl cA) A (fun (u : (Nat → Nat → Int32)) => Q u) (fun u : (Nat → Nat → Int32) => kc_S cA a_S I_S u ++ kc_C cA a_C I_C A_C)) (kc_S cA a_S I_S A_S ++ kc_C cA a_C I_C A_C) 24 [(0, .ref (a_S 0)), (1, .ref (a_C 0)), (2, .int v2)] [] := by
  intro n24
  induction n24 with
  | zero =>
    intro A_S v2 hw
    exact absurd hw (fun z => z)
  | succ n24 ih =>
    intro A_S v2 hw
    unfold wp_S_awaitAnds_L24 at hw
    refine vv_iload_n hC d_S_awaitAnds_24 2 rfl rfl ?_
    refine vv_aload_n hC d_S_awaitAnds_25 1 rfl rfl ?_
    refine vv_get hC (v := .int (I_C 4)) hin_C 5 4 tb_166 d_S_awaitAnds_26 rfl rfl (by decide) rfl rfl ?_
    refine vv_icmp_ge hC 62 d_S_awaitAnds_29 (by decide) (fun cd => ?_) (fun cd => ?_)
    · have hw := hw.1 cd
      exact vv_sub [] (by rfl) (hX24 A_S hw)
    · have hw := hw.2 cd
      refine vv_aload_n hC d_S_awaitAnds_32 0 rfl rfl ?_
      refine vv_get hC (v := .ref (a_S 1)) hin_S 0 0 tb_57 d_S_awaitAnds_33 rfl rfl (by decide) rfl rfl ?_
      refine vv_aload_n hC d_S_awaitAnds_36 1 rfl rfl ?_
      refine vv_get hC (v := .ref (a_C 5)) hin_C 5 10 tb_187 d_S_awaitAnds_37 rfl rfl (by decide) rfl rfl ?_
      refine vv_iload_n hC d_S_awaitAnds_40 2 rfl rfl ?_
      obtain ⟨hin_3, hw⟩ := hw
      refine vv_iald hC 10 0 d_S_awaitAnds_41 rfl rfl hin_3 ?_
      refine vv_iconst hC d_S_awaitAnds_42 (v := (0 : Int32)) (by decide) ?_
      obtain ⟨hin_4, hw⟩ := hw
      refine vv_zast hC 1 1 d_S_awaitAnds_43 rfl rfl hin_4 (ws2 := kc_S cA a_S I_S (va_up A_S 0 (upd (A_S 0) (((A_C 4) (v2).toNatClampNeg)).toNatClampNeg (0 : Int32))) ++ kc_C cA a_C I_C A_C) (st_SC_SA0 ..) ?_
      refine vv_aload_n hC d_S_awaitAnds_44 0 rfl rfl ?_
      refine vv_get hC (v := .ref (a_S 3)) hin_S 0 2 tb_59 d_S_awaitAnds_45 rfl rfl (by decide) rfl rfl ?_
      refine vv_aload_n hC d_S_awaitAnds_48 1 rfl rfl ?_
      refine vv_get hC (v := .ref (a_C 5)) hin_C 5 10 tb_187 d_S_awaitAnds_49 rfl rfl (by decide) rfl rfl ?_
      refine vv_iload_n hC d_S_awaitAnds_52 2 rfl rfl ?_
      refine vv_iald hC 10 0 d_S_awaitAnds_53 rfl rfl hin_3 ?_
      refine vv_iload_n hC d_S_awaitAnds_54 2 rfl rfl ?_
      refine vv_iast hC 3 0 d_S_awaitAnds_55 rfl rfl hin_4 (ws2 := kc_S cA a_S I_S (va_up (va_up A_S 0 (upd (A_S 0) (((A_C 4) (v2).toNatClampNeg)).toNatClampNeg (0 : Int32))) 2 (upd (A_S 2) (((A_C 4) (v2).toNatClampNeg)).toNatClampNeg v2)) ++ kc_C cA a_C I_C A_C) (st_SC_SA2 ..) ?_
      refine vv_iinc hC d_S_awaitAnds_56 2 rfl (v := (v2 + (1 : Int32))) rfl (by decide) [1, 2, 0] (L2 := [(0, .ref (a_S 0)), (1, .ref (a_C 0)), (2, .int (v2 + (1 : Int32)))]) rfl ?_
      refine vv_goto hC 24 d_S_awaitAnds_59 (by decide) ?_
      exact vv_sub [0, 1, 2] (by rfl) (ih (va_up (va_up A_S 0 (upd (A_S 0) (((A_C 4) (v2).toNatClampNeg)).toNatClampNeg (0 : Int32))) 2 (upd (A_S 2) (((A_C 4) (v2).toNatClampNeg)).toNatClampNeg v2)) (v2 + (1 : Int32)) hw)
set_option maxHeartbeats 4000000 in
set_option maxRecDepth 100000 in
theorem c_S_awaitAnds (l : Launch) (D : va_G) (cA : Nat → ClassId) (sx : Nat → Nat) (a_S a_C : Nat → Nat) (I_S : (Nat → Int32)) (A_S : (Nat → Nat → Int32)) (I_C : (Nat → Int32)) (A_C : (Nat → Nat → Int32)) (Q : (Nat → Nat → Int32) → Prop) (hw : wp_S_awaitAnds A_S I_C A_C Q) : MetV l y_S_awaitAnds (Cond.code y_S_awaitAnds b_S_awaitAnds 3 none :: TB) ({ frames := 0, cells := 0, slots := 0, locals := 0 } : Room) D vwCl (tyl cA) (SPl sx) [.ref (a_S 0), .ref (a_C 0)] (kc_S cA a_S I_S A_S ++ kc_C cA a_C I_C A_C) (fun (u : (Nat → Nat → Int32)) => Q u) (fun u : (Nat → Nat → Int32) => kc_S cA a_S I_S u ++ kc_C cA a_C I_C A_C) := by
  refine vv_entryV (cc := b_S_awaitAnds) (own := R_S) (L := [(0, .ref (a_S 0)), (1, .ref (a_C 0))]) (by decide) rfl rfl (Nat.le_of_ble_eq_true rfl) rfl (fun p e s m args below meth c A hC => ?_)
  unfold wp_S_awaitAnds at hw
  refine vv_iconst hC d_S_awaitAnds_0 (v := (0 : Int32)) (by decide) ?_
  refine vv_istore_n hC d_S_awaitAnds_1 rfl (by decide) [1, 2, 0] (L2 := [(0, .ref (a_S 0)), (1, .ref (a_C 0)), (2, .int (0 : Int32))]) rfl ?_
  obtain ⟨m2, hw⟩ := hw
  refine vv_sub [0, 1, 2] (by rfl) (l_S_awaitAnds_L2 a_S a_C I_S I_C A_C Q _ hC (fun A_S_2 hw => ?_) m2 A_S (0 : Int32) hw)
  refine vv_iconst hC d_S_awaitAnds_22 (v := (0 : Int32)) (by decide) ?_
  refine vv_istore_n hC d_S_awaitAnds_23 rfl (by decide) [1, 2, 0] (L2 := [(0, .ref (a_S 0)), (1, .ref (a_C 0)), (2, .int (0 : Int32))]) rfl ?_
  obtain ⟨m24, hw⟩ := hw
  refine vv_sub [0, 1, 2] (by rfl) (l_S_awaitAnds_L24 a_S a_C I_S I_C A_C Q _ hC (fun A_S_5 hw => ?_) m24 A_S_2 (0 : Int32) hw)
  exact vv_vret hC d_S_awaitAnds_62 A_S_5 hw rfl
set_option maxHeartbeats 4000000 in
set_option maxRecDepth 100000 in
theorem l_S_firstReady_L2 {p : Program} {l : Launch} {e : Env} {s : State} {m : MethodId} {args : Array Value} {below : List Frame} {meth : Method} {c : Code} {D : va_G} {cA : Nat → ClassId} {sx : Nat → Nat} {A : Nat → Prop} (a_S a_C : Nat → Nat) (I_S : (Nat → Int32)) (A_S : (Nat → Nat → Int32)) (I_C : (Nat → Int32)) (A_C : (Nat → Nat → Int32)) (Q : Int32 → Prop) (X2 : Prop) (hC : CX p s m args meth c b_S_firstReady R_S TB 4 D vwCl (tyl cA) A (SPl sx) (some .int)) (hX2 : X2 → VV p l e ({ frames := 0, cells := 0, slots := 0, locals := 0 } : Room) s m args below meth c 4 D vwCl A 0 0 (QI below args s D vwCl (tyl cA) A (fun (r : Int32) (u : Unit) => Q r) (fun u : Unit => kc_S cA a_S I_S A_S ++ kc_C cA a_C I_C A_C)) (kc_S cA a_S I_S A_S ++ kc_C cA a_C I_C A_C) 64 [] []) : ∀ (n2 : Nat) (v3 : Int32), wp_S_firstReady_L2 A_S I_C A_C Q X2 n2 v3 → VV p l e ({ frames := 0, cells := 0, slots := 0, locals := 0 } : Room) s m args below meth c 4 D vwCl A 0 0 (QI below args s D vwCl (tyl cA) A (fun (r : Int32) (u : Unit) => Q r) (fun u : Unit => kc_S cA a_S I_S A_S ++ kc_C cA a_C I_C A_C)) (kc_S cA a_S I_S A_S ++ kc_C cA a_C I_C A_C) 2 [(0, .ref (a_S 0)), (1, .ref (a_C 0)), (3, .int v3)] [] := by
  intro n2
  induction n2 with
  | zero =>
    intro v3 hw
    exact absurd hw (fun z => z)
  | succ n2 ih =>
    intro v3 hw
    unfold wp_S_firstReady_L2 at hw
    refine vv_iload_n hC d_S_firstReady_2 2 rfl rfl ?_
    refine vv_aload_n hC d_S_firstReady_3 1 rfl rfl ?_
    refine vv_get hC (v := .int (I_C 4)) hin_C 5 4 tb_166 d_S_firstReady_4 rfl rfl (by decide) rfl rfl ?_
    refine vv_icmp_ge hC 64 d_S_firstReady_7 (by decide) (fun cd => ?_) (fun cd => ?_)
    · have hw := hw.1 cd
      exact vv_sub [] (by rfl) (hX2 hw)
    · have hw := hw.2 cd
      refine vv_aload_n hC d_S_firstReady_10 0 rfl rfl ?_
      refine vv_get hC (v := .ref (a_S 1)) hin_S 0 0 tb_57 d_S_firstReady_11 rfl rfl (by decide) rfl rfl ?_
      refine vv_aload_n hC d_S_firstReady_14 1 rfl rfl ?_
      refine vv_get hC (v := .ref (a_C 5)) hin_C 5 10 tb_187 d_S_firstReady_15 rfl rfl (by decide) rfl rfl ?_
      refine vv_iload_n hC d_S_firstReady_18 2 rfl rfl ?_
      obtain ⟨hin_1, hw⟩ := hw
      refine vv_iald hC 10 0 d_S_firstReady_19 rfl rfl hin_1 ?_
      obtain ⟨hin_2, hw⟩ := hw
      refine vv_zald hC 1 1 d_S_firstReady_20 rfl rfl hin_2 ?_
      refine vv_if_ne hC 58 d_S_firstReady_21 (by decide) (fun cd => ?_) (fun cd => ?_)
      · have hw := hw.2 cd
        refine vv_iinc hC d_S_firstReady_58 2 rfl (v := (v3 + (1 : Int32))) rfl (by decide) [1, 2, 0] (L2 := [(0, .ref (a_S 0)), (1, .ref (a_C 0)), (3, .int (v3 + (1 : Int32)))]) rfl ?_
        refine vv_goto hC 2 d_S_firstReady_61 (by decide) ?_
        exact vv_sub [0, 1, 2] (by rfl) (ih (v3 + (1 : Int32)) hw)
      · have hw := hw.1 cd
        refine vv_aload_n hC d_S_firstReady_24 0 rfl rfl ?_
        refine vv_get hC (v := .ref (a_S 1)) hin_S 0 0 tb_57 d_S_firstReady_25 rfl rfl (by decide) rfl rfl ?_
        refine vv_aload_n hC d_S_firstReady_28 1 rfl rfl ?_
        refine vv_get hC (v := .ref (a_C 6)) hin_C 5 11 tb_191 d_S_firstReady_29 rfl rfl (by decide) rfl rfl ?_
        refine vv_iload_n hC d_S_firstReady_32 2 rfl rfl ?_
        refine vv_iald hC 11 0 d_S_firstReady_33 rfl rfl hin_1 ?_
        refine vv_iconst hC d_S_firstReady_34 (v := (1 : Int32)) (by decide) ?_
        refine vv_ishr hC d_S_firstReady_35 ?_
        obtain ⟨hin_3, hw⟩ := hw
        refine vv_zald hC 1 1 d_S_firstReady_36 rfl rfl hin_3 ?_
        refine vv_if_eq hC 58 d_S_firstReady_37 (by decide) (fun cd => ?_) (fun cd => ?_)
        · have hw := hw.1 cd
          refine vv_iinc hC d_S_firstReady_58 2 rfl (v := (v3 + (1 : Int32))) rfl (by decide) [1, 2, 0] (L2 := [(0, .ref (a_S 0)), (1, .ref (a_C 0)), (3, .int (v3 + (1 : Int32)))]) rfl ?_
          refine vv_goto hC 2 d_S_firstReady_61 (by decide) ?_
          exact vv_sub [0, 1, 2] (by rfl) (ih (v3 + (1 : Int32)) hw)
        · have hw := hw.2 cd
          refine vv_aload_n hC d_S_firstReady_40 0 rfl rfl ?_
          refine vv_get hC (v := .ref (a_S 1)) hin_S 0 0 tb_57 d_S_firstReady_41 rfl rfl (by decide) rfl rfl ?_
          refine vv_aload_n hC d_S_firstReady_44 1 rfl rfl ?_
          refine vv_get hC (v := .ref (a_C 7)) hin_C 5 12 tb_195 d_S_firstReady_45 rfl rfl (by decide) rfl rfl ?_
          refine vv_iload_n hC d_S_firstReady_48 2 rfl rfl ?_
          refine vv_iald hC 12 0 d_S_firstReady_49 rfl rfl hin_1 ?_
          refine vv_iconst hC d_S_firstReady_50 (v := (1 : Int32)) (by decide) ?_
          refine vv_ishr hC d_S_firstReady_51 ?_
          obtain ⟨hin_4, hw⟩ := hw
          refine vv_zald hC 1 1 d_S_firstReady_52 rfl rfl hin_4 ?_
          refine vv_if_eq hC 58 d_S_firstReady_53 (by decide) (fun cd => ?_) (fun cd => ?_)
          · have hw := hw.1 cd
            refine vv_iinc hC d_S_firstReady_58 2 rfl (v := (v3 + (1 : Int32))) rfl (by decide) [1, 2, 0] (L2 := [(0, .ref (a_S 0)), (1, .ref (a_C 0)), (3, .int (v3 + (1 : Int32)))]) rfl ?_
            refine vv_goto hC 2 d_S_firstReady_61 (by decide) ?_
            exact vv_sub [0, 1, 2] (by rfl) (ih (v3 + (1 : Int32)) hw)
          · have hw := hw.2 cd
            refine vv_iload_n hC d_S_firstReady_56 2 rfl rfl ?_
            exact vv_iret hC d_S_firstReady_57 () hw rfl
set_option maxHeartbeats 4000000 in
set_option maxRecDepth 100000 in
theorem c_S_firstReady (l : Launch) (D : va_G) (cA : Nat → ClassId) (sx : Nat → Nat) (a_S a_C : Nat → Nat) (I_S : (Nat → Int32)) (A_S : (Nat → Nat → Int32)) (I_C : (Nat → Int32)) (A_C : (Nat → Nat → Int32)) (x2 : Int32) (Q : Int32 → Prop) (hw : wp_S_firstReady A_S I_C A_C x2 Q) : MetI l y_S_firstReady (Cond.code y_S_firstReady b_S_firstReady 4 (some .int) :: TB) ({ frames := 0, cells := 0, slots := 0, locals := 0 } : Room) D vwCl (tyl cA) (SPl sx) [.ref (a_S 0), .ref (a_C 0), .int x2] (kc_S cA a_S I_S A_S ++ kc_C cA a_C I_C A_C) (fun (r : Int32) (u : Unit) => Q r) (fun u : Unit => kc_S cA a_S I_S A_S ++ kc_C cA a_C I_C A_C) := by
  refine vv_entryI (cc := b_S_firstReady) (own := R_S) (L := [(0, .ref (a_S 0)), (1, .ref (a_C 0)), (2, .int x2)]) (by decide) rfl rfl (Nat.le_of_ble_eq_true rfl) rfl (fun p e s m args below meth c A hC => ?_)
  unfold wp_S_firstReady at hw
  refine vv_iload_n hC d_S_firstReady_0 2 rfl rfl ?_
  refine vv_istore_n hC d_S_firstReady_1 rfl (by decide) [1, 2, 3, 0] (L2 := [(0, .ref (a_S 0)), (1, .ref (a_C 0)), (2, .int x2), (3, .int x2)]) rfl ?_
  obtain ⟨m2, hw⟩ := hw
  refine vv_sub [0, 1, 3] (by rfl) (l_S_firstReady_L2 a_S a_C I_S A_S I_C A_C Q _ hC (fun  hw => ?_) m2 x2 hw)
  refine vv_iconst hC d_S_firstReady_64 (v := (-1 : Int32)) (by decide) ?_
  exact vv_iret hC d_S_firstReady_65 () hw rfl
set_option maxHeartbeats 4000000 in
set_option maxRecDepth 100000 in
theorem l_S_putInOrder_L17 {p : Program} {l : Launch} {e : Env} {s : State} {m : MethodId} {args : Array Value} {below : List Frame} {meth : Method} {c : Code} {D : va_G} {cA : Nat → ClassId} {sx : Nat → Nat} {A : Nat → Prop} (a_S a_C : Nat → Nat) (I_S : (Nat → Int32)) (I_C : (Nat → Int32)) (Q : Int32 → (Nat → Nat → Int32) → (Nat → Nat → Int32) → Prop) (K9 : (Nat → Nat → Int32) → (Nat → Nat → Int32) → Int32 → Int32 → Prop) (X9 : (Nat → Nat → Int32) → (Nat → Nat → Int32) → Prop) (X17 : (Nat → Nat → Int32) → (Nat → Nat → Int32) → Int32 → Int32 → Prop) (hC : CX p s m args meth c b_S_putInOrder R_S TB 5 D vwCl (tyl cA) A (SPl sx) (some .boolean)) (hK9 : ∀ (A_S : (Nat → Nat → Int32)) (A_C : (Nat → Nat → Int32)) (v2 : Int32) (v3 : Int32), K9 A_S A_C v2 v3 → VV p l e ({ frames := 1, cells := 0, slots := 0, locals := 23 } : Room) s m args below meth c 5 D vwCl A 0 0 (QI below args s D vwCl (tyl cA) A (fun (r : Int32) (u : (Nat → Nat → Int32) × (Nat → Nat → Int32)) => Q r u.1 u.2) (fun u : (Nat → Nat → Int32) × (Nat → Nat → Int32) => kc_S cA a_S I_S u.1 ++ kc_C cA a_C I_C u.2)) (kc_S cA a_S I_S A_S ++ kc_C cA a_C I_C A_C) 9 [(0, .ref (a_S 0)), (1, .ref (a_C 0)), (2, .int v2), (3, .int v3)] []) (hX9 : ∀ (A_S : (Nat → Nat → Int32)) (A_C : (Nat → Nat → Int32)), X9 A_S A_C → VV p l e ({ frames := 1, cells := 0, slots := 0, locals := 23 } : Room) s m args below meth c 5 D vwCl A 0 0 (QI below args s D vwCl (tyl cA) A (fun (r : Int32) (u : (Nat → Nat → Int32) × (Nat → Nat → Int32)) => Q r u.1 u.2) (fun u : (Nat → Nat → Int32) × (Nat → Nat → Int32) => kc_S cA a_S I_S u.1 ++ kc_C cA a_C I_C u.2)) (kc_S cA a_S I_S A_S ++ kc_C cA a_C I_C A_C) 88 [] []) (hX17 : ∀ (A_S : (Nat → Nat → Int32)) (A_C : (Nat → Nat → Int32)) (v2 : Int32) (v3 : Int32), X17 A_S A_C v2 v3 → VV p l e ({ frames := 1, cells := 0, slots := 0, locals := 23 } : Room) s m args below meth c 5 D vwCl A 0 0 (QI below args s D vwCl (tyl cA) A (fun (r : Int32) (u : (Nat → Nat → Int32) × (Nat → Nat → Int32)) => Q r u.1 u.2) (fun u : (Nat → Nat → Int32) × (Nat → Nat → Int32) => kc_S cA a_S I_S u.1 ++ kc_C cA a_C I_C u.2)) (kc_S cA a_S I_S A_S ++ kc_C cA a_C I_C A_C) 45 [(0, .ref (a_S 0)), (1, .ref (a_C 0)), (2, .int v2), (3, .int v3)] []) : ∀ (n17 : Nat) (A_S : (Nat → Nat → Int32)) (A_C : (Nat → Nat → Int32)) (v2 : Int32) (v3 : Int32), wp_S_putInOrder_L17 I_C Q K9 X9 X17 n17 A_S A_C v2 v3 → VV p l e ({ frames := 1, cells := 0, slots := 0, locals := 23 } : Room) s m args below meth c 5 D vwCl A 0 0 (QI below args s D vwCl (tyl cA) A (fun (r : Int32) (u : (Nat → Nat → Int32) × (Nat → Nat → Int32)) => Q r u.1 u.2) (fun u : (Nat → Nat → Int32) × (Nat → Nat → Int32) => kc_S cA a_S I_S u.1 ++ kc_C cA a_C I_C u.2)) (kc_S cA a_S I_S A_S ++ kc_C cA a_C I_C A_C) 17 [(0, .ref (a_S 0)), (1, .ref (a_C 0)), (2, .int v2), (3, .int v3)] [] := by
  intro n17
  induction n17 with
  | zero =>
    intro A_S A_C v2 v3 hw
    exact absurd hw (fun z => z)
  | succ n17 ih =>
    intro A_S A_C v2 v3 hw
    unfold wp_S_putInOrder_L17 at hw
    refine vv_iload_n hC d_S_putInOrder_17 2 rfl rfl ?_
    refine vv_aload_n hC d_S_putInOrder_18 1 rfl rfl ?_
    refine vv_get hC (v := .int (I_C 4)) hin_C 5 4 tb_166 d_S_putInOrder_19 rfl rfl (by decide) rfl rfl ?_
    refine vv_icmp_ge hC 45 d_S_putInOrder_22 (by decide) (fun cd => ?_) (fun cd => ?_)
    · have hw := hw.1 cd
      exact vv_sub [0, 1, 2, 3] (by rfl) (hX17 A_S A_C v2 v3 hw)
    · have hw := hw.2 cd
      refine vv_aload_n hC d_S_putInOrder_25 0 rfl rfl ?_
      refine vv_get hC (v := .ref (a_S 1)) hin_S 0 0 tb_57 d_S_putInOrder_26 rfl rfl (by decide) rfl rfl ?_
      refine vv_aload_n hC d_S_putInOrder_29 1 rfl rfl ?_
      refine vv_get hC (v := .ref (a_C 5)) hin_C 5 10 tb_187 d_S_putInOrder_30 rfl rfl (by decide) rfl rfl ?_
      refine vv_iload_n hC d_S_putInOrder_33 2 rfl rfl ?_
      obtain ⟨hin_3, hw⟩ := hw
      refine vv_iald hC 10 0 d_S_putInOrder_34 rfl rfl hin_3 ?_
      obtain ⟨hin_4, hw⟩ := hw
      refine vv_zald hC 1 1 d_S_putInOrder_35 rfl rfl hin_4 ?_
      refine vv_if_eq hC 45 d_S_putInOrder_36 (by decide) (fun cd => ?_) (fun cd => ?_)
      · have hw := hw.1 cd
        exact vv_sub [0, 1, 2, 3] (by rfl) (hX17 A_S A_C v2 v3 hw)
      · have hw := hw.2 cd
        refine vv_iinc hC d_S_putInOrder_39 2 rfl (v := (v2 + (1 : Int32))) rfl (by decide) [1, 2, 0, 3] (L2 := [(0, .ref (a_S 0)), (1, .ref (a_C 0)), (2, .int (v2 + (1 : Int32))), (3, .int v3)]) rfl ?_
        refine vv_goto hC 17 d_S_putInOrder_42 (by decide) ?_
        exact vv_sub [0, 1, 2, 3] (by rfl) (ih A_S A_C (v2 + (1 : Int32)) v3 hw)
set_option maxHeartbeats 4000000 in
set_option maxRecDepth 100000 in
theorem l_S_putInOrder_L9 {p : Program} {l : Launch} {e : Env} {s : State} {m : MethodId} {args : Array Value} {below : List Frame} {meth : Method} {c : Code} {D : va_G} {cA : Nat → ClassId} {sx : Nat → Nat} {A : Nat → Prop} (a_S a_C : Nat → Nat) (I_S : (Nat → Int32)) (I_C : (Nat → Int32)) (Q : Int32 → (Nat → Nat → Int32) → (Nat → Nat → Int32) → Prop) (X9 : (Nat → Nat → Int32) → (Nat → Nat → Int32) → Prop) (hC : CX p s m args meth c b_S_putInOrder R_S TB 5 D vwCl (tyl cA) A (SPl sx) (some .boolean)) (hX9 : ∀ (A_S : (Nat → Nat → Int32)) (A_C : (Nat → Nat → Int32)), X9 A_S A_C → VV p l e ({ frames := 1, cells := 0, slots := 0, locals := 23 } : Room) s m args below meth c 5 D vwCl A 0 0 (QI below args s D vwCl (tyl cA) A (fun (r : Int32) (u : (Nat → Nat → Int32) × (Nat → Nat → Int32)) => Q r u.1 u.2) (fun u : (Nat → Nat → Int32) × (Nat → Nat → Int32) => kc_S cA a_S I_S u.1 ++ kc_C cA a_C I_C u.2)) (kc_S cA a_S I_S A_S ++ kc_C cA a_C I_C A_C) 88 [] []) : ∀ (n9 : Nat) (A_S : (Nat → Nat → Int32)) (A_C : (Nat → Nat → Int32)) (v2 : Int32) (v3 : Int32), wp_S_putInOrder_L9 I_C Q X9 n9 A_S A_C v2 v3 → VV p l e ({ frames := 1, cells := 0, slots := 0, locals := 23 } : Room) s m args below meth c 5 D vwCl A 0 0 (QI below args s D vwCl (tyl cA) A (fun (r : Int32) (u : (Nat → Nat → Int32) × (Nat → Nat → Int32)) => Q r u.1 u.2) (fun u : (Nat → Nat → Int32) × (Nat → Nat → Int32) => kc_S cA a_S I_S u.1 ++ kc_C cA a_C I_C u.2)) (kc_S cA a_S I_S A_S ++ kc_C cA a_C I_C A_C) 9 [(0, .ref (a_S 0)), (1, .ref (a_C 0)), (2, .int v2), (3, .int v3)] [] := by
  intro n9
  induction n9 with
  | zero =>
    intro A_S A_C v2 v3 hw
    exact absurd hw (fun z => z)
  | succ n9 ih =>
    intro A_S A_C v2 v3 hw
    unfold wp_S_putInOrder_L9 at hw
    refine vv_iload_n hC d_S_putInOrder_9 3 rfl rfl ?_
    refine vv_aload_n hC d_S_putInOrder_10 1 rfl rfl ?_
    refine vv_get hC (v := .int (I_C 4)) hin_C 5 4 tb_166 d_S_putInOrder_11 rfl rfl (by decide) rfl rfl ?_
    refine vv_icmp_ge hC 88 d_S_putInOrder_14 (by decide) (fun cd => ?_) (fun cd => ?_)
    · have hw := hw.1 cd
      exact vv_sub [] (by rfl) (hX9 A_S A_C hw)
    · have hw := hw.2 cd
      obtain ⟨m17, hw⟩ := hw
      refine vv_sub [0, 1, 2, 3] (by rfl) (l_S_putInOrder_L17 a_S a_C I_S I_C Q (wp_S_putInOrder_L9 I_C Q X9 n9) X9 _ hC ih hX9 (fun A_S_5 A_C_6 v2_7 v3_8 hw => ?_) m17 A_S A_C v2 v3 hw)
      refine vv_aload_n hC d_S_putInOrder_45 0 rfl rfl ?_
      refine vv_aload_n hC d_S_putInOrder_46 1 rfl rfl ?_
      refine vv_iload_n hC d_S_putInOrder_47 2 rfl rfl ?_
      refine vv_callVI (wr := []) hC (c_S_firstReady l D cA sx a_S a_C I_S A_S_5 I_C A_C_6 v2_7 _ hw) (cw_S_41 hC) d_S_putInOrder_48 [] [0, 1, 2, 3, 4, 5, 6, 7, 8, 9, 10, 11, 12, 13, 14, 15, 16, 17] [] [0, 1, 2, 3, 4, 5, 6, 7, 8, 9, 10, 11, 12, 13, 14, 15, 16, 17] (fun u_10 : Unit => kc_S cA a_S I_S A_S_5 ++ kc_C cA a_C I_C A_C_6) ⟨Nat.zero_le _, Nat.zero_le _⟩ rfl rfl (fun _ => rfl) rfl rfl rfl rfl rfl rfl rfl rfl (Nat.le_of_ble_eq_true rfl) (fun r_9 u_10 hw => ?_)
      refine vv_istore hC d_S_putInOrder_51 (by decide) [1, 2, 3, 4, 0] (L2 := [(0, .ref (a_S 0)), (1, .ref (a_C 0)), (2, .int v2_7), (3, .int v3_8), (4, .int r_9)]) rfl ?_
      refine vv_iload hC d_S_putInOrder_53 4 rfl ?_
      refine vv_iconst hC d_S_putInOrder_55 (v := (-1 : Int32)) (by decide) ?_
      refine vv_icmp_ne hC 61 d_S_putInOrder_56 (by decide) (fun cd => ?_) (fun cd => ?_)
      · have hw := hw.2 cd
        refine vv_aload_n hC d_S_putInOrder_61 1 rfl rfl ?_
        refine vv_get hC (v := .ref (a_C 8)) hin_C 5 13 tb_199 d_S_putInOrder_62 rfl rfl (by decide) rfl rfl ?_
        refine vv_iload_n hC d_S_putInOrder_65 3 rfl rfl ?_
        refine vv_iload hC d_S_putInOrder_66 4 rfl ?_
        obtain ⟨hin_11, hw⟩ := hw
        refine vv_iast hC 13 0 d_S_putInOrder_68 rfl rfl hin_11 (ws2 := kc_S cA a_S I_S A_S_5 ++ kc_C cA a_C I_C (va_up A_C_6 7 (upd (A_C_6 7) (v3_8).toNatClampNeg r_9))) (st_SC_CA7 ..) ?_
        refine vv_aload_n hC d_S_putInOrder_69 0 rfl rfl ?_
        refine vv_get hC (v := .ref (a_S 1)) hin_S 0 0 tb_57 d_S_putInOrder_70 rfl rfl (by decide) rfl rfl ?_
        refine vv_aload_n hC d_S_putInOrder_73 1 rfl rfl ?_
        refine vv_get hC (v := .ref (a_C 5)) hin_C 5 10 tb_187 d_S_putInOrder_74 rfl rfl (by decide) rfl rfl ?_
        refine vv_iload hC d_S_putInOrder_77 4 rfl ?_
        obtain ⟨hin_12, hw⟩ := hw
        refine vv_iald hC 10 0 d_S_putInOrder_79 rfl rfl hin_12 ?_
        refine vv_iconst hC d_S_putInOrder_80 (v := (1 : Int32)) (by decide) ?_
        obtain ⟨hin_13, hw⟩ := hw
        refine vv_zast hC 1 1 d_S_putInOrder_81 rfl rfl hin_13 (ws2 := kc_S cA a_S I_S (va_up A_S_5 0 (upd (A_S_5 0) (((A_C_6 4) (r_9).toNatClampNeg)).toNatClampNeg (1 : Int32))) ++ kc_C cA a_C I_C (va_up A_C_6 7 (upd (A_C_6 7) (v3_8).toNatClampNeg r_9))) (st_SC_SA0 ..) ?_
        refine vv_iinc hC d_S_putInOrder_82 3 rfl (v := (v3_8 + (1 : Int32))) rfl (by decide) [1, 2, 3, 0, 4] (L2 := [(0, .ref (a_S 0)), (1, .ref (a_C 0)), (2, .int v2_7), (3, .int (v3_8 + (1 : Int32))), (4, .int r_9)]) rfl ?_
        refine vv_goto hC 9 d_S_putInOrder_85 (by decide) ?_
        exact vv_sub [0, 1, 2, 3] (by rfl) (ih (va_up A_S_5 0 (upd (A_S_5 0) (((A_C_6 4) (r_9).toNatClampNeg)).toNatClampNeg (1 : Int32))) (va_up A_C_6 7 (upd (A_C_6 7) (v3_8).toNatClampNeg r_9)) v2_7 (v3_8 + (1 : Int32)) hw)
      · have hw := hw.1 cd
        refine vv_iconst hC d_S_putInOrder_59 (v := (0 : Int32)) (by decide) ?_
        exact vv_zret hC d_S_putInOrder_60 rfl (A_S_5, A_C_6) hw rfl
set_option maxHeartbeats 4000000 in
set_option maxRecDepth 100000 in
theorem c_S_putInOrder (l : Launch) (D : va_G) (cA : Nat → ClassId) (sx : Nat → Nat) (a_S a_C : Nat → Nat) (I_S : (Nat → Int32)) (A_S : (Nat → Nat → Int32)) (I_C : (Nat → Int32)) (A_C : (Nat → Nat → Int32)) (Q : Int32 → (Nat → Nat → Int32) → (Nat → Nat → Int32) → Prop) (hw : wp_S_putInOrder A_S I_C A_C Q) : MetI l y_S_putInOrder (Cond.code y_S_putInOrder b_S_putInOrder 5 (some .boolean) :: TB) ({ frames := 1, cells := 0, slots := 0, locals := 23 } : Room) D vwCl (tyl cA) (SPl sx) [.ref (a_S 0), .ref (a_C 0)] (kc_S cA a_S I_S A_S ++ kc_C cA a_C I_C A_C) (fun (r : Int32) (u : (Nat → Nat → Int32) × (Nat → Nat → Int32)) => Q r u.1 u.2) (fun u : (Nat → Nat → Int32) × (Nat → Nat → Int32) => kc_S cA a_S I_S u.1 ++ kc_C cA a_C I_C u.2) := by
  refine vv_entryI (cc := b_S_putInOrder) (own := R_S) (L := [(0, .ref (a_S 0)), (1, .ref (a_C 0))]) (by decide) rfl rfl (Nat.le_of_ble_eq_true rfl) rfl (fun p e s m args below meth c A hC => ?_)
  unfold wp_S_putInOrder at hw
  refine vv_aload_n hC d_S_putInOrder_0 0 rfl rfl ?_
  refine vv_aload_n hC d_S_putInOrder_1 1 rfl rfl ?_
  refine vv_callVV (wr := []) hC (c_S_awaitAnds l D cA sx a_S a_C I_S A_S I_C A_C _ hw) (cw_S_29 hC) d_S_putInOrder_2 [] [0, 1, 2, 3, 4, 5, 6, 7, 8, 9, 10, 11, 12, 13, 14, 15, 16, 17] [] [0, 1, 2, 3, 4, 5, 6, 7, 8, 9, 10, 11, 12, 13, 14, 15, 16, 17] (fun u_1 : (Nat → Nat → Int32) => kc_S cA a_S I_S u_1 ++ kc_C cA a_C I_C A_C) ⟨Nat.zero_le _, Nat.zero_le _⟩ rfl rfl (fun _ => rfl) rfl rfl rfl rfl rfl rfl rfl rfl (Nat.le_of_ble_eq_true rfl) (fun u_1 hw => ?_)
  refine vv_iconst hC d_S_putInOrder_5 (v := (0 : Int32)) (by decide) ?_
  refine vv_istore_n hC d_S_putInOrder_6 rfl (by decide) [1, 2, 0] (L2 := [(0, .ref (a_S 0)), (1, .ref (a_C 0)), (2, .int (0 : Int32))]) rfl ?_
  refine vv_iconst hC d_S_putInOrder_7 (v := (0 : Int32)) (by decide) ?_
  refine vv_istore_n hC d_S_putInOrder_8 rfl (by decide) [1, 2, 3, 0] (L2 := [(0, .ref (a_S 0)), (1, .ref (a_C 0)), (2, .int (0 : Int32)), (3, .int (0 : Int32))]) rfl ?_
  obtain ⟨m9, hw⟩ := hw
  refine vv_sub [0, 1, 2, 3] (by rfl) (l_S_putInOrder_L9 a_S a_C I_S I_C Q _ hC (fun A_S_14 A_C_15 hw => ?_) m9 u_1 A_C (0 : Int32) (0 : Int32) hw)
  refine vv_iconst hC d_S_putInOrder_88 (v := (1 : Int32)) (by decide) ?_
  exact vv_zret hC d_S_putInOrder_89 rfl (A_S_14, A_C_15) hw rfl
set_option maxHeartbeats 4000000 in
set_option maxRecDepth 100000 in
theorem c_S_reach (l : Launch) (D : va_G) (cA : Nat → ClassId) (sx : Nat → Nat) (a_S : Nat → Nat) (I_S : (Nat → Int32)) (A_S : (Nat → Nat → Int32)) (x1 : Int32) (Q : (Nat → Int32) → (Nat → Nat → Int32) → Prop) (hw : wp_S_reach I_S A_S x1 Q) : MetV l y_S_reach (Cond.code y_S_reach b_S_reach 2 none :: TB) ({ frames := 0, cells := 0, slots := 0, locals := 0 } : Room) D vwCl (tyl cA) (SPl sx) [.ref (a_S 0), .int x1] (kc_S cA a_S I_S A_S) (fun (u : (Nat → Int32) × (Nat → Nat → Int32)) => Q u.1 u.2) (fun u : (Nat → Int32) × (Nat → Nat → Int32) => kc_S cA a_S u.1 u.2) := by
  refine vv_entryV (cc := b_S_reach) (own := R_S) (L := [(0, .ref (a_S 0)), (1, .int x1)]) (by decide) rfl rfl (Nat.le_of_ble_eq_true rfl) rfl (fun p e s m args below meth c A hC => ?_)
  unfold wp_S_reach at hw
  refine vv_aload_n hC d_S_reach_0 0 rfl rfl ?_
  refine vv_get hC (v := .ref (a_S 1)) hin_S 0 0 tb_57 d_S_reach_1 rfl rfl (by decide) rfl rfl ?_
  refine vv_iload_n hC d_S_reach_4 1 rfl rfl ?_
  obtain ⟨hin_1, hw⟩ := hw
  refine vv_zald hC 1 1 d_S_reach_5 rfl rfl hin_1 ?_
  refine vv_if_ne hC 57 d_S_reach_6 (by decide) (fun cd => ?_) (fun cd => ?_)
  · have hw := hw.2 cd
    exact vv_vret hC d_S_reach_57 (I_S, A_S) hw rfl
  · have hw := hw.1 cd
    refine vv_aload_n hC d_S_reach_9 0 rfl rfl ?_
    refine vv_get hC (v := .ref (a_S 2)) hin_S 0 1 tb_58 d_S_reach_10 rfl rfl (by decide) rfl rfl ?_
    refine vv_iload_n hC d_S_reach_13 1 rfl rfl ?_
    refine vv_zald hC 2 1 d_S_reach_14 rfl rfl hin_1 ?_
    refine vv_if_ne hC 57 d_S_reach_15 (by decide) (fun cd => ?_) (fun cd => ?_)
    · have hw := hw.2 cd
      exact vv_vret hC d_S_reach_57 (I_S, A_S) hw rfl
    · have hw := hw.1 cd
      refine vv_aload_n hC d_S_reach_18 0 rfl rfl ?_
      refine vv_get hC (v := .int (I_S 0)) hin_S 0 4 tb_61 d_S_reach_19 rfl rfl (by decide) rfl rfl ?_
      refine vv_aload_n hC d_S_reach_22 0 rfl rfl ?_
      refine vv_get hC (v := .ref (a_S 4)) hin_S 0 3 tb_60 d_S_reach_23 rfl rfl (by decide) rfl rfl ?_
      refine vv_alen hC 4 0 d_S_reach_26 rfl rfl (v := (301 : Int32)) (show Int32.ofNat 301 = (301 : Int32) by decide) ?_
      refine vv_icmp_ge hC 57 d_S_reach_27 (by decide) (fun cd => ?_) (fun cd => ?_)
      · have hw := hw.1 cd
        exact vv_vret hC d_S_reach_57 (I_S, A_S) hw rfl
      · have hw := hw.2 cd
        refine vv_aload_n hC d_S_reach_30 0 rfl rfl ?_
        refine vv_get hC (v := .ref (a_S 2)) hin_S 0 1 tb_58 d_S_reach_31 rfl rfl (by decide) rfl rfl ?_
        refine vv_iload_n hC d_S_reach_34 1 rfl rfl ?_
        refine vv_iconst hC d_S_reach_35 (v := (1 : Int32)) (by decide) ?_
        refine vv_zast hC 2 1 d_S_reach_36 rfl rfl hin_1 (ws2 := kc_S cA a_S I_S (va_up A_S 1 (upd (A_S 1) (x1).toNatClampNeg (1 : Int32)))) (st_S_SA1 ..) ?_
        refine vv_aload_n hC d_S_reach_37 0 rfl rfl ?_
        refine vv_get hC (v := .ref (a_S 4)) hin_S 0 3 tb_60 d_S_reach_38 rfl rfl (by decide) rfl rfl ?_
        refine vv_aload_n hC d_S_reach_41 0 rfl rfl ?_
        refine vv_get hC (v := .int (I_S 0)) hin_S 0 4 tb_61 d_S_reach_42 rfl rfl (by decide) rfl rfl ?_
        refine vv_iload_n hC d_S_reach_45 1 rfl rfl ?_
        obtain ⟨hin_2, hw⟩ := hw
        refine vv_iast hC 4 0 d_S_reach_46 rfl rfl hin_2 (ws2 := kc_S cA a_S I_S (va_up (va_up A_S 1 (upd (A_S 1) (x1).toNatClampNeg (1 : Int32))) 3 (upd (A_S 3) ((I_S 0)).toNatClampNeg x1))) (st_S_SA3 ..) ?_
        refine vv_aload_n hC d_S_reach_47 0 rfl rfl ?_
        refine vv_dup hC d_S_reach_48 rfl ?_
        refine vv_get hC (v := .int (I_S 0)) hin_S 0 4 tb_61 d_S_reach_49 rfl rfl (by decide) rfl rfl ?_
        refine vv_iconst hC d_S_reach_52 (v := (1 : Int32)) (by decide) ?_
        refine vv_iadd hC d_S_reach_53 ?_
        refine vv_put hC hin_S ty_S tyok_S nmok_S 0 4 tb_61 d_S_reach_54 rfl rfl (by decide) rfl rfl rfl rfl rfl (Nat.le_of_ble_eq_true rfl) (ws2 := kc_S cA a_S (va_up I_S 0 ((I_S 0) + (1 : Int32))) (va_up (va_up A_S 1 (upd (A_S 1) (x1).toNatClampNeg (1 : Int32))) 3 (upd (A_S 3) ((I_S 0)).toNatClampNeg x1))) (st_S_SI0 ..) ?_
        exact vv_vret hC d_S_reach_57 ((va_up I_S 0 ((I_S 0) + (1 : Int32))), (va_up (va_up A_S 1 (upd (A_S 1) (x1).toNatClampNeg (1 : Int32))) 3 (upd (A_S 3) ((I_S 0)).toNatClampNeg x1))) hw rfl
set_option maxHeartbeats 4000000 in
set_option maxRecDepth 100000 in
theorem l_S_reachesItself_L2 {p : Program} {l : Launch} {e : Env} {s : State} {m : MethodId} {args : Array Value} {below : List Frame} {meth : Method} {c : Code} {D : va_G} {cA : Nat → ClassId} {sx : Nat → Nat} {A : Nat → Prop} (a_S a_C : Nat → Nat) (I_C : (Nat → Int32)) (A_C : (Nat → Nat → Int32)) (Q : Int32 → (Nat → Int32) → (Nat → Nat → Int32) → Prop) (X2 : (Nat → Int32) → (Nat → Nat → Int32) → Int32 → Prop) (hC : CX p s m args meth c b_S_reachesItself R_S TB 5 D vwCl (tyl cA) A (SPl sx) (some .boolean)) (hX2 : ∀ (I_S : (Nat → Int32)) (A_S : (Nat → Nat → Int32)) (v2 : Int32), X2 I_S A_S v2 → VV p l e ({ frames := 1, cells := 0, slots := 0, locals := 21 } : Room) s m args below meth c 5 D vwCl A 0 0 (QI below args s D vwCl (tyl cA) A (fun (r : Int32) (u : (Nat → Int32) × (Nat → Nat → Int32)) => Q r u.1 u.2) (fun u : (Nat → Int32) × (Nat → Nat → Int32) => kc_S cA a_S u.1 u.2 ++ kc_C cA a_C I_C A_C)) (kc_S cA a_S I_S A_S ++ kc_C cA a_C I_C A_C) 22 [(0, .ref (a_S 0)), (1, .ref (a_C 0)), (2, .int v2)] []) : ∀ (n2 : Nat) (I_S : (Nat → Int32)) (A_S : (Nat → Nat → Int32)) (v2 : Int32) (v3 : Int32), wp_S_reachesItself_L2 A_C Q X2 n2 I_S A_S v2 v3 → VV p l e ({ frames := 1, cells := 0, slots := 0, locals := 21 } : Room) s m args below meth c 5 D vwCl A 0 0 (QI below args s D vwCl (tyl cA) A (fun (r : Int32) (u : (Nat → Int32) × (Nat → Nat → Int32)) => Q r u.1 u.2) (fun u : (Nat → Int32) × (Nat → Nat → Int32) => kc_S cA a_S u.1 u.2 ++ kc_C cA a_C I_C A_C)) (kc_S cA a_S I_S A_S ++ kc_C cA a_C I_C A_C) 2 [(0, .ref (a_S 0)), (1, .ref (a_C 0)), (2, .int v2), (3, .int v3)] [] := by
  intro n2
  induction n2 with
  | zero =>
    intro I_S A_S v2 v3 hw
    exact absurd hw (fun z => z)
  | succ n2 ih =>
    intro I_S A_S v2 v3 hw
    unfold wp_S_reachesItself_L2 at hw
    refine vv_iload_n hC d_S_reachesItself_2 3 rfl rfl ?_
    refine vv_sipush hC d_S_reachesItself_3 (v := (400 : Int32)) (by decide) ?_
    refine vv_icmp_gt hC 22 d_S_reachesItself_6 (by decide) (fun cd => ?_) (fun cd => ?_)
    · have hw := hw.1 cd
      exact vv_sub [0, 1, 2] (by rfl) (hX2 I_S A_S v2 hw)
    · have hw := hw.2 cd
      refine vv_aload_n hC d_S_reachesItself_9 0 rfl rfl ?_
      refine vv_get hC (v := .ref (a_S 2)) hin_S 0 1 tb_58 d_S_reachesItself_10 rfl rfl (by decide) rfl rfl ?_
      refine vv_iload_n hC d_S_reachesItself_13 3 rfl rfl ?_
      refine vv_iconst hC d_S_reachesItself_14 (v := (0 : Int32)) (by decide) ?_
      obtain ⟨hin_1, hw⟩ := hw
      refine vv_zast hC 2 1 d_S_reachesItself_15 rfl rfl hin_1 (ws2 := kc_S cA a_S I_S (va_up A_S 1 (upd (A_S 1) (v3).toNatClampNeg (0 : Int32))) ++ kc_C cA a_C I_C A_C) (st_SC_SA1 ..) ?_
      refine vv_iinc hC d_S_reachesItself_16 3 rfl (v := (v3 + (1 : Int32))) rfl (by decide) [1, 2, 3, 0] (L2 := [(0, .ref (a_S 0)), (1, .ref (a_C 0)), (2, .int v2), (3, .int (v3 + (1 : Int32)))]) rfl ?_
      refine vv_goto hC 2 d_S_reachesItself_19 (by decide) ?_
      exact vv_sub [0, 1, 2, 3] (by rfl) (ih I_S (va_up A_S 1 (upd (A_S 1) (v3).toNatClampNeg (0 : Int32))) v2 (v3 + (1 : Int32)) hw)
set_option maxHeartbeats 4000000 in
set_option maxRecDepth 100000 in
theorem l_S_reachesItself_L36 {p : Program} {l : Launch} {e : Env} {s : State} {m : MethodId} {args : Array Value} {below : List Frame} {meth : Method} {c : Code} {D : va_G} {cA : Nat → ClassId} {sx : Nat → Nat} {A : Nat → Prop} (a_S a_C : Nat → Nat) (I_C : (Nat → Int32)) (A_C : (Nat → Nat → Int32)) (Q : Int32 → (Nat → Int32) → (Nat → Nat → Int32) → Prop) (X36 : (Nat → Int32) → (Nat → Nat → Int32) → Int32 → Prop) (hC : CX p s m args meth c b_S_reachesItself R_S TB 5 D vwCl (tyl cA) A (SPl sx) (some .boolean)) (hX36 : ∀ (I_S : (Nat → Int32)) (A_S : (Nat → Nat → Int32)) (v2 : Int32), X36 I_S A_S v2 → VV p l e ({ frames := 1, cells := 0, slots := 0, locals := 21 } : Room) s m args below meth c 5 D vwCl A 0 0 (QI below args s D vwCl (tyl cA) A (fun (r : Int32) (u : (Nat → Int32) × (Nat → Nat → Int32)) => Q r u.1 u.2) (fun u : (Nat → Int32) × (Nat → Nat → Int32) => kc_S cA a_S u.1 u.2 ++ kc_C cA a_C I_C A_C)) (kc_S cA a_S I_S A_S ++ kc_C cA a_C I_C A_C) 108 [(0, .ref (a_S 0)), (2, .int v2)] []) : ∀ (n36 : Nat) (I_S : (Nat → Int32)) (A_S : (Nat → Nat → Int32)) (v2 : Int32) (v3 : Int32), wp_S_reachesItself_L36 A_C Q X36 n36 I_S A_S v2 v3 → VV p l e ({ frames := 1, cells := 0, slots := 0, locals := 21 } : Room) s m args below meth c 5 D vwCl A 0 0 (QI below args s D vwCl (tyl cA) A (fun (r : Int32) (u : (Nat → Int32) × (Nat → Nat → Int32)) => Q r u.1 u.2) (fun u : (Nat → Int32) × (Nat → Nat → Int32) => kc_S cA a_S u.1 u.2 ++ kc_C cA a_C I_C A_C)) (kc_S cA a_S I_S A_S ++ kc_C cA a_C I_C A_C) 36 [(0, .ref (a_S 0)), (1, .ref (a_C 0)), (2, .int v2), (3, .int v3)] [] := by
  intro n36
  induction n36 with
  | zero =>
    intro I_S A_S v2 v3 hw
    exact absurd hw (fun z => z)
  | succ n36 ih =>
    intro I_S A_S v2 v3 hw
    unfold wp_S_reachesItself_L36 at hw
    refine vv_aload_n hC d_S_reachesItself_36 0 rfl rfl ?_
    refine vv_get hC (v := .int (I_S 0)) hin_S 0 4 tb_61 d_S_reachesItself_37 rfl rfl (by decide) rfl rfl ?_
    refine vv_if_le hC 108 d_S_reachesItself_40 (by decide) (fun cd => ?_) (fun cd => ?_)
    · have hw := hw.1 cd
      exact vv_sub [0, 2] (by rfl) (hX36 I_S A_S v2 hw)
    · have hw := hw.2 cd
      refine vv_iload_n hC d_S_reachesItself_43 3 rfl rfl ?_
      refine vv_sipush hC d_S_reachesItself_44 (v := (300 : Int32)) (by decide) ?_
      refine vv_icmp_gt hC 108 d_S_reachesItself_47 (by decide) (fun cd => ?_) (fun cd => ?_)
      · have hw := hw.1 cd
        exact vv_sub [0, 2] (by rfl) (hX36 I_S A_S v2 hw)
      · have hw := hw.2 cd
        refine vv_aload_n hC d_S_reachesItself_50 0 rfl rfl ?_
        refine vv_dup hC d_S_reachesItself_51 rfl ?_
        refine vv_get hC (v := .int (I_S 0)) hin_S 0 4 tb_61 d_S_reachesItself_52 rfl rfl (by decide) rfl rfl ?_
        refine vv_iconst hC d_S_reachesItself_55 (v := (1 : Int32)) (by decide) ?_
        refine vv_isub hC d_S_reachesItself_56 ?_
        refine vv_put hC hin_S ty_S tyok_S nmok_S 0 4 tb_61 d_S_reachesItself_57 rfl rfl (by decide) rfl rfl rfl rfl rfl (Nat.le_of_ble_eq_true rfl) (ws2 := kc_S cA a_S (va_up I_S 0 ((I_S 0) - (1 : Int32))) A_S ++ kc_C cA a_C I_C A_C) (st_SC_SI0 ..) ?_
        refine vv_aload_n hC d_S_reachesItself_60 0 rfl rfl ?_
        refine vv_get hC (v := .ref (a_S 3)) hin_S 0 2 tb_59 d_S_reachesItself_61 rfl rfl (by decide) rfl rfl ?_
        refine vv_aload_n hC d_S_reachesItself_64 0 rfl rfl ?_
        refine vv_get hC (v := .ref (a_S 4)) hin_S 0 3 tb_60 d_S_reachesItself_65 rfl rfl (by decide) rfl rfl ?_
        refine vv_aload_n hC d_S_reachesItself_68 0 rfl rfl ?_
        refine vv_get hC (v := .int ((I_S 0) - (1 : Int32))) hin_S 0 4 tb_61 d_S_reachesItself_69 rfl rfl (by decide) rfl rfl ?_
        obtain ⟨hin_5, hw⟩ := hw
        refine vv_iald hC 4 0 d_S_reachesItself_72 rfl rfl hin_5 ?_
        obtain ⟨hin_6, hw⟩ := hw
        refine vv_iald hC 3 0 d_S_reachesItself_73 rfl rfl hin_6 ?_
        refine vv_istore hC d_S_reachesItself_74 (by decide) [1, 2, 3, 4, 0] (L2 := [(0, .ref (a_S 0)), (1, .ref (a_C 0)), (2, .int v2), (3, .int v3), (4, .int ((A_S 2) (((A_S 3) (((I_S 0) - (1 : Int32))).toNatClampNeg)).toNatClampNeg))]) rfl ?_
        refine vv_aload_n hC d_S_reachesItself_76 0 rfl rfl ?_
        refine vv_aload_n hC d_S_reachesItself_77 1 rfl rfl ?_
        refine vv_get hC (v := .ref (a_C 6)) hin_C 5 11 tb_191 d_S_reachesItself_78 rfl rfl (by decide) rfl rfl ?_
        refine vv_iload hC d_S_reachesItself_81 4 rfl ?_
        obtain ⟨hin_7, hw⟩ := hw
        refine vv_iald hC 11 0 d_S_reachesItself_83 rfl rfl hin_7 ?_
        refine vv_iconst hC d_S_reachesItself_84 (v := (1 : Int32)) (by decide) ?_
        refine vv_ishr hC d_S_reachesItself_85 ?_
        refine vv_callVV (wr := kc_C cA a_C I_C A_C) hC (c_S_reach l D cA sx a_S (va_up I_S 0 ((I_S 0) - (1 : Int32))) A_S (((A_C 5) (((A_S 2) (((A_S 3) (((I_S 0) - (1 : Int32))).toNatClampNeg)).toNatClampNeg)).toNatClampNeg) >>> ((1 : Int32) &&& 31)) _ hw) (cw_S_61 hC) d_S_reachesItself_86 [] [0, 1, 2, 3, 4] [5, 6, 7, 8, 9, 10, 11, 12, 13, 14, 15, 16, 17] [13, 14, 15, 16, 17, 0, 1, 2, 3, 4, 5, 6, 7, 8, 9, 10, 11, 12] (fun u_8 : (Nat → Int32) × (Nat → Nat → Int32) => kc_S cA a_S u_8.1 u_8.2 ++ kc_C cA a_C I_C A_C) ⟨Nat.zero_le _, Nat.zero_le _⟩ rfl rfl (fun _ => rfl) rfl rfl rfl rfl rfl rfl rfl rfl (Nat.le_of_ble_eq_true rfl) (fun u_8 hw => ?_)
        refine vv_aload_n hC d_S_reachesItself_89 0 rfl rfl ?_
        refine vv_aload_n hC d_S_reachesItself_90 1 rfl rfl ?_
        refine vv_get hC (v := .ref (a_C 7)) hin_C 5 12 tb_195 d_S_reachesItself_91 rfl rfl (by decide) rfl rfl ?_
        refine vv_iload hC d_S_reachesItself_94 4 rfl ?_
        refine vv_iald hC 12 0 d_S_reachesItself_96 rfl rfl hin_7 ?_
        refine vv_iconst hC d_S_reachesItself_97 (v := (1 : Int32)) (by decide) ?_
        refine vv_ishr hC d_S_reachesItself_98 ?_
        refine vv_callVV (wr := kc_C cA a_C I_C A_C) hC (c_S_reach l D cA sx a_S u_8.1 u_8.2 (((A_C 6) (((A_S 2) (((A_S 3) (((I_S 0) - (1 : Int32))).toNatClampNeg)).toNatClampNeg)).toNatClampNeg) >>> ((1 : Int32) &&& 31)) _ hw) (cw_S_61 hC) d_S_reachesItself_99 [] [0, 1, 2, 3, 4] [5, 6, 7, 8, 9, 10, 11, 12, 13, 14, 15, 16, 17] [13, 14, 15, 16, 17, 0, 1, 2, 3, 4, 5, 6, 7, 8, 9, 10, 11, 12] (fun u_11 : (Nat → Int32) × (Nat → Nat → Int32) => kc_S cA a_S u_11.1 u_11.2 ++ kc_C cA a_C I_C A_C) ⟨Nat.zero_le _, Nat.zero_le _⟩ rfl rfl (fun _ => rfl) rfl rfl rfl rfl rfl rfl rfl rfl (Nat.le_of_ble_eq_true rfl) (fun u_11 hw => ?_)
        refine vv_iinc hC d_S_reachesItself_102 3 rfl (v := (v3 + (1 : Int32))) rfl (by decide) [1, 2, 3, 0, 4] (L2 := [(0, .ref (a_S 0)), (1, .ref (a_C 0)), (2, .int v2), (3, .int (v3 + (1 : Int32))), (4, .int ((A_S 2) (((A_S 3) (((I_S 0) - (1 : Int32))).toNatClampNeg)).toNatClampNeg))]) rfl ?_
        refine vv_goto hC 36 d_S_reachesItself_105 (by decide) ?_
        exact vv_sub [0, 1, 2, 3] (by rfl) (ih u_11.1 u_11.2 v2 (v3 + (1 : Int32)) hw)
set_option maxHeartbeats 4000000 in
set_option maxRecDepth 100000 in
theorem c_S_reachesItself (l : Launch) (D : va_G) (cA : Nat → ClassId) (sx : Nat → Nat) (a_S a_C : Nat → Nat) (I_S : (Nat → Int32)) (A_S : (Nat → Nat → Int32)) (I_C : (Nat → Int32)) (A_C : (Nat → Nat → Int32)) (x2 : Int32) (Q : Int32 → (Nat → Int32) → (Nat → Nat → Int32) → Prop) (hw : wp_S_reachesItself I_S A_S A_C x2 Q) : MetI l y_S_reachesItself (Cond.code y_S_reachesItself b_S_reachesItself 5 (some .boolean) :: TB) ({ frames := 1, cells := 0, slots := 0, locals := 21 } : Room) D vwCl (tyl cA) (SPl sx) [.ref (a_S 0), .ref (a_C 0), .int x2] (kc_S cA a_S I_S A_S ++ kc_C cA a_C I_C A_C) (fun (r : Int32) (u : (Nat → Int32) × (Nat → Nat → Int32)) => Q r u.1 u.2) (fun u : (Nat → Int32) × (Nat → Nat → Int32) => kc_S cA a_S u.1 u.2 ++ kc_C cA a_C I_C A_C) := by
  refine vv_entryI (cc := b_S_reachesItself) (own := R_S) (L := [(0, .ref (a_S 0)), (1, .ref (a_C 0)), (2, .int x2)]) (by decide) rfl rfl (Nat.le_of_ble_eq_true rfl) rfl (fun p e s m args below meth c A hC => ?_)
  unfold wp_S_reachesItself at hw
  refine vv_iconst hC d_S_reachesItself_0 (v := (0 : Int32)) (by decide) ?_
  refine vv_istore_n hC d_S_reachesItself_1 rfl (by decide) [1, 2, 3, 0] (L2 := [(0, .ref (a_S 0)), (1, .ref (a_C 0)), (2, .int x2), (3, .int (0 : Int32))]) rfl ?_
  obtain ⟨m2, hw⟩ := hw
  refine vv_sub [0, 1, 2, 3] (by rfl) (l_S_reachesItself_L2 a_S a_C I_C A_C Q _ hC (fun I_S_2 A_S_3 v2_4 hw => ?_) m2 I_S A_S x2 (0 : Int32) hw)
  refine vv_aload_n hC d_S_reachesItself_22 0 rfl rfl ?_
  refine vv_get hC (v := .ref (a_S 4)) hin_S 0 3 tb_60 d_S_reachesItself_23 rfl rfl (by decide) rfl rfl ?_
  refine vv_iconst hC d_S_reachesItself_26 (v := (0 : Int32)) (by decide) ?_
  refine vv_iload_n hC d_S_reachesItself_27 2 rfl rfl ?_
  refine vv_iast hC 4 0 d_S_reachesItself_28 rfl rfl (vin_c (by decide)) (ws2 := kc_S cA a_S I_S_2 (va_up A_S_3 3 (upd (A_S_3 3) ((0 : Int32)).toNatClampNeg v2_4)) ++ kc_C cA a_C I_C A_C) (st_SC_SA3 ..) ?_
  refine vv_aload_n hC d_S_reachesItself_29 0 rfl rfl ?_
  refine vv_iconst hC d_S_reachesItself_30 (v := (1 : Int32)) (by decide) ?_
  refine vv_put hC hin_S ty_S tyok_S nmok_S 0 4 tb_61 d_S_reachesItself_31 rfl rfl (by decide) rfl rfl rfl rfl rfl (Nat.le_of_ble_eq_true rfl) (ws2 := kc_S cA a_S (va_up I_S_2 0 (1 : Int32)) (va_up A_S_3 3 (upd (A_S_3 3) ((0 : Int32)).toNatClampNeg v2_4)) ++ kc_C cA a_C I_C A_C) (st_SC_SI0 ..) ?_
  refine vv_iconst hC d_S_reachesItself_34 (v := (0 : Int32)) (by decide) ?_
  refine vv_istore_n hC d_S_reachesItself_35 rfl (by decide) [1, 2, 3, 0] (L2 := [(0, .ref (a_S 0)), (1, .ref (a_C 0)), (2, .int v2_4), (3, .int (0 : Int32))]) rfl ?_
  obtain ⟨m36, hw⟩ := hw
  refine vv_sub [0, 1, 2, 3] (by rfl) (l_S_reachesItself_L36 a_S a_C I_C A_C Q _ hC (fun I_S_14 A_S_15 v2_16 hw => ?_) m36 (va_up I_S_2 0 (1 : Int32)) (va_up A_S_3 3 (upd (A_S_3 3) ((0 : Int32)).toNatClampNeg v2_4)) v2_4 (0 : Int32) hw)
  refine vv_aload_n hC d_S_reachesItself_108 0 rfl rfl ?_
  refine vv_get hC (v := .ref (a_S 2)) hin_S 0 1 tb_58 d_S_reachesItself_109 rfl rfl (by decide) rfl rfl ?_
  refine vv_iload_n hC d_S_reachesItself_112 1 rfl rfl ?_
  obtain ⟨hin_17, hw⟩ := hw
  refine vv_zald hC 2 1 d_S_reachesItself_113 rfl rfl hin_17 ?_
  obtain ⟨hnr_18, hw⟩ := hw
  exact vv_zret hC d_S_reachesItself_114 hnr_18 (I_S_14, A_S_15) hw rfl
set_option maxHeartbeats 4000000 in
set_option maxRecDepth 100000 in
theorem l_S_lowestOnLoop_L2 {p : Program} {l : Launch} {e : Env} {s : State} {m : MethodId} {args : Array Value} {below : List Frame} {meth : Method} {c : Code} {D : va_G} {cA : Nat → ClassId} {sx : Nat → Nat} {A : Nat → Prop} (a_S a_C : Nat → Nat) (I_C : (Nat → Int32)) (A_C : (Nat → Nat → Int32)) (Q : Int32 → (Nat → Int32) → (Nat → Nat → Int32) → Prop) (X2 : (Nat → Int32) → (Nat → Nat → Int32) → Prop) (hC : CX p s m args meth c b_S_lowestOnLoop R_S TB 3 D vwCl (tyl cA) A (SPl sx) (some .int)) (hX2 : ∀ (I_S : (Nat → Int32)) (A_S : (Nat → Nat → Int32)), X2 I_S A_S → VV p l e ({ frames := 2, cells := 0, slots := 0, locals := 45 } : Room) s m args below meth c 3 D vwCl A 0 0 (QI below args s D vwCl (tyl cA) A (fun (r : Int32) (u : (Nat → Int32) × (Nat → Nat → Int32)) => Q r u.1 u.2) (fun u : (Nat → Int32) × (Nat → Nat → Int32) => kc_S cA a_S u.1 u.2 ++ kc_C cA a_C I_C A_C)) (kc_S cA a_S I_S A_S ++ kc_C cA a_C I_C A_C) 36 [] []) : ∀ (n2 : Nat) (I_S : (Nat → Int32)) (A_S : (Nat → Nat → Int32)) (v2 : Int32), wp_S_lowestOnLoop_L2 I_C A_C Q X2 n2 I_S A_S v2 → VV p l e ({ frames := 2, cells := 0, slots := 0, locals := 45 } : Room) s m args below meth c 3 D vwCl A 0 0 (QI below args s D vwCl (tyl cA) A (fun (r : Int32) (u : (Nat → Int32) × (Nat → Nat → Int32)) => Q r u.1 u.2) (fun u : (Nat → Int32) × (Nat → Nat → Int32) => kc_S cA a_S u.1 u.2 ++ kc_C cA a_C I_C A_C)) (kc_S cA a_S I_S A_S ++ kc_C cA a_C I_C A_C) 2 [(0, .ref (a_S 0)), (1, .ref (a_C 0)), (2, .int v2)] [] := by
  intro n2
  induction n2 with
  | zero =>
    intro I_S A_S v2 hw
    exact absurd hw (fun z => z)
  | succ n2 ih =>
    intro I_S A_S v2 hw
    unfold wp_S_lowestOnLoop_L2 at hw
    refine vv_iload_n hC d_S_lowestOnLoop_2 2 rfl rfl ?_
    refine vv_aload_n hC d_S_lowestOnLoop_3 1 rfl rfl ?_
    refine vv_get hC (v := .int (I_C 0)) hin_C 5 0 tb_150 d_S_lowestOnLoop_4 rfl rfl (by decide) rfl rfl ?_
    refine vv_icmp_gt hC 36 d_S_lowestOnLoop_7 (by decide) (fun cd => ?_) (fun cd => ?_)
    · have hw := hw.1 cd
      exact vv_sub [] (by rfl) (hX2 I_S A_S hw)
    · have hw := hw.2 cd
      refine vv_aload_n hC d_S_lowestOnLoop_10 0 rfl rfl ?_
      refine vv_get hC (v := .ref (a_S 1)) hin_S 0 0 tb_57 d_S_lowestOnLoop_11 rfl rfl (by decide) rfl rfl ?_
      refine vv_iload_n hC d_S_lowestOnLoop_14 2 rfl rfl ?_
      obtain ⟨hin_1, hw⟩ := hw
      refine vv_zald hC 1 1 d_S_lowestOnLoop_15 rfl rfl hin_1 ?_
      refine vv_if_ne hC 30 d_S_lowestOnLoop_16 (by decide) (fun cd => ?_) (fun cd => ?_)
      · have hw := hw.2 cd
        refine vv_iinc hC d_S_lowestOnLoop_30 2 rfl (v := (v2 + (1 : Int32))) rfl (by decide) [1, 2, 0] (L2 := [(0, .ref (a_S 0)), (1, .ref (a_C 0)), (2, .int (v2 + (1 : Int32)))]) rfl ?_
        refine vv_goto hC 2 d_S_lowestOnLoop_33 (by decide) ?_
        exact vv_sub [0, 1, 2] (by rfl) (ih I_S A_S (v2 + (1 : Int32)) hw)
      · have hw := hw.1 cd
        refine vv_aload_n hC d_S_lowestOnLoop_19 0 rfl rfl ?_
        refine vv_aload_n hC d_S_lowestOnLoop_20 1 rfl rfl ?_
        refine vv_iload_n hC d_S_lowestOnLoop_21 2 rfl rfl ?_
        refine vv_callVI (wr := []) hC (c_S_reachesItself l D cA sx a_S a_C I_S A_S I_C A_C v2 _ hw) (cw_S_57 hC) d_S_lowestOnLoop_22 [] [0, 1, 2, 3, 4, 5, 6, 7, 8, 9, 10, 11, 12, 13, 14, 15, 16, 17] [] [0, 1, 2, 3, 4, 5, 6, 7, 8, 9, 10, 11, 12, 13, 14, 15, 16, 17] (fun u_3 : (Nat → Int32) × (Nat → Nat → Int32) => kc_S cA a_S u_3.1 u_3.2 ++ kc_C cA a_C I_C A_C) ⟨Nat.zero_le _, Nat.zero_le _⟩ rfl rfl (fun _ => rfl) rfl rfl rfl rfl rfl rfl rfl rfl (Nat.le_of_ble_eq_true rfl) (fun r_2 u_3 hw => ?_)
        refine vv_if_eq hC 30 d_S_lowestOnLoop_25 (by decide) (fun cd => ?_) (fun cd => ?_)
        · have hw := hw.1 cd
          refine vv_iinc hC d_S_lowestOnLoop_30 2 rfl (v := (v2 + (1 : Int32))) rfl (by decide) [1, 2, 0] (L2 := [(0, .ref (a_S 0)), (1, .ref (a_C 0)), (2, .int (v2 + (1 : Int32)))]) rfl ?_
          refine vv_goto hC 2 d_S_lowestOnLoop_33 (by decide) ?_
          exact vv_sub [0, 1, 2] (by rfl) (ih u_3.1 u_3.2 (v2 + (1 : Int32)) hw)
        · have hw := hw.2 cd
          refine vv_iload_n hC d_S_lowestOnLoop_28 2 rfl rfl ?_
          exact vv_iret hC d_S_lowestOnLoop_29 (u_3.1, u_3.2) hw rfl
set_option maxHeartbeats 4000000 in
set_option maxRecDepth 100000 in
theorem c_S_lowestOnLoop (l : Launch) (D : va_G) (cA : Nat → ClassId) (sx : Nat → Nat) (a_S a_C : Nat → Nat) (I_S : (Nat → Int32)) (A_S : (Nat → Nat → Int32)) (I_C : (Nat → Int32)) (A_C : (Nat → Nat → Int32)) (Q : Int32 → (Nat → Int32) → (Nat → Nat → Int32) → Prop) (hw : wp_S_lowestOnLoop I_S A_S I_C A_C Q) : MetI l y_S_lowestOnLoop (Cond.code y_S_lowestOnLoop b_S_lowestOnLoop 3 (some .int) :: TB) ({ frames := 2, cells := 0, slots := 0, locals := 45 } : Room) D vwCl (tyl cA) (SPl sx) [.ref (a_S 0), .ref (a_C 0)] (kc_S cA a_S I_S A_S ++ kc_C cA a_C I_C A_C) (fun (r : Int32) (u : (Nat → Int32) × (Nat → Nat → Int32)) => Q r u.1 u.2) (fun u : (Nat → Int32) × (Nat → Nat → Int32) => kc_S cA a_S u.1 u.2 ++ kc_C cA a_C I_C A_C) := by
  refine vv_entryI (cc := b_S_lowestOnLoop) (own := R_S) (L := [(0, .ref (a_S 0)), (1, .ref (a_C 0))]) (by decide) rfl rfl (Nat.le_of_ble_eq_true rfl) rfl (fun p e s m args below meth c A hC => ?_)
  unfold wp_S_lowestOnLoop at hw
  refine vv_iconst hC d_S_lowestOnLoop_0 (v := (1 : Int32)) (by decide) ?_
  refine vv_istore_n hC d_S_lowestOnLoop_1 rfl (by decide) [1, 2, 0] (L2 := [(0, .ref (a_S 0)), (1, .ref (a_C 0)), (2, .int (1 : Int32))]) rfl ?_
  obtain ⟨m2, hw⟩ := hw
  refine vv_sub [0, 1, 2] (by rfl) (l_S_lowestOnLoop_L2 a_S a_C I_C A_C Q _ hC (fun I_S_6 A_S_7 hw => ?_) m2 I_S A_S (1 : Int32) hw)
  refine vv_iconst hC d_S_lowestOnLoop_36 (v := (-1 : Int32)) (by decide) ?_
  exact vv_iret hC d_S_lowestOnLoop_37 (I_S_6, A_S_7) hw rfl
