set_option maxHeartbeats 4000000 in
set_option maxRecDepth 100000 in
theorem c_U_restart (l : Launch) (D : va_G) (cA : Nat → ClassId) (sx : Nat → Nat) (a_U a_T : Nat → Nat) (I_U : (Nat → Int32)) (I_T : (Nat → Int32)) (A_T : (Nat → Nat → Int32)) (Q : (Nat → Int32) → Prop) (hw : wp_U_restart I_U Q) : MetV l y_U_restart (Cond.code y_U_restart b_U_restart 1 none :: TB) ({ frames := 0, cells := 0, slots := 0, locals := 0 } : Room) D vwCl (tyl cA) (SPl sx) [.ref (a_U 0)] (kc_U cA a_U a_T I_U ++ kc_T cA a_T I_T A_T) (fun (u : (Nat → Int32)) => Q u) (fun u : (Nat → Int32) => kc_U cA a_U a_T u ++ kc_T cA a_T I_T A_T) := by
  refine vv_entryV (cc := b_U_restart) (own := R_U) (L := [(0, .ref (a_U 0))]) (by decide) rfl rfl (Nat.le_of_ble_eq_true rfl) rfl (fun p e s m args below meth c A hC => ?_)
  unfold wp_U_restart at hw
  refine vv_aload_n hC d_U_restart_0 0 rfl rfl ?_
  refine vv_iconst hC d_U_restart_1 (v := (0 : Int32)) (by decide) ?_
  refine vv_put hC hin_U ty_U tyok_U nmok_U 0 1 tb_81 d_U_restart_2 rfl rfl (by decide) rfl rfl rfl rfl rfl (Nat.le_of_ble_eq_true rfl) (ws2 := kc_U cA a_U a_T (va_up I_U 0 (0 : Int32)) ++ kc_T cA a_T I_T A_T) (st_UT_UI0 ..) ?_
  refine vv_aload_n hC d_U_restart_5 0 rfl rfl ?_
  refine vv_iconst hC d_U_restart_6 (v := (0 : Int32)) (by decide) ?_
  refine vv_put hC hin_U ty_U tyok_U nmok_U 0 4 tb_87 d_U_restart_7 rfl rfl (by decide) rfl rfl rfl rfl rfl (Nat.le_of_ble_eq_true rfl) (ws2 := kc_U cA a_U a_T (va_up (va_up I_U 0 (0 : Int32)) 3 (0 : Int32)) ++ kc_T cA a_T I_T A_T) (st_UT_UI3 ..) ?_
  refine vv_aload_n hC d_U_restart_10 0 rfl rfl ?_
  refine vv_iconst hC d_U_restart_11 (v := (-1 : Int32)) (by decide) ?_
  refine vv_put hC hin_U ty_U tyok_U nmok_U 0 5 tb_89 d_U_restart_12 rfl rfl (by decide) rfl rfl rfl rfl rfl (Nat.le_of_ble_eq_true rfl) (ws2 := kc_U cA a_U a_T (va_up (va_up (va_up I_U 0 (0 : Int32)) 3 (0 : Int32)) 4 (-1 : Int32)) ++ kc_T cA a_T I_T A_T) (st_UT_UI4 ..) ?_
  exact vv_vret hC d_U_restart_15 (va_up (va_up (va_up I_U 0 (0 : Int32)) 3 (0 : Int32)) 4 (-1 : Int32)) hw rfl
set_option maxHeartbeats 4000000 in
set_option maxRecDepth 100000 in
theorem c_U_peek (l : Launch) (D : va_G) (cA : Nat → ClassId) (sx : Nat → Nat) (a_U a_T : Nat → Nat) (I_U : (Nat → Int32)) (I_T : (Nat → Int32)) (A_T : (Nat → Nat → Int32)) (Q : Int32 → Prop) (hw : wp_U_peek I_U I_T A_T Q) : MetI l y_U_peek (Cond.code y_U_peek b_U_peek 1 (some .int) :: TB) ({ frames := 0, cells := 0, slots := 0, locals := 0 } : Room) D vwCl (tyl cA) (SPl sx) [.ref (a_U 0)] (kc_U cA a_U a_T I_U ++ kc_T cA a_T I_T A_T) (fun (r : Int32) (u : Unit) => Q r) (fun u : Unit => kc_U cA a_U a_T I_U ++ kc_T cA a_T I_T A_T) := by
  refine vv_entryI (cc := b_U_peek) (own := R_U) (L := [(0, .ref (a_U 0))]) (by decide) rfl rfl (Nat.le_of_ble_eq_true rfl) rfl (fun p e s m args below meth c A hC => ?_)
  unfold wp_U_peek at hw
  refine vv_aload_n hC d_U_peek_0 0 rfl rfl ?_
  refine vv_get hC (v := .int (I_U 0)) hin_U 0 1 tb_81 d_U_peek_1 rfl rfl (by decide) rfl rfl ?_
  refine vv_if_lt hC 21 d_U_peek_4 (by decide) (fun cd => ?_) (fun cd => ?_)
  · have hw := hw.1 cd
    refine vv_iconst hC d_U_peek_21 (v := (-1 : Int32)) (by decide) ?_
    refine vv_goto hC 37 d_U_peek_22 (by decide) ?_
    exact vv_iret hC d_U_peek_37 () hw rfl
  · have hw := hw.2 cd
    refine vv_aload_n hC d_U_peek_7 0 rfl rfl ?_
    refine vv_get hC (v := .int (I_U 0)) hin_U 0 1 tb_81 d_U_peek_8 rfl rfl (by decide) rfl rfl ?_
    refine vv_aload_n hC d_U_peek_11 0 rfl rfl ?_
    refine vv_get hC (v := .ref (a_T 0)) hin_U 0 0 tb_80 d_U_peek_12 rfl rfl (by decide) rfl rfl ?_
    refine vv_getN hC (v := .int (I_T 0)) hin_T 1 2 nw_36 d_U_peek_15 rfl rfl (by decide) rfl rfl ?_
    refine vv_icmp_lt hC 25 d_U_peek_18 (by decide) (fun cd => ?_) (fun cd => ?_)
    · have hw := hw.1 cd
      refine vv_aload_n hC d_U_peek_25 0 rfl rfl ?_
      refine vv_get hC (v := .ref (a_T 0)) hin_U 0 0 tb_80 d_U_peek_26 rfl rfl (by decide) rfl rfl ?_
      refine vv_getN hC (v := .ref (a_T 2)) hin_T 1 1 nw_34 d_U_peek_29 rfl rfl (by decide) rfl rfl ?_
      refine vv_aload_n hC d_U_peek_32 0 rfl rfl ?_
      refine vv_get hC (v := .int (I_U 0)) hin_U 0 1 tb_81 d_U_peek_33 rfl rfl (by decide) rfl rfl ?_
      obtain ⟨hin_1, hw⟩ := hw
      refine vv_iald hC 3 0 d_U_peek_36 rfl rfl hin_1 ?_
      exact vv_iret hC d_U_peek_37 () hw rfl
    · have hw := hw.2 cd
      refine vv_iconst hC d_U_peek_21 (v := (-1 : Int32)) (by decide) ?_
      refine vv_goto hC 37 d_U_peek_22 (by decide) ?_
      exact vv_iret hC d_U_peek_37 () hw rfl
set_option maxHeartbeats 4000000 in
set_option maxRecDepth 100000 in
theorem c_U_fail (l : Launch) (D : va_G) (cA : Nat → ClassId) (sx : Nat → Nat) (a_U a_T : Nat → Nat) (I_U : (Nat → Int32)) (I_T : (Nat → Int32)) (A_T : (Nat → Nat → Int32)) (x1 x2 : Int32) (Q : Int32 → (Nat → Int32) → Prop) (hw : wp_U_fail I_U x1 x2 Q) : MetI l y_U_fail (Cond.code y_U_fail b_U_fail 3 (some .boolean) :: TB) ({ frames := 0, cells := 0, slots := 0, locals := 0 } : Room) D vwCl (tyl cA) (SPl sx) [.ref (a_U 0), .int x1, .int x2] (kc_U cA a_U a_T I_U ++ kc_T cA a_T I_T A_T) (fun (r : Int32) (u : (Nat → Int32)) => Q r u) (fun u : (Nat → Int32) => kc_U cA a_U a_T u ++ kc_T cA a_T I_T A_T) := by
  refine vv_entryI (cc := b_U_fail) (own := R_U) (L := [(0, .ref (a_U 0)), (1, .int x1), (2, .int x2)]) (by decide) rfl rfl (Nat.le_of_ble_eq_true rfl) rfl (fun p e s m args below meth c A hC => ?_)
  unfold wp_U_fail at hw
  refine vv_aload_n hC d_U_fail_0 0 rfl rfl ?_
  refine vv_iload_n hC d_U_fail_1 1 rfl rfl ?_
  refine vv_put hC hin_U ty_U tyok_U nmok_U 0 4 tb_87 d_U_fail_2 rfl rfl (by decide) rfl rfl rfl rfl rfl (Nat.le_of_ble_eq_true rfl) (ws2 := kc_U cA a_U a_T (va_up I_U 3 x1) ++ kc_T cA a_T I_T A_T) (st_UT_UI3 ..) ?_
  refine vv_aload_n hC d_U_fail_5 0 rfl rfl ?_
  refine vv_iload_n hC d_U_fail_6 2 rfl rfl ?_
  refine vv_put hC hin_U ty_U tyok_U nmok_U 0 5 tb_89 d_U_fail_7 rfl rfl (by decide) rfl rfl rfl rfl rfl (Nat.le_of_ble_eq_true rfl) (ws2 := kc_U cA a_U a_T (va_up (va_up I_U 3 x1) 4 x2) ++ kc_T cA a_T I_T A_T) (st_UT_UI4 ..) ?_
  refine vv_iconst hC d_U_fail_10 (v := (0 : Int32)) (by decide) ?_
  exact vv_zret hC d_U_fail_11 rfl (va_up (va_up I_U 3 x1) 4 x2) hw rfl
set_option maxHeartbeats 4000000 in
set_option maxRecDepth 100000 in
theorem c_U_expect (l : Launch) (D : va_G) (cA : Nat → ClassId) (sx : Nat → Nat) (a_U a_T : Nat → Nat) (I_U : (Nat → Int32)) (I_T : (Nat → Int32)) (A_T : (Nat → Nat → Int32)) (x1 : Int32) (Q : Int32 → (Nat → Int32) → Prop) (hw : wp_U_expect I_U I_T A_T x1 Q) : MetI l y_U_expect (Cond.code y_U_expect b_U_expect 2 (some .boolean) :: TB) ({ frames := 1, cells := 0, slots := 0, locals := 22 } : Room) D vwCl (tyl cA) (SPl sx) [.ref (a_U 0), .int x1] (kc_U cA a_U a_T I_U ++ kc_T cA a_T I_T A_T) (fun (r : Int32) (u : (Nat → Int32)) => Q r u) (fun u : (Nat → Int32) => kc_U cA a_U a_T u ++ kc_T cA a_T I_T A_T) := by
  refine vv_entryI (cc := b_U_expect) (own := R_U) (L := [(0, .ref (a_U 0)), (1, .int x1)]) (by decide) rfl rfl (Nat.le_of_ble_eq_true rfl) rfl (fun p e s m args below meth c A hC => ?_)
  unfold wp_U_expect at hw
  refine vv_aload_n hC d_U_expect_0 0 rfl rfl ?_
  refine vv_callVI (wr := []) hC (c_U_peek l D cA sx a_U a_T I_U I_T A_T _ hw) (cw_U_40 hC) d_U_expect_1 [] [0, 1, 2, 3] [] [0, 1, 2, 3] (fun u_2 : Unit => kc_U cA a_U a_T I_U ++ kc_T cA a_T I_T A_T) ⟨Nat.zero_le _, Nat.zero_le _⟩ rfl rfl (fun _ => rfl) rfl rfl rfl rfl rfl rfl rfl rfl (Nat.le_of_ble_eq_true rfl) (fun r_1 u_2 hw => ?_)
  refine vv_iload_n hC d_U_expect_4 1 rfl rfl ?_
  refine vv_icmp_eq hC 18 d_U_expect_5 (by decide) (fun cd => ?_) (fun cd => ?_)
  · have hw := hw.1 cd
    refine vv_aload_n hC d_U_expect_18 0 rfl rfl ?_
    refine vv_dup hC d_U_expect_19 rfl ?_
    refine vv_get hC (v := .int (I_U 0)) hin_U 0 1 tb_81 d_U_expect_20 rfl rfl (by decide) rfl rfl ?_
    refine vv_iconst hC d_U_expect_23 (v := (1 : Int32)) (by decide) ?_
    refine vv_iadd hC d_U_expect_24 ?_
    refine vv_put hC hin_U ty_U tyok_U nmok_U 0 1 tb_81 d_U_expect_25 rfl rfl (by decide) rfl rfl rfl rfl rfl (Nat.le_of_ble_eq_true rfl) (ws2 := kc_U cA a_U a_T (va_up I_U 0 ((I_U 0) + (1 : Int32))) ++ kc_T cA a_T I_T A_T) (st_UT_UI0 ..) ?_
    refine vv_iconst hC d_U_expect_28 (v := (1 : Int32)) (by decide) ?_
    exact vv_zret hC d_U_expect_29 rfl (va_up I_U 0 ((I_U 0) + (1 : Int32))) hw rfl
  · have hw := hw.2 cd
    refine vv_aload_n hC d_U_expect_8 0 rfl rfl ?_
    refine vv_iconst hC d_U_expect_9 (v := (1 : Int32)) (by decide) ?_
    refine vv_aload_n hC d_U_expect_10 0 rfl rfl ?_
    refine vv_get hC (v := .int (I_U 0)) hin_U 0 1 tb_81 d_U_expect_11 rfl rfl (by decide) rfl rfl ?_
    refine vv_callVI (wr := []) hC (c_U_fail l D cA sx a_U a_T I_U I_T A_T (1 : Int32) (I_U 0) _ hw) (cw_U_44 hC) d_U_expect_14 [] [0, 1, 2, 3] [] [0, 1, 2, 3] (fun u_4 : (Nat → Int32) => kc_U cA a_U a_T u_4 ++ kc_T cA a_T I_T A_T) ⟨Nat.zero_le _, Nat.zero_le _⟩ rfl rfl (fun _ => rfl) rfl rfl rfl rfl rfl rfl rfl rfl (Nat.le_of_ble_eq_true rfl) (fun r_3 u_4 hw => ?_)
    obtain ⟨hnr_6, hw⟩ := hw
    exact vv_zret hC d_U_expect_17 hnr_6 u_4 hw rfl
set_option maxHeartbeats 4000000 in
set_option maxRecDepth 100000 in
theorem l_U_readNumber_b37 {p : Program} {l : Launch} {e : Env} {s : State} {m : MethodId} {args : Array Value} {below : List Frame} {meth : Method} {c : Code} {D : va_G} {cA : Nat → ClassId} {sx : Nat → Nat} {A : Nat → Prop} (a_U a_T : Nat → Nat) (I_T : (Nat → Int32)) (A_T : (Nat → Nat → Int32)) (Q : Int32 → (Nat → Int32) → Prop) (hC : CX p s m args meth c b_U_readNumber R_U TB 4 D vwCl (tyl cA) A (SPl sx) (some .boolean)) : ∀ (I_U : (Nat → Int32)) (v1 : Int32), wp_U_readNumber_b37 I_T A_T Q I_U v1 → VV p l e ({ frames := 1, cells := 0, slots := 0, locals := 22 } : Room) s m args below meth c 4 D vwCl A 0 0 (QI below args s D vwCl (tyl cA) A (fun (r : Int32) (u : (Nat → Int32)) => Q r u) (fun u : (Nat → Int32) => kc_U cA a_U a_T u ++ kc_T cA a_T I_T A_T)) (kc_U cA a_U a_T I_U ++ kc_T cA a_T I_T A_T) 37 [(0, .ref (a_U 0)), (1, .int v1)] [] := by
  intro I_U v1 hw
  unfold wp_U_readNumber_b37 at hw
  refine vv_iload_n hC d_U_readNumber_37 1 rfl rfl ?_
  refine vv_if_gt hC 53 d_U_readNumber_38 (by decide) (fun cd => ?_) (fun cd => ?_)
  · have hw := hw.1 cd
    refine vv_iconst hC d_U_readNumber_53 (v := (1 : Int32)) (by decide) ?_
    refine vv_goto hC 58 d_U_readNumber_54 (by decide) ?_
    exact vv_zret hC d_U_readNumber_58 rfl I_U hw rfl
  · have hw := hw.2 cd
    refine vv_aload_n hC d_U_readNumber_41 0 rfl rfl ?_
    refine vv_iconst hC d_U_readNumber_42 (v := (1 : Int32)) (by decide) ?_
    refine vv_aload_n hC d_U_readNumber_43 0 rfl rfl ?_
    refine vv_get hC (v := .int (I_U 0)) hin_U 0 1 tb_81 d_U_readNumber_44 rfl rfl (by decide) rfl rfl ?_
    refine vv_callVI (wr := []) hC (c_U_fail l D cA sx a_U a_T I_U I_T A_T (1 : Int32) (I_U 0) _ hw) (cw_U_44 hC) d_U_readNumber_47 [] [0, 1, 2, 3] [] [0, 1, 2, 3] (fun u_4 : (Nat → Int32) => kc_U cA a_U a_T u_4 ++ kc_T cA a_T I_T A_T) ⟨Nat.zero_le _, Nat.zero_le _⟩ rfl rfl (fun _ => rfl) rfl rfl rfl rfl rfl rfl rfl rfl (Nat.le_of_ble_eq_true rfl) (fun r_3 u_4 hw => ?_)
    refine vv_if_eq hC 57 d_U_readNumber_50 (by decide) (fun cd => ?_) (fun cd => ?_)
    · have hw := hw.1 cd
      refine vv_iconst hC d_U_readNumber_57 (v := (0 : Int32)) (by decide) ?_
      exact vv_zret hC d_U_readNumber_58 rfl u_4 hw rfl
    · have hw := hw.2 cd
      refine vv_iconst hC d_U_readNumber_53 (v := (1 : Int32)) (by decide) ?_
      refine vv_goto hC 58 d_U_readNumber_54 (by decide) ?_
      exact vv_zret hC d_U_readNumber_58 rfl u_4 hw rfl
set_option maxHeartbeats 4000000 in
set_option maxRecDepth 100000 in
theorem l_U_readNumber_b76 {p : Program} {l : Launch} {e : Env} {s : State} {m : MethodId} {args : Array Value} {below : List Frame} {meth : Method} {c : Code} {D : va_G} {cA : Nat → ClassId} {sx : Nat → Nat} {A : Nat → Prop} (a_U a_T : Nat → Nat) (I_T : (Nat → Int32)) (A_T : (Nat → Nat → Int32)) (Q : Int32 → (Nat → Int32) → Prop) (K15 : (Nat → Int32) → Int32 → Prop) (X15 : (Nat → Int32) → Prop) (hC : CX p s m args meth c b_U_readNumber R_U TB 4 D vwCl (tyl cA) A (SPl sx) (some .boolean)) (hK15 : ∀ (I_U : (Nat → Int32)) (v1 : Int32), K15 I_U v1 → VV p l e ({ frames := 1, cells := 0, slots := 0, locals := 22 } : Room) s m args below meth c 4 D vwCl A 0 0 (QI below args s D vwCl (tyl cA) A (fun (r : Int32) (u : (Nat → Int32)) => Q r u) (fun u : (Nat → Int32) => kc_U cA a_U a_T u ++ kc_T cA a_T I_T A_T)) (kc_U cA a_U a_T I_U ++ kc_T cA a_T I_T A_T) 15 [(0, .ref (a_U 0)), (1, .int v1)] []) (hX15 : ∀ (I_U : (Nat → Int32)), X15 I_U → VV p l e ({ frames := 1, cells := 0, slots := 0, locals := 22 } : Room) s m args below meth c 4 D vwCl A 0 0 (QI below args s D vwCl (tyl cA) A (fun (r : Int32) (u : (Nat → Int32)) => Q r u) (fun u : (Nat → Int32) => kc_U cA a_U a_T u ++ kc_T cA a_T I_T A_T)) (kc_U cA a_U a_T I_U ++ kc_T cA a_T I_T A_T) 127 [] []) : ∀ (I_U : (Nat → Int32)) (v1 : Int32) (v2 : Int32) (v3 : Int32), wp_U_readNumber_b76 I_T A_T Q K15 X15 I_U v1 v2 v3 → VV p l e ({ frames := 1, cells := 0, slots := 0, locals := 22 } : Room) s m args below meth c 4 D vwCl A 0 0 (QI below args s D vwCl (tyl cA) A (fun (r : Int32) (u : (Nat → Int32)) => Q r u) (fun u : (Nat → Int32) => kc_U cA a_U a_T u ++ kc_T cA a_T I_T A_T)) (kc_U cA a_U a_T I_U ++ kc_T cA a_T I_T A_T) 76 [(0, .ref (a_U 0)), (1, .int v1), (2, .int v2), (3, .int v3)] [] := by
  intro I_U v1 v2 v3 hw
  unfold wp_U_readNumber_b76 at hw
  refine vv_iload_n hC d_U_readNumber_76 3 rfl rfl ?_
  refine vv_if_ne hC 85 d_U_readNumber_77 (by decide) (fun cd => ?_) (fun cd => ?_)
  · have hw := hw.2 cd
    refine vv_aload_n hC d_U_readNumber_85 0 rfl rfl ?_
    refine vv_iconst hC d_U_readNumber_86 (v := (1 : Int32)) (by decide) ?_
    refine vv_aload_n hC d_U_readNumber_87 0 rfl rfl ?_
    refine vv_get hC (v := .int (I_U 0)) hin_U 0 1 tb_81 d_U_readNumber_88 rfl rfl (by decide) rfl rfl ?_
    refine vv_callVI (wr := []) hC (c_U_fail l D cA sx a_U a_T I_U I_T A_T (1 : Int32) (I_U 0) _ hw) (cw_U_44 hC) d_U_readNumber_91 [] [0, 1, 2, 3] [] [0, 1, 2, 3] (fun u_7 : (Nat → Int32) => kc_U cA a_U a_T u_7 ++ kc_T cA a_T I_T A_T) ⟨Nat.zero_le _, Nat.zero_le _⟩ rfl rfl (fun _ => rfl) rfl rfl rfl rfl rfl rfl rfl rfl (Nat.le_of_ble_eq_true rfl) (fun r_6 u_7 hw => ?_)
    obtain ⟨hnr_9, hw⟩ := hw
    exact vv_zret hC d_U_readNumber_94 hnr_9 u_7 hw rfl
  · have hw := hw.1 cd
    refine vv_iload_n hC d_U_readNumber_80 1 rfl rfl ?_
    refine vv_iconst hC d_U_readNumber_81 (v := (4 : Int32)) (by decide) ?_
    refine vv_icmp_ne hC 95 d_U_readNumber_82 (by decide) (fun cd => ?_) (fun cd => ?_)
    · have hw := hw.2 cd
      refine vv_aload_n hC d_U_readNumber_95 0 rfl rfl ?_
      refine vv_bipush hC d_U_readNumber_96 (v := (10 : Int32)) (by decide) ?_
      refine vv_aload_n hC d_U_readNumber_98 0 rfl rfl ?_
      refine vv_get hC (v := .int (I_U 2)) hin_U 0 3 tb_85 d_U_readNumber_99 rfl rfl (by decide) rfl rfl ?_
      refine vv_imul hC d_U_readNumber_102 ?_
      refine vv_iload_n hC d_U_readNumber_103 2 rfl rfl ?_
      refine vv_iadd hC d_U_readNumber_104 ?_
      refine vv_bipush hC d_U_readNumber_105 (v := (48 : Int32)) (by decide) ?_
      refine vv_isub hC d_U_readNumber_107 ?_
      refine vv_put hC hin_U ty_U tyok_U nmok_U 0 3 tb_85 d_U_readNumber_108 rfl rfl (by decide) rfl rfl rfl rfl rfl (Nat.le_of_ble_eq_true rfl) (ws2 := kc_U cA a_U a_T (va_up I_U 2 ((((10 : Int32) * (I_U 2)) + v2) - (48 : Int32))) ++ kc_T cA a_T I_T A_T) (st_UT_UI2 ..) ?_
      refine vv_aload_n hC d_U_readNumber_111 0 rfl rfl ?_
      refine vv_dup hC d_U_readNumber_112 rfl ?_
      refine vv_get hC (v := .int (I_U 0)) hin_U 0 1 tb_81 d_U_readNumber_113 rfl rfl (by decide) rfl rfl ?_
      refine vv_iconst hC d_U_readNumber_116 (v := (1 : Int32)) (by decide) ?_
      refine vv_iadd hC d_U_readNumber_117 ?_
      refine vv_put hC hin_U ty_U tyok_U nmok_U 0 1 tb_81 d_U_readNumber_118 rfl rfl (by decide) rfl rfl rfl rfl rfl (Nat.le_of_ble_eq_true rfl) (ws2 := kc_U cA a_U a_T (va_up (va_up I_U 2 ((((10 : Int32) * (I_U 2)) + v2) - (48 : Int32))) 0 ((I_U 0) + (1 : Int32))) ++ kc_T cA a_T I_T A_T) (st_UT_UI0 ..) ?_
      refine vv_iinc hC d_U_readNumber_121 1 rfl (v := (v1 + (1 : Int32))) rfl (by decide) [1, 0, 2, 3] (L2 := [(0, .ref (a_U 0)), (1, .int (v1 + (1 : Int32))), (2, .int v2), (3, .int v3)]) rfl ?_
      refine vv_goto hC 15 d_U_readNumber_124 (by decide) ?_
      exact vv_sub [0, 1] (by rfl) (hK15 (va_up (va_up I_U 2 ((((10 : Int32) * (I_U 2)) + v2) - (48 : Int32))) 0 ((I_U 0) + (1 : Int32))) (v1 + (1 : Int32)) hw)
    · have hw := hw.1 cd
      refine vv_aload_n hC d_U_readNumber_85 0 rfl rfl ?_
      refine vv_iconst hC d_U_readNumber_86 (v := (1 : Int32)) (by decide) ?_
      refine vv_aload_n hC d_U_readNumber_87 0 rfl rfl ?_
      refine vv_get hC (v := .int (I_U 0)) hin_U 0 1 tb_81 d_U_readNumber_88 rfl rfl (by decide) rfl rfl ?_
      refine vv_callVI (wr := []) hC (c_U_fail l D cA sx a_U a_T I_U I_T A_T (1 : Int32) (I_U 0) _ hw) (cw_U_44 hC) d_U_readNumber_91 [] [0, 1, 2, 3] [] [0, 1, 2, 3] (fun u_11 : (Nat → Int32) => kc_U cA a_U a_T u_11 ++ kc_T cA a_T I_T A_T) ⟨Nat.zero_le _, Nat.zero_le _⟩ rfl rfl (fun _ => rfl) rfl rfl rfl rfl rfl rfl rfl rfl (Nat.le_of_ble_eq_true rfl) (fun r_10 u_11 hw => ?_)
      obtain ⟨hnr_13, hw⟩ := hw
      exact vv_zret hC d_U_readNumber_94 hnr_13 u_11 hw rfl
set_option maxHeartbeats 4000000 in
set_option maxRecDepth 100000 in
theorem l_U_readNumber_b74 {p : Program} {l : Launch} {e : Env} {s : State} {m : MethodId} {args : Array Value} {below : List Frame} {meth : Method} {c : Code} {D : va_G} {cA : Nat → ClassId} {sx : Nat → Nat} {A : Nat → Prop} (a_U a_T : Nat → Nat) (I_T : (Nat → Int32)) (A_T : (Nat → Nat → Int32)) (Q : Int32 → (Nat → Int32) → Prop) (K15 : (Nat → Int32) → Int32 → Prop) (X15 : (Nat → Int32) → Prop) (hC : CX p s m args meth c b_U_readNumber R_U TB 4 D vwCl (tyl cA) A (SPl sx) (some .boolean)) (hK15 : ∀ (I_U : (Nat → Int32)) (v1 : Int32), K15 I_U v1 → VV p l e ({ frames := 1, cells := 0, slots := 0, locals := 22 } : Room) s m args below meth c 4 D vwCl A 0 0 (QI below args s D vwCl (tyl cA) A (fun (r : Int32) (u : (Nat → Int32)) => Q r u) (fun u : (Nat → Int32) => kc_U cA a_U a_T u ++ kc_T cA a_T I_T A_T)) (kc_U cA a_U a_T I_U ++ kc_T cA a_T I_T A_T) 15 [(0, .ref (a_U 0)), (1, .int v1)] []) (hX15 : ∀ (I_U : (Nat → Int32)), X15 I_U → VV p l e ({ frames := 1, cells := 0, slots := 0, locals := 22 } : Room) s m args below meth c 4 D vwCl A 0 0 (QI below args s D vwCl (tyl cA) A (fun (r : Int32) (u : (Nat → Int32)) => Q r u) (fun u : (Nat → Int32) => kc_U cA a_U a_T u ++ kc_T cA a_T I_T A_T)) (kc_U cA a_U a_T I_U ++ kc_T cA a_T I_T A_T) 127 [] []) : ∀ (I_U : (Nat → Int32)) (v1 : Int32) (v2 : Int32), wp_U_readNumber_b74 I_T A_T Q K15 X15 I_U v1 v2 → VV p l e ({ frames := 1, cells := 0, slots := 0, locals := 22 } : Room) s m args below meth c 4 D vwCl A 0 0 (QI below args s D vwCl (tyl cA) A (fun (r : Int32) (u : (Nat → Int32)) => Q r u) (fun u : (Nat → Int32) => kc_U cA a_U a_T u ++ kc_T cA a_T I_T A_T)) (kc_U cA a_U a_T I_U ++ kc_T cA a_T I_T A_T) 74 [(0, .ref (a_U 0)), (1, .int v1), (2, .int v2)] [] := by
  intro I_U v1 v2 hw
  unfold wp_U_readNumber_b74 at hw
  refine vv_iconst hC d_U_readNumber_74 (v := (0 : Int32)) (by decide) ?_
  refine vv_istore_n hC d_U_readNumber_75 rfl (by decide) [1, 2, 3, 0] (L2 := [(0, .ref (a_U 0)), (1, .int v1), (2, .int v2), (3, .int (0 : Int32))]) rfl ?_
  exact vv_sub [0, 1, 2, 3] (by rfl) (l_U_readNumber_b76 a_U a_T I_T A_T Q K15 X15 hC hK15 hX15 I_U v1 v2 (0 : Int32) hw)
set_option maxHeartbeats 4000000 in
set_option maxRecDepth 100000 in
theorem l_U_readNumber_L15 {p : Program} {l : Launch} {e : Env} {s : State} {m : MethodId} {args : Array Value} {below : List Frame} {meth : Method} {c : Code} {D : va_G} {cA : Nat → ClassId} {sx : Nat → Nat} {A : Nat → Prop} (a_U a_T : Nat → Nat) (I_T : (Nat → Int32)) (A_T : (Nat → Nat → Int32)) (Q : Int32 → (Nat → Int32) → Prop) (X15 : (Nat → Int32) → Prop) (hC : CX p s m args meth c b_U_readNumber R_U TB 4 D vwCl (tyl cA) A (SPl sx) (some .boolean)) (hX15 : ∀ (I_U : (Nat → Int32)), X15 I_U → VV p l e ({ frames := 1, cells := 0, slots := 0, locals := 22 } : Room) s m args below meth c 4 D vwCl A 0 0 (QI below args s D vwCl (tyl cA) A (fun (r : Int32) (u : (Nat → Int32)) => Q r u) (fun u : (Nat → Int32) => kc_U cA a_U a_T u ++ kc_T cA a_T I_T A_T)) (kc_U cA a_U a_T I_U ++ kc_T cA a_T I_T A_T) 127 [] []) : ∀ (n15 : Nat) (I_U : (Nat → Int32)) (v1 : Int32), wp_U_readNumber_L15 I_T A_T Q X15 n15 I_U v1 → VV p l e ({ frames := 1, cells := 0, slots := 0, locals := 22 } : Room) s m args below meth c 4 D vwCl A 0 0 (QI below args s D vwCl (tyl cA) A (fun (r : Int32) (u : (Nat → Int32)) => Q r u) (fun u : (Nat → Int32) => kc_U cA a_U a_T u ++ kc_T cA a_T I_T A_T)) (kc_U cA a_U a_T I_U ++ kc_T cA a_T I_T A_T) 15 [(0, .ref (a_U 0)), (1, .int v1)] [] := by
  intro n15
  induction n15 with
  | zero =>
    intro I_U v1 hw
    exact absurd hw (fun z => z)
  | succ n15 ih =>
    intro I_U v1 hw
    unfold wp_U_readNumber_L15 at hw
    refine vv_iload_n hC d_U_readNumber_15 1 rfl rfl ?_
    refine vv_iconst hC d_U_readNumber_16 (v := (4 : Int32)) (by decide) ?_
    refine vv_icmp_gt hC 127 d_U_readNumber_17 (by decide) (fun cd => ?_) (fun cd => ?_)
    · have hw := hw.1 cd
      exact vv_sub [] (by rfl) (hX15 I_U hw)
    · have hw := hw.2 cd
      refine vv_aload_n hC d_U_readNumber_20 0 rfl rfl ?_
      refine vv_callVI (wr := []) hC (c_U_peek l D cA sx a_U a_T I_U I_T A_T _ hw) (cw_U_40 hC) d_U_readNumber_21 [] [0, 1, 2, 3] [] [0, 1, 2, 3] (fun u_2 : Unit => kc_U cA a_U a_T I_U ++ kc_T cA a_T I_T A_T) ⟨Nat.zero_le _, Nat.zero_le _⟩ rfl rfl (fun _ => rfl) rfl rfl rfl rfl rfl rfl rfl rfl (Nat.le_of_ble_eq_true rfl) (fun r_1 u_2 hw => ?_)
      refine vv_istore_n hC d_U_readNumber_24 rfl (by decide) [1, 2, 0] (L2 := [(0, .ref (a_U 0)), (1, .int v1), (2, .int r_1)]) rfl ?_
      refine vv_iload_n hC d_U_readNumber_25 2 rfl rfl ?_
      refine vv_bipush hC d_U_readNumber_26 (v := (48 : Int32)) (by decide) ?_
      refine vv_icmp_lt hC 37 d_U_readNumber_28 (by decide) (fun cd => ?_) (fun cd => ?_)
      · have hw := hw.1 cd
        exact vv_sub [0, 1] (by rfl) (l_U_readNumber_b37 a_U a_T I_T A_T Q hC I_U v1 hw)
      · have hw := hw.2 cd
        refine vv_iload_n hC d_U_readNumber_31 2 rfl rfl ?_
        refine vv_bipush hC d_U_readNumber_32 (v := (57 : Int32)) (by decide) ?_
        refine vv_icmp_le hC 59 d_U_readNumber_34 (by decide) (fun cd => ?_) (fun cd => ?_)
        · have hw := hw.1 cd
          refine vv_iload_n hC d_U_readNumber_59 1 rfl rfl ?_
          refine vv_if_le hC 74 d_U_readNumber_60 (by decide) (fun cd => ?_) (fun cd => ?_)
          · have hw := hw.1 cd
            exact vv_sub [0, 1, 2] (by rfl) (l_U_readNumber_b74 a_U a_T I_T A_T Q (wp_U_readNumber_L15 I_T A_T Q X15 n15) X15 hC ih hX15 I_U v1 r_1 hw)
          · have hw := hw.2 cd
            refine vv_aload_n hC d_U_readNumber_63 0 rfl rfl ?_
            refine vv_get hC (v := .int (I_U 2)) hin_U 0 3 tb_85 d_U_readNumber_64 rfl rfl (by decide) rfl rfl ?_
            refine vv_if_ne hC 74 d_U_readNumber_67 (by decide) (fun cd => ?_) (fun cd => ?_)
            · have hw := hw.2 cd
              exact vv_sub [0, 1, 2] (by rfl) (l_U_readNumber_b74 a_U a_T I_T A_T Q (wp_U_readNumber_L15 I_T A_T Q X15 n15) X15 hC ih hX15 I_U v1 r_1 hw)
            · have hw := hw.1 cd
              refine vv_iconst hC d_U_readNumber_70 (v := (1 : Int32)) (by decide) ?_
              refine vv_goto hC 75 d_U_readNumber_71 (by decide) ?_
              refine vv_istore_n hC d_U_readNumber_75 rfl (by decide) [1, 2, 3, 0] (L2 := [(0, .ref (a_U 0)), (1, .int v1), (2, .int r_1), (3, .int (1 : Int32))]) rfl ?_
              exact vv_sub [0, 1, 2, 3] (by rfl) (l_U_readNumber_b76 a_U a_T I_T A_T Q (wp_U_readNumber_L15 I_T A_T Q X15 n15) X15 hC ih hX15 I_U v1 r_1 (1 : Int32) hw)
        · have hw := hw.2 cd
          exact vv_sub [0, 1] (by rfl) (l_U_readNumber_b37 a_U a_T I_T A_T Q hC I_U v1 hw)
set_option maxHeartbeats 4000000 in
set_option maxRecDepth 100000 in
theorem c_U_readNumber (l : Launch) (D : va_G) (cA : Nat → ClassId) (sx : Nat → Nat) (a_U a_T : Nat → Nat) (I_U : (Nat → Int32)) (I_T : (Nat → Int32)) (A_T : (Nat → Nat → Int32)) (Q : Int32 → (Nat → Int32) → Prop) (hw : wp_U_readNumber I_U I_T A_T Q) : MetI l y_U_readNumber (Cond.code y_U_readNumber b_U_readNumber 4 (some .boolean) :: TB) ({ frames := 1, cells := 0, slots := 0, locals := 22 } : Room) D vwCl (tyl cA) (SPl sx) [.ref (a_U 0)] (kc_U cA a_U a_T I_U ++ kc_T cA a_T I_T A_T) (fun (r : Int32) (u : (Nat → Int32)) => Q r u) (fun u : (Nat → Int32) => kc_U cA a_U a_T u ++ kc_T cA a_T I_T A_T) := by
  refine vv_entryI (cc := b_U_readNumber) (own := R_U) (L := [(0, .ref (a_U 0))]) (by decide) rfl rfl (Nat.le_of_ble_eq_true rfl) rfl (fun p e s m args below meth c A hC => ?_)
  unfold wp_U_readNumber at hw
  refine vv_aload_n hC d_U_readNumber_0 0 rfl rfl ?_
  refine vv_aload_n hC d_U_readNumber_1 0 rfl rfl ?_
  refine vv_get hC (v := .int (I_U 0)) hin_U 0 1 tb_81 d_U_readNumber_2 rfl rfl (by decide) rfl rfl ?_
  refine vv_put hC hin_U ty_U tyok_U nmok_U 0 2 tb_83 d_U_readNumber_5 rfl rfl (by decide) rfl rfl rfl rfl rfl (Nat.le_of_ble_eq_true rfl) (ws2 := kc_U cA a_U a_T (va_up I_U 1 (I_U 0)) ++ kc_T cA a_T I_T A_T) (st_UT_UI1 ..) ?_
  refine vv_aload_n hC d_U_readNumber_8 0 rfl rfl ?_
  refine vv_iconst hC d_U_readNumber_9 (v := (0 : Int32)) (by decide) ?_
  refine vv_put hC hin_U ty_U tyok_U nmok_U 0 3 tb_85 d_U_readNumber_10 rfl rfl (by decide) rfl rfl rfl rfl rfl (Nat.le_of_ble_eq_true rfl) (ws2 := kc_U cA a_U a_T (va_up (va_up I_U 1 (I_U 0)) 2 (0 : Int32)) ++ kc_T cA a_T I_T A_T) (st_UT_UI2 ..) ?_
  refine vv_iconst hC d_U_readNumber_13 (v := (0 : Int32)) (by decide) ?_
  refine vv_istore_n hC d_U_readNumber_14 rfl (by decide) [1, 0] (L2 := [(0, .ref (a_U 0)), (1, .int (0 : Int32))]) rfl ?_
  obtain ⟨m15, hw⟩ := hw
  refine vv_sub [0, 1] (by rfl) (l_U_readNumber_L15 a_U a_T I_T A_T Q _ hC (fun I_U_14 hw => ?_) m15 (va_up (va_up I_U 1 (I_U 0)) 2 (0 : Int32)) (0 : Int32) hw)
  refine vv_iconst hC d_U_readNumber_127 (v := (1 : Int32)) (by decide) ?_
  exact vv_zret hC d_U_readNumber_128 rfl I_U_14 hw rfl
set_option maxHeartbeats 4000000 in
set_option maxRecDepth 100000 in
theorem l_U_readSevens_L15 {p : Program} {l : Launch} {e : Env} {s : State} {m : MethodId} {args : Array Value} {below : List Frame} {meth : Method} {c : Code} {D : va_G} {cA : Nat → ClassId} {sx : Nat → Nat} {A : Nat → Prop} (a_U a_T : Nat → Nat) (I_T : (Nat → Int32)) (A_T : (Nat → Nat → Int32)) (Q : Int32 → (Nat → Int32) → Prop) (X15 : (Nat → Int32) → Prop) (hC : CX p s m args meth c b_U_readSevens R_U TB 3 D vwCl (tyl cA) A (SPl sx) (some .boolean)) (hX15 : ∀ (I_U : (Nat → Int32)), X15 I_U → VV p l e ({ frames := 1, cells := 0, slots := 0, locals := 22 } : Room) s m args below meth c 3 D vwCl A 0 0 (QI below args s D vwCl (tyl cA) A (fun (r : Int32) (u : (Nat → Int32)) => Q r u) (fun u : (Nat → Int32) => kc_U cA a_U a_T u ++ kc_T cA a_T I_T A_T)) (kc_U cA a_U a_T I_U ++ kc_T cA a_T I_T A_T) 83 [(0, .ref (a_U 0))] []) : ∀ (n15 : Nat) (I_U : (Nat → Int32)) (v1 : Int32), wp_U_readSevens_L15 I_T A_T Q X15 n15 I_U v1 → VV p l e ({ frames := 1, cells := 0, slots := 0, locals := 22 } : Room) s m args below meth c 3 D vwCl A 0 0 (QI below args s D vwCl (tyl cA) A (fun (r : Int32) (u : (Nat → Int32)) => Q r u) (fun u : (Nat → Int32) => kc_U cA a_U a_T u ++ kc_T cA a_T I_T A_T)) (kc_U cA a_U a_T I_U ++ kc_T cA a_T I_T A_T) 15 [(0, .ref (a_U 0)), (1, .int v1)] [] := by
  intro n15
  induction n15 with
  | zero =>
    intro I_U v1 hw
    exact absurd hw (fun z => z)
  | succ n15 ih =>
    intro I_U v1 hw
    unfold wp_U_readSevens_L15 at hw
    refine vv_iload_n hC d_U_readSevens_15 1 rfl rfl ?_
    refine vv_iconst hC d_U_readSevens_16 (v := (3 : Int32)) (by decide) ?_
    refine vv_icmp_ge hC 83 d_U_readSevens_17 (by decide) (fun cd => ?_) (fun cd => ?_)
    · have hw := hw.1 cd
      exact vv_sub [0] (by rfl) (hX15 I_U hw)
    · have hw := hw.2 cd
      refine vv_aload_n hC d_U_readSevens_20 0 rfl rfl ?_
      refine vv_callVI (wr := []) hC (c_U_peek l D cA sx a_U a_T I_U I_T A_T _ hw) (cw_U_40 hC) d_U_readSevens_21 [] [0, 1, 2, 3] [] [0, 1, 2, 3] (fun u_2 : Unit => kc_U cA a_U a_T I_U ++ kc_T cA a_T I_T A_T) ⟨Nat.zero_le _, Nat.zero_le _⟩ rfl rfl (fun _ => rfl) rfl rfl rfl rfl rfl rfl rfl rfl (Nat.le_of_ble_eq_true rfl) (fun r_1 u_2 hw => ?_)
      refine vv_istore_n hC d_U_readSevens_24 rfl (by decide) [1, 2, 0] (L2 := [(0, .ref (a_U 0)), (1, .int v1), (2, .int r_1)]) rfl ?_
      refine vv_iload_n hC d_U_readSevens_25 2 rfl rfl ?_
      refine vv_iconst hC d_U_readSevens_26 (v := (-1 : Int32)) (by decide) ?_
      refine vv_icmp_ne hC 40 d_U_readSevens_27 (by decide) (fun cd => ?_) (fun cd => ?_)
      · have hw := hw.2 cd
        refine vv_aload_n hC d_U_readSevens_40 0 rfl rfl ?_
        refine vv_dup hC d_U_readSevens_41 rfl ?_
        refine vv_get hC (v := .int (I_U 0)) hin_U 0 1 tb_81 d_U_readSevens_42 rfl rfl (by decide) rfl rfl ?_
        refine vv_iconst hC d_U_readSevens_45 (v := (1 : Int32)) (by decide) ?_
        refine vv_iadd hC d_U_readSevens_46 ?_
        refine vv_put hC hin_U ty_U tyok_U nmok_U 0 1 tb_81 d_U_readSevens_47 rfl rfl (by decide) rfl rfl rfl rfl rfl (Nat.le_of_ble_eq_true rfl) (ws2 := kc_U cA a_U a_T (va_up I_U 0 ((I_U 0) + (1 : Int32))) ++ kc_T cA a_T I_T A_T) (st_UT_UI0 ..) ?_
        refine vv_aload_n hC d_U_readSevens_50 0 rfl rfl ?_
        refine vv_dup hC d_U_readSevens_51 rfl ?_
        refine vv_get hC (v := .int (I_U 2)) hin_U 0 3 tb_85 d_U_readSevens_52 rfl rfl (by decide) rfl rfl ?_
        refine vv_iload_n hC d_U_readSevens_55 2 rfl rfl ?_
        refine vv_bipush hC d_U_readSevens_56 (v := (127 : Int32)) (by decide) ?_
        refine vv_iand hC d_U_readSevens_58 ?_
        refine vv_bipush hC d_U_readSevens_59 (v := (7 : Int32)) (by decide) ?_
        refine vv_iload_n hC d_U_readSevens_61 1 rfl rfl ?_
        refine vv_imul hC d_U_readSevens_62 ?_
        refine vv_ishl hC d_U_readSevens_63 ?_
        refine vv_ior hC d_U_readSevens_64 ?_
        refine vv_put hC hin_U ty_U tyok_U nmok_U 0 3 tb_85 d_U_readSevens_65 rfl rfl (by decide) rfl rfl rfl rfl rfl (Nat.le_of_ble_eq_true rfl) (ws2 := kc_U cA a_U a_T (va_up (va_up I_U 0 ((I_U 0) + (1 : Int32))) 2 ((I_U 2) ||| ((r_1 &&& (127 : Int32)) <<< (((7 : Int32) * v1) &&& 31)))) ++ kc_T cA a_T I_T A_T) (st_UT_UI2 ..) ?_
        refine vv_iload_n hC d_U_readSevens_68 2 rfl rfl ?_
        refine vv_sipush hC d_U_readSevens_69 (v := (128 : Int32)) (by decide) ?_
        refine vv_icmp_ge hC 77 d_U_readSevens_72 (by decide) (fun cd => ?_) (fun cd => ?_)
        · have hw := hw.1 cd
          refine vv_iinc hC d_U_readSevens_77 1 rfl (v := (v1 + (1 : Int32))) rfl (by decide) [1, 0, 2] (L2 := [(0, .ref (a_U 0)), (1, .int (v1 + (1 : Int32))), (2, .int r_1)]) rfl ?_
          refine vv_goto hC 15 d_U_readSevens_80 (by decide) ?_
          exact vv_sub [0, 1] (by rfl) (ih (va_up (va_up I_U 0 ((I_U 0) + (1 : Int32))) 2 ((I_U 2) ||| ((r_1 &&& (127 : Int32)) <<< (((7 : Int32) * v1) &&& 31)))) (v1 + (1 : Int32)) hw)
        · have hw := hw.2 cd
          refine vv_iconst hC d_U_readSevens_75 (v := (1 : Int32)) (by decide) ?_
          exact vv_zret hC d_U_readSevens_76 rfl (va_up (va_up I_U 0 ((I_U 0) + (1 : Int32))) 2 ((I_U 2) ||| ((r_1 &&& (127 : Int32)) <<< (((7 : Int32) * v1) &&& 31)))) hw rfl
      · have hw := hw.1 cd
        refine vv_aload_n hC d_U_readSevens_30 0 rfl rfl ?_
        refine vv_iconst hC d_U_readSevens_31 (v := (1 : Int32)) (by decide) ?_
        refine vv_aload_n hC d_U_readSevens_32 0 rfl rfl ?_
        refine vv_get hC (v := .int (I_U 0)) hin_U 0 1 tb_81 d_U_readSevens_33 rfl rfl (by decide) rfl rfl ?_
        refine vv_callVI (wr := []) hC (c_U_fail l D cA sx a_U a_T I_U I_T A_T (1 : Int32) (I_U 0) _ hw) (cw_U_44 hC) d_U_readSevens_36 [] [0, 1, 2, 3] [] [0, 1, 2, 3] (fun u_4 : (Nat → Int32) => kc_U cA a_U a_T u_4 ++ kc_T cA a_T I_T A_T) ⟨Nat.zero_le _, Nat.zero_le _⟩ rfl rfl (fun _ => rfl) rfl rfl rfl rfl rfl rfl rfl rfl (Nat.le_of_ble_eq_true rfl) (fun r_3 u_4 hw => ?_)
        obtain ⟨hnr_6, hw⟩ := hw
        exact vv_zret hC d_U_readSevens_39 hnr_6 u_4 hw rfl
set_option maxHeartbeats 4000000 in
set_option maxRecDepth 100000 in
theorem c_U_readSevens (l : Launch) (D : va_G) (cA : Nat → ClassId) (sx : Nat → Nat) (a_U a_T : Nat → Nat) (I_U : (Nat → Int32)) (I_T : (Nat → Int32)) (A_T : (Nat → Nat → Int32)) (Q : Int32 → (Nat → Int32) → Prop) (hw : wp_U_readSevens I_U I_T A_T Q) : MetI l y_U_readSevens (Cond.code y_U_readSevens b_U_readSevens 3 (some .boolean) :: TB) ({ frames := 1, cells := 0, slots := 0, locals := 22 } : Room) D vwCl (tyl cA) (SPl sx) [.ref (a_U 0)] (kc_U cA a_U a_T I_U ++ kc_T cA a_T I_T A_T) (fun (r : Int32) (u : (Nat → Int32)) => Q r u) (fun u : (Nat → Int32) => kc_U cA a_U a_T u ++ kc_T cA a_T I_T A_T) := by
  refine vv_entryI (cc := b_U_readSevens) (own := R_U) (L := [(0, .ref (a_U 0))]) (by decide) rfl rfl (Nat.le_of_ble_eq_true rfl) rfl (fun p e s m args below meth c A hC => ?_)
  unfold wp_U_readSevens at hw
  refine vv_aload_n hC d_U_readSevens_0 0 rfl rfl ?_
  refine vv_aload_n hC d_U_readSevens_1 0 rfl rfl ?_
  refine vv_get hC (v := .int (I_U 0)) hin_U 0 1 tb_81 d_U_readSevens_2 rfl rfl (by decide) rfl rfl ?_
  refine vv_put hC hin_U ty_U tyok_U nmok_U 0 2 tb_83 d_U_readSevens_5 rfl rfl (by decide) rfl rfl rfl rfl rfl (Nat.le_of_ble_eq_true rfl) (ws2 := kc_U cA a_U a_T (va_up I_U 1 (I_U 0)) ++ kc_T cA a_T I_T A_T) (st_UT_UI1 ..) ?_
  refine vv_aload_n hC d_U_readSevens_8 0 rfl rfl ?_
  refine vv_iconst hC d_U_readSevens_9 (v := (0 : Int32)) (by decide) ?_
  refine vv_put hC hin_U ty_U tyok_U nmok_U 0 3 tb_85 d_U_readSevens_10 rfl rfl (by decide) rfl rfl rfl rfl rfl (Nat.le_of_ble_eq_true rfl) (ws2 := kc_U cA a_U a_T (va_up (va_up I_U 1 (I_U 0)) 2 (0 : Int32)) ++ kc_T cA a_T I_T A_T) (st_UT_UI2 ..) ?_
  refine vv_iconst hC d_U_readSevens_13 (v := (0 : Int32)) (by decide) ?_
  refine vv_istore_n hC d_U_readSevens_14 rfl (by decide) [1, 0] (L2 := [(0, .ref (a_U 0)), (1, .int (0 : Int32))]) rfl ?_
  obtain ⟨m15, hw⟩ := hw
  refine vv_sub [0, 1] (by rfl) (l_U_readSevens_L15 a_U a_T I_T A_T Q _ hC (fun I_U_7 hw => ?_) m15 (va_up (va_up I_U 1 (I_U 0)) 2 (0 : Int32)) (0 : Int32) hw)
  refine vv_aload_n hC d_U_readSevens_83 0 rfl rfl ?_
  refine vv_iconst hC d_U_readSevens_84 (v := (1 : Int32)) (by decide) ?_
  refine vv_aload_n hC d_U_readSevens_85 0 rfl rfl ?_
  refine vv_get hC (v := .int (I_U_7 0)) hin_U 0 1 tb_81 d_U_readSevens_86 rfl rfl (by decide) rfl rfl ?_
  refine vv_callVI (wr := []) hC (c_U_fail l D cA sx a_U a_T I_U_7 I_T A_T (1 : Int32) (I_U_7 0) _ hw) (cw_U_44 hC) d_U_readSevens_89 [] [0, 1, 2, 3] [] [0, 1, 2, 3] (fun u_9 : (Nat → Int32) => kc_U cA a_U a_T u_9 ++ kc_T cA a_T I_T A_T) ⟨Nat.zero_le _, Nat.zero_le _⟩ rfl rfl (fun _ => rfl) rfl rfl rfl rfl rfl rfl rfl rfl (Nat.le_of_ble_eq_true rfl) (fun r_8 u_9 hw => ?_)
  obtain ⟨hnr_11, hw⟩ := hw
  exact vv_zret hC d_U_readSevens_92 hnr_11 u_9 hw rfl
