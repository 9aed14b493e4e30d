set_option maxHeartbeats 4000000 in
set_option maxRecDepth 100000 in
theorem c_X_forget (l : Launch) (D : va_G) (cA : Nat → ClassId) (sx : Nat → Nat) (a_X : Nat → Nat) (I_X : (Nat → Int32)) (A_X : (Nat → Nat → Int32)) (Q : (Nat → Int32) → Prop) (hw : wp_X_forget I_X Q) : MetV l y_X_forget (Cond.code y_X_forget b_X_forget 1 none :: TB) ({ frames := 0, cells := 0, slots := 0, locals := 0 } : Room) D vwCl (tyl cA) (SPl sx) [.ref (a_X 0)] (kc_X cA a_X I_X A_X) (fun (u : (Nat → Int32)) => Q u) (fun u : (Nat → Int32) => kc_X cA a_X u A_X) := by
  refine vv_entryV (cc := b_X_forget) (own := R_X) (L := [(0, .ref (a_X 0))]) (by decide) rfl rfl (Nat.le_of_ble_eq_true rfl) rfl (fun p e s m args below meth c A hC => ?_)
  unfold wp_X_forget at hw
  refine vv_aload_n hC d_X_forget_0 0 rfl rfl ?_
  refine vv_iconst hC d_X_forget_1 (v := (0 : Int32)) (by decide) ?_
  refine vv_put hC hin_X ty_X tyok_X nmok_X 0 2 tb_131 d_X_forget_2 rfl rfl (by decide) rfl rfl rfl rfl rfl (Nat.le_of_ble_eq_true rfl) (ws2 := kc_X cA a_X (va_up I_X 0 (0 : Int32)) A_X) (st_X_XI0 ..) ?_
  refine vv_aload_n hC d_X_forget_5 0 rfl rfl ?_
  refine vv_iconst hC d_X_forget_6 (v := (0 : Int32)) (by decide) ?_
  refine vv_put hC hin_X ty_X tyok_X nmok_X 0 3 tb_132 d_X_forget_7 rfl rfl (by decide) rfl rfl rfl rfl rfl (Nat.le_of_ble_eq_true rfl) (ws2 := kc_X cA a_X (va_up (va_up I_X 0 (0 : Int32)) 1 (0 : Int32)) A_X) (st_X_XI1 ..) ?_
  exact vv_vret hC d_X_forget_10 (va_up (va_up I_X 0 (0 : Int32)) 1 (0 : Int32)) hw rfl
set_option maxHeartbeats 4000000 in
set_option maxRecDepth 100000 in
theorem c_X_put (l : Launch) (D : va_G) (cA : Nat → ClassId) (sx : Nat → Nat) (a_X : Nat → Nat) (I_X : (Nat → Int32)) (A_X : (Nat → Nat → Int32)) (x1 : Int32) (Q : (Nat → Int32) → (Nat → Nat → Int32) → Prop) (hw : wp_X_put I_X A_X x1 Q) : MetV l y_X_put (Cond.code y_X_put b_X_put 2 none :: TB) ({ frames := 0, cells := 0, slots := 0, locals := 0 } : Room) D vwCl (tyl cA) (SPl sx) [.ref (a_X 0), .int x1] (kc_X cA a_X I_X A_X) (fun (u : (Nat → Int32) × (Nat → Nat → Int32)) => Q u.1 u.2) (fun u : (Nat → Int32) × (Nat → Nat → Int32) => kc_X cA a_X u.1 u.2) := by
  refine vv_entryV (cc := b_X_put) (own := R_X) (L := [(0, .ref (a_X 0)), (1, .int x1)]) (by decide) rfl rfl (Nat.le_of_ble_eq_true rfl) rfl (fun p e s m args below meth c A hC => ?_)
  unfold wp_X_put at hw
  refine vv_aload_n hC d_X_put_0 0 rfl rfl ?_
  refine vv_get hC (v := .int (I_X 0)) hin_X 0 2 tb_131 d_X_put_1 rfl rfl (by decide) rfl rfl ?_
  refine vv_sipush hC d_X_put_4 (v := (4654 : Int32)) (by decide) ?_
  refine vv_icmp_ge hC 30 d_X_put_7 (by decide) (fun cd => ?_) (fun cd => ?_)
  · have hw := hw.1 cd
    exact vv_vret hC d_X_put_30 (I_X, A_X) hw rfl
  · have hw := hw.2 cd
    refine vv_aload_n hC d_X_put_10 0 rfl rfl ?_
    refine vv_get hC (v := .ref (a_X 1)) hin_X 0 0 tb_129 d_X_put_11 rfl rfl (by decide) rfl rfl ?_
    refine vv_aload_n hC d_X_put_14 0 rfl rfl ?_
    refine vv_get hC (v := .int (I_X 0)) hin_X 0 2 tb_131 d_X_put_15 rfl rfl (by decide) rfl rfl ?_
    refine vv_iload_n hC d_X_put_18 1 rfl rfl ?_
    obtain ⟨hin_1, hw⟩ := hw
    refine vv_iast hC 1 0 d_X_put_19 rfl rfl hin_1 (ws2 := kc_X cA a_X I_X (va_up A_X 0 (upd (A_X 0) ((I_X 0)).toNatClampNeg x1))) (st_X_XA0 ..) ?_
    refine vv_aload_n hC d_X_put_20 0 rfl rfl ?_
    refine vv_dup hC d_X_put_21 rfl ?_
    refine vv_get hC (v := .int (I_X 0)) hin_X 0 2 tb_131 d_X_put_22 rfl rfl (by decide) rfl rfl ?_
    refine vv_iconst hC d_X_put_25 (v := (1 : Int32)) (by decide) ?_
    refine vv_iadd hC d_X_put_26 ?_
    refine vv_put hC hin_X ty_X tyok_X nmok_X 0 2 tb_131 d_X_put_27 rfl rfl (by decide) rfl rfl rfl rfl rfl (Nat.le_of_ble_eq_true rfl) (ws2 := kc_X cA a_X (va_up I_X 0 ((I_X 0) + (1 : Int32))) (va_up A_X 0 (upd (A_X 0) ((I_X 0)).toNatClampNeg x1))) (st_X_XI0 ..) ?_
    exact vv_vret hC d_X_put_30 ((va_up I_X 0 ((I_X 0) + (1 : Int32))), (va_up A_X 0 (upd (A_X 0) ((I_X 0)).toNatClampNeg x1))) hw rfl
set_option maxHeartbeats 4000000 in
set_option maxRecDepth 100000 in
theorem l_X_putNumber_b37 {p : Program} {l : Launch} {e : Env} {s : State} {m : MethodId} {args : Array Value} {below : List Frame} {meth : Method} {c : Code} {D : va_G} {cA : Nat → ClassId} {sx : Nat → Nat} {A : Nat → Prop} (a_X : Nat → Nat) (Q : (Nat → Int32) → (Nat → Nat → Int32) → Prop) (hC : CX p s m args meth c b_X_putNumber R_X TB 3 D vwCl (tyl cA) A (SPl sx) none) : ∀ (I_X : (Nat → Int32)) (A_X : (Nat → Nat → Int32)) (v1 : Int32) (v2 : Int32), wp_X_putNumber_b37 Q I_X A_X v1 v2 → VV p l e ({ frames := 1, cells := 0, slots := 0, locals := 21 } : Room) s m args below meth c 3 D vwCl A 0 0 (QV below args s D vwCl (tyl cA) A (fun (u : (Nat → Int32) × (Nat → Nat → Int32)) => Q u.1 u.2) (fun u : (Nat → Int32) × (Nat → Nat → Int32) => kc_X cA a_X u.1 u.2)) (kc_X cA a_X I_X A_X) 37 [(0, .ref (a_X 0)), (1, .int v1), (2, .int v2)] [] := by
  intro I_X A_X v1 v2 hw
  unfold wp_X_putNumber_b37 at hw
  refine vv_aload_n hC d_X_putNumber_37 0 rfl rfl ?_
  refine vv_bipush hC d_X_putNumber_38 (v := (48 : Int32)) (by decide) ?_
  refine vv_iload_n hC d_X_putNumber_40 1 rfl rfl ?_
  refine vv_bipush hC d_X_putNumber_41 (v := (10 : Int32)) (by decide) ?_
  refine vv_irem hC d_X_putNumber_43 (by decide) ?_
  refine vv_iadd hC d_X_putNumber_44 ?_
  refine vv_callVV (wr := []) hC (c_X_put l D cA sx a_X I_X A_X ((48 : Int32) + (v1 - v1 / (10 : Int32) * (10 : Int32))) _ hw) (cw_X_90 hC) d_X_putNumber_45 [] [0, 1, 2] [] [0, 1, 2] (fun u_1 : (Nat → Int32) × (Nat → Nat → Int32) => kc_X cA a_X u_1.1 u_1.2) ⟨Nat.zero_le _, Nat.zero_le _⟩ rfl rfl (fun _ => rfl) rfl rfl rfl rfl rfl rfl rfl rfl (Nat.le_of_ble_eq_true rfl) (fun u_1 hw => ?_)
  refine vv_aload_n hC d_X_putNumber_48 0 rfl rfl ?_
  refine vv_iload_n hC d_X_putNumber_49 2 rfl rfl ?_
  refine vv_callVV (wr := []) hC (c_X_put l D cA sx a_X u_1.1 u_1.2 v2 _ hw) (cw_X_90 hC) d_X_putNumber_50 [] [0, 1, 2] [] [0, 1, 2] (fun u_4 : (Nat → Int32) × (Nat → Nat → Int32) => kc_X cA a_X u_4.1 u_4.2) ⟨Nat.zero_le _, Nat.zero_le _⟩ rfl rfl (fun _ => rfl) rfl rfl rfl rfl rfl rfl rfl rfl (Nat.le_of_ble_eq_true rfl) (fun u_4 hw => ?_)
  exact vv_vret hC d_X_putNumber_53 (u_4.1, u_4.2) hw rfl
set_option maxHeartbeats 4000000 in
set_option maxRecDepth 100000 in
theorem l_X_putNumber_b17 {p : Program} {l : Launch} {e : Env} {s : State} {m : MethodId} {args : Array Value} {below : List Frame} {meth : Method} {c : Code} {D : va_G} {cA : Nat → ClassId} {sx : Nat → Nat} {A : Nat → Prop} (a_X : Nat → Nat) (Q : (Nat → Int32) → (Nat → Nat → Int32) → Prop) (hC : CX p s m args meth c b_X_putNumber R_X TB 3 D vwCl (tyl cA) A (SPl sx) none) : ∀ (I_X : (Nat → Int32)) (A_X : (Nat → Nat → Int32)) (v1 : Int32) (v2 : Int32), wp_X_putNumber_b17 Q I_X A_X v1 v2 → VV p l e ({ frames := 1, cells := 0, slots := 0, locals := 21 } : Room) s m args below meth c 3 D vwCl A 0 0 (QV below args s D vwCl (tyl cA) A (fun (u : (Nat → Int32) × (Nat → Nat → Int32)) => Q u.1 u.2) (fun u : (Nat → Int32) × (Nat → Nat → Int32) => kc_X cA a_X u.1 u.2)) (kc_X cA a_X I_X A_X) 17 [(0, .ref (a_X 0)), (1, .int v1), (2, .int v2)] [] := by
  intro I_X A_X v1 v2 hw
  unfold wp_X_putNumber_b17 at hw
  refine vv_iload_n hC d_X_putNumber_17 1 rfl rfl ?_
  refine vv_bipush hC d_X_putNumber_18 (v := (10 : Int32)) (by decide) ?_
  refine vv_icmp_lt hC 37 d_X_putNumber_20 (by decide) (fun cd => ?_) (fun cd => ?_)
  · have hw := hw.1 cd
    exact vv_sub [0, 1, 2] (by rfl) (l_X_putNumber_b37 a_X Q hC I_X A_X v1 v2 hw)
  · have hw := hw.2 cd
    refine vv_aload_n hC d_X_putNumber_23 0 rfl rfl ?_
    refine vv_bipush hC d_X_putNumber_24 (v := (48 : Int32)) (by decide) ?_
    refine vv_iload_n hC d_X_putNumber_26 1 rfl rfl ?_
    refine vv_bipush hC d_X_putNumber_27 (v := (10 : Int32)) (by decide) ?_
    refine vv_idiv hC d_X_putNumber_29 (by decide) ?_
    refine vv_bipush hC d_X_putNumber_30 (v := (10 : Int32)) (by decide) ?_
    refine vv_irem hC d_X_putNumber_32 (by decide) ?_
    refine vv_iadd hC d_X_putNumber_33 ?_
    refine vv_callVV (wr := []) hC (c_X_put l D cA sx a_X I_X A_X ((48 : Int32) + ((v1 / (10 : Int32)) - (v1 / (10 : Int32)) / (10 : Int32) * (10 : Int32))) _ hw) (cw_X_90 hC) d_X_putNumber_34 [] [0, 1, 2] [] [0, 1, 2] (fun u_7 : (Nat → Int32) × (Nat → Nat → Int32) => kc_X cA a_X u_7.1 u_7.2) ⟨Nat.zero_le _, Nat.zero_le _⟩ rfl rfl (fun _ => rfl) rfl rfl rfl rfl rfl rfl rfl rfl (Nat.le_of_ble_eq_true rfl) (fun u_7 hw => ?_)
    exact vv_sub [0, 1, 2] (by rfl) (l_X_putNumber_b37 a_X Q hC u_7.1 u_7.2 v1 v2 hw)
set_option maxHeartbeats 4000000 in
set_option maxRecDepth 100000 in
theorem c_X_putNumber (l : Launch) (D : va_G) (cA : Nat → ClassId) (sx : Nat → Nat) (a_X : Nat → Nat) (I_X : (Nat → Int32)) (A_X : (Nat → Nat → Int32)) (x1 x2 : Int32) (Q : (Nat → Int32) → (Nat → Nat → Int32) → Prop) (hw : wp_X_putNumber I_X A_X x1 x2 Q) : MetV l y_X_putNumber (Cond.code y_X_putNumber b_X_putNumber 3 none :: TB) ({ frames := 1, cells := 0, slots := 0, locals := 21 } : Room) D vwCl (tyl cA) (SPl sx) [.ref (a_X 0), .int x1, .int x2] (kc_X cA a_X I_X A_X) (fun (u : (Nat → Int32) × (Nat → Nat → Int32)) => Q u.1 u.2) (fun u : (Nat → Int32) × (Nat → Nat → Int32) => kc_X cA a_X u.1 u.2) := by
  refine vv_entryV (cc := b_X_putNumber) (own := R_X) (L := [(0, .ref (a_X 0)), (1, .int x1), (2, .int x2)]) (by decide) rfl rfl (Nat.le_of_ble_eq_true rfl) rfl (fun p e s m args below meth c A hC => ?_)
  unfold wp_X_putNumber at hw
  refine vv_iload_n hC d_X_putNumber_0 1 rfl rfl ?_
  refine vv_bipush hC d_X_putNumber_1 (v := (100 : Int32)) (by decide) ?_
  refine vv_icmp_lt hC 17 d_X_putNumber_3 (by decide) (fun cd => ?_) (fun cd => ?_)
  · have hw := hw.1 cd
    exact vv_sub [0, 1, 2] (by rfl) (l_X_putNumber_b17 a_X Q hC I_X A_X x1 x2 hw)
  · have hw := hw.2 cd
    refine vv_aload_n hC d_X_putNumber_6 0 rfl rfl ?_
    refine vv_bipush hC d_X_putNumber_7 (v := (48 : Int32)) (by decide) ?_
    refine vv_iload_n hC d_X_putNumber_9 1 rfl rfl ?_
    refine vv_bipush hC d_X_putNumber_10 (v := (100 : Int32)) (by decide) ?_
    refine vv_idiv hC d_X_putNumber_12 (by decide) ?_
    refine vv_iadd hC d_X_putNumber_13 ?_
    refine vv_callVV (wr := []) hC (c_X_put l D cA sx a_X I_X A_X ((48 : Int32) + (x1 / (100 : Int32))) _ hw) (cw_X_90 hC) d_X_putNumber_14 [] [0, 1, 2] [] [0, 1, 2] (fun u_10 : (Nat → Int32) × (Nat → Nat → Int32) => kc_X cA a_X u_10.1 u_10.2) ⟨Nat.zero_le _, Nat.zero_le _⟩ rfl rfl (fun _ => rfl) rfl rfl rfl rfl rfl rfl rfl rfl (Nat.le_of_ble_eq_true rfl) (fun u_10 hw => ?_)
    exact vv_sub [0, 1, 2] (by rfl) (l_X_putNumber_b17 a_X Q hC u_10.1 u_10.2 x1 x2 hw)
set_option maxHeartbeats 4000000 in
set_option maxRecDepth 100000 in
theorem c_X_putHeader (l : Launch) (D : va_G) (cA : Nat → ClassId) (sx : Nat → Nat) (a_X a_C : Nat → Nat) (I_X : (Nat → Int32)) (A_X : (Nat → Nat → Int32)) (I_C : (Nat → Int32)) (A_C : (Nat → Nat → Int32)) (x2 x3 : Int32) (Q : (Nat → Int32) → (Nat → Nat → Int32) → Prop) (hw : wp_X_putHeader I_X A_X I_C x2 x3 Q) : MetV l y_X_putHeader (Cond.code y_X_putHeader b_X_putHeader 4 none :: TB) ({ frames := 2, cells := 0, slots := 0, locals := 43 } : Room) D vwCl (tyl cA) (SPl sx) [.ref (a_X 0), .ref (a_C 0), .int x2, .int x3] (kc_X cA a_X I_X A_X ++ kc_C cA a_C I_C A_C) (fun (u : (Nat → Int32) × (Nat → Nat → Int32)) => Q u.1 u.2) (fun u : (Nat → Int32) × (Nat → Nat → Int32) => kc_X cA a_X u.1 u.2 ++ kc_C cA a_C I_C A_C) := by
  refine vv_entryV (cc := b_X_putHeader) (own := R_X) (L := [(0, .ref (a_X 0)), (1, .ref (a_C 0)), (2, .int x2), (3, .int x3)]) (by decide) rfl rfl (Nat.le_of_ble_eq_true rfl) rfl (fun p e s m args below meth c A hC => ?_)
  unfold wp_X_putHeader at hw
  refine vv_aload_n hC d_X_putHeader_0 0 rfl rfl ?_
  refine vv_bipush hC d_X_putHeader_1 (v := (97 : Int32)) (by decide) ?_
  refine vv_callVV (wr := kc_C cA a_C I_C A_C) hC (c_X_put l D cA sx a_X I_X A_X (97 : Int32) _ hw) (cw_X_90 hC) d_X_putHeader_3 [] [0, 1, 2] [3, 4, 5, 6, 7, 8, 9, 10, 11, 12, 13, 14, 15] [13, 14, 15, 0, 1, 2, 3, 4, 5, 6, 7, 8, 9, 10, 11, 12] (fun u_1 : (Nat → Int32) × (Nat → Nat → Int32) => kc_X cA a_X u_1.1 u_1.2 ++ kc_C cA a_C I_C A_C) ⟨Nat.zero_le _, Nat.zero_le _⟩ rfl rfl (fun _ => rfl) rfl rfl rfl rfl rfl rfl rfl rfl (Nat.le_of_ble_eq_true rfl) (fun u_1 hw => ?_)
  refine vv_aload_n hC d_X_putHeader_6 0 rfl rfl ?_
  refine vv_iload_n hC d_X_putHeader_7 2 rfl rfl ?_
  refine vv_callVV (wr := kc_C cA a_C I_C A_C) hC (c_X_put l D cA sx a_X u_1.1 u_1.2 x2 _ hw) (cw_X_90 hC) d_X_putHeader_8 [] [0, 1, 2] [3, 4, 5, 6, 7, 8, 9, 10, 11, 12, 13, 14, 15] [13, 14, 15, 0, 1, 2, 3, 4, 5, 6, 7, 8, 9, 10, 11, 12] (fun u_4 : (Nat → Int32) × (Nat → Nat → Int32) => kc_X cA a_X u_4.1 u_4.2 ++ kc_C cA a_C I_C A_C) ⟨Nat.zero_le _, Nat.zero_le _⟩ rfl rfl (fun _ => rfl) rfl rfl rfl rfl rfl rfl rfl rfl (Nat.le_of_ble_eq_true rfl) (fun u_4 hw => ?_)
  refine vv_aload_n hC d_X_putHeader_11 0 rfl rfl ?_
  refine vv_bipush hC d_X_putHeader_12 (v := (103 : Int32)) (by decide) ?_
  refine vv_callVV (wr := kc_C cA a_C I_C A_C) hC (c_X_put l D cA sx a_X u_4.1 u_4.2 (103 : Int32) _ hw) (cw_X_90 hC) d_X_putHeader_14 [] [0, 1, 2] [3, 4, 5, 6, 7, 8, 9, 10, 11, 12, 13, 14, 15] [13, 14, 15, 0, 1, 2, 3, 4, 5, 6, 7, 8, 9, 10, 11, 12] (fun u_7 : (Nat → Int32) × (Nat → Nat → Int32) => kc_X cA a_X u_7.1 u_7.2 ++ kc_C cA a_C I_C A_C) ⟨Nat.zero_le _, Nat.zero_le _⟩ rfl rfl (fun _ => rfl) rfl rfl rfl rfl rfl rfl rfl rfl (Nat.le_of_ble_eq_true rfl) (fun u_7 hw => ?_)
  refine vv_aload_n hC d_X_putHeader_17 0 rfl rfl ?_
  refine vv_bipush hC d_X_putHeader_18 (v := (32 : Int32)) (by decide) ?_
  refine vv_callVV (wr := kc_C cA a_C I_C A_C) hC (c_X_put l D cA sx a_X u_7.1 u_7.2 (32 : Int32) _ hw) (cw_X_90 hC) d_X_putHeader_20 [] [0, 1, 2] [3, 4, 5, 6, 7, 8, 9, 10, 11, 12, 13, 14, 15] [13, 14, 15, 0, 1, 2, 3, 4, 5, 6, 7, 8, 9, 10, 11, 12] (fun u_10 : (Nat → Int32) × (Nat → Nat → Int32) => kc_X cA a_X u_10.1 u_10.2 ++ kc_C cA a_C I_C A_C) ⟨Nat.zero_le _, Nat.zero_le _⟩ rfl rfl (fun _ => rfl) rfl rfl rfl rfl rfl rfl rfl rfl (Nat.le_of_ble_eq_true rfl) (fun u_10 hw => ?_)
  refine vv_aload_n hC d_X_putHeader_23 0 rfl rfl ?_
  refine vv_iload_n hC d_X_putHeader_24 3 rfl rfl ?_
  refine vv_bipush hC d_X_putHeader_25 (v := (32 : Int32)) (by decide) ?_
  refine vv_callVV (wr := kc_C cA a_C I_C A_C) hC (c_X_putNumber l D cA sx a_X u_10.1 u_10.2 x3 (32 : Int32) _ hw) (cw_X_41 hC) d_X_putHeader_27 [] [0, 1, 2] [3, 4, 5, 6, 7, 8, 9, 10, 11, 12, 13, 14, 15] [13, 14, 15, 0, 1, 2, 3, 4, 5, 6, 7, 8, 9, 10, 11, 12] (fun u_13 : (Nat → Int32) × (Nat → Nat → Int32) => kc_X cA a_X u_13.1 u_13.2 ++ kc_C cA a_C I_C A_C) ⟨Nat.zero_le _, Nat.zero_le _⟩ rfl rfl (fun _ => rfl) rfl rfl rfl rfl rfl rfl rfl rfl (Nat.le_of_ble_eq_true rfl) (fun u_13 hw => ?_)
  refine vv_aload_n hC d_X_putHeader_30 0 rfl rfl ?_
  refine vv_aload_n hC d_X_putHeader_31 1 rfl rfl ?_
  refine vv_get hC (v := .int (I_C 1)) hin_C 3 1 tb_154 d_X_putHeader_32 rfl rfl (by decide) rfl rfl ?_
  refine vv_bipush hC d_X_putHeader_35 (v := (32 : Int32)) (by decide) ?_
  refine vv_callVV (wr := kc_C cA a_C I_C A_C) hC (c_X_putNumber l D cA sx a_X u_13.1 u_13.2 (I_C 1) (32 : Int32) _ hw) (cw_X_41 hC) d_X_putHeader_37 [] [0, 1, 2] [3, 4, 5, 6, 7, 8, 9, 10, 11, 12, 13, 14, 15] [13, 14, 15, 0, 1, 2, 3, 4, 5, 6, 7, 8, 9, 10, 11, 12] (fun u_16 : (Nat → Int32) × (Nat → Nat → Int32) => kc_X cA a_X u_16.1 u_16.2 ++ kc_C cA a_C I_C A_C) ⟨Nat.zero_le _, Nat.zero_le _⟩ rfl rfl (fun _ => rfl) rfl rfl rfl rfl rfl rfl rfl rfl (Nat.le_of_ble_eq_true rfl) (fun u_16 hw => ?_)
  refine vv_aload_n hC d_X_putHeader_40 0 rfl rfl ?_
  refine vv_aload_n hC d_X_putHeader_41 1 rfl rfl ?_
  refine vv_get hC (v := .int (I_C 2)) hin_C 3 2 tb_158 d_X_putHeader_42 rfl rfl (by decide) rfl rfl ?_
  refine vv_bipush hC d_X_putHeader_45 (v := (32 : Int32)) (by decide) ?_
  refine vv_callVV (wr := kc_C cA a_C I_C A_C) hC (c_X_putNumber l D cA sx a_X u_16.1 u_16.2 (I_C 2) (32 : Int32) _ hw) (cw_X_41 hC) d_X_putHeader_47 [] [0, 1, 2] [3, 4, 5, 6, 7, 8, 9, 10, 11, 12, 13, 14, 15] [13, 14, 15, 0, 1, 2, 3, 4, 5, 6, 7, 8, 9, 10, 11, 12] (fun u_19 : (Nat → Int32) × (Nat → Nat → Int32) => kc_X cA a_X u_19.1 u_19.2 ++ kc_C cA a_C I_C A_C) ⟨Nat.zero_le _, Nat.zero_le _⟩ rfl rfl (fun _ => rfl) rfl rfl rfl rfl rfl rfl rfl rfl (Nat.le_of_ble_eq_true rfl) (fun u_19 hw => ?_)
  refine vv_aload_n hC d_X_putHeader_50 0 rfl rfl ?_
  refine vv_aload_n hC d_X_putHeader_51 1 rfl rfl ?_
  refine vv_get hC (v := .int (I_C 3)) hin_C 3 3 tb_162 d_X_putHeader_52 rfl rfl (by decide) rfl rfl ?_
  refine vv_bipush hC d_X_putHeader_55 (v := (32 : Int32)) (by decide) ?_
  refine vv_callVV (wr := kc_C cA a_C I_C A_C) hC (c_X_putNumber l D cA sx a_X u_19.1 u_19.2 (I_C 3) (32 : Int32) _ hw) (cw_X_41 hC) d_X_putHeader_57 [] [0, 1, 2] [3, 4, 5, 6, 7, 8, 9, 10, 11, 12, 13, 14, 15] [13, 14, 15, 0, 1, 2, 3, 4, 5, 6, 7, 8, 9, 10, 11, 12] (fun u_22 : (Nat → Int32) × (Nat → Nat → Int32) => kc_X cA a_X u_22.1 u_22.2 ++ kc_C cA a_C I_C A_C) ⟨Nat.zero_le _, Nat.zero_le _⟩ rfl rfl (fun _ => rfl) rfl rfl rfl rfl rfl rfl rfl rfl (Nat.le_of_ble_eq_true rfl) (fun u_22 hw => ?_)
  refine vv_aload_n hC d_X_putHeader_60 0 rfl rfl ?_
  refine vv_aload_n hC d_X_putHeader_61 1 rfl rfl ?_
  refine vv_get hC (v := .int (I_C 4)) hin_C 3 4 tb_168 d_X_putHeader_62 rfl rfl (by decide) rfl rfl ?_
  refine vv_bipush hC d_X_putHeader_65 (v := (10 : Int32)) (by decide) ?_
  refine vv_callVV (wr := kc_C cA a_C I_C A_C) hC (c_X_putNumber l D cA sx a_X u_22.1 u_22.2 (I_C 4) (10 : Int32) _ hw) (cw_X_41 hC) d_X_putHeader_67 [] [0, 1, 2] [3, 4, 5, 6, 7, 8, 9, 10, 11, 12, 13, 14, 15] [13, 14, 15, 0, 1, 2, 3, 4, 5, 6, 7, 8, 9, 10, 11, 12] (fun u_25 : (Nat → Int32) × (Nat → Nat → Int32) => kc_X cA a_X u_25.1 u_25.2 ++ kc_C cA a_C I_C A_C) ⟨Nat.zero_le _, Nat.zero_le _⟩ rfl rfl (fun _ => rfl) rfl rfl rfl rfl rfl rfl rfl rfl (Nat.le_of_ble_eq_true rfl) (fun u_25 hw => ?_)
  exact vv_vret hC d_X_putHeader_70 (u_25.1, u_25.2) hw rfl
set_option maxHeartbeats 4000000 in
set_option maxRecDepth 100000 in
theorem l_X_putName_L2 {p : Program} {l : Launch} {e : Env} {s : State} {m : MethodId} {args : Array Value} {below : List Frame} {meth : Method} {c : Code} {D : va_G} {cA : Nat → ClassId} {sx : Nat → Nat} {A : Nat → Prop} (a_X a_C : Nat → Nat) (I_C : (Nat → Int32)) (A_C : (Nat → Nat → Int32)) (Q : (Nat → Int32) → (Nat → Nat → Int32) → Prop) (X2 : (Nat → Int32) → (Nat → Nat → Int32) → Prop) (hC : CX p s m args meth c b_X_putName R_X TB 4 D vwCl (tyl cA) A (SPl sx) none) (hX2 : ∀ (I_X : (Nat → Int32)) (A_X : (Nat → Nat → Int32)), X2 I_X A_X → VV p l e ({ frames := 1, cells := 0, slots := 0, locals := 21 } : Room) s m args below meth c 4 D vwCl A 0 0 (QV below args s D vwCl (tyl cA) A (fun (u : (Nat → Int32) × (Nat → Nat → Int32)) => Q u.1 u.2) (fun u : (Nat → Int32) × (Nat → Nat → Int32) => kc_X cA a_X u.1 u.2 ++ kc_C cA a_C I_C A_C)) (kc_X cA a_X I_X A_X ++ kc_C cA a_C I_C A_C) 33 [(0, .ref (a_X 0))] []) : ∀ (n2 : Nat) (I_X : (Nat → Int32)) (A_X : (Nat → Nat → Int32)) (v2 : Int32) (v3 : Int32), wp_X_putName_L2 A_C Q X2 n2 I_X A_X v2 v3 → VV p l e ({ frames := 1, cells := 0, slots := 0, locals := 21 } : Room) s m args below meth c 4 D vwCl A 0 0 (QV below args s D vwCl (tyl cA) A (fun (u : (Nat → Int32) × (Nat → Nat → Int32)) => Q u.1 u.2) (fun u : (Nat → Int32) × (Nat → Nat → Int32) => kc_X cA a_X u.1 u.2 ++ kc_C cA a_C I_C A_C)) (kc_X cA a_X I_X A_X ++ kc_C cA a_C I_C A_C) 2 [(0, .ref (a_X 0)), (1, .ref (a_C 0)), (2, .int v2), (3, .int v3)] [] := by
  intro n2
  induction n2 with
  | zero =>
    intro I_X A_X v2 v3 hw
    exact absurd hw (fun z => z)
  | succ n2 ih =>
    intro I_X A_X v2 v3 hw
    unfold wp_X_putName_L2 at hw
    refine vv_iload_n hC d_X_putName_2 3 rfl rfl ?_
    refine vv_aload_n hC d_X_putName_3 1 rfl rfl ?_
    refine vv_get hC (v := .ref (a_C 10)) hin_C 3 15 tb_205 d_X_putName_4 rfl rfl (by decide) rfl rfl ?_
    refine vv_iload_n hC d_X_putName_7 2 rfl rfl ?_
    obtain ⟨hin_1, hw⟩ := hw
    refine vv_iald hC 13 0 d_X_putName_8 rfl rfl hin_1 ?_
    refine vv_icmp_ge hC 33 d_X_putName_9 (by decide) (fun cd => ?_) (fun cd => ?_)
    · have hw := hw.1 cd
      exact vv_sub [0] (by rfl) (hX2 I_X A_X hw)
    · have hw := hw.2 cd
      refine vv_aload_n hC d_X_putName_12 0 rfl rfl ?_
      refine vv_aload_n hC d_X_putName_13 1 rfl rfl ?_
      refine vv_get hC (v := .ref (a_C 11)) hin_C 3 16 tb_209 d_X_putName_14 rfl rfl (by decide) rfl rfl ?_
      refine vv_iload_n hC d_X_putName_17 2 rfl rfl ?_
      refine vv_bipush hC d_X_putName_18 (v := (40 : Int32)) (by decide) ?_
      refine vv_imul hC d_X_putName_20 ?_
      refine vv_iload_n hC d_X_putName_21 3 rfl rfl ?_
      refine vv_iadd hC d_X_putName_22 ?_
      obtain ⟨hin_2, hw⟩ := hw
      refine vv_iald hC 14 0 d_X_putName_23 rfl rfl hin_2 ?_
      refine vv_callVV (wr := kc_C cA a_C I_C A_C) hC (c_X_put l D cA sx a_X I_X A_X ((A_C 10) (((v2 * (40 : Int32)) + v3)).toNatClampNeg) _ hw) (cw_X_90 hC) d_X_putName_24 [] [0, 1, 2] [3, 4, 5, 6, 7, 8, 9, 10, 11, 12, 13, 14, 15] [13, 14, 15, 0, 1, 2, 3, 4, 5, 6, 7, 8, 9, 10, 11, 12] (fun u_3 : (Nat → Int32) × (Nat → Nat → Int32) => kc_X cA a_X u_3.1 u_3.2 ++ kc_C cA a_C I_C A_C) ⟨Nat.zero_le _, Nat.zero_le _⟩ rfl rfl (fun _ => rfl) rfl rfl rfl rfl rfl rfl rfl rfl (Nat.le_of_ble_eq_true rfl) (fun u_3 hw => ?_)
      refine vv_iinc hC d_X_putName_27 3 rfl (v := (v3 + (1 : Int32))) rfl (by decide) [1, 2, 3, 0] (L2 := [(0, .ref (a_X 0)), (1, .ref (a_C 0)), (2, .int v2), (3, .int (v3 + (1 : Int32)))]) rfl ?_
      refine vv_goto hC 2 d_X_putName_30 (by decide) ?_
      exact vv_sub [0, 1, 2, 3] (by rfl) (ih u_3.1 u_3.2 v2 (v3 + (1 : Int32)) hw)
set_option maxHeartbeats 4000000 in
set_option maxRecDepth 100000 in
theorem c_X_putName (l : Launch) (D : va_G) (cA : Nat → ClassId) (sx : Nat → Nat) (a_X a_C : Nat → Nat) (I_X : (Nat → Int32)) (A_X : (Nat → Nat → Int32)) (I_C : (Nat → Int32)) (A_C : (Nat → Nat → Int32)) (x2 : Int32) (Q : (Nat → Int32) → (Nat → Nat → Int32) → Prop) (hw : wp_X_putName I_X A_X A_C x2 Q) : MetV l y_X_putName (Cond.code y_X_putName b_X_putName 4 none :: TB) ({ frames := 1, cells := 0, slots := 0, locals := 21 } : Room) D vwCl (tyl cA) (SPl sx) [.ref (a_X 0), .ref (a_C 0), .int x2] (kc_X cA a_X I_X A_X ++ kc_C cA a_C I_C A_C) (fun (u : (Nat → Int32) × (Nat → Nat → Int32)) => Q u.1 u.2) (fun u : (Nat → Int32) × (Nat → Nat → Int32) => kc_X cA a_X u.1 u.2 ++ kc_C cA a_C I_C A_C) := by
  refine vv_entryV (cc := b_X_putName) (own := R_X) (L := [(0, .ref (a_X 0)), (1, .ref (a_C 0)), (2, .int x2)]) (by decide) rfl rfl (Nat.le_of_ble_eq_true rfl) rfl (fun p e s m args below meth c A hC => ?_)
  unfold wp_X_putName at hw
  refine vv_iconst hC d_X_putName_0 (v := (0 : Int32)) (by decide) ?_
  refine vv_istore_n hC d_X_putName_1 rfl (by decide) [1, 2, 3, 0] (L2 := [(0, .ref (a_X 0)), (1, .ref (a_C 0)), (2, .int x2), (3, .int (0 : Int32))]) rfl ?_
  obtain ⟨m2, hw⟩ := hw
  refine vv_sub [0, 1, 2, 3] (by rfl) (l_X_putName_L2 a_X a_C I_C A_C Q _ hC (fun I_X_6 A_X_7 hw => ?_) m2 I_X A_X x2 (0 : Int32) hw)
  refine vv_aload_n hC d_X_putName_33 0 rfl rfl ?_
  refine vv_bipush hC d_X_putName_34 (v := (10 : Int32)) (by decide) ?_
  refine vv_callVV (wr := kc_C cA a_C I_C A_C) hC (c_X_put l D cA sx a_X I_X_6 A_X_7 (10 : Int32) _ hw) (cw_X_90 hC) d_X_putName_36 [] [0, 1, 2] [3, 4, 5, 6, 7, 8, 9, 10, 11, 12, 13, 14, 15] [13, 14, 15, 0, 1, 2, 3, 4, 5, 6, 7, 8, 9, 10, 11, 12] (fun u_8 : (Nat → Int32) × (Nat → Nat → Int32) => kc_X cA a_X u_8.1 u_8.2 ++ kc_C cA a_C I_C A_C) ⟨Nat.zero_le _, Nat.zero_le _⟩ rfl rfl (fun _ => rfl) rfl rfl rfl rfl rfl rfl rfl rfl (Nat.le_of_ble_eq_true rfl) (fun u_8 hw => ?_)
  exact vv_vret hC d_X_putName_39 (u_8.1, u_8.2) hw rfl
set_option maxHeartbeats 4000000 in
set_option maxRecDepth 100000 in
theorem l_X_putSymbols_L9 {p : Program} {l : Launch} {e : Env} {s : State} {m : MethodId} {args : Array Value} {below : List Frame} {meth : Method} {c : Code} {D : va_G} {cA : Nat → ClassId} {sx : Nat → Nat} {A : Nat → Prop} (a_X a_C : Nat → Nat) (I_C : (Nat → Int32)) (A_C : (Nat → Nat → Int32)) (Q : (Nat → Int32) → (Nat → Nat → Int32) → Prop) (K2 : (Nat → Int32) → (Nat → Nat → Int32) → Int32 → Prop) (X2 : (Nat → Int32) → (Nat → Nat → Int32) → Prop) (X9 : (Nat → Int32) → (Nat → Nat → Int32) → Int32 → Prop) (hC : CX p s m args meth c b_X_putSymbols R_X TB 4 D vwCl (tyl cA) A (SPl sx) none) (hK2 : ∀ (I_X : (Nat → Int32)) (A_X : (Nat → Nat → Int32)) (v2 : Int32), K2 I_X A_X v2 → VV p l e ({ frames := 4, cells := 0, slots := 0, locals := 85 } : Room) s m args below meth c 4 D vwCl A 0 0 (QV below args s D vwCl (tyl cA) A (fun (u : (Nat → Int32) × (Nat → Nat → Int32)) => Q u.1 u.2) (fun u : (Nat → Int32) × (Nat → Nat → Int32) => kc_X cA a_X u.1 u.2 ++ kc_C cA a_C I_C A_C)) (kc_X cA a_X I_X A_X ++ kc_C cA a_C I_C A_C) 2 [(0, .ref (a_X 0)), (1, .ref (a_C 0)), (2, .int v2)] []) (hX2 : ∀ (I_X : (Nat → Int32)) (A_X : (Nat → Nat → Int32)), X2 I_X A_X → VV p l e ({ frames := 4, cells := 0, slots := 0, locals := 85 } : Room) s m args below meth c 4 D vwCl A 0 0 (QV below args s D vwCl (tyl cA) A (fun (u : (Nat → Int32) × (Nat → Nat → Int32)) => Q u.1 u.2) (fun u : (Nat → Int32) × (Nat → Nat → Int32) => kc_X cA a_X u.1 u.2 ++ kc_C cA a_C I_C A_C)) (kc_X cA a_X I_X A_X ++ kc_C cA a_C I_C A_C) 70 [] []) (hX9 : ∀ (I_X : (Nat → Int32)) (A_X : (Nat → Nat → Int32)) (v2 : Int32), X9 I_X A_X v2 → VV p l e ({ frames := 4, cells := 0, slots := 0, locals := 85 } : Room) s m args below meth c 4 D vwCl A 0 0 (QV below args s D vwCl (tyl cA) A (fun (u : (Nat → Int32) × (Nat → Nat → Int32)) => Q u.1 u.2) (fun u : (Nat → Int32) × (Nat → Nat → Int32) => kc_X cA a_X u.1 u.2 ++ kc_C cA a_C I_C A_C)) (kc_X cA a_X I_X A_X ++ kc_C cA a_C I_C A_C) 64 [(0, .ref (a_X 0)), (1, .ref (a_C 0)), (2, .int v2)] []) : ∀ (n9 : Nat) (I_X : (Nat → Int32)) (A_X : (Nat → Nat → Int32)) (v2 : Int32) (v3 : Int32), wp_X_putSymbols_L9 I_C A_C Q K2 X2 X9 n9 I_X A_X v2 v3 → VV p l e ({ frames := 4, cells := 0, slots := 0, locals := 85 } : Room) s m args below meth c 4 D vwCl A 0 0 (QV below args s D vwCl (tyl cA) A (fun (u : (Nat → Int32) × (Nat → Nat → Int32)) => Q u.1 u.2) (fun u : (Nat → Int32) × (Nat → Nat → Int32) => kc_X cA a_X u.1 u.2 ++ kc_C cA a_C I_C A_C)) (kc_X cA a_X I_X A_X ++ kc_C cA a_C I_C A_C) 9 [(0, .ref (a_X 0)), (1, .ref (a_C 0)), (2, .int v2), (3, .int v3)] [] := by
  intro n9
  induction n9 with
  | zero =>
    intro I_X A_X v2 v3 hw
    exact absurd hw (fun z => z)
  | succ n9 ih =>
    intro I_X A_X v2 v3 hw
    unfold wp_X_putSymbols_L9 at hw
    refine vv_iload_n hC d_X_putSymbols_9 3 rfl rfl ?_
    refine vv_aload_n hC d_X_putSymbols_10 1 rfl rfl ?_
    refine vv_iload_n hC d_X_putSymbols_11 2 rfl rfl ?_
    refine vv_callVI (wr := kc_X cA a_X I_X A_X) hC (c_C_countOf l D cA sx a_C I_C A_C v2 _ hw) (cw_X_106 hC) d_X_putSymbols_12 [.int v3] [3, 4, 5, 6, 7, 8, 9, 10, 11, 12, 13, 14, 15] [0, 1, 2] [0, 1, 2, 3, 4, 5, 6, 7, 8, 9, 10, 11, 12, 13, 14, 15] (fun u_2 : Unit => kc_X cA a_X I_X A_X ++ kc_C cA a_C I_C A_C) ⟨Nat.zero_le _, Nat.zero_le _⟩ rfl rfl (fun _ => rfl) rfl rfl rfl rfl rfl rfl rfl rfl (Nat.le_of_ble_eq_true rfl) (fun r_1 u_2 hw => ?_)
    refine vv_icmp_ge hC 64 d_X_putSymbols_15 (by decide) (fun cd => ?_) (fun cd => ?_)
    · have hw := hw.1 cd
      exact vv_sub [0, 1, 2] (by rfl) (hX9 I_X A_X v2 hw)
    · have hw := hw.2 cd
      refine vv_aload_n hC d_X_putSymbols_18 1 rfl rfl ?_
      refine vv_get hC (v := .ref (a_C 10)) hin_C 3 15 tb_205 d_X_putSymbols_19 rfl rfl (by decide) rfl rfl ?_
      refine vv_iload_n hC d_X_putSymbols_22 2 rfl rfl ?_
      refine vv_iload_n hC d_X_putSymbols_23 3 rfl rfl ?_
      refine vv_callSNI (wr := kc_X cA a_X I_X A_X ++ kc_C cA a_C I_C A_C) hC (c_F_slotOf l D cA sx v2 v3 _ hw) (cw_X_112 hC) d_X_putSymbols_24 [.ref (a_C 10)] [] [0, 1, 2, 3, 4, 5, 6, 7, 8, 9, 10, 11, 12, 13, 14, 15] [0, 1, 2, 3, 4, 5, 6, 7, 8, 9, 10, 11, 12, 13, 14, 15] (fun u_4 : Unit => kc_X cA a_X I_X A_X ++ kc_C cA a_C I_C A_C) ⟨Nat.zero_le _, Nat.zero_le _⟩ rfl rfl (fun _ => rfl) rfl rfl rfl rfl rfl rfl (Nat.le_of_ble_eq_true rfl) (fun r_3 u_4 hw => ?_)
      obtain ⟨hin_5, hw⟩ := hw
      refine vv_iald hC 13 0 d_X_putSymbols_27 rfl rfl hin_5 ?_
      refine vv_if_le hC 58 d_X_putSymbols_28 (by decide) (fun cd => ?_) (fun cd => ?_)
      · have hw := hw.1 cd
        refine vv_iinc hC d_X_putSymbols_58 3 rfl (v := (v3 + (1 : Int32))) rfl (by decide) [1, 2, 3, 0] (L2 := [(0, .ref (a_X 0)), (1, .ref (a_C 0)), (2, .int v2), (3, .int (v3 + (1 : Int32)))]) rfl ?_
        refine vv_goto hC 9 d_X_putSymbols_61 (by decide) ?_
        exact vv_sub [0, 1, 2, 3] (by rfl) (ih I_X A_X v2 (v3 + (1 : Int32)) hw)
      · have hw := hw.2 cd
        refine vv_aload_n hC d_X_putSymbols_31 0 rfl rfl ?_
        refine vv_ldcS hC hC.2.2.2.2.2.2.2.1.2.2.1.1 d_X_putSymbols_32 ?_
        refine vv_iload_n hC d_X_putSymbols_34 2 rfl rfl ?_
        obtain ⟨hin_6, hw⟩ := hw
        refine vv_charAt hC tb_360 d_X_putSymbols_35 hin_6 (Nat.le_of_ble_eq_true rfl) ⟨Nat.zero_le _, Nat.zero_le _⟩ ⟨Nat.le_of_ble_eq_true rfl, Nat.le_of_ble_eq_true rfl⟩ ?_
        refine vv_callVV (wr := kc_C cA a_C I_C A_C) hC (c_X_put l D cA sx a_X I_X A_X (kl v2) _ hw) (cw_X_90 hC) d_X_putSymbols_38 [] [0, 1, 2] [3, 4, 5, 6, 7, 8, 9, 10, 11, 12, 13, 14, 15] [13, 14, 15, 0, 1, 2, 3, 4, 5, 6, 7, 8, 9, 10, 11, 12] (fun u_7 : (Nat → Int32) × (Nat → Nat → Int32) => kc_X cA a_X u_7.1 u_7.2 ++ kc_C cA a_C I_C A_C) ⟨Nat.zero_le _, Nat.zero_le _⟩ rfl rfl (fun _ => rfl) rfl rfl rfl rfl rfl rfl rfl rfl (Nat.le_of_ble_eq_true rfl) (fun u_7 hw => ?_)
        refine vv_aload_n hC d_X_putSymbols_41 0 rfl rfl ?_
        refine vv_iload_n hC d_X_putSymbols_42 3 rfl rfl ?_
        refine vv_bipush hC d_X_putSymbols_43 (v := (32 : Int32)) (by decide) ?_
        refine vv_callVV (wr := kc_C cA a_C I_C A_C) hC (c_X_putNumber l D cA sx a_X u_7.1 u_7.2 v3 (32 : Int32) _ hw) (cw_X_41 hC) d_X_putSymbols_45 [] [0, 1, 2] [3, 4, 5, 6, 7, 8, 9, 10, 11, 12, 13, 14, 15] [13, 14, 15, 0, 1, 2, 3, 4, 5, 6, 7, 8, 9, 10, 11, 12] (fun u_10 : (Nat → Int32) × (Nat → Nat → Int32) => kc_X cA a_X u_10.1 u_10.2 ++ kc_C cA a_C I_C A_C) ⟨Nat.zero_le _, Nat.zero_le _⟩ rfl rfl (fun _ => rfl) rfl rfl rfl rfl rfl rfl rfl rfl (Nat.le_of_ble_eq_true rfl) (fun u_10 hw => ?_)
        refine vv_aload_n hC d_X_putSymbols_48 0 rfl rfl ?_
        refine vv_aload_n hC d_X_putSymbols_49 1 rfl rfl ?_
        refine vv_iload_n hC d_X_putSymbols_50 2 rfl rfl ?_
        refine vv_iload_n hC d_X_putSymbols_51 3 rfl rfl ?_
        refine vv_callSNI (wr := kc_X cA a_X u_10.1 u_10.2 ++ kc_C cA a_C I_C A_C) hC (c_F_slotOf l D cA sx v2 v3 _ hw) (cw_X_112 hC) d_X_putSymbols_52 [.ref (a_C 0), .ref (a_X 0)] [] [0, 1, 2, 3, 4, 5, 6, 7, 8, 9, 10, 11, 12, 13, 14, 15] [0, 1, 2, 3, 4, 5, 6, 7, 8, 9, 10, 11, 12, 13, 14, 15] (fun u_14 : Unit => kc_X cA a_X u_10.1 u_10.2 ++ kc_C cA a_C I_C A_C) ⟨Nat.zero_le _, Nat.zero_le _⟩ rfl rfl (fun _ => rfl) rfl rfl rfl rfl rfl rfl (Nat.le_of_ble_eq_true rfl) (fun r_13 u_14 hw => ?_)
        refine vv_callVV (wr := []) hC (c_X_putName l D cA sx a_X a_C u_10.1 u_10.2 I_C A_C r_13 _ hw) (cw_X_123 hC) d_X_putSymbols_55 [] [0, 1, 2, 3, 4, 5, 6, 7, 8, 9, 10, 11, 12, 13, 14, 15] [] [0, 1, 2, 3, 4, 5, 6, 7, 8, 9, 10, 11, 12, 13, 14, 15] (fun u_15 : (Nat → Int32) × (Nat → Nat → Int32) => kc_X cA a_X u_15.1 u_15.2 ++ kc_C cA a_C I_C A_C) ⟨Nat.zero_le _, Nat.zero_le _⟩ rfl rfl (fun _ => rfl) rfl rfl rfl rfl rfl rfl rfl rfl (Nat.le_of_ble_eq_true rfl) (fun u_15 hw => ?_)
        refine vv_iinc hC d_X_putSymbols_58 3 rfl (v := (v3 + (1 : Int32))) rfl (by decide) [1, 2, 3, 0] (L2 := [(0, .ref (a_X 0)), (1, .ref (a_C 0)), (2, .int v2), (3, .int (v3 + (1 : Int32)))]) rfl ?_
        refine vv_goto hC 9 d_X_putSymbols_61 (by decide) ?_
        exact vv_sub [0, 1, 2, 3] (by rfl) (ih u_15.1 u_15.2 v2 (v3 + (1 : Int32)) hw)
set_option maxHeartbeats 4000000 in
set_option maxRecDepth 100000 in
theorem l_X_putSymbols_L2 {p : Program} {l : Launch} {e : Env} {s : State} {m : MethodId} {args : Array Value} {below : List Frame} {meth : Method} {c : Code} {D : va_G} {cA : Nat → ClassId} {sx : Nat → Nat} {A : Nat → Prop} (a_X a_C : Nat → Nat) (I_C : (Nat → Int32)) (A_C : (Nat → Nat → Int32)) (Q : (Nat → Int32) → (Nat → Nat → Int32) → Prop) (X2 : (Nat → Int32) → (Nat → Nat → Int32) → Prop) (hC : CX p s m args meth c b_X_putSymbols R_X TB 4 D vwCl (tyl cA) A (SPl sx) none) (hX2 : ∀ (I_X : (Nat → Int32)) (A_X : (Nat → Nat → Int32)), X2 I_X A_X → VV p l e ({ frames := 4, cells := 0, slots := 0, locals := 85 } : Room) s m args below meth c 4 D vwCl A 0 0 (QV below args s D vwCl (tyl cA) A (fun (u : (Nat → Int32) × (Nat → Nat → Int32)) => Q u.1 u.2) (fun u : (Nat → Int32) × (Nat → Nat → Int32) => kc_X cA a_X u.1 u.2 ++ kc_C cA a_C I_C A_C)) (kc_X cA a_X I_X A_X ++ kc_C cA a_C I_C A_C) 70 [] []) : ∀ (n2 : Nat) (I_X : (Nat → Int32)) (A_X : (Nat → Nat → Int32)) (v2 : Int32), wp_X_putSymbols_L2 I_C A_C Q X2 n2 I_X A_X v2 → VV p l e ({ frames := 4, cells := 0, slots := 0, locals := 85 } : Room) s m args below meth c 4 D vwCl A 0 0 (QV below args s D vwCl (tyl cA) A (fun (u : (Nat → Int32) × (Nat → Nat → Int32)) => Q u.1 u.2) (fun u : (Nat → Int32) × (Nat → Nat → Int32) => kc_X cA a_X u.1 u.2 ++ kc_C cA a_C I_C A_C)) (kc_X cA a_X I_X A_X ++ kc_C cA a_C I_C A_C) 2 [(0, .ref (a_X 0)), (1, .ref (a_C 0)), (2, .int v2)] [] := by
  intro n2
  induction n2 with
  | zero =>
    intro I_X A_X v2 hw
    exact absurd hw (fun z => z)
  | succ n2 ih =>
    intro I_X A_X v2 hw
    unfold wp_X_putSymbols_L2 at hw
    refine vv_iload_n hC d_X_putSymbols_2 2 rfl rfl ?_
    refine vv_iconst hC d_X_putSymbols_3 (v := (3 : Int32)) (by decide) ?_
    refine vv_icmp_ge hC 70 d_X_putSymbols_4 (by decide) (fun cd => ?_) (fun cd => ?_)
    · have hw := hw.1 cd
      exact vv_sub [] (by rfl) (hX2 I_X A_X hw)
    · have hw := hw.2 cd
      refine vv_iconst hC d_X_putSymbols_7 (v := (0 : Int32)) (by decide) ?_
      refine vv_istore_n hC d_X_putSymbols_8 rfl (by decide) [1, 2, 3, 0] (L2 := [(0, .ref (a_X 0)), (1, .ref (a_C 0)), (2, .int v2), (3, .int (0 : Int32))]) rfl ?_
      obtain ⟨m9, hw⟩ := hw
      refine vv_sub [0, 1, 2, 3] (by rfl) (l_X_putSymbols_L9 a_X a_C I_C A_C Q (wp_X_putSymbols_L2 I_C A_C Q X2 n2) X2 _ hC ih hX2 (fun I_X_18 A_X_19 v2_20 hw => ?_) m9 I_X A_X v2 (0 : Int32) hw)
      refine vv_iinc hC d_X_putSymbols_64 2 rfl (v := (v2_20 + (1 : Int32))) rfl (by decide) [1, 2, 0] (L2 := [(0, .ref (a_X 0)), (1, .ref (a_C 0)), (2, .int (v2_20 + (1 : Int32)))]) rfl ?_
      refine vv_goto hC 2 d_X_putSymbols_67 (by decide) ?_
      exact vv_sub [0, 1, 2] (by rfl) (ih I_X_18 A_X_19 (v2_20 + (1 : Int32)) hw)
set_option maxHeartbeats 4000000 in
set_option maxRecDepth 100000 in
theorem c_X_putSymbols (l : Launch) (D : va_G) (cA : Nat → ClassId) (sx : Nat → Nat) (a_X a_C : Nat → Nat) (I_X : (Nat → Int32)) (A_X : (Nat → Nat → Int32)) (I_C : (Nat → Int32)) (A_C : (Nat → Nat → Int32)) (Q : (Nat → Int32) → (Nat → Nat → Int32) → Prop) (hw : wp_X_putSymbols I_X A_X I_C A_C Q) : MetV l y_X_putSymbols (Cond.code y_X_putSymbols b_X_putSymbols 4 none :: TB) ({ frames := 4, cells := 0, slots := 0, locals := 85 } : Room) D vwCl (tyl cA) (SPl sx) [.ref (a_X 0), .ref (a_C 0)] (kc_X cA a_X I_X A_X ++ kc_C cA a_C I_C A_C) (fun (u : (Nat → Int32) × (Nat → Nat → Int32)) => Q u.1 u.2) (fun u : (Nat → Int32) × (Nat → Nat → Int32) => kc_X cA a_X u.1 u.2 ++ kc_C cA a_C I_C A_C) := by
  refine vv_entryV (cc := b_X_putSymbols) (own := R_X) (L := [(0, .ref (a_X 0)), (1, .ref (a_C 0))]) (by decide) rfl rfl (Nat.le_of_ble_eq_true rfl) rfl (fun p e s m args below meth c A hC => ?_)
  unfold wp_X_putSymbols at hw
  refine vv_iconst hC d_X_putSymbols_0 (v := (0 : Int32)) (by decide) ?_
  refine vv_istore_n hC d_X_putSymbols_1 rfl (by decide) [1, 2, 0] (L2 := [(0, .ref (a_X 0)), (1, .ref (a_C 0)), (2, .int (0 : Int32))]) rfl ?_
  obtain ⟨m2, hw⟩ := hw
  refine vv_sub [0, 1, 2] (by rfl) (l_X_putSymbols_L2 a_X a_C I_C A_C Q _ hC (fun I_X_21 A_X_22 hw => ?_) m2 I_X A_X (0 : Int32) hw)
  exact vv_vret hC d_X_putSymbols_70 (I_X_21, A_X_22) hw rfl
set_option maxHeartbeats 4000000 in
set_option maxRecDepth 100000 in
theorem l_X_writeText_L26 {p : Program} {l : Launch} {e : Env} {s : State} {m : MethodId} {args : Array Value} {below : List Frame} {meth : Method} {c : Code} {D : va_G} {cA : Nat → ClassId} {sx : Nat → Nat} {A : Nat → Prop} (a_X a_C : Nat → Nat) (I_C : (Nat → Int32)) (A_C : (Nat → Nat → Int32)) (Q : (Nat → Int32) → (Nat → Nat → Int32) → Prop) (X26 : (Nat → Int32) → (Nat → Nat → Int32) → Prop) (hC : CX p s m args meth c b_X_writeText R_X TB 3 D vwCl (tyl cA) A (SPl sx) none) (hX26 : ∀ (I_X : (Nat → Int32)) (A_X : (Nat → Nat → Int32)), X26 I_X A_X → VV p l e ({ frames := 5, cells := 0, slots := 0, locals := 108 } : Room) s m args below meth c 3 D vwCl A 0 0 (QV below args s D vwCl (tyl cA) A (fun (u : (Nat → Int32) × (Nat → Nat → Int32)) => Q u.1 u.2) (fun u : (Nat → Int32) × (Nat → Nat → Int32) => kc_X cA a_X u.1 u.2 ++ kc_C cA a_C I_C A_C)) (kc_X cA a_X I_X A_X ++ kc_C cA a_C I_C A_C) 54 [(0, .ref (a_X 0)), (1, .ref (a_C 0))] []) : ∀ (n26 : Nat) (I_X : (Nat → Int32)) (A_X : (Nat → Nat → Int32)) (v2 : Int32), wp_X_writeText_L26 I_C A_C Q X26 n26 I_X A_X v2 → VV p l e ({ frames := 5, cells := 0, slots := 0, locals := 108 } : Room) s m args below meth c 3 D vwCl A 0 0 (QV below args s D vwCl (tyl cA) A (fun (u : (Nat → Int32) × (Nat → Nat → Int32)) => Q u.1 u.2) (fun u : (Nat → Int32) × (Nat → Nat → Int32) => kc_X cA a_X u.1 u.2 ++ kc_C cA a_C I_C A_C)) (kc_X cA a_X I_X A_X ++ kc_C cA a_C I_C A_C) 26 [(0, .ref (a_X 0)), (1, .ref (a_C 0)), (2, .int v2)] [] := by
  intro n26
  induction n26 with
  | zero =>
    intro I_X A_X v2 hw
    exact absurd hw (fun z => z)
  | succ n26 ih =>
    intro I_X A_X v2 hw
    unfold wp_X_writeText_L26 at hw
    refine vv_iload_n hC d_X_writeText_26 2 rfl rfl ?_
    refine vv_aload_n hC d_X_writeText_27 1 rfl rfl ?_
    refine vv_get hC (v := .int (I_C 1)) hin_C 3 1 tb_154 d_X_writeText_28 rfl rfl (by decide) rfl rfl ?_
    refine vv_icmp_ge hC 54 d_X_writeText_31 (by decide) (fun cd => ?_) (fun cd => ?_)
    · have hw := hw.1 cd
      exact vv_sub [0, 1] (by rfl) (hX26 I_X A_X hw)
    · have hw := hw.2 cd
      refine vv_aload_n hC d_X_writeText_34 0 rfl rfl ?_
      refine vv_iconst hC d_X_writeText_35 (v := (2 : Int32)) (by decide) ?_
      refine vv_aload_n hC d_X_writeText_36 1 rfl rfl ?_
      refine vv_get hC (v := .ref (a_C 1)) hin_C 3 6 tb_173 d_X_writeText_37 rfl rfl (by decide) rfl rfl ?_
      refine vv_iload_n hC d_X_writeText_40 2 rfl rfl ?_
      obtain ⟨hin_4, hw⟩ := hw
      refine vv_iald hC 4 0 d_X_writeText_41 rfl rfl hin_4 ?_
      refine vv_imul hC d_X_writeText_42 ?_
      refine vv_bipush hC d_X_writeText_43 (v := (10 : Int32)) (by decide) ?_
      refine vv_callVV (wr := kc_C cA a_C I_C A_C) hC (c_X_putNumber l D cA sx a_X I_X A_X ((2 : Int32) * ((A_C 0) (v2).toNatClampNeg)) (10 : Int32) _ hw) (cw_X_41 hC) d_X_writeText_45 [] [0, 1, 2] [3, 4, 5, 6, 7, 8, 9, 10, 11, 12, 13, 14, 15] [13, 14, 15, 0, 1, 2, 3, 4, 5, 6, 7, 8, 9, 10, 11, 12] (fun u_5 : (Nat → Int32) × (Nat → Nat → Int32) => kc_X cA a_X u_5.1 u_5.2 ++ kc_C cA a_C I_C A_C) ⟨Nat.zero_le _, Nat.zero_le _⟩ rfl rfl (fun _ => rfl) rfl rfl rfl rfl rfl rfl rfl rfl (Nat.le_of_ble_eq_true rfl) (fun u_5 hw => ?_)
      refine vv_iinc hC d_X_writeText_48 2 rfl (v := (v2 + (1 : Int32))) rfl (by decide) [1, 2, 0] (L2 := [(0, .ref (a_X 0)), (1, .ref (a_C 0)), (2, .int (v2 + (1 : Int32)))]) rfl ?_
      refine vv_goto hC 26 d_X_writeText_51 (by decide) ?_
      exact vv_sub [0, 1, 2] (by rfl) (ih u_5.1 u_5.2 (v2 + (1 : Int32)) hw)
set_option maxHeartbeats 4000000 in
set_option maxRecDepth 100000 in
theorem l_X_writeText_L56 {p : Program} {l : Launch} {e : Env} {s : State} {m : MethodId} {args : Array Value} {below : List Frame} {meth : Method} {c : Code} {D : va_G} {cA : Nat → ClassId} {sx : Nat → Nat} {A : Nat → Prop} (a_X a_C : Nat → Nat) (I_C : (Nat → Int32)) (A_C : (Nat → Nat → Int32)) (Q : (Nat → Int32) → (Nat → Nat → Int32) → Prop) (X56 : (Nat → Int32) → (Nat → Nat → Int32) → Prop) (hC : CX p s m args meth c b_X_writeText R_X TB 3 D vwCl (tyl cA) A (SPl sx) none) (hX56 : ∀ (I_X : (Nat → Int32)) (A_X : (Nat → Nat → Int32)), X56 I_X A_X → VV p l e ({ frames := 5, cells := 0, slots := 0, locals := 108 } : Room) s m args below meth c 3 D vwCl A 0 0 (QV below args s D vwCl (tyl cA) A (fun (u : (Nat → Int32) × (Nat → Nat → Int32)) => Q u.1 u.2) (fun u : (Nat → Int32) × (Nat → Nat → Int32) => kc_X cA a_X u.1 u.2 ++ kc_C cA a_C I_C A_C)) (kc_X cA a_X I_X A_X ++ kc_C cA a_C I_C A_C) 96 [(0, .ref (a_X 0)), (1, .ref (a_C 0))] []) : ∀ (n56 : Nat) (I_X : (Nat → Int32)) (A_X : (Nat → Nat → Int32)) (v2 : Int32), wp_X_writeText_L56 I_C A_C Q X56 n56 I_X A_X v2 → VV p l e ({ frames := 5, cells := 0, slots := 0, locals := 108 } : Room) s m args below meth c 3 D vwCl A 0 0 (QV below args s D vwCl (tyl cA) A (fun (u : (Nat → Int32) × (Nat → Nat → Int32)) => Q u.1 u.2) (fun u : (Nat → Int32) × (Nat → Nat → Int32) => kc_X cA a_X u.1 u.2 ++ kc_C cA a_C I_C A_C)) (kc_X cA a_X I_X A_X ++ kc_C cA a_C I_C A_C) 56 [(0, .ref (a_X 0)), (1, .ref (a_C 0)), (2, .int v2)] [] := by
  intro n56
  induction n56 with
  | zero =>
    intro I_X A_X v2 hw
    exact absurd hw (fun z => z)
  | succ n56 ih =>
    intro I_X A_X v2 hw
    unfold wp_X_writeText_L56 at hw
    refine vv_iload_n hC d_X_writeText_56 2 rfl rfl ?_
    refine vv_aload_n hC d_X_writeText_57 1 rfl rfl ?_
    refine vv_get hC (v := .int (I_C 2)) hin_C 3 2 tb_158 d_X_writeText_58 rfl rfl (by decide) rfl rfl ?_
    refine vv_icmp_ge hC 96 d_X_writeText_61 (by decide) (fun cd => ?_) (fun cd => ?_)
    · have hw := hw.1 cd
      exact vv_sub [0, 1] (by rfl) (hX56 I_X A_X hw)
    · have hw := hw.2 cd
      refine vv_aload_n hC d_X_writeText_64 0 rfl rfl ?_
      refine vv_iconst hC d_X_writeText_65 (v := (2 : Int32)) (by decide) ?_
      refine vv_aload_n hC d_X_writeText_66 1 rfl rfl ?_
      refine vv_get hC (v := .ref (a_C 2)) hin_C 3 7 tb_176 d_X_writeText_67 rfl rfl (by decide) rfl rfl ?_
      refine vv_iload_n hC d_X_writeText_70 2 rfl rfl ?_
      obtain ⟨hin_10, hw⟩ := hw
      refine vv_iald hC 5 0 d_X_writeText_71 rfl rfl hin_10 ?_
      refine vv_imul hC d_X_writeText_72 ?_
      refine vv_bipush hC d_X_writeText_73 (v := (32 : Int32)) (by decide) ?_
      refine vv_callVV (wr := kc_C cA a_C I_C A_C) hC (c_X_putNumber l D cA sx a_X I_X A_X ((2 : Int32) * ((A_C 1) (v2).toNatClampNeg)) (32 : Int32) _ hw) (cw_X_41 hC) d_X_writeText_75 [] [0, 1, 2] [3, 4, 5, 6, 7, 8, 9, 10, 11, 12, 13, 14, 15] [13, 14, 15, 0, 1, 2, 3, 4, 5, 6, 7, 8, 9, 10, 11, 12] (fun u_11 : (Nat → Int32) × (Nat → Nat → Int32) => kc_X cA a_X u_11.1 u_11.2 ++ kc_C cA a_C I_C A_C) ⟨Nat.zero_le _, Nat.zero_le _⟩ rfl rfl (fun _ => rfl) rfl rfl rfl rfl rfl rfl rfl rfl (Nat.le_of_ble_eq_true rfl) (fun u_11 hw => ?_)
      refine vv_aload_n hC d_X_writeText_78 0 rfl rfl ?_
      refine vv_aload_n hC d_X_writeText_79 1 rfl rfl ?_
      refine vv_get hC (v := .ref (a_C 3)) hin_C 3 8 tb_179 d_X_writeText_80 rfl rfl (by decide) rfl rfl ?_
      refine vv_iload_n hC d_X_writeText_83 2 rfl rfl ?_
      refine vv_iald hC 6 0 d_X_writeText_84 rfl rfl hin_10 ?_
      refine vv_bipush hC d_X_writeText_85 (v := (10 : Int32)) (by decide) ?_
      refine vv_callVV (wr := kc_C cA a_C I_C A_C) hC (c_X_putNumber l D cA sx a_X u_11.1 u_11.2 ((A_C 2) (v2).toNatClampNeg) (10 : Int32) _ hw) (cw_X_41 hC) d_X_writeText_87 [] [0, 1, 2] [3, 4, 5, 6, 7, 8, 9, 10, 11, 12, 13, 14, 15] [13, 14, 15, 0, 1, 2, 3, 4, 5, 6, 7, 8, 9, 10, 11, 12] (fun u_14 : (Nat → Int32) × (Nat → Nat → Int32) => kc_X cA a_X u_14.1 u_14.2 ++ kc_C cA a_C I_C A_C) ⟨Nat.zero_le _, Nat.zero_le _⟩ rfl rfl (fun _ => rfl) rfl rfl rfl rfl rfl rfl rfl rfl (Nat.le_of_ble_eq_true rfl) (fun u_14 hw => ?_)
      refine vv_iinc hC d_X_writeText_90 2 rfl (v := (v2 + (1 : Int32))) rfl (by decide) [1, 2, 0] (L2 := [(0, .ref (a_X 0)), (1, .ref (a_C 0)), (2, .int (v2 + (1 : Int32)))]) rfl ?_
      refine vv_goto hC 56 d_X_writeText_93 (by decide) ?_
      exact vv_sub [0, 1, 2] (by rfl) (ih u_14.1 u_14.2 (v2 + (1 : Int32)) hw)
set_option maxHeartbeats 4000000 in
set_option maxRecDepth 100000 in
theorem l_X_writeText_L98 {p : Program} {l : Launch} {e : Env} {s : State} {m : MethodId} {args : Array Value} {below : List Frame} {meth : Method} {c : Code} {D : va_G} {cA : Nat → ClassId} {sx : Nat → Nat} {A : Nat → Prop} (a_X a_C : Nat → Nat) (I_C : (Nat → Int32)) (A_C : (Nat → Nat → Int32)) (Q : (Nat → Int32) → (Nat → Nat → Int32) → Prop) (X98 : (Nat → Int32) → (Nat → Nat → Int32) → Prop) (hC : CX p s m args meth c b_X_writeText R_X TB 3 D vwCl (tyl cA) A (SPl sx) none) (hX98 : ∀ (I_X : (Nat → Int32)) (A_X : (Nat → Nat → Int32)), X98 I_X A_X → VV p l e ({ frames := 5, cells := 0, slots := 0, locals := 108 } : Room) s m args below meth c 3 D vwCl A 0 0 (QV below args s D vwCl (tyl cA) A (fun (u : (Nat → Int32) × (Nat → Nat → Int32)) => Q u.1 u.2) (fun u : (Nat → Int32) × (Nat → Nat → Int32) => kc_X cA a_X u.1 u.2 ++ kc_C cA a_C I_C A_C)) (kc_X cA a_X I_X A_X ++ kc_C cA a_C I_C A_C) 124 [(0, .ref (a_X 0)), (1, .ref (a_C 0))] []) : ∀ (n98 : Nat) (I_X : (Nat → Int32)) (A_X : (Nat → Nat → Int32)) (v2 : Int32), wp_X_writeText_L98 I_C A_C Q X98 n98 I_X A_X v2 → VV p l e ({ frames := 5, cells := 0, slots := 0, locals := 108 } : Room) s m args below meth c 3 D vwCl A 0 0 (QV below args s D vwCl (tyl cA) A (fun (u : (Nat → Int32) × (Nat → Nat → Int32)) => Q u.1 u.2) (fun u : (Nat → Int32) × (Nat → Nat → Int32) => kc_X cA a_X u.1 u.2 ++ kc_C cA a_C I_C A_C)) (kc_X cA a_X I_X A_X ++ kc_C cA a_C I_C A_C) 98 [(0, .ref (a_X 0)), (1, .ref (a_C 0)), (2, .int v2)] [] := by
  intro n98
  induction n98 with
  | zero =>
    intro I_X A_X v2 hw
    exact absurd hw (fun z => z)
  | succ n98 ih =>
    intro I_X A_X v2 hw
    unfold wp_X_writeText_L98 at hw
    refine vv_iload_n hC d_X_writeText_98 2 rfl rfl ?_
    refine vv_aload_n hC d_X_writeText_99 1 rfl rfl ?_
    refine vv_get hC (v := .int (I_C 3)) hin_C 3 3 tb_162 d_X_writeText_100 rfl rfl (by decide) rfl rfl ?_
    refine vv_icmp_ge hC 124 d_X_writeText_103 (by decide) (fun cd => ?_) (fun cd => ?_)
    · have hw := hw.1 cd
      exact vv_sub [0, 1] (by rfl) (hX98 I_X A_X hw)
    · have hw := hw.2 cd
      refine vv_aload_n hC d_X_writeText_106 0 rfl rfl ?_
      refine vv_aload_n hC d_X_writeText_107 1 rfl rfl ?_
      refine vv_get hC (v := .ref (a_C 4)) hin_C 3 9 tb_183 d_X_writeText_108 rfl rfl (by decide) rfl rfl ?_
      refine vv_iload_n hC d_X_writeText_111 2 rfl rfl ?_
      obtain ⟨hin_19, hw⟩ := hw
      refine vv_iald hC 7 0 d_X_writeText_112 rfl rfl hin_19 ?_
      refine vv_bipush hC d_X_writeText_113 (v := (10 : Int32)) (by decide) ?_
      refine vv_callVV (wr := kc_C cA a_C I_C A_C) hC (c_X_putNumber l D cA sx a_X I_X A_X ((A_C 3) (v2).toNatClampNeg) (10 : Int32) _ hw) (cw_X_41 hC) d_X_writeText_115 [] [0, 1, 2] [3, 4, 5, 6, 7, 8, 9, 10, 11, 12, 13, 14, 15] [13, 14, 15, 0, 1, 2, 3, 4, 5, 6, 7, 8, 9, 10, 11, 12] (fun u_20 : (Nat → Int32) × (Nat → Nat → Int32) => kc_X cA a_X u_20.1 u_20.2 ++ kc_C cA a_C I_C A_C) ⟨Nat.zero_le _, Nat.zero_le _⟩ rfl rfl (fun _ => rfl) rfl rfl rfl rfl rfl rfl rfl rfl (Nat.le_of_ble_eq_true rfl) (fun u_20 hw => ?_)
      refine vv_iinc hC d_X_writeText_118 2 rfl (v := (v2 + (1 : Int32))) rfl (by decide) [1, 2, 0] (L2 := [(0, .ref (a_X 0)), (1, .ref (a_C 0)), (2, .int (v2 + (1 : Int32)))]) rfl ?_
      refine vv_goto hC 98 d_X_writeText_121 (by decide) ?_
      exact vv_sub [0, 1, 2] (by rfl) (ih u_20.1 u_20.2 (v2 + (1 : Int32)) hw)
set_option maxHeartbeats 4000000 in
set_option maxRecDepth 100000 in
theorem l_X_writeText_L126 {p : Program} {l : Launch} {e : Env} {s : State} {m : MethodId} {args : Array Value} {below : List Frame} {meth : Method} {c : Code} {D : va_G} {cA : Nat → ClassId} {sx : Nat → Nat} {A : Nat → Prop} (a_X a_C : Nat → Nat) (I_C : (Nat → Int32)) (A_C : (Nat → Nat → Int32)) (Q : (Nat → Int32) → (Nat → Nat → Int32) → Prop) (X126 : (Nat → Int32) → (Nat → Nat → Int32) → Prop) (hC : CX p s m args meth c b_X_writeText R_X TB 3 D vwCl (tyl cA) A (SPl sx) none) (hX126 : ∀ (I_X : (Nat → Int32)) (A_X : (Nat → Nat → Int32)), X126 I_X A_X → VV p l e ({ frames := 5, cells := 0, slots := 0, locals := 108 } : Room) s m args below meth c 3 D vwCl A 0 0 (QV below args s D vwCl (tyl cA) A (fun (u : (Nat → Int32) × (Nat → Nat → Int32)) => Q u.1 u.2) (fun u : (Nat → Int32) × (Nat → Nat → Int32) => kc_X cA a_X u.1 u.2 ++ kc_C cA a_C I_C A_C)) (kc_X cA a_X I_X A_X ++ kc_C cA a_C I_C A_C) 178 [(0, .ref (a_X 0)), (1, .ref (a_C 0))] []) : ∀ (n126 : Nat) (I_X : (Nat → Int32)) (A_X : (Nat → Nat → Int32)) (v2 : Int32), wp_X_writeText_L126 I_C A_C Q X126 n126 I_X A_X v2 → VV p l e ({ frames := 5, cells := 0, slots := 0, locals := 108 } : Room) s m args below meth c 3 D vwCl A 0 0 (QV below args s D vwCl (tyl cA) A (fun (u : (Nat → Int32) × (Nat → Nat → Int32)) => Q u.1 u.2) (fun u : (Nat → Int32) × (Nat → Nat → Int32) => kc_X cA a_X u.1 u.2 ++ kc_C cA a_C I_C A_C)) (kc_X cA a_X I_X A_X ++ kc_C cA a_C I_C A_C) 126 [(0, .ref (a_X 0)), (1, .ref (a_C 0)), (2, .int v2)] [] := by
  intro n126
  induction n126 with
  | zero =>
    intro I_X A_X v2 hw
    exact absurd hw (fun z => z)
  | succ n126 ih =>
    intro I_X A_X v2 hw
    unfold wp_X_writeText_L126 at hw
    refine vv_iload_n hC d_X_writeText_126 2 rfl rfl ?_
    refine vv_aload_n hC d_X_writeText_127 1 rfl rfl ?_
    refine vv_get hC (v := .int (I_C 4)) hin_C 3 4 tb_168 d_X_writeText_128 rfl rfl (by decide) rfl rfl ?_
    refine vv_icmp_ge hC 178 d_X_writeText_131 (by decide) (fun cd => ?_) (fun cd => ?_)
    · have hw := hw.1 cd
      exact vv_sub [0, 1] (by rfl) (hX126 I_X A_X hw)
    · have hw := hw.2 cd
      refine vv_aload_n hC d_X_writeText_134 0 rfl rfl ?_
      refine vv_iconst hC d_X_writeText_135 (v := (2 : Int32)) (by decide) ?_
      refine vv_aload_n hC d_X_writeText_136 1 rfl rfl ?_
      refine vv_get hC (v := .ref (a_C 5)) hin_C 3 10 tb_188 d_X_writeText_137 rfl rfl (by decide) rfl rfl ?_
      refine vv_iload_n hC d_X_writeText_140 2 rfl rfl ?_
      obtain ⟨hin_25, hw⟩ := hw
      refine vv_iald hC 8 0 d_X_writeText_141 rfl rfl hin_25 ?_
      refine vv_imul hC d_X_writeText_142 ?_
      refine vv_bipush hC d_X_writeText_143 (v := (32 : Int32)) (by decide) ?_
      refine vv_callVV (wr := kc_C cA a_C I_C A_C) hC (c_X_putNumber l D cA sx a_X I_X A_X ((2 : Int32) * ((A_C 4) (v2).toNatClampNeg)) (32 : Int32) _ hw) (cw_X_41 hC) d_X_writeText_145 [] [0, 1, 2] [3, 4, 5, 6, 7, 8, 9, 10, 11, 12, 13, 14, 15] [13, 14, 15, 0, 1, 2, 3, 4, 5, 6, 7, 8, 9, 10, 11, 12] (fun u_26 : (Nat → Int32) × (Nat → Nat → Int32) => kc_X cA a_X u_26.1 u_26.2 ++ kc_C cA a_C I_C A_C) ⟨Nat.zero_le _, Nat.zero_le _⟩ rfl rfl (fun _ => rfl) rfl rfl rfl rfl rfl rfl rfl rfl (Nat.le_of_ble_eq_true rfl) (fun u_26 hw => ?_)
      refine vv_aload_n hC d_X_writeText_148 0 rfl rfl ?_
      refine vv_aload_n hC d_X_writeText_149 1 rfl rfl ?_
      refine vv_get hC (v := .ref (a_C 6)) hin_C 3 11 tb_192 d_X_writeText_150 rfl rfl (by decide) rfl rfl ?_
      refine vv_iload_n hC d_X_writeText_153 2 rfl rfl ?_
      refine vv_iald hC 9 0 d_X_writeText_154 rfl rfl hin_25 ?_
      refine vv_bipush hC d_X_writeText_155 (v := (32 : Int32)) (by decide) ?_
      refine vv_callVV (wr := kc_C cA a_C I_C A_C) hC (c_X_putNumber l D cA sx a_X u_26.1 u_26.2 ((A_C 5) (v2).toNatClampNeg) (32 : Int32) _ hw) (cw_X_41 hC) d_X_writeText_157 [] [0, 1, 2] [3, 4, 5, 6, 7, 8, 9, 10, 11, 12, 13, 14, 15] [13, 14, 15, 0, 1, 2, 3, 4, 5, 6, 7, 8, 9, 10, 11, 12] (fun u_29 : (Nat → Int32) × (Nat → Nat → Int32) => kc_X cA a_X u_29.1 u_29.2 ++ kc_C cA a_C I_C A_C) ⟨Nat.zero_le _, Nat.zero_le _⟩ rfl rfl (fun _ => rfl) rfl rfl rfl rfl rfl rfl rfl rfl (Nat.le_of_ble_eq_true rfl) (fun u_29 hw => ?_)
      refine vv_aload_n hC d_X_writeText_160 0 rfl rfl ?_
      refine vv_aload_n hC d_X_writeText_161 1 rfl rfl ?_
      refine vv_get hC (v := .ref (a_C 7)) hin_C 3 12 tb_196 d_X_writeText_162 rfl rfl (by decide) rfl rfl ?_
      refine vv_iload_n hC d_X_writeText_165 2 rfl rfl ?_
      refine vv_iald hC 10 0 d_X_writeText_166 rfl rfl hin_25 ?_
      refine vv_bipush hC d_X_writeText_167 (v := (10 : Int32)) (by decide) ?_
      refine vv_callVV (wr := kc_C cA a_C I_C A_C) hC (c_X_putNumber l D cA sx a_X u_29.1 u_29.2 ((A_C 6) (v2).toNatClampNeg) (10 : Int32) _ hw) (cw_X_41 hC) d_X_writeText_169 [] [0, 1, 2] [3, 4, 5, 6, 7, 8, 9, 10, 11, 12, 13, 14, 15] [13, 14, 15, 0, 1, 2, 3, 4, 5, 6, 7, 8, 9, 10, 11, 12] (fun u_32 : (Nat → Int32) × (Nat → Nat → Int32) => kc_X cA a_X u_32.1 u_32.2 ++ kc_C cA a_C I_C A_C) ⟨Nat.zero_le _, Nat.zero_le _⟩ rfl rfl (fun _ => rfl) rfl rfl rfl rfl rfl rfl rfl rfl (Nat.le_of_ble_eq_true rfl) (fun u_32 hw => ?_)
      refine vv_iinc hC d_X_writeText_172 2 rfl (v := (v2 + (1 : Int32))) rfl (by decide) [1, 2, 0] (L2 := [(0, .ref (a_X 0)), (1, .ref (a_C 0)), (2, .int (v2 + (1 : Int32)))]) rfl ?_
      refine vv_goto hC 126 d_X_writeText_175 (by decide) ?_
      exact vv_sub [0, 1, 2] (by rfl) (ih u_32.1 u_32.2 (v2 + (1 : Int32)) hw)
set_option maxHeartbeats 4000000 in
set_option maxRecDepth 100000 in
theorem c_X_writeText (l : Launch) (D : va_G) (cA : Nat → ClassId) (sx : Nat → Nat) (a_X a_C : Nat → Nat) (I_X : (Nat → Int32)) (A_X : (Nat → Nat → Int32)) (I_C : (Nat → Int32)) (A_C : (Nat → Nat → Int32)) (Q : (Nat → Int32) → (Nat → Nat → Int32) → Prop) (hw : wp_X_writeText I_X A_X I_C A_C Q) : MetV l y_X_writeText (Cond.code y_X_writeText b_X_writeText 3 none :: TB) ({ frames := 5, cells := 0, slots := 0, locals := 108 } : Room) D vwCl (tyl cA) (SPl sx) [.ref (a_X 0), .ref (a_C 0)] (kc_X cA a_X I_X A_X ++ kc_C cA a_C I_C A_C) (fun (u : (Nat → Int32) × (Nat → Nat → Int32)) => Q u.1 u.2) (fun u : (Nat → Int32) × (Nat → Nat → Int32) => kc_X cA a_X u.1 u.2 ++ kc_C cA a_C I_C A_C) := by
  refine vv_entryV (cc := b_X_writeText) (own := R_X) (L := [(0, .ref (a_X 0)), (1, .ref (a_C 0))]) (by decide) rfl rfl (Nat.le_of_ble_eq_true rfl) rfl (fun p e s m args below meth c A hC => ?_)
  unfold wp_X_writeText at hw
  refine vv_aload_n hC d_X_writeText_0 0 rfl rfl ?_
  refine vv_get hC (v := .int (I_X 1)) hin_X 0 3 tb_132 d_X_writeText_1 rfl rfl (by decide) rfl rfl ?_
  refine vv_if_eq hC 8 d_X_writeText_4 (by decide) (fun cd => ?_) (fun cd => ?_)
  · have hw := hw.1 cd
    refine vv_aload_n hC d_X_writeText_8 0 rfl rfl ?_
    refine vv_iconst hC d_X_writeText_9 (v := (1 : Int32)) (by decide) ?_
    refine vv_put hC hin_X ty_X tyok_X nmok_X 0 3 tb_132 d_X_writeText_10 rfl rfl (by decide) rfl rfl rfl rfl rfl (Nat.le_of_ble_eq_true rfl) (ws2 := kc_X cA a_X (va_up I_X 1 (1 : Int32)) A_X ++ kc_C cA a_C I_C A_C) (st_XC_XI1 ..) ?_
    refine vv_aload_n hC d_X_writeText_13 0 rfl rfl ?_
    refine vv_aload_n hC d_X_writeText_14 1 rfl rfl ?_
    refine vv_bipush hC d_X_writeText_15 (v := (97 : Int32)) (by decide) ?_
    refine vv_aload_n hC d_X_writeText_17 1 rfl rfl ?_
    refine vv_get hC (v := .int (I_C 0)) hin_C 3 0 tb_149 d_X_writeText_18 rfl rfl (by decide) rfl rfl ?_
    refine vv_callVV (wr := []) hC (c_X_putHeader l D cA sx a_X a_C (va_up I_X 1 (1 : Int32)) A_X I_C A_C (97 : Int32) (I_C 0) _ hw) (cw_X_31 hC) d_X_writeText_21 [] [0, 1, 2, 3, 4, 5, 6, 7, 8, 9, 10, 11, 12, 13, 14, 15] [] [0, 1, 2, 3, 4, 5, 6, 7, 8, 9, 10, 11, 12, 13, 14, 15] (fun u_1 : (Nat → Int32) × (Nat → Nat → Int32) => kc_X cA a_X u_1.1 u_1.2 ++ kc_C cA a_C I_C A_C) ⟨Nat.zero_le _, Nat.zero_le _⟩ rfl rfl (fun _ => rfl) rfl rfl rfl rfl rfl rfl rfl rfl (Nat.le_of_ble_eq_true rfl) (fun u_1 hw => ?_)
    refine vv_iconst hC d_X_writeText_24 (v := (0 : Int32)) (by decide) ?_
    refine vv_istore_n hC d_X_writeText_25 rfl (by decide) [1, 2, 0] (L2 := [(0, .ref (a_X 0)), (1, .ref (a_C 0)), (2, .int (0 : Int32))]) rfl ?_
    obtain ⟨m26, hw⟩ := hw
    refine vv_sub [0, 1, 2] (by rfl) (l_X_writeText_L26 a_X a_C I_C A_C Q _ hC (fun I_X_8 A_X_9 hw => ?_) m26 u_1.1 u_1.2 (0 : Int32) hw)
    refine vv_iconst hC d_X_writeText_54 (v := (0 : Int32)) (by decide) ?_
    refine vv_istore_n hC d_X_writeText_55 rfl (by decide) [1, 2, 0] (L2 := [(0, .ref (a_X 0)), (1, .ref (a_C 0)), (2, .int (0 : Int32))]) rfl ?_
    obtain ⟨m56, hw⟩ := hw
    refine vv_sub [0, 1, 2] (by rfl) (l_X_writeText_L56 a_X a_C I_C A_C Q _ hC (fun I_X_17 A_X_18 hw => ?_) m56 I_X_8 A_X_9 (0 : Int32) hw)
    refine vv_iconst hC d_X_writeText_96 (v := (0 : Int32)) (by decide) ?_
    refine vv_istore_n hC d_X_writeText_97 rfl (by decide) [1, 2, 0] (L2 := [(0, .ref (a_X 0)), (1, .ref (a_C 0)), (2, .int (0 : Int32))]) rfl ?_
    obtain ⟨m98, hw⟩ := hw
    refine vv_sub [0, 1, 2] (by rfl) (l_X_writeText_L98 a_X a_C I_C A_C Q _ hC (fun I_X_23 A_X_24 hw => ?_) m98 I_X_17 A_X_18 (0 : Int32) hw)
    refine vv_iconst hC d_X_writeText_124 (v := (0 : Int32)) (by decide) ?_
    refine vv_istore_n hC d_X_writeText_125 rfl (by decide) [1, 2, 0] (L2 := [(0, .ref (a_X 0)), (1, .ref (a_C 0)), (2, .int (0 : Int32))]) rfl ?_
    obtain ⟨m126, hw⟩ := hw
    refine vv_sub [0, 1, 2] (by rfl) (l_X_writeText_L126 a_X a_C I_C A_C Q _ hC (fun I_X_35 A_X_36 hw => ?_) m126 I_X_23 A_X_24 (0 : Int32) hw)
    refine vv_aload_n hC d_X_writeText_178 0 rfl rfl ?_
    refine vv_aload_n hC d_X_writeText_179 1 rfl rfl ?_
    refine vv_callVV (wr := []) hC (c_X_putSymbols l D cA sx a_X a_C I_X_35 A_X_36 I_C A_C _ hw) (cw_X_72 hC) d_X_writeText_180 [] [0, 1, 2, 3, 4, 5, 6, 7, 8, 9, 10, 11, 12, 13, 14, 15] [] [0, 1, 2, 3, 4, 5, 6, 7, 8, 9, 10, 11, 12, 13, 14, 15] (fun u_37 : (Nat → Int32) × (Nat → Nat → Int32) => kc_X cA a_X u_37.1 u_37.2 ++ kc_C cA a_C I_C A_C) ⟨Nat.zero_le _, Nat.zero_le _⟩ rfl rfl (fun _ => rfl) rfl rfl rfl rfl rfl rfl rfl rfl (Nat.le_of_ble_eq_true rfl) (fun u_37 hw => ?_)
    exact vv_vret hC d_X_writeText_183 (u_37.1, u_37.2) hw rfl
  · have hw := hw.2 cd
    exact vv_vret hC d_X_writeText_7 (I_X, A_X) hw rfl
set_option maxHeartbeats 4000000 in
set_option maxRecDepth 100000 in
theorem c_X_byteOf (l : Launch) (D : va_G) (cA : Nat → ClassId) (sx : Nat → Nat) (a_X : Nat → Nat) (I_X : (Nat → Int32)) (A_X : (Nat → Nat → Int32)) (x1 : Int32) (Q : Int32 → Prop) (hw : wp_X_byteOf I_X A_X x1 Q) : MetI l y_X_byteOf (Cond.code y_X_byteOf b_X_byteOf 2 (some .int) :: TB) ({ frames := 0, cells := 0, slots := 0, locals := 0 } : Room) D vwCl (tyl cA) (SPl sx) [.ref (a_X 0), .int x1] (kc_X cA a_X I_X A_X) (fun (r : Int32) (u : Unit) => Q r) (fun u : Unit => kc_X cA a_X I_X A_X) := by
  refine vv_entryI (cc := b_X_byteOf) (own := R_X) (L := [(0, .ref (a_X 0)), (1, .int x1)]) (by decide) rfl rfl (Nat.le_of_ble_eq_true rfl) rfl (fun p e s m args below meth c A hC => ?_)
  unfold wp_X_byteOf at hw
  refine vv_iload_n hC d_X_byteOf_0 1 rfl rfl ?_
  refine vv_if_lt hC 12 d_X_byteOf_1 (by decide) (fun cd => ?_) (fun cd => ?_)
  · have hw := hw.1 cd
    refine vv_iconst hC d_X_byteOf_12 (v := (-1 : Int32)) (by decide) ?_
    refine vv_goto hC 22 d_X_byteOf_13 (by decide) ?_
    exact vv_iret hC d_X_byteOf_22 () hw rfl
  · have hw := hw.2 cd
    refine vv_iload_n hC d_X_byteOf_4 1 rfl rfl ?_
    refine vv_aload_n hC d_X_byteOf_5 0 rfl rfl ?_
    refine vv_get hC (v := .int (I_X 0)) hin_X 0 2 tb_131 d_X_byteOf_6 rfl rfl (by decide) rfl rfl ?_
    refine vv_icmp_lt hC 16 d_X_byteOf_9 (by decide) (fun cd => ?_) (fun cd => ?_)
    · have hw := hw.1 cd
      refine vv_aload_n hC d_X_byteOf_16 0 rfl rfl ?_
      refine vv_get hC (v := .ref (a_X 1)) hin_X 0 0 tb_129 d_X_byteOf_17 rfl rfl (by decide) rfl rfl ?_
      refine vv_iload_n hC d_X_byteOf_20 1 rfl rfl ?_
      obtain ⟨hin_1, hw⟩ := hw
      refine vv_iald hC 1 0 d_X_byteOf_21 rfl rfl hin_1 ?_
      exact vv_iret hC d_X_byteOf_22 () hw rfl
    · have hw := hw.2 cd
      refine vv_iconst hC d_X_byteOf_12 (v := (-1 : Int32)) (by decide) ?_
      refine vv_goto hC 22 d_X_byteOf_13 (by decide) ?_
      exact vv_iret hC d_X_byteOf_22 () hw rfl
set_option maxHeartbeats 4000000 in
set_option maxRecDepth 100000 in
theorem l_X_numberAnew_L4 {p : Program} {l : Launch} {e : Env} {s : State} {m : MethodId} {args : Array Value} {below : List Frame} {meth : Method} {c : Code} {D : va_G} {cA : Nat → ClassId} {sx : Nat → Nat} {A : Nat → Prop} (a_X a_C : Nat → Nat) (I_X : (Nat → Int32)) (I_C : (Nat → Int32)) (A_C : (Nat → Nat → Int32)) (Q : (Nat → Nat → Int32) → Prop) (X4 : (Nat → Nat → Int32) → Int32 → Prop) (hC : CX p s m args meth c b_X_numberAnew R_X TB 4 D vwCl (tyl cA) A (SPl sx) none) (hX4 : ∀ (A_X : (Nat → Nat → Int32)) (v2 : Int32), X4 A_X v2 → VV p l e ({ frames := 0, cells := 0, slots := 0, locals := 0 } : Room) s m args below meth c 4 D vwCl A 0 0 (QV below args s D vwCl (tyl cA) A (fun (u : (Nat → Nat → Int32)) => Q u) (fun u : (Nat → Nat → Int32) => kc_X cA a_X I_X u ++ kc_C cA a_C I_C A_C)) (kc_X cA a_X I_X A_X ++ kc_C cA a_C I_C A_C) 33 [(0, .ref (a_X 0)), (1, .ref (a_C 0)), (2, .int v2)] []) : ∀ (n4 : Nat) (A_X : (Nat → Nat → Int32)) (v2 : Int32) (v3 : Int32), wp_X_numberAnew_L4 I_C A_C Q X4 n4 A_X v2 v3 → VV p l e ({ frames := 0, cells := 0, slots := 0, locals := 0 } : Room) s m args below meth c 4 D vwCl A 0 0 (QV below args s D vwCl (tyl cA) A (fun (u : (Nat → Nat → Int32)) => Q u) (fun u : (Nat → Nat → Int32) => kc_X cA a_X I_X u ++ kc_C cA a_C I_C A_C)) (kc_X cA a_X I_X A_X ++ kc_C cA a_C I_C A_C) 4 [(0, .ref (a_X 0)), (1, .ref (a_C 0)), (2, .int v2), (3, .int v3)] [] := by
  intro n4
  induction n4 with
  | zero =>
    intro A_X v2 v3 hw
    exact absurd hw (fun z => z)
  | succ n4 ih =>
    intro A_X v2 v3 hw
    unfold wp_X_numberAnew_L4 at hw
    refine vv_iload_n hC d_X_numberAnew_4 3 rfl rfl ?_
    refine vv_aload_n hC d_X_numberAnew_5 1 rfl rfl ?_
    refine vv_get hC (v := .int (I_C 1)) hin_C 3 1 tb_154 d_X_numberAnew_6 rfl rfl (by decide) rfl rfl ?_
    refine vv_icmp_ge hC 33 d_X_numberAnew_9 (by decide) (fun cd => ?_) (fun cd => ?_)
    · have hw := hw.1 cd
      exact vv_sub [0, 1, 2] (by rfl) (hX4 A_X v2 hw)
    · have hw := hw.2 cd
      refine vv_iinc hC d_X_numberAnew_12 2 rfl (v := (v2 + (1 : Int32))) rfl (by decide) [1, 2, 0, 3] (L2 := [(0, .ref (a_X 0)), (1, .ref (a_C 0)), (2, .int (v2 + (1 : Int32))), (3, .int v3)]) rfl ?_
      refine vv_aload_n hC d_X_numberAnew_15 0 rfl rfl ?_
      refine vv_get hC (v := .ref (a_X 2)) hin_X 0 1 tb_130 d_X_numberAnew_16 rfl rfl (by decide) rfl rfl ?_
      refine vv_aload_n hC d_X_numberAnew_19 1 rfl rfl ?_
      refine vv_get hC (v := .ref (a_C 1)) hin_C 3 6 tb_173 d_X_numberAnew_20 rfl rfl (by decide) rfl rfl ?_
      refine vv_iload_n hC d_X_numberAnew_23 3 rfl rfl ?_
      obtain ⟨hin_1, hw⟩ := hw
      refine vv_iald hC 4 0 d_X_numberAnew_24 rfl rfl hin_1 ?_
      refine vv_iload_n hC d_X_numberAnew_25 2 rfl rfl ?_
      obtain ⟨hin_2, hw⟩ := hw
      refine vv_iast hC 2 0 d_X_numberAnew_26 rfl rfl hin_2 (ws2 := kc_X cA a_X I_X (va_up A_X 1 (upd (A_X 1) (((A_C 0) (v3).toNatClampNeg)).toNatClampNeg (v2 + (1 : Int32)))) ++ kc_C cA a_C I_C A_C) (st_XC_XA1 ..) ?_
      refine vv_iinc hC d_X_numberAnew_27 3 rfl (v := (v3 + (1 : Int32))) rfl (by decide) [1, 2, 3, 0] (L2 := [(0, .ref (a_X 0)), (1, .ref (a_C 0)), (2, .int (v2 + (1 : Int32))), (3, .int (v3 + (1 : Int32)))]) rfl ?_
      refine vv_goto hC 4 d_X_numberAnew_30 (by decide) ?_
      exact vv_sub [0, 1, 2, 3] (by rfl) (ih (va_up A_X 1 (upd (A_X 1) (((A_C 0) (v3).toNatClampNeg)).toNatClampNeg (v2 + (1 : Int32)))) (v2 + (1 : Int32)) (v3 + (1 : Int32)) hw)
set_option maxHeartbeats 4000000 in
set_option maxRecDepth 100000 in
theorem l_X_numberAnew_L35 {p : Program} {l : Launch} {e : Env} {s : State} {m : MethodId} {args : Array Value} {below : List Frame} {meth : Method} {c : Code} {D : va_G} {cA : Nat → ClassId} {sx : Nat → Nat} {A : Nat → Prop} (a_X a_C : Nat → Nat) (I_X : (Nat → Int32)) (I_C : (Nat → Int32)) (A_C : (Nat → Nat → Int32)) (Q : (Nat → Nat → Int32) → Prop) (X35 : (Nat → Nat → Int32) → Int32 → Prop) (hC : CX p s m args meth c b_X_numberAnew R_X TB 4 D vwCl (tyl cA) A (SPl sx) none) (hX35 : ∀ (A_X : (Nat → Nat → Int32)) (v2 : Int32), X35 A_X v2 → VV p l e ({ frames := 0, cells := 0, slots := 0, locals := 0 } : Room) s m args below meth c 4 D vwCl A 0 0 (QV below args s D vwCl (tyl cA) A (fun (u : (Nat → Nat → Int32)) => Q u) (fun u : (Nat → Nat → Int32) => kc_X cA a_X I_X u ++ kc_C cA a_C I_C A_C)) (kc_X cA a_X I_X A_X ++ kc_C cA a_C I_C A_C) 64 [(0, .ref (a_X 0)), (1, .ref (a_C 0)), (2, .int v2)] []) : ∀ (n35 : Nat) (A_X : (Nat → Nat → Int32)) (v2 : Int32) (v3 : Int32), wp_X_numberAnew_L35 I_C A_C Q X35 n35 A_X v2 v3 → VV p l e ({ frames := 0, cells := 0, slots := 0, locals := 0 } : Room) s m args below meth c 4 D vwCl A 0 0 (QV below args s D vwCl (tyl cA) A (fun (u : (Nat → Nat → Int32)) => Q u) (fun u : (Nat → Nat → Int32) => kc_X cA a_X I_X u ++ kc_C cA a_C I_C A_C)) (kc_X cA a_X I_X A_X ++ kc_C cA a_C I_C A_C) 35 [(0, .ref (a_X 0)), (1, .ref (a_C 0)), (2, .int v2), (3, .int v3)] [] := by
  intro n35
  induction n35 with
  | zero =>
    intro A_X v2 v3 hw
    exact absurd hw (fun z => z)
  | succ n35 ih =>
    intro A_X v2 v3 hw
    unfold wp_X_numberAnew_L35 at hw
    refine vv_iload_n hC d_X_numberAnew_35 3 rfl rfl ?_
    refine vv_aload_n hC d_X_numberAnew_36 1 rfl rfl ?_
    refine vv_get hC (v := .int (I_C 2)) hin_C 3 2 tb_158 d_X_numberAnew_37 rfl rfl (by decide) rfl rfl ?_
    refine vv_icmp_ge hC 64 d_X_numberAnew_40 (by decide) (fun cd => ?_) (fun cd => ?_)
    · have hw := hw.1 cd
      exact vv_sub [0, 1, 2] (by rfl) (hX35 A_X v2 hw)
    · have hw := hw.2 cd
      refine vv_iinc hC d_X_numberAnew_43 2 rfl (v := (v2 + (1 : Int32))) rfl (by decide) [1, 2, 0, 3] (L2 := [(0, .ref (a_X 0)), (1, .ref (a_C 0)), (2, .int (v2 + (1 : Int32))), (3, .int v3)]) rfl ?_
      refine vv_aload_n hC d_X_numberAnew_46 0 rfl rfl ?_
      refine vv_get hC (v := .ref (a_X 2)) hin_X 0 1 tb_130 d_X_numberAnew_47 rfl rfl (by decide) rfl rfl ?_
      refine vv_aload_n hC d_X_numberAnew_50 1 rfl rfl ?_
      refine vv_get hC (v := .ref (a_C 2)) hin_C 3 7 tb_176 d_X_numberAnew_51 rfl rfl (by decide) rfl rfl ?_
      refine vv_iload_n hC d_X_numberAnew_54 3 rfl rfl ?_
      obtain ⟨hin_5, hw⟩ := hw
      refine vv_iald hC 5 0 d_X_numberAnew_55 rfl rfl hin_5 ?_
      refine vv_iload_n hC d_X_numberAnew_56 2 rfl rfl ?_
      obtain ⟨hin_6, hw⟩ := hw
      refine vv_iast hC 2 0 d_X_numberAnew_57 rfl rfl hin_6 (ws2 := kc_X cA a_X I_X (va_up A_X 1 (upd (A_X 1) (((A_C 1) (v3).toNatClampNeg)).toNatClampNeg (v2 + (1 : Int32)))) ++ kc_C cA a_C I_C A_C) (st_XC_XA1 ..) ?_
      refine vv_iinc hC d_X_numberAnew_58 3 rfl (v := (v3 + (1 : Int32))) rfl (by decide) [1, 2, 3, 0] (L2 := [(0, .ref (a_X 0)), (1, .ref (a_C 0)), (2, .int (v2 + (1 : Int32))), (3, .int (v3 + (1 : Int32)))]) rfl ?_
      refine vv_goto hC 35 d_X_numberAnew_61 (by decide) ?_
      exact vv_sub [0, 1, 2, 3] (by rfl) (ih (va_up A_X 1 (upd (A_X 1) (((A_C 1) (v3).toNatClampNeg)).toNatClampNeg (v2 + (1 : Int32)))) (v2 + (1 : Int32)) (v3 + (1 : Int32)) hw)
set_option maxHeartbeats 4000000 in
set_option maxRecDepth 100000 in
theorem l_X_numberAnew_L66 {p : Program} {l : Launch} {e : Env} {s : State} {m : MethodId} {args : Array Value} {below : List Frame} {meth : Method} {c : Code} {D : va_G} {cA : Nat → ClassId} {sx : Nat → Nat} {A : Nat → Prop} (a_X a_C : Nat → Nat) (I_X : (Nat → Int32)) (I_C : (Nat → Int32)) (A_C : (Nat → Nat → Int32)) (Q : (Nat → Nat → Int32) → Prop) (X66 : (Nat → Nat → Int32) → Prop) (hC : CX p s m args meth c b_X_numberAnew R_X TB 4 D vwCl (tyl cA) A (SPl sx) none) (hX66 : ∀ (A_X : (Nat → Nat → Int32)), X66 A_X → VV p l e ({ frames := 0, cells := 0, slots := 0, locals := 0 } : Room) s m args below meth c 4 D vwCl A 0 0 (QV below args s D vwCl (tyl cA) A (fun (u : (Nat → Nat → Int32)) => Q u) (fun u : (Nat → Nat → Int32) => kc_X cA a_X I_X u ++ kc_C cA a_C I_C A_C)) (kc_X cA a_X I_X A_X ++ kc_C cA a_C I_C A_C) 100 [] []) : ∀ (n66 : Nat) (A_X : (Nat → Nat → Int32)) (v2 : Int32) (v3 : Int32), wp_X_numberAnew_L66 I_C A_C Q X66 n66 A_X v2 v3 → VV p l e ({ frames := 0, cells := 0, slots := 0, locals := 0 } : Room) s m args below meth c 4 D vwCl A 0 0 (QV below args s D vwCl (tyl cA) A (fun (u : (Nat → Nat → Int32)) => Q u) (fun u : (Nat → Nat → Int32) => kc_X cA a_X I_X u ++ kc_C cA a_C I_C A_C)) (kc_X cA a_X I_X A_X ++ kc_C cA a_C I_C A_C) 66 [(0, .ref (a_X 0)), (1, .ref (a_C 0)), (2, .int v2), (3, .int v3)] [] := by
  intro n66
  induction n66 with
  | zero =>
    intro A_X v2 v3 hw
    exact absurd hw (fun z => z)
  | succ n66 ih =>
    intro A_X v2 v3 hw
    unfold wp_X_numberAnew_L66 at hw
    refine vv_iload_n hC d_X_numberAnew_66 3 rfl rfl ?_
    refine vv_aload_n hC d_X_numberAnew_67 1 rfl rfl ?_
    refine vv_get hC (v := .int (I_C 4)) hin_C 3 4 tb_168 d_X_numberAnew_68 rfl rfl (by decide) rfl rfl ?_
    refine vv_icmp_ge hC 100 d_X_numberAnew_71 (by decide) (fun cd => ?_) (fun cd => ?_)
    · have hw := hw.1 cd
      exact vv_sub [] (by rfl) (hX66 A_X hw)
    · have hw := hw.2 cd
      refine vv_iinc hC d_X_numberAnew_74 2 rfl (v := (v2 + (1 : Int32))) rfl (by decide) [1, 2, 0, 3] (L2 := [(0, .ref (a_X 0)), (1, .ref (a_C 0)), (2, .int (v2 + (1 : Int32))), (3, .int v3)]) rfl ?_
      refine vv_aload_n hC d_X_numberAnew_77 0 rfl rfl ?_
      refine vv_get hC (v := .ref (a_X 2)) hin_X 0 1 tb_130 d_X_numberAnew_78 rfl rfl (by decide) rfl rfl ?_
      refine vv_aload_n hC d_X_numberAnew_81 1 rfl rfl ?_
      refine vv_get hC (v := .ref (a_C 5)) hin_C 3 10 tb_188 d_X_numberAnew_82 rfl rfl (by decide) rfl rfl ?_
      refine vv_aload_n hC d_X_numberAnew_85 1 rfl rfl ?_
      refine vv_get hC (v := .ref (a_C 8)) hin_C 3 13 tb_200 d_X_numberAnew_86 rfl rfl (by decide) rfl rfl ?_
      refine vv_iload_n hC d_X_numberAnew_89 3 rfl rfl ?_
      obtain ⟨hin_9, hw⟩ := hw
      refine vv_iald hC 11 0 d_X_numberAnew_90 rfl rfl hin_9 ?_
      obtain ⟨hin_10, hw⟩ := hw
      refine vv_iald hC 8 0 d_X_numberAnew_91 rfl rfl hin_10 ?_
      refine vv_iload_n hC d_X_numberAnew_92 2 rfl rfl ?_
      obtain ⟨hin_11, hw⟩ := hw
      refine vv_iast hC 2 0 d_X_numberAnew_93 rfl rfl hin_11 (ws2 := kc_X cA a_X I_X (va_up A_X 1 (upd (A_X 1) (((A_C 4) (((A_C 7) (v3).toNatClampNeg)).toNatClampNeg)).toNatClampNeg (v2 + (1 : Int32)))) ++ kc_C cA a_C I_C A_C) (st_XC_XA1 ..) ?_
      refine vv_iinc hC d_X_numberAnew_94 3 rfl (v := (v3 + (1 : Int32))) rfl (by decide) [1, 2, 3, 0] (L2 := [(0, .ref (a_X 0)), (1, .ref (a_C 0)), (2, .int (v2 + (1 : Int32))), (3, .int (v3 + (1 : Int32)))]) rfl ?_
      refine vv_goto hC 66 d_X_numberAnew_97 (by decide) ?_
      exact vv_sub [0, 1, 2, 3] (by rfl) (ih (va_up A_X 1 (upd (A_X 1) (((A_C 4) (((A_C 7) (v3).toNatClampNeg)).toNatClampNeg)).toNatClampNeg (v2 + (1 : Int32)))) (v2 + (1 : Int32)) (v3 + (1 : Int32)) hw)
set_option maxHeartbeats 4000000 in
set_option maxRecDepth 100000 in
theorem c_X_numberAnew (l : Launch) (D : va_G) (cA : Nat → ClassId) (sx : Nat → Nat) (a_X a_C : Nat → Nat) (I_X : (Nat → Int32)) (A_X : (Nat → Nat → Int32)) (I_C : (Nat → Int32)) (A_C : (Nat → Nat → Int32)) (Q : (Nat → Nat → Int32) → Prop) (hw : wp_X_numberAnew A_X I_C A_C Q) : MetV l y_X_numberAnew (Cond.code y_X_numberAnew b_X_numberAnew 4 none :: TB) ({ frames := 0, cells := 0, slots := 0, locals := 0 } : Room) D vwCl (tyl cA) (SPl sx) [.ref (a_X 0), .ref (a_C 0)] (kc_X cA a_X I_X A_X ++ kc_C cA a_C I_C A_C) (fun (u : (Nat → Nat → Int32)) => Q u) (fun u : (Nat → Nat → Int32) => kc_X cA a_X I_X u ++ kc_C cA a_C I_C A_C) := by
  refine vv_entryV (cc := b_X_numberAnew) (own := R_X) (L := [(0, .ref (a_X 0)), (1, .ref (a_C 0))]) (by decide) rfl rfl (Nat.le_of_ble_eq_true rfl) rfl (fun p e s m args below meth c A hC => ?_)
  unfold wp_X_numberAnew at hw
  refine vv_iconst hC d_X_numberAnew_0 (v := (0 : Int32)) (by decide) ?_
  refine vv_istore_n hC d_X_numberAnew_1 rfl (by decide) [1, 2, 0] (L2 := [(0, .ref (a_X 0)), (1, .ref (a_C 0)), (2, .int (0 : Int32))]) rfl ?_
  refine vv_iconst hC d_X_numberAnew_2 (v := (0 : Int32)) (by decide) ?_
  refine vv_istore_n hC d_X_numberAnew_3 rfl (by decide) [1, 2, 3, 0] (L2 := [(0, .ref (a_X 0)), (1, .ref (a_C 0)), (2, .int (0 : Int32)), (3, .int (0 : Int32))]) rfl ?_
  obtain ⟨m4, hw⟩ := hw
  refine vv_sub [0, 1, 2, 3] (by rfl) (l_X_numberAnew_L4 a_X a_C I_X I_C A_C Q _ hC (fun A_X_3 v2_4 hw => ?_) m4 A_X (0 : Int32) (0 : Int32) hw)
  refine vv_iconst hC d_X_numberAnew_33 (v := (0 : Int32)) (by decide) ?_
  refine vv_istore_n hC d_X_numberAnew_34 rfl (by decide) [1, 2, 3, 0] (L2 := [(0, .ref (a_X 0)), (1, .ref (a_C 0)), (2, .int v2_4), (3, .int (0 : Int32))]) rfl ?_
  obtain ⟨m35, hw⟩ := hw
  refine vv_sub [0, 1, 2, 3] (by rfl) (l_X_numberAnew_L35 a_X a_C I_X I_C A_C Q _ hC (fun A_X_7 v2_8 hw => ?_) m35 A_X_3 v2_4 (0 : Int32) hw)
  refine vv_iconst hC d_X_numberAnew_64 (v := (0 : Int32)) (by decide) ?_
  refine vv_istore_n hC d_X_numberAnew_65 rfl (by decide) [1, 2, 3, 0] (L2 := [(0, .ref (a_X 0)), (1, .ref (a_C 0)), (2, .int v2_8), (3, .int (0 : Int32))]) rfl ?_
  obtain ⟨m66, hw⟩ := hw
  refine vv_sub [0, 1, 2, 3] (by rfl) (l_X_numberAnew_L66 a_X a_C I_X I_C A_C Q _ hC (fun A_X_12 hw => ?_) m66 A_X_7 v2_8 (0 : Int32) hw)
  exact vv_vret hC d_X_numberAnew_100 A_X_12 hw rfl
set_option maxHeartbeats 4000000 in
set_option maxRecDepth 100000 in
theorem c_X_newLiteral (l : Launch) (D : va_G) (cA : Nat → ClassId) (sx : Nat → Nat) (a_X : Nat → Nat) (I_X : (Nat → Int32)) (A_X : (Nat → Nat → Int32)) (x1 : Int32) (Q : Int32 → Prop) (hw : wp_X_newLiteral A_X x1 Q) : MetI l y_X_newLiteral (Cond.code y_X_newLiteral b_X_newLiteral 2 (some .int) :: TB) ({ frames := 0, cells := 0, slots := 0, locals := 0 } : Room) D vwCl (tyl cA) (SPl sx) [.ref (a_X 0), .int x1] (kc_X cA a_X I_X A_X) (fun (r : Int32) (u : Unit) => Q r) (fun u : Unit => kc_X cA a_X I_X A_X) := by
  refine vv_entryI (cc := b_X_newLiteral) (own := R_X) (L := [(0, .ref (a_X 0)), (1, .int x1)]) (by decide) rfl rfl (Nat.le_of_ble_eq_true rfl) rfl (fun p e s m args below meth c A hC => ?_)
  unfold wp_X_newLiteral at hw
  refine vv_iconst hC d_X_newLiteral_0 (v := (2 : Int32)) (by decide) ?_
  refine vv_aload_n hC d_X_newLiteral_1 0 rfl rfl ?_
  refine vv_get hC (v := .ref (a_X 2)) hin_X 0 1 tb_130 d_X_newLiteral_2 rfl rfl (by decide) rfl rfl ?_
  refine vv_iload_n hC d_X_newLiteral_5 1 rfl rfl ?_
  refine vv_iconst hC d_X_newLiteral_6 (v := (1 : Int32)) (by decide) ?_
  refine vv_ishr hC d_X_newLiteral_7 ?_
  obtain ⟨hin_1, hw⟩ := hw
  refine vv_iald hC 2 0 d_X_newLiteral_8 rfl rfl hin_1 ?_
  refine vv_imul hC d_X_newLiteral_9 ?_
  refine vv_iload_n hC d_X_newLiteral_10 1 rfl rfl ?_
  refine vv_iconst hC d_X_newLiteral_11 (v := (1 : Int32)) (by decide) ?_
  refine vv_iand hC d_X_newLiteral_12 ?_
  refine vv_iadd hC d_X_newLiteral_13 ?_
  exact vv_iret hC d_X_newLiteral_14 () hw rfl
set_option maxHeartbeats 4000000 in
set_option maxRecDepth 100000 in
theorem c_X_putDelta (l : Launch) (D : va_G) (cA : Nat → ClassId) (sx : Nat → Nat) (a_X : Nat → Nat) (I_X : (Nat → Int32)) (A_X : (Nat → Nat → Int32)) (x1 : Int32) (Q : (Nat → Int32) → (Nat → Nat → Int32) → Prop) (hw : wp_X_putDelta I_X A_X x1 Q) : MetV l y_X_putDelta (Cond.code y_X_putDelta b_X_putDelta 2 none :: TB) ({ frames := 1, cells := 0, slots := 0, locals := 21 } : Room) D vwCl (tyl cA) (SPl sx) [.ref (a_X 0), .int x1] (kc_X cA a_X I_X A_X) (fun (u : (Nat → Int32) × (Nat → Nat → Int32)) => Q u.1 u.2) (fun u : (Nat → Int32) × (Nat → Nat → Int32) => kc_X cA a_X u.1 u.2) := by
  refine vv_entryV (cc := b_X_putDelta) (own := R_X) (L := [(0, .ref (a_X 0)), (1, .int x1)]) (by decide) rfl rfl (Nat.le_of_ble_eq_true rfl) rfl (fun p e s m args below meth c A hC => ?_)
  unfold wp_X_putDelta at hw
  refine vv_iload_n hC d_X_putDelta_0 1 rfl rfl ?_
  refine vv_sipush hC d_X_putDelta_1 (v := (128 : Int32)) (by decide) ?_
  refine vv_icmp_lt hC 30 d_X_putDelta_4 (by decide) (fun cd => ?_) (fun cd => ?_)
  · have hw := hw.1 cd
    refine vv_aload_n hC d_X_putDelta_30 0 rfl rfl ?_
    refine vv_iload_n hC d_X_putDelta_31 1 rfl rfl ?_
    refine vv_callVV (wr := []) hC (c_X_put l D cA sx a_X I_X A_X x1 _ hw) (cw_X_90 hC) d_X_putDelta_32 [] [0, 1, 2] [] [0, 1, 2] (fun u_1 : (Nat → Int32) × (Nat → Nat → Int32) => kc_X cA a_X u_1.1 u_1.2) ⟨Nat.zero_le _, Nat.zero_le _⟩ rfl rfl (fun _ => rfl) rfl rfl rfl rfl rfl rfl rfl rfl (Nat.le_of_ble_eq_true rfl) (fun u_1 hw => ?_)
    exact vv_vret hC d_X_putDelta_35 (u_1.1, u_1.2) hw rfl
  · have hw := hw.2 cd
    refine vv_aload_n hC d_X_putDelta_7 0 rfl rfl ?_
    refine vv_sipush hC d_X_putDelta_8 (v := (128 : Int32)) (by decide) ?_
    refine vv_iload_n hC d_X_putDelta_11 1 rfl rfl ?_
    refine vv_bipush hC d_X_putDelta_12 (v := (127 : Int32)) (by decide) ?_
    refine vv_iand hC d_X_putDelta_14 ?_
    refine vv_iadd hC d_X_putDelta_15 ?_
    refine vv_callVV (wr := []) hC (c_X_put l D cA sx a_X I_X A_X ((128 : Int32) + (x1 &&& (127 : Int32))) _ hw) (cw_X_90 hC) d_X_putDelta_16 [] [0, 1, 2] [] [0, 1, 2] (fun u_4 : (Nat → Int32) × (Nat → Nat → Int32) => kc_X cA a_X u_4.1 u_4.2) ⟨Nat.zero_le _, Nat.zero_le _⟩ rfl rfl (fun _ => rfl) rfl rfl rfl rfl rfl rfl rfl rfl (Nat.le_of_ble_eq_true rfl) (fun u_4 hw => ?_)
    refine vv_aload_n hC d_X_putDelta_19 0 rfl rfl ?_
    refine vv_iload_n hC d_X_putDelta_20 1 rfl rfl ?_
    refine vv_bipush hC d_X_putDelta_21 (v := (7 : Int32)) (by decide) ?_
    refine vv_ishr hC d_X_putDelta_23 ?_
    refine vv_callVV (wr := []) hC (c_X_put l D cA sx a_X u_4.1 u_4.2 (x1 >>> ((7 : Int32) &&& 31)) _ hw) (cw_X_90 hC) d_X_putDelta_24 [] [0, 1, 2] [] [0, 1, 2] (fun u_7 : (Nat → Int32) × (Nat → Nat → Int32) => kc_X cA a_X u_7.1 u_7.2) ⟨Nat.zero_le _, Nat.zero_le _⟩ rfl rfl (fun _ => rfl) rfl rfl rfl rfl rfl rfl rfl rfl (Nat.le_of_ble_eq_true rfl) (fun u_7 hw => ?_)
    refine vv_goto hC 35 d_X_putDelta_27 (by decide) ?_
    exact vv_vret hC d_X_putDelta_35 (u_7.1, u_7.2) hw rfl
set_option maxHeartbeats 4000000 in
set_option maxRecDepth 100000 in
theorem c_X_putBinaryAnd (l : Launch) (D : va_G) (cA : Nat → ClassId) (sx : Nat → Nat) (a_X a_C : Nat → Nat) (I_X : (Nat → Int32)) (A_X : (Nat → Nat → Int32)) (I_C : (Nat → Int32)) (A_C : (Nat → Nat → Int32)) (x2 : Int32) (Q : (Nat → Int32) → (Nat → Nat → Int32) → Prop) (hw : wp_X_putBinaryAnd I_X A_X A_C x2 Q) : MetV l y_X_putBinaryAnd (Cond.code y_X_putBinaryAnd b_X_putBinaryAnd 6 none :: TB) ({ frames := 2, cells := 0, slots := 0, locals := 42 } : Room) D vwCl (tyl cA) (SPl sx) [.ref (a_X 0), .ref (a_C 0), .int x2] (kc_X cA a_X I_X A_X ++ kc_C cA a_C I_C A_C) (fun (u : (Nat → Int32) × (Nat → Nat → Int32)) => Q u.1 u.2) (fun u : (Nat → Int32) × (Nat → Nat → Int32) => kc_X cA a_X u.1 u.2 ++ kc_C cA a_C I_C A_C) := by
  refine vv_entryV (cc := b_X_putBinaryAnd) (own := R_X) (L := [(0, .ref (a_X 0)), (1, .ref (a_C 0)), (2, .int x2)]) (by decide) rfl rfl (Nat.le_of_ble_eq_true rfl) rfl (fun p e s m args below meth c A hC => ?_)
  unfold wp_X_putBinaryAnd at hw
  refine vv_aload_n hC d_X_putBinaryAnd_0 0 rfl rfl ?_
  refine vv_aload_n hC d_X_putBinaryAnd_1 1 rfl rfl ?_
  refine vv_get hC (v := .ref (a_C 6)) hin_C 3 11 tb_192 d_X_putBinaryAnd_2 rfl rfl (by decide) rfl rfl ?_
  refine vv_iload_n hC d_X_putBinaryAnd_5 2 rfl rfl ?_
  obtain ⟨hin_1, hw⟩ := hw
  refine vv_iald hC 9 0 d_X_putBinaryAnd_6 rfl rfl hin_1 ?_
  refine vv_callVI (wr := kc_C cA a_C I_C A_C) hC (c_X_newLiteral l D cA sx a_X I_X A_X ((A_C 5) (x2).toNatClampNeg) _ hw) (cw_X_79 hC) d_X_putBinaryAnd_7 [] [0, 1, 2] [3, 4, 5, 6, 7, 8, 9, 10, 11, 12, 13, 14, 15] [13, 14, 15, 0, 1, 2, 3, 4, 5, 6, 7, 8, 9, 10, 11, 12] (fun u_3 : Unit => kc_X cA a_X I_X A_X ++ kc_C cA a_C I_C A_C) ⟨Nat.zero_le _, Nat.zero_le _⟩ rfl rfl (fun _ => rfl) rfl rfl rfl rfl rfl rfl rfl rfl (Nat.le_of_ble_eq_true rfl) (fun r_2 u_3 hw => ?_)
  refine vv_istore_n hC d_X_putBinaryAnd_10 rfl (by decide) [1, 2, 3, 0] (L2 := [(0, .ref (a_X 0)), (1, .ref (a_C 0)), (2, .int x2), (3, .int r_2)]) rfl ?_
  refine vv_aload_n hC d_X_putBinaryAnd_11 0 rfl rfl ?_
  refine vv_aload_n hC d_X_putBinaryAnd_12 1 rfl rfl ?_
  refine vv_get hC (v := .ref (a_C 7)) hin_C 3 12 tb_196 d_X_putBinaryAnd_13 rfl rfl (by decide) rfl rfl ?_
  refine vv_iload_n hC d_X_putBinaryAnd_16 2 rfl rfl ?_
  refine vv_iald hC 10 0 d_X_putBinaryAnd_17 rfl rfl hin_1 ?_
  refine vv_callVI (wr := kc_C cA a_C I_C A_C) hC (c_X_newLiteral l D cA sx a_X I_X A_X ((A_C 6) (x2).toNatClampNeg) _ hw) (cw_X_79 hC) d_X_putBinaryAnd_18 [] [0, 1, 2] [3, 4, 5, 6, 7, 8, 9, 10, 11, 12, 13, 14, 15] [13, 14, 15, 0, 1, 2, 3, 4, 5, 6, 7, 8, 9, 10, 11, 12] (fun u_5 : Unit => kc_X cA a_X I_X A_X ++ kc_C cA a_C I_C A_C) ⟨Nat.zero_le _, Nat.zero_le _⟩ rfl rfl (fun _ => rfl) rfl rfl rfl rfl rfl rfl rfl rfl (Nat.le_of_ble_eq_true rfl) (fun r_4 u_5 hw => ?_)
  refine vv_istore hC d_X_putBinaryAnd_21 (by decide) [1, 2, 3, 4, 0] (L2 := [(0, .ref (a_X 0)), (1, .ref (a_C 0)), (2, .int x2), (3, .int r_2), (4, .int r_4)]) rfl ?_
  refine vv_iload_n hC d_X_putBinaryAnd_23 3 rfl rfl ?_
  refine vv_iload hC d_X_putBinaryAnd_24 4 rfl ?_
  refine vv_mmax hC tb_343 d_X_putBinaryAnd_26 ⟨Nat.zero_le _, Nat.zero_le _⟩ ⟨Nat.le_of_ble_eq_true rfl, Nat.le_of_ble_eq_true rfl⟩ ?_
  refine vv_istore hC d_X_putBinaryAnd_29 (by decide) [1, 2, 3, 4, 5, 0] (L2 := [(0, .ref (a_X 0)), (1, .ref (a_C 0)), (2, .int x2), (3, .int r_2), (4, .int r_4), (5, .int (if r_2 < r_4 then r_4 else r_2))]) rfl ?_
  refine vv_aload_n hC d_X_putBinaryAnd_31 0 rfl rfl ?_
  refine vv_iconst hC d_X_putBinaryAnd_32 (v := (2 : Int32)) (by decide) ?_
  refine vv_aload_n hC d_X_putBinaryAnd_33 0 rfl rfl ?_
  refine vv_get hC (v := .ref (a_X 2)) hin_X 0 1 tb_130 d_X_putBinaryAnd_34 rfl rfl (by decide) rfl rfl ?_
  refine vv_aload_n hC d_X_putBinaryAnd_37 1 rfl rfl ?_
  refine vv_get hC (v := .ref (a_C 5)) hin_C 3 10 tb_188 d_X_putBinaryAnd_38 rfl rfl (by decide) rfl rfl ?_
  refine vv_iload_n hC d_X_putBinaryAnd_41 2 rfl rfl ?_
  refine vv_iald hC 8 0 d_X_putBinaryAnd_42 rfl rfl hin_1 ?_
  obtain ⟨hin_6, hw⟩ := hw
  refine vv_iald hC 2 0 d_X_putBinaryAnd_43 rfl rfl hin_6 ?_
  refine vv_imul hC d_X_putBinaryAnd_44 ?_
  refine vv_iload hC d_X_putBinaryAnd_45 5 rfl ?_
  refine vv_isub hC d_X_putBinaryAnd_47 ?_
  refine vv_callVV (wr := kc_C cA a_C I_C A_C) hC (c_X_putDelta l D cA sx a_X I_X A_X (((2 : Int32) * ((A_X 1) (((A_C 4) (x2).toNatClampNeg)).toNatClampNeg)) - (if r_2 < r_4 then r_4 else r_2)) _ hw) (cw_X_100 hC) d_X_putBinaryAnd_48 [] [0, 1, 2] [3, 4, 5, 6, 7, 8, 9, 10, 11, 12, 13, 14, 15] [13, 14, 15, 0, 1, 2, 3, 4, 5, 6, 7, 8, 9, 10, 11, 12] (fun u_7 : (Nat → Int32) × (Nat → Nat → Int32) => kc_X cA a_X u_7.1 u_7.2 ++ kc_C cA a_C I_C A_C) ⟨Nat.zero_le _, Nat.zero_le _⟩ rfl rfl (fun _ => rfl) rfl rfl rfl rfl rfl rfl rfl rfl (Nat.le_of_ble_eq_true rfl) (fun u_7 hw => ?_)
  refine vv_aload_n hC d_X_putBinaryAnd_51 0 rfl rfl ?_
  refine vv_iload hC d_X_putBinaryAnd_52 5 rfl ?_
  refine vv_iload_n hC d_X_putBinaryAnd_54 3 rfl rfl ?_
  refine vv_iload hC d_X_putBinaryAnd_55 4 rfl ?_
  refine vv_mmin hC tb_350 d_X_putBinaryAnd_57 ⟨Nat.zero_le _, Nat.zero_le _⟩ ⟨Nat.le_of_ble_eq_true rfl, Nat.le_of_ble_eq_true rfl⟩ ?_
  refine vv_isub hC d_X_putBinaryAnd_60 ?_
  refine vv_callVV (wr := kc_C cA a_C I_C A_C) hC (c_X_putDelta l D cA sx a_X u_7.1 u_7.2 ((if r_2 < r_4 then r_4 else r_2) - (if r_4 < r_2 then r_4 else r_2)) _ hw) (cw_X_100 hC) d_X_putBinaryAnd_61 [] [0, 1, 2] [3, 4, 5, 6, 7, 8, 9, 10, 11, 12, 13, 14, 15] [13, 14, 15, 0, 1, 2, 3, 4, 5, 6, 7, 8, 9, 10, 11, 12] (fun u_10 : (Nat → Int32) × (Nat → Nat → Int32) => kc_X cA a_X u_10.1 u_10.2 ++ kc_C cA a_C I_C A_C) ⟨Nat.zero_le _, Nat.zero_le _⟩ rfl rfl (fun _ => rfl) rfl rfl rfl rfl rfl rfl rfl rfl (Nat.le_of_ble_eq_true rfl) (fun u_10 hw => ?_)
  exact vv_vret hC d_X_putBinaryAnd_64 (u_10.1, u_10.2) hw rfl
set_option maxHeartbeats 4000000 in
set_option maxRecDepth 100000 in
theorem l_X_writeBinary_L41 {p : Program} {l : Launch} {e : Env} {s : State} {m : MethodId} {args : Array Value} {below : List Frame} {meth : Method} {c : Code} {D : va_G} {cA : Nat → ClassId} {sx : Nat → Nat} {A : Nat → Prop} (a_X a_C : Nat → Nat) (I_C : (Nat → Int32)) (A_C : (Nat → Nat → Int32)) (Q : (Nat → Int32) → (Nat → Nat → Int32) → Prop) (X41 : (Nat → Int32) → (Nat → Nat → Int32) → Prop) (hC : CX p s m args meth c b_X_writeBinary R_X TB 3 D vwCl (tyl cA) A (SPl sx) none) (hX41 : ∀ (I_X : (Nat → Int32)) (A_X : (Nat → Nat → Int32)), X41 I_X A_X → VV p l e ({ frames := 5, cells := 0, slots := 0, locals := 108 } : Room) s m args below meth c 3 D vwCl A 0 0 (QV below args s D vwCl (tyl cA) A (fun (u : (Nat → Int32) × (Nat → Nat → Int32)) => Q u.1 u.2) (fun u : (Nat → Int32) × (Nat → Nat → Int32) => kc_X cA a_X u.1 u.2 ++ kc_C cA a_C I_C A_C)) (kc_X cA a_X I_X A_X ++ kc_C cA a_C I_C A_C) 71 [(0, .ref (a_X 0)), (1, .ref (a_C 0))] []) : ∀ (n41 : Nat) (I_X : (Nat → Int32)) (A_X : (Nat → Nat → Int32)) (v2 : Int32), wp_X_writeBinary_L41 I_C A_C Q X41 n41 I_X A_X v2 → VV p l e ({ frames := 5, cells := 0, slots := 0, locals := 108 } : Room) s m args below meth c 3 D vwCl A 0 0 (QV below args s D vwCl (tyl cA) A (fun (u : (Nat → Int32) × (Nat → Nat → Int32)) => Q u.1 u.2) (fun u : (Nat → Int32) × (Nat → Nat → Int32) => kc_X cA a_X u.1 u.2 ++ kc_C cA a_C I_C A_C)) (kc_X cA a_X I_X A_X ++ kc_C cA a_C I_C A_C) 41 [(0, .ref (a_X 0)), (1, .ref (a_C 0)), (2, .int v2)] [] := by
  intro n41
  induction n41 with
  | zero =>
    intro I_X A_X v2 hw
    exact absurd hw (fun z => z)
  | succ n41 ih =>
    intro I_X A_X v2 hw
    unfold wp_X_writeBinary_L41 at hw
    refine vv_iload_n hC d_X_writeBinary_41 2 rfl rfl ?_
    refine vv_aload_n hC d_X_writeBinary_42 1 rfl rfl ?_
    refine vv_get hC (v := .int (I_C 2)) hin_C 3 2 tb_158 d_X_writeBinary_43 rfl rfl (by decide) rfl rfl ?_
    refine vv_icmp_ge hC 71 d_X_writeBinary_46 (by decide) (fun cd => ?_) (fun cd => ?_)
    · have hw := hw.1 cd
      exact vv_sub [0, 1] (by rfl) (hX41 I_X A_X hw)
    · have hw := hw.2 cd
      refine vv_aload_n hC d_X_writeBinary_49 0 rfl rfl ?_
      refine vv_aload_n hC d_X_writeBinary_50 0 rfl rfl ?_
      refine vv_aload_n hC d_X_writeBinary_51 1 rfl rfl ?_
      refine vv_get hC (v := .ref (a_C 3)) hin_C 3 8 tb_179 d_X_writeBinary_52 rfl rfl (by decide) rfl rfl ?_
      refine vv_iload_n hC d_X_writeBinary_55 2 rfl rfl ?_
      obtain ⟨hin_6, hw⟩ := hw
      refine vv_iald hC 6 0 d_X_writeBinary_56 rfl rfl hin_6 ?_
      refine vv_callVI (wr := kc_C cA a_C I_C A_C) hC (c_X_newLiteral l D cA sx a_X I_X A_X ((A_C 2) (v2).toNatClampNeg) _ hw) (cw_X_79 hC) d_X_writeBinary_57 [.ref (a_X 0)] [0, 1, 2] [3, 4, 5, 6, 7, 8, 9, 10, 11, 12, 13, 14, 15] [13, 14, 15, 0, 1, 2, 3, 4, 5, 6, 7, 8, 9, 10, 11, 12] (fun u_8 : Unit => kc_X cA a_X I_X A_X ++ kc_C cA a_C I_C A_C) ⟨Nat.zero_le _, Nat.zero_le _⟩ rfl rfl (fun _ => rfl) rfl rfl rfl rfl rfl rfl rfl rfl (Nat.le_of_ble_eq_true rfl) (fun r_7 u_8 hw => ?_)
      refine vv_bipush hC d_X_writeBinary_60 (v := (10 : Int32)) (by decide) ?_
      refine vv_callVV (wr := kc_C cA a_C I_C A_C) hC (c_X_putNumber l D cA sx a_X I_X A_X r_7 (10 : Int32) _ hw) (cw_X_41 hC) d_X_writeBinary_62 [] [0, 1, 2] [3, 4, 5, 6, 7, 8, 9, 10, 11, 12, 13, 14, 15] [13, 14, 15, 0, 1, 2, 3, 4, 5, 6, 7, 8, 9, 10, 11, 12] (fun u_9 : (Nat → Int32) × (Nat → Nat → Int32) => kc_X cA a_X u_9.1 u_9.2 ++ kc_C cA a_C I_C A_C) ⟨Nat.zero_le _, Nat.zero_le _⟩ rfl rfl (fun _ => rfl) rfl rfl rfl rfl rfl rfl rfl rfl (Nat.le_of_ble_eq_true rfl) (fun u_9 hw => ?_)
      refine vv_iinc hC d_X_writeBinary_65 2 rfl (v := (v2 + (1 : Int32))) rfl (by decide) [1, 2, 0] (L2 := [(0, .ref (a_X 0)), (1, .ref (a_C 0)), (2, .int (v2 + (1 : Int32)))]) rfl ?_
      refine vv_goto hC 41 d_X_writeBinary_68 (by decide) ?_
      exact vv_sub [0, 1, 2] (by rfl) (ih u_9.1 u_9.2 (v2 + (1 : Int32)) hw)
set_option maxHeartbeats 4000000 in
set_option maxRecDepth 100000 in
theorem l_X_writeBinary_L73 {p : Program} {l : Launch} {e : Env} {s : State} {m : MethodId} {args : Array Value} {below : List Frame} {meth : Method} {c : Code} {D : va_G} {cA : Nat → ClassId} {sx : Nat → Nat} {A : Nat → Prop} (a_X a_C : Nat → Nat) (I_C : (Nat → Int32)) (A_C : (Nat → Nat → Int32)) (Q : (Nat → Int32) → (Nat → Nat → Int32) → Prop) (X73 : (Nat → Int32) → (Nat → Nat → Int32) → Prop) (hC : CX p s m args meth c b_X_writeBinary R_X TB 3 D vwCl (tyl cA) A (SPl sx) none) (hX73 : ∀ (I_X : (Nat → Int32)) (A_X : (Nat → Nat → Int32)), X73 I_X A_X → VV p l e ({ frames := 5, cells := 0, slots := 0, locals := 108 } : Room) s m args below meth c 3 D vwCl A 0 0 (QV below args s D vwCl (tyl cA) A (fun (u : (Nat → Int32) × (Nat → Nat → Int32)) => Q u.1 u.2) (fun u : (Nat → Int32) × (Nat → Nat → Int32) => kc_X cA a_X u.1 u.2 ++ kc_C cA a_C I_C A_C)) (kc_X cA a_X I_X A_X ++ kc_C cA a_C I_C A_C) 103 [(0, .ref (a_X 0)), (1, .ref (a_C 0))] []) : ∀ (n73 : Nat) (I_X : (Nat → Int32)) (A_X : (Nat → Nat → Int32)) (v2 : Int32), wp_X_writeBinary_L73 I_C A_C Q X73 n73 I_X A_X v2 → VV p l e ({ frames := 5, cells := 0, slots := 0, locals := 108 } : Room) s m args below meth c 3 D vwCl A 0 0 (QV below args s D vwCl (tyl cA) A (fun (u : (Nat → Int32) × (Nat → Nat → Int32)) => Q u.1 u.2) (fun u : (Nat → Int32) × (Nat → Nat → Int32) => kc_X cA a_X u.1 u.2 ++ kc_C cA a_C I_C A_C)) (kc_X cA a_X I_X A_X ++ kc_C cA a_C I_C A_C) 73 [(0, .ref (a_X 0)), (1, .ref (a_C 0)), (2, .int v2)] [] := by
  intro n73
  induction n73 with
  | zero =>
    intro I_X A_X v2 hw
    exact absurd hw (fun z => z)
  | succ n73 ih =>
    intro I_X A_X v2 hw
    unfold wp_X_writeBinary_L73 at hw
    refine vv_iload_n hC d_X_writeBinary_73 2 rfl rfl ?_
    refine vv_aload_n hC d_X_writeBinary_74 1 rfl rfl ?_
    refine vv_get hC (v := .int (I_C 3)) hin_C 3 3 tb_162 d_X_writeBinary_75 rfl rfl (by decide) rfl rfl ?_
    refine vv_icmp_ge hC 103 d_X_writeBinary_78 (by decide) (fun cd => ?_) (fun cd => ?_)
    · have hw := hw.1 cd
      exact vv_sub [0, 1] (by rfl) (hX73 I_X A_X hw)
    · have hw := hw.2 cd
      refine vv_aload_n hC d_X_writeBinary_81 0 rfl rfl ?_
      refine vv_aload_n hC d_X_writeBinary_82 0 rfl rfl ?_
      refine vv_aload_n hC d_X_writeBinary_83 1 rfl rfl ?_
      refine vv_get hC (v := .ref (a_C 4)) hin_C 3 9 tb_183 d_X_writeBinary_84 rfl rfl (by decide) rfl rfl ?_
      refine vv_iload_n hC d_X_writeBinary_87 2 rfl rfl ?_
      obtain ⟨hin_14, hw⟩ := hw
      refine vv_iald hC 7 0 d_X_writeBinary_88 rfl rfl hin_14 ?_
      refine vv_callVI (wr := kc_C cA a_C I_C A_C) hC (c_X_newLiteral l D cA sx a_X I_X A_X ((A_C 3) (v2).toNatClampNeg) _ hw) (cw_X_79 hC) d_X_writeBinary_89 [.ref (a_X 0)] [0, 1, 2] [3, 4, 5, 6, 7, 8, 9, 10, 11, 12, 13, 14, 15] [13, 14, 15, 0, 1, 2, 3, 4, 5, 6, 7, 8, 9, 10, 11, 12] (fun u_16 : Unit => kc_X cA a_X I_X A_X ++ kc_C cA a_C I_C A_C) ⟨Nat.zero_le _, Nat.zero_le _⟩ rfl rfl (fun _ => rfl) rfl rfl rfl rfl rfl rfl rfl rfl (Nat.le_of_ble_eq_true rfl) (fun r_15 u_16 hw => ?_)
      refine vv_bipush hC d_X_writeBinary_92 (v := (10 : Int32)) (by decide) ?_
      refine vv_callVV (wr := kc_C cA a_C I_C A_C) hC (c_X_putNumber l D cA sx a_X I_X A_X r_15 (10 : Int32) _ hw) (cw_X_41 hC) d_X_writeBinary_94 [] [0, 1, 2] [3, 4, 5, 6, 7, 8, 9, 10, 11, 12, 13, 14, 15] [13, 14, 15, 0, 1, 2, 3, 4, 5, 6, 7, 8, 9, 10, 11, 12] (fun u_17 : (Nat → Int32) × (Nat → Nat → Int32) => kc_X cA a_X u_17.1 u_17.2 ++ kc_C cA a_C I_C A_C) ⟨Nat.zero_le _, Nat.zero_le _⟩ rfl rfl (fun _ => rfl) rfl rfl rfl rfl rfl rfl rfl rfl (Nat.le_of_ble_eq_true rfl) (fun u_17 hw => ?_)
      refine vv_iinc hC d_X_writeBinary_97 2 rfl (v := (v2 + (1 : Int32))) rfl (by decide) [1, 2, 0] (L2 := [(0, .ref (a_X 0)), (1, .ref (a_C 0)), (2, .int (v2 + (1 : Int32)))]) rfl ?_
      refine vv_goto hC 73 d_X_writeBinary_100 (by decide) ?_
      exact vv_sub [0, 1, 2] (by rfl) (ih u_17.1 u_17.2 (v2 + (1 : Int32)) hw)
set_option maxHeartbeats 4000000 in
set_option maxRecDepth 100000 in
theorem l_X_writeBinary_L105 {p : Program} {l : Launch} {e : Env} {s : State} {m : MethodId} {args : Array Value} {below : List Frame} {meth : Method} {c : Code} {D : va_G} {cA : Nat → ClassId} {sx : Nat → Nat} {A : Nat → Prop} (a_X a_C : Nat → Nat) (I_C : (Nat → Int32)) (A_C : (Nat → Nat → Int32)) (Q : (Nat → Int32) → (Nat → Nat → Int32) → Prop) (X105 : (Nat → Int32) → (Nat → Nat → Int32) → Prop) (hC : CX p s m args meth c b_X_writeBinary R_X TB 3 D vwCl (tyl cA) A (SPl sx) none) (hX105 : ∀ (I_X : (Nat → Int32)) (A_X : (Nat → Nat → Int32)), X105 I_X A_X → VV p l e ({ frames := 5, cells := 0, slots := 0, locals := 108 } : Room) s m args below meth c 3 D vwCl A 0 0 (QV below args s D vwCl (tyl cA) A (fun (u : (Nat → Int32) × (Nat → Nat → Int32)) => Q u.1 u.2) (fun u : (Nat → Int32) × (Nat → Nat → Int32) => kc_X cA a_X u.1 u.2 ++ kc_C cA a_C I_C A_C)) (kc_X cA a_X I_X A_X ++ kc_C cA a_C I_C A_C) 130 [(0, .ref (a_X 0)), (1, .ref (a_C 0))] []) : ∀ (n105 : Nat) (I_X : (Nat → Int32)) (A_X : (Nat → Nat → Int32)) (v2 : Int32), wp_X_writeBinary_L105 I_C A_C Q X105 n105 I_X A_X v2 → VV p l e ({ frames := 5, cells := 0, slots := 0, locals := 108 } : Room) s m args below meth c 3 D vwCl A 0 0 (QV below args s D vwCl (tyl cA) A (fun (u : (Nat → Int32) × (Nat → Nat → Int32)) => Q u.1 u.2) (fun u : (Nat → Int32) × (Nat → Nat → Int32) => kc_X cA a_X u.1 u.2 ++ kc_C cA a_C I_C A_C)) (kc_X cA a_X I_X A_X ++ kc_C cA a_C I_C A_C) 105 [(0, .ref (a_X 0)), (1, .ref (a_C 0)), (2, .int v2)] [] := by
  intro n105
  induction n105 with
  | zero =>
    intro I_X A_X v2 hw
    exact absurd hw (fun z => z)
  | succ n105 ih =>
    intro I_X A_X v2 hw
    unfold wp_X_writeBinary_L105 at hw
    refine vv_iload_n hC d_X_writeBinary_105 2 rfl rfl ?_
    refine vv_aload_n hC d_X_writeBinary_106 1 rfl rfl ?_
    refine vv_get hC (v := .int (I_C 4)) hin_C 3 4 tb_168 d_X_writeBinary_107 rfl rfl (by decide) rfl rfl ?_
    refine vv_icmp_ge hC 130 d_X_writeBinary_110 (by decide) (fun cd => ?_) (fun cd => ?_)
    · have hw := hw.1 cd
      exact vv_sub [0, 1] (by rfl) (hX105 I_X A_X hw)
    · have hw := hw.2 cd
      refine vv_aload_n hC d_X_writeBinary_113 0 rfl rfl ?_
      refine vv_aload_n hC d_X_writeBinary_114 1 rfl rfl ?_
      refine vv_aload_n hC d_X_writeBinary_115 1 rfl rfl ?_
      refine vv_get hC (v := .ref (a_C 8)) hin_C 3 13 tb_200 d_X_writeBinary_116 rfl rfl (by decide) rfl rfl ?_
      refine vv_iload_n hC d_X_writeBinary_119 2 rfl rfl ?_
      obtain ⟨hin_22, hw⟩ := hw
      refine vv_iald hC 11 0 d_X_writeBinary_120 rfl rfl hin_22 ?_
      refine vv_callVV (wr := []) hC (c_X_putBinaryAnd l D cA sx a_X a_C I_X A_X I_C A_C ((A_C 7) (v2).toNatClampNeg) _ hw) (cw_X_86 hC) d_X_writeBinary_121 [] [0, 1, 2, 3, 4, 5, 6, 7, 8, 9, 10, 11, 12, 13, 14, 15] [] [0, 1, 2, 3, 4, 5, 6, 7, 8, 9, 10, 11, 12, 13, 14, 15] (fun u_23 : (Nat → Int32) × (Nat → Nat → Int32) => kc_X cA a_X u_23.1 u_23.2 ++ kc_C cA a_C I_C A_C) ⟨Nat.zero_le _, Nat.zero_le _⟩ rfl rfl (fun _ => rfl) rfl rfl rfl rfl rfl rfl rfl rfl (Nat.le_of_ble_eq_true rfl) (fun u_23 hw => ?_)
      refine vv_iinc hC d_X_writeBinary_124 2 rfl (v := (v2 + (1 : Int32))) rfl (by decide) [1, 2, 0] (L2 := [(0, .ref (a_X 0)), (1, .ref (a_C 0)), (2, .int (v2 + (1 : Int32)))]) rfl ?_
      refine vv_goto hC 105 d_X_writeBinary_127 (by decide) ?_
      exact vv_sub [0, 1, 2] (by rfl) (ih u_23.1 u_23.2 (v2 + (1 : Int32)) hw)
set_option maxHeartbeats 4000000 in
set_option maxRecDepth 100000 in
theorem c_X_writeBinary (l : Launch) (D : va_G) (cA : Nat → ClassId) (sx : Nat → Nat) (a_X a_C : Nat → Nat) (I_X : (Nat → Int32)) (A_X : (Nat → Nat → Int32)) (I_C : (Nat → Int32)) (A_C : (Nat → Nat → Int32)) (Q : (Nat → Int32) → (Nat → Nat → Int32) → Prop) (hw : wp_X_writeBinary I_X A_X I_C A_C Q) : MetV l y_X_writeBinary (Cond.code y_X_writeBinary b_X_writeBinary 3 none :: TB) ({ frames := 5, cells := 0, slots := 0, locals := 108 } : Room) D vwCl (tyl cA) (SPl sx) [.ref (a_X 0), .ref (a_C 0)] (kc_X cA a_X I_X A_X ++ kc_C cA a_C I_C A_C) (fun (u : (Nat → Int32) × (Nat → Nat → Int32)) => Q u.1 u.2) (fun u : (Nat → Int32) × (Nat → Nat → Int32) => kc_X cA a_X u.1 u.2 ++ kc_C cA a_C I_C A_C) := by
  refine vv_entryV (cc := b_X_writeBinary) (own := R_X) (L := [(0, .ref (a_X 0)), (1, .ref (a_C 0))]) (by decide) rfl rfl (Nat.le_of_ble_eq_true rfl) rfl (fun p e s m args below meth c A hC => ?_)
  unfold wp_X_writeBinary at hw
  refine vv_aload_n hC d_X_writeBinary_0 0 rfl rfl ?_
  refine vv_get hC (v := .int (I_X 1)) hin_X 0 3 tb_132 d_X_writeBinary_1 rfl rfl (by decide) rfl rfl ?_
  refine vv_if_eq hC 8 d_X_writeBinary_4 (by decide) (fun cd => ?_) (fun cd => ?_)
  · have hw := hw.1 cd
    refine vv_aload_n hC d_X_writeBinary_8 0 rfl rfl ?_
    refine vv_iconst hC d_X_writeBinary_9 (v := (1 : Int32)) (by decide) ?_
    refine vv_put hC hin_X ty_X tyok_X nmok_X 0 3 tb_132 d_X_writeBinary_10 rfl rfl (by decide) rfl rfl rfl rfl rfl (Nat.le_of_ble_eq_true rfl) (ws2 := kc_X cA a_X (va_up I_X 1 (1 : Int32)) A_X ++ kc_C cA a_C I_C A_C) (st_XC_XI1 ..) ?_
    refine vv_aload_n hC d_X_writeBinary_13 0 rfl rfl ?_
    refine vv_aload_n hC d_X_writeBinary_14 1 rfl rfl ?_
    refine vv_callVV (wr := []) hC (c_X_numberAnew l D cA sx a_X a_C (va_up I_X 1 (1 : Int32)) A_X I_C A_C _ hw) (cw_X_76 hC) d_X_writeBinary_15 [] [0, 1, 2, 3, 4, 5, 6, 7, 8, 9, 10, 11, 12, 13, 14, 15] [] [0, 1, 2, 3, 4, 5, 6, 7, 8, 9, 10, 11, 12, 13, 14, 15] (fun u_1 : (Nat → Nat → Int32) => kc_X cA a_X (va_up I_X 1 (1 : Int32)) u_1 ++ kc_C cA a_C I_C A_C) ⟨Nat.zero_le _, Nat.zero_le _⟩ rfl rfl (fun _ => rfl) rfl rfl rfl rfl rfl rfl rfl rfl (Nat.le_of_ble_eq_true rfl) (fun u_1 hw => ?_)
    refine vv_aload_n hC d_X_writeBinary_18 0 rfl rfl ?_
    refine vv_aload_n hC d_X_writeBinary_19 1 rfl rfl ?_
    refine vv_bipush hC d_X_writeBinary_20 (v := (105 : Int32)) (by decide) ?_
    refine vv_aload_n hC d_X_writeBinary_22 1 rfl rfl ?_
    refine vv_get hC (v := .int (I_C 1)) hin_C 3 1 tb_154 d_X_writeBinary_23 rfl rfl (by decide) rfl rfl ?_
    refine vv_aload_n hC d_X_writeBinary_26 1 rfl rfl ?_
    refine vv_get hC (v := .int (I_C 2)) hin_C 3 2 tb_158 d_X_writeBinary_27 rfl rfl (by decide) rfl rfl ?_
    refine vv_iadd hC d_X_writeBinary_30 ?_
    refine vv_aload_n hC d_X_writeBinary_31 1 rfl rfl ?_
    refine vv_get hC (v := .int (I_C 4)) hin_C 3 4 tb_168 d_X_writeBinary_32 rfl rfl (by decide) rfl rfl ?_
    refine vv_iadd hC d_X_writeBinary_35 ?_
    refine vv_callVV (wr := []) hC (c_X_putHeader l D cA sx a_X a_C (va_up I_X 1 (1 : Int32)) u_1 I_C A_C (105 : Int32) (((I_C 1) + (I_C 2)) + (I_C 4)) _ hw) (cw_X_31 hC) d_X_writeBinary_36 [] [0, 1, 2, 3, 4, 5, 6, 7, 8, 9, 10, 11, 12, 13, 14, 15] [] [0, 1, 2, 3, 4, 5, 6, 7, 8, 9, 10, 11, 12, 13, 14, 15] (fun u_3 : (Nat → Int32) × (Nat → Nat → Int32) => kc_X cA a_X u_3.1 u_3.2 ++ kc_C cA a_C I_C A_C) ⟨Nat.zero_le _, Nat.zero_le _⟩ rfl rfl (fun _ => rfl) rfl rfl rfl rfl rfl rfl rfl rfl (Nat.le_of_ble_eq_true rfl) (fun u_3 hw => ?_)
    refine vv_iconst hC d_X_writeBinary_39 (v := (0 : Int32)) (by decide) ?_
    refine vv_istore_n hC d_X_writeBinary_40 rfl (by decide) [1, 2, 0] (L2 := [(0, .ref (a_X 0)), (1, .ref (a_C 0)), (2, .int (0 : Int32))]) rfl ?_
    obtain ⟨m41, hw⟩ := hw
    refine vv_sub [0, 1, 2] (by rfl) (l_X_writeBinary_L41 a_X a_C I_C A_C Q _ hC (fun I_X_12 A_X_13 hw => ?_) m41 u_3.1 u_3.2 (0 : Int32) hw)
    refine vv_iconst hC d_X_writeBinary_71 (v := (0 : Int32)) (by decide) ?_
    refine vv_istore_n hC d_X_writeBinary_72 rfl (by decide) [1, 2, 0] (L2 := [(0, .ref (a_X 0)), (1, .ref (a_C 0)), (2, .int (0 : Int32))]) rfl ?_
    obtain ⟨m73, hw⟩ := hw
    refine vv_sub [0, 1, 2] (by rfl) (l_X_writeBinary_L73 a_X a_C I_C A_C Q _ hC (fun I_X_20 A_X_21 hw => ?_) m73 I_X_12 A_X_13 (0 : Int32) hw)
    refine vv_iconst hC d_X_writeBinary_103 (v := (0 : Int32)) (by decide) ?_
    refine vv_istore_n hC d_X_writeBinary_104 rfl (by decide) [1, 2, 0] (L2 := [(0, .ref (a_X 0)), (1, .ref (a_C 0)), (2, .int (0 : Int32))]) rfl ?_
    obtain ⟨m105, hw⟩ := hw
    refine vv_sub [0, 1, 2] (by rfl) (l_X_writeBinary_L105 a_X a_C I_C A_C Q _ hC (fun I_X_26 A_X_27 hw => ?_) m105 I_X_20 A_X_21 (0 : Int32) hw)
    refine vv_aload_n hC d_X_writeBinary_130 0 rfl rfl ?_
    refine vv_aload_n hC d_X_writeBinary_131 1 rfl rfl ?_
    refine vv_callVV (wr := []) hC (c_X_putSymbols l D cA sx a_X a_C I_X_26 A_X_27 I_C A_C _ hw) (cw_X_72 hC) d_X_writeBinary_132 [] [0, 1, 2, 3, 4, 5, 6, 7, 8, 9, 10, 11, 12, 13, 14, 15] [] [0, 1, 2, 3, 4, 5, 6, 7, 8, 9, 10, 11, 12, 13, 14, 15] (fun u_28 : (Nat → Int32) × (Nat → Nat → Int32) => kc_X cA a_X u_28.1 u_28.2 ++ kc_C cA a_C I_C A_C) ⟨Nat.zero_le _, Nat.zero_le _⟩ rfl rfl (fun _ => rfl) rfl rfl rfl rfl rfl rfl rfl rfl (Nat.le_of_ble_eq_true rfl) (fun u_28 hw => ?_)
    exact vv_vret hC d_X_writeBinary_135 (u_28.1, u_28.2) hw rfl
  · have hw := hw.2 cd
    exact vv_vret hC d_X_writeBinary_7 (I_X, A_X) hw rfl
