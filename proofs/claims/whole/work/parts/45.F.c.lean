set_option maxHeartbeats 4000000 in
set_option maxRecDepth 100000 in
theorem c_F_feed (l : Launch) (D : va_G) (cA : Nat → ClassId) (sx : Nat → Nat) (a_F a_R a_U a_T a_S a_X a_Y a_C a_D : Nat → Nat) (I_R : (Nat → Int32)) (A_R : (Nat → Nat → Int32)) (I_U : (Nat → Int32)) (I_T : (Nat → Int32)) (A_T : (Nat → Nat → Int32)) (I_S : (Nat → Int32)) (A_S : (Nat → Nat → Int32)) (I_X : (Nat → Int32)) (A_X : (Nat → Nat → Int32)) (I_Y : (Nat → Int32)) (A_Y : (Nat → Nat → Int32)) (I_C : (Nat → Int32)) (A_C : (Nat → Nat → Int32)) (I_D : (Nat → Int32)) (A_D : (Nat → Nat → Int32)) (x1 x2 x3 x4 x5 : Int32) (Q : (Nat → Nat → Int32) → Prop) (hw : wp_F_feed A_T x1 x2 x3 x4 x5 Q) : MetV l y_F_feed (Cond.code y_F_feed b_F_feed 6 none :: TB) ({ frames := 1, cells := 0, slots := 0, locals := 23 } : Room) D vwCl (tyl cA) (SPl sx) [.ref (a_F 0), .int x1, .int x2, .int x3, .int x4, .int x5] (kc_F cA a_F a_T a_R a_X a_Y a_C a_D ++ kc_R cA a_R a_U a_S I_R A_R ++ kc_U cA a_U a_T I_U ++ kc_T cA a_T I_T A_T ++ kc_S cA a_S I_S A_S ++ kc_X cA a_X I_X A_X ++ kc_X cA a_Y I_Y A_Y ++ kc_C cA a_C I_C A_C ++ kc_C cA a_D I_D A_D) (fun (u : (Nat → Nat → Int32)) => Q u) (fun u : (Nat → Nat → Int32) => kc_F cA a_F a_T a_R a_X a_Y a_C a_D ++ kc_R cA a_R a_U a_S I_R A_R ++ kc_U cA a_U a_T I_U ++ kc_T cA a_T I_T u ++ kc_S cA a_S I_S A_S ++ kc_X cA a_X I_X A_X ++ kc_X cA a_Y I_Y A_Y ++ kc_C cA a_C I_C A_C ++ kc_C cA a_D I_D A_D) := by
  refine vv_entryV (cc := b_F_feed) (own := R_F) (L := [(0, .ref (a_F 0)), (1, .int x1), (2, .int x2), (3, .int x3), (4, .int x4), (5, .int x5)]) (by decide) rfl rfl (Nat.le_of_ble_eq_true rfl) rfl (fun p e s m args below meth c A hC => ?_)
  unfold wp_F_feed at hw
  refine vv_aload_n hC d_F_feed_0 0 rfl rfl ?_
  refine vv_get hC (v := .ref (a_T 0)) hin_F 0 0 tb_249 d_F_feed_1 rfl rfl (by decide) rfl rfl ?_
  refine vv_iconst hC d_F_feed_4 (v := (0 : Int32)) (by decide) ?_
  refine vv_iload_n hC d_F_feed_5 1 rfl rfl ?_
  refine vv_callVV (wr := kc_F cA a_F a_T a_R a_X a_Y a_C a_D ++ kc_R cA a_R a_U a_S I_R A_R ++ kc_U cA a_U a_T I_U ++ kc_S cA a_S I_S A_S ++ kc_X cA a_X I_X A_X ++ kc_X cA a_Y I_Y A_Y ++ kc_C cA a_C I_C A_C ++ kc_C cA a_D I_D A_D) hC (c_T_makeReady l D cA sx a_T I_T A_T (0 : Int32) x1 _ hw) (cw_F_45 hC) d_F_feed_6 [] [5, 6, 7] [0, 1, 2, 3, 4, 8, 9, 10, 11, 12, 13, 14, 15, 16, 17, 18, 19, 20, 21, 22, 23, 24, 25, 26, 27, 28, 29, 30, 31, 32, 33, 34, 35, 36, 37, 38, 39, 40, 41, 42, 43, 44] [0, 1, 2, 3, 4, 42, 43, 44, 5, 6, 7, 8, 9, 10, 11, 12, 13, 14, 15, 16, 17, 18, 19, 20, 21, 22, 23, 24, 25, 26, 27, 28, 29, 30, 31, 32, 33, 34, 35, 36, 37, 38, 39, 40, 41] (fun u_1 : (Nat → Nat → Int32) => kc_F cA a_F a_T a_R a_X a_Y a_C a_D ++ kc_R cA a_R a_U a_S I_R A_R ++ kc_U cA a_U a_T I_U ++ kc_T cA a_T I_T u_1 ++ kc_S cA a_S I_S A_S ++ kc_X cA a_X I_X A_X ++ kc_X cA a_Y I_Y A_Y ++ kc_C cA a_C I_C A_C ++ kc_C cA a_D I_D A_D) ⟨Nat.zero_le _, Nat.zero_le _⟩ rfl rfl (fun _ => rfl) rfl rfl rfl rfl rfl rfl rfl rfl (Nat.le_of_ble_eq_true rfl) (fun u_1 hw => ?_)
  refine vv_aload_n hC d_F_feed_9 0 rfl rfl ?_
  refine vv_get hC (v := .ref (a_T 0)) hin_F 0 0 tb_249 d_F_feed_10 rfl rfl (by decide) rfl rfl ?_
  refine vv_iconst hC d_F_feed_13 (v := (1 : Int32)) (by decide) ?_
  refine vv_iload_n hC d_F_feed_14 2 rfl rfl ?_
  refine vv_callVV (wr := kc_F cA a_F a_T a_R a_X a_Y a_C a_D ++ kc_R cA a_R a_U a_S I_R A_R ++ kc_U cA a_U a_T I_U ++ kc_S cA a_S I_S A_S ++ kc_X cA a_X I_X A_X ++ kc_X cA a_Y I_Y A_Y ++ kc_C cA a_C I_C A_C ++ kc_C cA a_D I_D A_D) hC (c_T_makeReady l D cA sx a_T I_T u_1 (1 : Int32) x2 _ hw) (cw_F_45 hC) d_F_feed_15 [] [5, 6, 7] [0, 1, 2, 3, 4, 8, 9, 10, 11, 12, 13, 14, 15, 16, 17, 18, 19, 20, 21, 22, 23, 24, 25, 26, 27, 28, 29, 30, 31, 32, 33, 34, 35, 36, 37, 38, 39, 40, 41, 42, 43, 44] [0, 1, 2, 3, 4, 42, 43, 44, 5, 6, 7, 8, 9, 10, 11, 12, 13, 14, 15, 16, 17, 18, 19, 20, 21, 22, 23, 24, 25, 26, 27, 28, 29, 30, 31, 32, 33, 34, 35, 36, 37, 38, 39, 40, 41] (fun u_3 : (Nat → Nat → Int32) => kc_F cA a_F a_T a_R a_X a_Y a_C a_D ++ kc_R cA a_R a_U a_S I_R A_R ++ kc_U cA a_U a_T I_U ++ kc_T cA a_T I_T u_3 ++ kc_S cA a_S I_S A_S ++ kc_X cA a_X I_X A_X ++ kc_X cA a_Y I_Y A_Y ++ kc_C cA a_C I_C A_C ++ kc_C cA a_D I_D A_D) ⟨Nat.zero_le _, Nat.zero_le _⟩ rfl rfl (fun _ => rfl) rfl rfl rfl rfl rfl rfl rfl rfl (Nat.le_of_ble_eq_true rfl) (fun u_3 hw => ?_)
  refine vv_aload_n hC d_F_feed_18 0 rfl rfl ?_
  refine vv_get hC (v := .ref (a_T 0)) hin_F 0 0 tb_249 d_F_feed_19 rfl rfl (by decide) rfl rfl ?_
  refine vv_iconst hC d_F_feed_22 (v := (2 : Int32)) (by decide) ?_
  refine vv_iload_n hC d_F_feed_23 3 rfl rfl ?_
  refine vv_callVV (wr := kc_F cA a_F a_T a_R a_X a_Y a_C a_D ++ kc_R cA a_R a_U a_S I_R A_R ++ kc_U cA a_U a_T I_U ++ kc_S cA a_S I_S A_S ++ kc_X cA a_X I_X A_X ++ kc_X cA a_Y I_Y A_Y ++ kc_C cA a_C I_C A_C ++ kc_C cA a_D I_D A_D) hC (c_T_makeReady l D cA sx a_T I_T u_3 (2 : Int32) x3 _ hw) (cw_F_45 hC) d_F_feed_24 [] [5, 6, 7] [0, 1, 2, 3, 4, 8, 9, 10, 11, 12, 13, 14, 15, 16, 17, 18, 19, 20, 21, 22, 23, 24, 25, 26, 27, 28, 29, 30, 31, 32, 33, 34, 35, 36, 37, 38, 39, 40, 41, 42, 43, 44] [0, 1, 2, 3, 4, 42, 43, 44, 5, 6, 7, 8, 9, 10, 11, 12, 13, 14, 15, 16, 17, 18, 19, 20, 21, 22, 23, 24, 25, 26, 27, 28, 29, 30, 31, 32, 33, 34, 35, 36, 37, 38, 39, 40, 41] (fun u_5 : (Nat → Nat → Int32) => kc_F cA a_F a_T a_R a_X a_Y a_C a_D ++ kc_R cA a_R a_U a_S I_R A_R ++ kc_U cA a_U a_T I_U ++ kc_T cA a_T I_T u_5 ++ kc_S cA a_S I_S A_S ++ kc_X cA a_X I_X A_X ++ kc_X cA a_Y I_Y A_Y ++ kc_C cA a_C I_C A_C ++ kc_C cA a_D I_D A_D) ⟨Nat.zero_le _, Nat.zero_le _⟩ rfl rfl (fun _ => rfl) rfl rfl rfl rfl rfl rfl rfl rfl (Nat.le_of_ble_eq_true rfl) (fun u_5 hw => ?_)
  refine vv_aload_n hC d_F_feed_27 0 rfl rfl ?_
  refine vv_get hC (v := .ref (a_T 0)) hin_F 0 0 tb_249 d_F_feed_28 rfl rfl (by decide) rfl rfl ?_
  refine vv_iconst hC d_F_feed_31 (v := (3 : Int32)) (by decide) ?_
  refine vv_iload hC d_F_feed_32 4 rfl ?_
  refine vv_callVV (wr := kc_F cA a_F a_T a_R a_X a_Y a_C a_D ++ kc_R cA a_R a_U a_S I_R A_R ++ kc_U cA a_U a_T I_U ++ kc_S cA a_S I_S A_S ++ kc_X cA a_X I_X A_X ++ kc_X cA a_Y I_Y A_Y ++ kc_C cA a_C I_C A_C ++ kc_C cA a_D I_D A_D) hC (c_T_makeReady l D cA sx a_T I_T u_5 (3 : Int32) x4 _ hw) (cw_F_45 hC) d_F_feed_34 [] [5, 6, 7] [0, 1, 2, 3, 4, 8, 9, 10, 11, 12, 13, 14, 15, 16, 17, 18, 19, 20, 21, 22, 23, 24, 25, 26, 27, 28, 29, 30, 31, 32, 33, 34, 35, 36, 37, 38, 39, 40, 41, 42, 43, 44] [0, 1, 2, 3, 4, 42, 43, 44, 5, 6, 7, 8, 9, 10, 11, 12, 13, 14, 15, 16, 17, 18, 19, 20, 21, 22, 23, 24, 25, 26, 27, 28, 29, 30, 31, 32, 33, 34, 35, 36, 37, 38, 39, 40, 41] (fun u_7 : (Nat → Nat → Int32) => kc_F cA a_F a_T a_R a_X a_Y a_C a_D ++ kc_R cA a_R a_U a_S I_R A_R ++ kc_U cA a_U a_T I_U ++ kc_T cA a_T I_T u_7 ++ kc_S cA a_S I_S A_S ++ kc_X cA a_X I_X A_X ++ kc_X cA a_Y I_Y A_Y ++ kc_C cA a_C I_C A_C ++ kc_C cA a_D I_D A_D) ⟨Nat.zero_le _, Nat.zero_le _⟩ rfl rfl (fun _ => rfl) rfl rfl rfl rfl rfl rfl rfl rfl (Nat.le_of_ble_eq_true rfl) (fun u_7 hw => ?_)
  refine vv_aload_n hC d_F_feed_37 0 rfl rfl ?_
  refine vv_get hC (v := .ref (a_T 0)) hin_F 0 0 tb_249 d_F_feed_38 rfl rfl (by decide) rfl rfl ?_
  refine vv_iconst hC d_F_feed_41 (v := (4 : Int32)) (by decide) ?_
  refine vv_iload hC d_F_feed_42 5 rfl ?_
  refine vv_callVV (wr := kc_F cA a_F a_T a_R a_X a_Y a_C a_D ++ kc_R cA a_R a_U a_S I_R A_R ++ kc_U cA a_U a_T I_U ++ kc_S cA a_S I_S A_S ++ kc_X cA a_X I_X A_X ++ kc_X cA a_Y I_Y A_Y ++ kc_C cA a_C I_C A_C ++ kc_C cA a_D I_D A_D) hC (c_T_makeReady l D cA sx a_T I_T u_7 (4 : Int32) x5 _ hw) (cw_F_45 hC) d_F_feed_44 [] [5, 6, 7] [0, 1, 2, 3, 4, 8, 9, 10, 11, 12, 13, 14, 15, 16, 17, 18, 19, 20, 21, 22, 23, 24, 25, 26, 27, 28, 29, 30, 31, 32, 33, 34, 35, 36, 37, 38, 39, 40, 41, 42, 43, 44] [0, 1, 2, 3, 4, 42, 43, 44, 5, 6, 7, 8, 9, 10, 11, 12, 13, 14, 15, 16, 17, 18, 19, 20, 21, 22, 23, 24, 25, 26, 27, 28, 29, 30, 31, 32, 33, 34, 35, 36, 37, 38, 39, 40, 41] (fun u_9 : (Nat → Nat → Int32) => kc_F cA a_F a_T a_R a_X a_Y a_C a_D ++ kc_R cA a_R a_U a_S I_R A_R ++ kc_U cA a_U a_T I_U ++ kc_T cA a_T I_T u_9 ++ kc_S cA a_S I_S A_S ++ kc_X cA a_X I_X A_X ++ kc_X cA a_Y I_Y A_Y ++ kc_C cA a_C I_C A_C ++ kc_C cA a_D I_D A_D) ⟨Nat.zero_le _, Nat.zero_le _⟩ rfl rfl (fun _ => rfl) rfl rfl rfl rfl rfl rfl rfl rfl (Nat.le_of_ble_eq_true rfl) (fun u_9 hw => ?_)
  exact vv_vret hC d_F_feed_47 u_9 hw rfl
set_option maxHeartbeats 4000000 in
set_option maxRecDepth 100000 in
theorem c_F_end (l : Launch) (D : va_G) (cA : Nat → ClassId) (sx : Nat → Nat) (a_F a_R a_U a_T a_S a_X a_Y a_C a_D : Nat → Nat) (I_R : (Nat → Int32)) (A_R : (Nat → Nat → Int32)) (I_U : (Nat → Int32)) (I_T : (Nat → Int32)) (A_T : (Nat → Nat → Int32)) (I_S : (Nat → Int32)) (A_S : (Nat → Nat → Int32)) (I_X : (Nat → Int32)) (A_X : (Nat → Nat → Int32)) (I_Y : (Nat → Int32)) (A_Y : (Nat → Nat → Int32)) (I_C : (Nat → Int32)) (A_C : (Nat → Nat → Int32)) (I_D : (Nat → Int32)) (A_D : (Nat → Nat → Int32)) (x1 : Int32) (Q : Int32 → (Nat → Int32) → (Nat → Nat → Int32) → Prop) (hw : wp_F_end I_T A_T x1 Q) : MetI l y_F_end (Cond.code y_F_end b_F_end 2 (some .int) :: TB) ({ frames := 1, cells := 0, slots := 0, locals := 22 } : Room) D vwCl (tyl cA) (SPl sx) [.ref (a_F 0), .int x1] (kc_F cA a_F a_T a_R a_X a_Y a_C a_D ++ kc_R cA a_R a_U a_S I_R A_R ++ kc_U cA a_U a_T I_U ++ kc_T cA a_T I_T A_T ++ kc_S cA a_S I_S A_S ++ kc_X cA a_X I_X A_X ++ kc_X cA a_Y I_Y A_Y ++ kc_C cA a_C I_C A_C ++ kc_C cA a_D I_D A_D) (fun (r : Int32) (u : (Nat → Int32) × (Nat → Nat → Int32)) => Q r u.1 u.2) (fun u : (Nat → Int32) × (Nat → Nat → Int32) => kc_F cA a_F a_T a_R a_X a_Y a_C a_D ++ kc_R cA a_R a_U a_S I_R A_R ++ kc_U cA a_U a_T I_U ++ kc_T cA a_T u.1 u.2 ++ kc_S cA a_S I_S A_S ++ kc_X cA a_X I_X A_X ++ kc_X cA a_Y I_Y A_Y ++ kc_C cA a_C I_C A_C ++ kc_C cA a_D I_D A_D) := by
  refine vv_entryI (cc := b_F_end) (own := R_F) (L := [(0, .ref (a_F 0)), (1, .int x1)]) (by decide) rfl rfl (Nat.le_of_ble_eq_true rfl) rfl (fun p e s m args below meth c A hC => ?_)
  unfold wp_F_end at hw
  refine vv_aload_n hC d_F_end_0 0 rfl rfl ?_
  refine vv_get hC (v := .ref (a_T 0)) hin_F 0 0 tb_249 d_F_end_1 rfl rfl (by decide) rfl rfl ?_
  refine vv_iload_n hC d_F_end_4 1 rfl rfl ?_
  refine vv_callVI (wr := kc_F cA a_F a_T a_R a_X a_Y a_C a_D ++ kc_R cA a_R a_U a_S I_R A_R ++ kc_U cA a_U a_T I_U ++ kc_S cA a_S I_S A_S ++ kc_X cA a_X I_X A_X ++ kc_X cA a_Y I_Y A_Y ++ kc_C cA a_C I_C A_C ++ kc_C cA a_D I_D A_D) hC (c_T_take l D cA sx a_T I_T A_T x1 _ hw) (cw_F_49 hC) d_F_end_5 [] [5, 6, 7] [0, 1, 2, 3, 4, 8, 9, 10, 11, 12, 13, 14, 15, 16, 17, 18, 19, 20, 21, 22, 23, 24, 25, 26, 27, 28, 29, 30, 31, 32, 33, 34, 35, 36, 37, 38, 39, 40, 41, 42, 43, 44] [0, 1, 2, 3, 4, 42, 43, 44, 5, 6, 7, 8, 9, 10, 11, 12, 13, 14, 15, 16, 17, 18, 19, 20, 21, 22, 23, 24, 25, 26, 27, 28, 29, 30, 31, 32, 33, 34, 35, 36, 37, 38, 39, 40, 41] (fun u_2 : (Nat → Int32) × (Nat → Nat → Int32) => kc_F cA a_F a_T a_R a_X a_Y a_C a_D ++ kc_R cA a_R a_U a_S I_R A_R ++ kc_U cA a_U a_T I_U ++ kc_T cA a_T u_2.1 u_2.2 ++ kc_S cA a_S I_S A_S ++ kc_X cA a_X I_X A_X ++ kc_X cA a_Y I_Y A_Y ++ kc_C cA a_C I_C A_C ++ kc_C cA a_D I_D A_D) ⟨Nat.zero_le _, Nat.zero_le _⟩ rfl rfl (fun _ => rfl) rfl rfl rfl rfl rfl rfl rfl rfl (Nat.le_of_ble_eq_true rfl) (fun r_1 u_2 hw => ?_)
  exact vv_iret hC d_F_end_8 (u_2.1, u_2.2) hw rfl
set_option maxHeartbeats 4000000 in
set_option maxRecDepth 100000 in
theorem c_F_fault (l : Launch) (D : va_G) (cA : Nat → ClassId) (sx : Nat → Nat) (a_F a_R a_U a_T a_S a_X a_Y a_C a_D : Nat → Nat) (I_R : (Nat → Int32)) (A_R : (Nat → Nat → Int32)) (I_U : (Nat → Int32)) (I_T : (Nat → Int32)) (A_T : (Nat → Nat → Int32)) (I_S : (Nat → Int32)) (A_S : (Nat → Nat → Int32)) (I_X : (Nat → Int32)) (A_X : (Nat → Nat → Int32)) (I_Y : (Nat → Int32)) (A_Y : (Nat → Nat → Int32)) (I_C : (Nat → Int32)) (A_C : (Nat → Nat → Int32)) (I_D : (Nat → Int32)) (A_D : (Nat → Nat → Int32)) (x1 : Int32) (Q : Int32 → Prop) (hw : wp_F_fault I_U x1 Q) : MetI l y_F_fault (Cond.code y_F_fault b_F_fault 2 (some .int) :: TB) ({ frames := 1, cells := 0, slots := 0, locals := 20 } : Room) D vwCl (tyl cA) (SPl sx) [.ref (a_F 0), .int x1] (kc_F cA a_F a_T a_R a_X a_Y a_C a_D ++ kc_R cA a_R a_U a_S I_R A_R ++ kc_U cA a_U a_T I_U ++ kc_T cA a_T I_T A_T ++ kc_S cA a_S I_S A_S ++ kc_X cA a_X I_X A_X ++ kc_X cA a_Y I_Y A_Y ++ kc_C cA a_C I_C A_C ++ kc_C cA a_D I_D A_D) (fun (r : Int32) (u : Unit) => Q r) (fun u : Unit => kc_F cA a_F a_T a_R a_X a_Y a_C a_D ++ kc_R cA a_R a_U a_S I_R A_R ++ kc_U cA a_U a_T I_U ++ kc_T cA a_T I_T A_T ++ kc_S cA a_S I_S A_S ++ kc_X cA a_X I_X A_X ++ kc_X cA a_Y I_Y A_Y ++ kc_C cA a_C I_C A_C ++ kc_C cA a_D I_D A_D) := by
  refine vv_entryI (cc := b_F_fault) (own := R_F) (L := [(0, .ref (a_F 0)), (1, .int x1)]) (by decide) rfl rfl (Nat.le_of_ble_eq_true rfl) rfl (fun p e s m args below meth c A hC => ?_)
  unfold wp_F_fault at hw
  refine vv_iload_n hC d_F_fault_0 1 rfl rfl ?_
  refine sw_cases (x := x1) (k := (0 : Int32)) (fun cd => ?_) (fun cd0 => ?_)
  · have hw := hw.1 cd
    refine vv_lookup hC (pl := [(0, 27), (1, 35)]) 27 28 d_F_fault_1 rfl (by decide) (by rw [cd]; decide) (by decide) ?_
    refine vv_aload_n hC d_F_fault_28 0 rfl rfl ?_
    refine vv_get hC (v := .ref (a_R 0)) hin_F 0 1 tb_250 d_F_fault_29 rfl rfl (by decide) rfl rfl ?_
    refine vv_callVI (wr := kc_F cA a_F a_T a_R a_X a_Y a_C a_D ++ kc_X cA a_X I_X A_X ++ kc_X cA a_Y I_Y A_Y ++ kc_C cA a_C I_C A_C ++ kc_C cA a_D I_D A_D) hC (c_R_faultKind l D cA sx a_R a_U a_T a_S I_R A_R I_U I_T A_T I_S A_S _ hw) (cw_F_74 hC) d_F_fault_32 [] [1, 2, 3, 4, 5, 6, 7, 8, 9, 10, 11, 12] [0, 13, 14, 15, 16, 17, 18, 19, 20, 21, 22, 23, 24, 25, 26, 27, 28, 29, 30, 31, 32, 33, 34, 35, 36, 37, 38, 39, 40, 41, 42, 43, 44] [0, 33, 34, 35, 36, 37, 38, 39, 40, 41, 42, 43, 44, 1, 2, 3, 4, 5, 6, 7, 8, 9, 10, 11, 12, 13, 14, 15, 16, 17, 18, 19, 20, 21, 22, 23, 24, 25, 26, 27, 28, 29, 30, 31, 32] (fun u_2 : Unit => kc_F cA a_F a_T a_R a_X a_Y a_C a_D ++ kc_R cA a_R a_U a_S I_R A_R ++ kc_U cA a_U a_T I_U ++ kc_T cA a_T I_T A_T ++ kc_S cA a_S I_S A_S ++ kc_X cA a_X I_X A_X ++ kc_X cA a_Y I_Y A_Y ++ kc_C cA a_C I_C A_C ++ kc_C cA a_D I_D A_D) ⟨Nat.zero_le _, Nat.zero_le _⟩ rfl rfl (fun _ => rfl) rfl rfl rfl rfl rfl rfl rfl rfl (Nat.le_of_ble_eq_true rfl) (fun r_1 u_2 hw => ?_)
    exact vv_iret hC d_F_fault_35 () hw rfl
  · have hw := hw.2 cd0
    refine sw_cases (x := x1) (k := (1 : Int32)) (fun cd => ?_) (fun cd1 => ?_)
    · have hw := hw.1 cd
      refine vv_lookup hC (pl := [(0, 27), (1, 35)]) 35 36 d_F_fault_1 rfl (by decide) (by rw [cd]; decide) (by decide) ?_
      refine vv_aload_n hC d_F_fault_36 0 rfl rfl ?_
      refine vv_get hC (v := .ref (a_R 0)) hin_F 0 1 tb_250 d_F_fault_37 rfl rfl (by decide) rfl rfl ?_
      refine vv_callVI (wr := kc_F cA a_F a_T a_R a_X a_Y a_C a_D ++ kc_X cA a_X I_X A_X ++ kc_X cA a_Y I_Y A_Y ++ kc_C cA a_C I_C A_C ++ kc_C cA a_D I_D A_D) hC (c_R_faultPlace l D cA sx a_R a_U a_T a_S I_R A_R I_U I_T A_T I_S A_S _ hw) (cw_F_78 hC) d_F_fault_40 [] [1, 2, 3, 4, 5, 6, 7, 8, 9, 10, 11, 12] [0, 13, 14, 15, 16, 17, 18, 19, 20, 21, 22, 23, 24, 25, 26, 27, 28, 29, 30, 31, 32, 33, 34, 35, 36, 37, 38, 39, 40, 41, 42, 43, 44] [0, 33, 34, 35, 36, 37, 38, 39, 40, 41, 42, 43, 44, 1, 2, 3, 4, 5, 6, 7, 8, 9, 10, 11, 12, 13, 14, 15, 16, 17, 18, 19, 20, 21, 22, 23, 24, 25, 26, 27, 28, 29, 30, 31, 32] (fun u_4 : Unit => kc_F cA a_F a_T a_R a_X a_Y a_C a_D ++ kc_R cA a_R a_U a_S I_R A_R ++ kc_U cA a_U a_T I_U ++ kc_T cA a_T I_T A_T ++ kc_S cA a_S I_S A_S ++ kc_X cA a_X I_X A_X ++ kc_X cA a_Y I_Y A_Y ++ kc_C cA a_C I_C A_C ++ kc_C cA a_D I_D A_D) ⟨Nat.zero_le _, Nat.zero_le _⟩ rfl rfl (fun _ => rfl) rfl rfl rfl rfl rfl rfl rfl rfl (Nat.le_of_ble_eq_true rfl) (fun r_3 u_4 hw => ?_)
      exact vv_iret hC d_F_fault_43 () hw rfl
    · have hw := hw.2 cd1
      refine vv_lookup hC (pl := [(0, 27), (1, 35)]) 43 44 d_F_fault_1 rfl (by decide) (by rw [lv_osw cd0 (by decide), lv_osw cd1 (by decide)]; rfl) (by decide) ?_
      refine vv_iconst hC d_F_fault_44 (v := (-1 : Int32)) (by decide) ?_
      exact vv_iret hC d_F_fault_45 () hw rfl
set_option maxHeartbeats 4000000 in
set_option maxRecDepth 100000 in
theorem c_F_many (l : Launch) (D : va_G) (cA : Nat → ClassId) (sx : Nat → Nat) (a_F a_R a_U a_T a_S a_X a_Y a_C a_D : Nat → Nat) (I_R : (Nat → Int32)) (A_R : (Nat → Nat → Int32)) (I_U : (Nat → Int32)) (I_T : (Nat → Int32)) (A_T : (Nat → Nat → Int32)) (I_S : (Nat → Int32)) (A_S : (Nat → Nat → Int32)) (I_X : (Nat → Int32)) (A_X : (Nat → Nat → Int32)) (I_Y : (Nat → Int32)) (A_Y : (Nat → Nat → Int32)) (I_C : (Nat → Int32)) (A_C : (Nat → Nat → Int32)) (I_D : (Nat → Int32)) (A_D : (Nat → Nat → Int32)) (x1 : Int32) (Q : Int32 → Prop) (hw : wp_F_many I_C x1 Q) : MetI l y_F_many (Cond.code y_F_many b_F_many 2 (some .int) :: TB) ({ frames := 0, cells := 0, slots := 0, locals := 0 } : Room) D vwCl (tyl cA) (SPl sx) [.ref (a_F 0), .int x1] (kc_F cA a_F a_T a_R a_X a_Y a_C a_D ++ kc_R cA a_R a_U a_S I_R A_R ++ kc_U cA a_U a_T I_U ++ kc_T cA a_T I_T A_T ++ kc_S cA a_S I_S A_S ++ kc_X cA a_X I_X A_X ++ kc_X cA a_Y I_Y A_Y ++ kc_C cA a_C I_C A_C ++ kc_C cA a_D I_D A_D) (fun (r : Int32) (u : Unit) => Q r) (fun u : Unit => kc_F cA a_F a_T a_R a_X a_Y a_C a_D ++ kc_R cA a_R a_U a_S I_R A_R ++ kc_U cA a_U a_T I_U ++ kc_T cA a_T I_T A_T ++ kc_S cA a_S I_S A_S ++ kc_X cA a_X I_X A_X ++ kc_X cA a_Y I_Y A_Y ++ kc_C cA a_C I_C A_C ++ kc_C cA a_D I_D A_D) := by
  refine vv_entryI (cc := b_F_many) (own := R_F) (L := [(0, .ref (a_F 0)), (1, .int x1)]) (by decide) rfl rfl (Nat.le_of_ble_eq_true rfl) rfl (fun p e s m args below meth c A hC => ?_)
  unfold wp_F_many at hw
  refine vv_iload_n hC d_F_many_0 1 rfl rfl ?_
  refine sw_cases (x := x1) (k := (0 : Int32)) (fun cd => ?_) (fun cd0 => ?_)
  · have hw := hw.1 cd
    refine vv_tabIn hC (0 : Int32) 35 36 d_F_many_1 cd (by decide) (by decide) rfl (by decide) ?_
    refine vv_aload_n hC d_F_many_36 0 rfl rfl ?_
    refine vv_get hC (v := .ref (a_C 0)) hin_F 0 4 tb_253 d_F_many_37 rfl rfl (by decide) rfl rfl ?_
    refine vv_get hC (v := .int (I_C 0)) hin_C 19 0 tb_152 d_F_many_40 rfl rfl (by decide) rfl rfl ?_
    exact vv_iret hC d_F_many_43 () hw rfl
  · have hw := hw.2 cd0
    refine sw_cases (x := x1) (k := (1 : Int32)) (fun cd => ?_) (fun cd1 => ?_)
    · have hw := hw.1 cd
      refine vv_tabIn hC (1 : Int32) 43 44 d_F_many_1 cd (by decide) (by decide) rfl (by decide) ?_
      refine vv_aload_n hC d_F_many_44 0 rfl rfl ?_
      refine vv_get hC (v := .ref (a_C 0)) hin_F 0 4 tb_253 d_F_many_45 rfl rfl (by decide) rfl rfl ?_
      refine vv_get hC (v := .int (I_C 1)) hin_C 19 1 tb_156 d_F_many_48 rfl rfl (by decide) rfl rfl ?_
      exact vv_iret hC d_F_many_51 () hw rfl
    · have hw := hw.2 cd1
      refine sw_cases (x := x1) (k := (2 : Int32)) (fun cd => ?_) (fun cd2 => ?_)
      · have hw := hw.1 cd
        refine vv_tabIn hC (2 : Int32) 51 52 d_F_many_1 cd (by decide) (by decide) rfl (by decide) ?_
        refine vv_aload_n hC d_F_many_52 0 rfl rfl ?_
        refine vv_get hC (v := .ref (a_C 0)) hin_F 0 4 tb_253 d_F_many_53 rfl rfl (by decide) rfl rfl ?_
        refine vv_get hC (v := .int (I_C 2)) hin_C 19 2 tb_160 d_F_many_56 rfl rfl (by decide) rfl rfl ?_
        exact vv_iret hC d_F_many_59 () hw rfl
      · have hw := hw.2 cd2
        refine sw_cases (x := x1) (k := (3 : Int32)) (fun cd => ?_) (fun cd3 => ?_)
        · have hw := hw.1 cd
          refine vv_tabIn hC (3 : Int32) 59 60 d_F_many_1 cd (by decide) (by decide) rfl (by decide) ?_
          refine vv_aload_n hC d_F_many_60 0 rfl rfl ?_
          refine vv_get hC (v := .ref (a_C 0)) hin_F 0 4 tb_253 d_F_many_61 rfl rfl (by decide) rfl rfl ?_
          refine vv_get hC (v := .int (I_C 3)) hin_C 19 3 tb_164 d_F_many_64 rfl rfl (by decide) rfl rfl ?_
          exact vv_iret hC d_F_many_67 () hw rfl
        · have hw := hw.2 cd3
          refine sw_cases (x := x1) (k := (4 : Int32)) (fun cd => ?_) (fun cd4 => ?_)
          · have hw := hw.1 cd
            refine vv_tabIn hC (4 : Int32) 67 68 d_F_many_1 cd (by decide) (by decide) rfl (by decide) ?_
            refine vv_aload_n hC d_F_many_68 0 rfl rfl ?_
            refine vv_get hC (v := .ref (a_C 0)) hin_F 0 4 tb_253 d_F_many_69 rfl rfl (by decide) rfl rfl ?_
            refine vv_get hC (v := .int (I_C 4)) hin_C 19 4 tb_167 d_F_many_72 rfl rfl (by decide) rfl rfl ?_
            exact vv_iret hC d_F_many_75 () hw rfl
          · have hw := hw.2 cd4
            refine vv_tabOut hC 76 d_F_many_1 (sw_out 4 (by decide) (fun k hk => by rcases (show k = 0 ∨ k = 1 ∨ k = 2 ∨ k = 3 ∨ k = 4 by omega) with rfl | rfl | rfl | rfl | rfl <;> first | exact cd0 | exact cd1 | exact cd2 | exact cd3 | exact cd4)) (by decide) ?_
            refine vv_iconst hC d_F_many_76 (v := (-1 : Int32)) (by decide) ?_
            exact vv_iret hC d_F_many_77 () hw rfl
set_option maxHeartbeats 4000000 in
set_option maxRecDepth 100000 in
theorem c_F_symbol (l : Launch) (D : va_G) (cA : Nat → ClassId) (sx : Nat → Nat) (a_F a_R a_U a_T a_S a_X a_Y a_C a_D : Nat → Nat) (I_R : (Nat → Int32)) (A_R : (Nat → Nat → Int32)) (I_U : (Nat → Int32)) (I_T : (Nat → Int32)) (A_T : (Nat → Nat → Int32)) (I_S : (Nat → Int32)) (A_S : (Nat → Nat → Int32)) (I_X : (Nat → Int32)) (A_X : (Nat → Nat → Int32)) (I_Y : (Nat → Int32)) (A_Y : (Nat → Nat → Int32)) (I_C : (Nat → Int32)) (A_C : (Nat → Nat → Int32)) (I_D : (Nat → Int32)) (A_D : (Nat → Nat → Int32)) (x1 x2 x3 : Int32) (Q : Int32 → Prop) (hw : wp_F_symbol I_C A_C x1 x2 x3 Q) : MetI l y_F_symbol (Cond.code y_F_symbol b_F_symbol 5 (some .int) :: TB) ({ frames := 1, cells := 0, slots := 0, locals := 21 } : Room) D vwCl (tyl cA) (SPl sx) [.ref (a_F 0), .int x1, .int x2, .int x3] (kc_F cA a_F a_T a_R a_X a_Y a_C a_D ++ kc_R cA a_R a_U a_S I_R A_R ++ kc_U cA a_U a_T I_U ++ kc_T cA a_T I_T A_T ++ kc_S cA a_S I_S A_S ++ kc_X cA a_X I_X A_X ++ kc_X cA a_Y I_Y A_Y ++ kc_C cA a_C I_C A_C ++ kc_C cA a_D I_D A_D) (fun (r : Int32) (u : Unit) => Q r) (fun u : Unit => kc_F cA a_F a_T a_R a_X a_Y a_C a_D ++ kc_R cA a_R a_U a_S I_R A_R ++ kc_U cA a_U a_T I_U ++ kc_T cA a_T I_T A_T ++ kc_S cA a_S I_S A_S ++ kc_X cA a_X I_X A_X ++ kc_X cA a_Y I_Y A_Y ++ kc_C cA a_C I_C A_C ++ kc_C cA a_D I_D A_D) := by
  refine vv_entryI (cc := b_F_symbol) (own := R_F) (L := [(0, .ref (a_F 0)), (1, .int x1), (2, .int x2), (3, .int x3)]) (by decide) rfl rfl (Nat.le_of_ble_eq_true rfl) rfl (fun p e s m args below meth c A hC => ?_)
  unfold wp_F_symbol at hw
  refine vv_iload_n hC d_F_symbol_0 2 rfl rfl ?_
  refine vv_if_lt hC 16 d_F_symbol_1 (by decide) (fun cd => ?_) (fun cd => ?_)
  · have hw := hw.1 cd
    refine vv_iconst hC d_F_symbol_16 (v := (-1 : Int32)) (by decide) ?_
    exact vv_iret hC d_F_symbol_17 () hw rfl
  · have hw := hw.2 cd
    refine vv_iload_n hC d_F_symbol_4 2 rfl rfl ?_
    refine vv_aload_n hC d_F_symbol_5 0 rfl rfl ?_
    refine vv_get hC (v := .ref (a_C 0)) hin_F 0 4 tb_253 d_F_symbol_6 rfl rfl (by decide) rfl rfl ?_
    refine vv_iload_n hC d_F_symbol_9 1 rfl rfl ?_
    refine vv_callVI (wr := kc_F cA a_F a_T a_R a_X a_Y a_C a_D ++ kc_R cA a_R a_U a_S I_R A_R ++ kc_U cA a_U a_T I_U ++ kc_T cA a_T I_T A_T ++ kc_S cA a_S I_S A_S ++ kc_X cA a_X I_X A_X ++ kc_X cA a_Y I_Y A_Y ++ kc_C cA a_D I_D A_D) hC (c_C_countOf l D cA sx a_C I_C A_C x1 _ hw) (cw_F_93 hC) d_F_symbol_10 [.int x2] [19, 20, 21, 22, 23, 24, 25, 26, 27, 28, 29, 30, 31] [0, 1, 2, 3, 4, 5, 6, 7, 8, 9, 10, 11, 12, 13, 14, 15, 16, 17, 18, 32, 33, 34, 35, 36, 37, 38, 39, 40, 41, 42, 43, 44] [0, 1, 2, 3, 4, 5, 6, 7, 8, 9, 10, 11, 12, 13, 14, 15, 16, 17, 18, 32, 33, 34, 35, 36, 37, 38, 39, 40, 41, 42, 43, 44, 19, 20, 21, 22, 23, 24, 25, 26, 27, 28, 29, 30, 31] (fun u_2 : Unit => kc_F cA a_F a_T a_R a_X a_Y a_C a_D ++ kc_R cA a_R a_U a_S I_R A_R ++ kc_U cA a_U a_T I_U ++ kc_T cA a_T I_T A_T ++ kc_S cA a_S I_S A_S ++ kc_X cA a_X I_X A_X ++ kc_X cA a_Y I_Y A_Y ++ kc_C cA a_C I_C A_C ++ kc_C cA a_D I_D A_D) ⟨Nat.zero_le _, Nat.zero_le _⟩ rfl rfl (fun _ => rfl) rfl rfl rfl rfl rfl rfl rfl rfl (Nat.le_of_ble_eq_true rfl) (fun r_1 u_2 hw => ?_)
    refine vv_icmp_lt hC 18 d_F_symbol_13 (by decide) (fun cd => ?_) (fun cd => ?_)
    · have hw := hw.1 cd
      refine vv_iload_n hC d_F_symbol_18 1 rfl rfl ?_
      refine vv_iload_n hC d_F_symbol_19 2 rfl rfl ?_
      refine vv_callSI (wr := kc_F cA a_F a_T a_R a_X a_Y a_C a_D ++ kc_R cA a_R a_U a_S I_R A_R ++ kc_U cA a_U a_T I_U ++ kc_T cA a_T I_T A_T ++ kc_S cA a_S I_S A_S ++ kc_X cA a_X I_X A_X ++ kc_X cA a_Y I_Y A_Y ++ kc_C cA a_C I_C A_C ++ kc_C cA a_D I_D A_D) hC (c_F_slotOf l D cA sx x1 x2 _ hw) (cw_F_96 hC) d_F_symbol_20 [] [] [0, 1, 2, 3, 4, 5, 6, 7, 8, 9, 10, 11, 12, 13, 14, 15, 16, 17, 18, 19, 20, 21, 22, 23, 24, 25, 26, 27, 28, 29, 30, 31, 32, 33, 34, 35, 36, 37, 38, 39, 40, 41, 42, 43, 44] [0, 1, 2, 3, 4, 5, 6, 7, 8, 9, 10, 11, 12, 13, 14, 15, 16, 17, 18, 19, 20, 21, 22, 23, 24, 25, 26, 27, 28, 29, 30, 31, 32, 33, 34, 35, 36, 37, 38, 39, 40, 41, 42, 43, 44] (fun u_4 : Unit => kc_F cA a_F a_T a_R a_X a_Y a_C a_D ++ kc_R cA a_R a_U a_S I_R A_R ++ kc_U cA a_U a_T I_U ++ kc_T cA a_T I_T A_T ++ kc_S cA a_S I_S A_S ++ kc_X cA a_X I_X A_X ++ kc_X cA a_Y I_Y A_Y ++ kc_C cA a_C I_C A_C ++ kc_C cA a_D I_D A_D) ⟨Nat.zero_le _, Nat.zero_le _⟩ rfl rfl (fun _ => rfl) rfl rfl rfl rfl rfl rfl (Nat.le_of_ble_eq_true rfl) (fun r_3 u_4 hw => ?_)
      refine vv_istore hC d_F_symbol_23 (by decide) [1, 2, 3, 4, 0] (L2 := [(0, .ref (a_F 0)), (1, .int x1), (2, .int x2), (3, .int x3), (4, .int r_3)]) rfl ?_
      refine vv_iload_n hC d_F_symbol_25 3 rfl rfl ?_
      refine vv_if_lt hC 43 d_F_symbol_26 (by decide) (fun cd => ?_) (fun cd => ?_)
      · have hw := hw.1 cd
        refine vv_iconst hC d_F_symbol_43 (v := (-1 : Int32)) (by decide) ?_
        refine vv_goto hC 62 d_F_symbol_44 (by decide) ?_
        exact vv_iret hC d_F_symbol_62 () hw rfl
      · have hw := hw.2 cd
        refine vv_iload_n hC d_F_symbol_29 3 rfl rfl ?_
        refine vv_aload_n hC d_F_symbol_30 0 rfl rfl ?_
        refine vv_get hC (v := .ref (a_C 0)) hin_F 0 4 tb_253 d_F_symbol_31 rfl rfl (by decide) rfl rfl ?_
        refine vv_get hC (v := .ref (a_C 10)) hin_C 19 15 tb_204 d_F_symbol_34 rfl rfl (by decide) rfl rfl ?_
        refine vv_iload hC d_F_symbol_37 4 rfl ?_
        obtain ⟨hin_5, hw⟩ := hw
        refine vv_iald hC 29 0 d_F_symbol_39 rfl rfl hin_5 ?_
        refine vv_icmp_lt hC 47 d_F_symbol_40 (by decide) (fun cd => ?_) (fun cd => ?_)
        · have hw := hw.1 cd
          refine vv_aload_n hC d_F_symbol_47 0 rfl rfl ?_
          refine vv_get hC (v := .ref (a_C 0)) hin_F 0 4 tb_253 d_F_symbol_48 rfl rfl (by decide) rfl rfl ?_
          refine vv_get hC (v := .ref (a_C 11)) hin_C 19 16 tb_208 d_F_symbol_51 rfl rfl (by decide) rfl rfl ?_
          refine vv_iload hC d_F_symbol_54 4 rfl ?_
          refine vv_bipush hC d_F_symbol_56 (v := (40 : Int32)) (by decide) ?_
          refine vv_imul hC d_F_symbol_58 ?_
          refine vv_iload_n hC d_F_symbol_59 3 rfl rfl ?_
          refine vv_iadd hC d_F_symbol_60 ?_
          obtain ⟨hin_6, hw⟩ := hw
          refine vv_iald hC 30 0 d_F_symbol_61 rfl rfl hin_6 ?_
          exact vv_iret hC d_F_symbol_62 () hw rfl
        · have hw := hw.2 cd
          refine vv_iconst hC d_F_symbol_43 (v := (-1 : Int32)) (by decide) ?_
          refine vv_goto hC 62 d_F_symbol_44 (by decide) ?_
          exact vv_iret hC d_F_symbol_62 () hw rfl
    · have hw := hw.2 cd
      refine vv_iconst hC d_F_symbol_16 (v := (-1 : Int32)) (by decide) ?_
      exact vv_iret hC d_F_symbol_17 () hw rfl
set_option maxHeartbeats 4000000 in
set_option maxRecDepth 100000 in
theorem c_F_form (l : Launch) (D : va_G) (cA : Nat → ClassId) (sx : Nat → Nat) (a_F a_R a_U a_T a_S a_X a_Y a_C a_D : Nat → Nat) (I_R : (Nat → Int32)) (A_R : (Nat → Nat → Int32)) (I_U : (Nat → Int32)) (I_T : (Nat → Int32)) (A_T : (Nat → Nat → Int32)) (I_S : (Nat → Int32)) (A_S : (Nat → Nat → Int32)) (I_X : (Nat → Int32)) (A_X : (Nat → Nat → Int32)) (I_Y : (Nat → Int32)) (A_Y : (Nat → Nat → Int32)) (I_C : (Nat → Int32)) (A_C : (Nat → Nat → Int32)) (I_D : (Nat → Int32)) (A_D : (Nat → Nat → Int32)) (x1 x2 : Int32) (Q : Int32 → (Nat → Int32) → (Nat → Nat → Int32) → (Nat → Int32) → (Nat → Nat → Int32) → Prop) (hw : wp_F_form I_X A_X I_Y A_Y I_C A_C x1 x2 Q) : MetI l y_F_form (Cond.code y_F_form b_F_form 3 (some .int) :: TB) ({ frames := 6, cells := 0, slots := 0, locals := 130 } : Room) D vwCl (tyl cA) (SPl sx) [.ref (a_F 0), .int x1, .int x2] (kc_F cA a_F a_T a_R a_X a_Y a_C a_D ++ kc_R cA a_R a_U a_S I_R A_R ++ kc_U cA a_U a_T I_U ++ kc_T cA a_T I_T A_T ++ kc_S cA a_S I_S A_S ++ kc_X cA a_X I_X A_X ++ kc_X cA a_Y I_Y A_Y ++ kc_C cA a_C I_C A_C ++ kc_C cA a_D I_D A_D) (fun (r : Int32) (u : (Nat → Int32) × (Nat → Nat → Int32) × (Nat → Int32) × (Nat → Nat → Int32)) => Q r u.1 u.2.1 u.2.2.1 u.2.2.2) (fun u : (Nat → Int32) × (Nat → Nat → Int32) × (Nat → Int32) × (Nat → Nat → Int32) => kc_F cA a_F a_T a_R a_X a_Y a_C a_D ++ kc_R cA a_R a_U a_S I_R A_R ++ kc_U cA a_U a_T I_U ++ kc_T cA a_T I_T A_T ++ kc_S cA a_S I_S A_S ++ kc_X cA a_X u.1 u.2.1 ++ kc_X cA a_Y u.2.2.1 u.2.2.2 ++ kc_C cA a_C I_C A_C ++ kc_C cA a_D I_D A_D) := by
  refine vv_entryI (cc := b_F_form) (own := R_F) (L := [(0, .ref (a_F 0)), (1, .int x1), (2, .int x2)]) (by decide) rfl rfl (Nat.le_of_ble_eq_true rfl) rfl (fun p e s m args below meth c A hC => ?_)
  unfold wp_F_form at hw
  refine vv_iload_n hC d_F_form_0 1 rfl rfl ?_
  refine vv_if_eq hC 24 d_F_form_1 (by decide) (fun cd => ?_) (fun cd => ?_)
  · have hw := hw.1 cd
    refine vv_aload_n hC d_F_form_24 0 rfl rfl ?_
    refine vv_get hC (v := .ref (a_X 0)) hin_F 0 2 tb_251 d_F_form_25 rfl rfl (by decide) rfl rfl ?_
    refine vv_aload_n hC d_F_form_28 0 rfl rfl ?_
    refine vv_get hC (v := .ref (a_C 0)) hin_F 0 4 tb_253 d_F_form_29 rfl rfl (by decide) rfl rfl ?_
    refine vv_callVV (wr := kc_F cA a_F a_T a_R a_X a_Y a_C a_D ++ kc_R cA a_R a_U a_S I_R A_R ++ kc_U cA a_U a_T I_U ++ kc_T cA a_T I_T A_T ++ kc_S cA a_S I_S A_S ++ kc_X cA a_Y I_Y A_Y ++ kc_C cA a_D I_D A_D) hC (c_X_writeText l D cA sx a_X a_C I_X A_X I_C A_C _ hw) (cw_F_114 hC) d_F_form_32 [] [13, 14, 15, 19, 20, 21, 22, 23, 24, 25, 26, 27, 28, 29, 30, 31] [0, 1, 2, 3, 4, 5, 6, 7, 8, 9, 10, 11, 12, 16, 17, 18, 32, 33, 34, 35, 36, 37, 38, 39, 40, 41, 42, 43, 44] [0, 1, 2, 3, 4, 5, 6, 7, 8, 9, 10, 11, 12, 29, 30, 31, 13, 14, 15, 32, 33, 34, 35, 36, 37, 38, 39, 40, 41, 42, 43, 44, 16, 17, 18, 19, 20, 21, 22, 23, 24, 25, 26, 27, 28] (fun u_1 : (Nat → Int32) × (Nat → Nat → Int32) => kc_F cA a_F a_T a_R a_X a_Y a_C a_D ++ kc_R cA a_R a_U a_S I_R A_R ++ kc_U cA a_U a_T I_U ++ kc_T cA a_T I_T A_T ++ kc_S cA a_S I_S A_S ++ kc_X cA a_X u_1.1 u_1.2 ++ kc_X cA a_Y I_Y A_Y ++ kc_C cA a_C I_C A_C ++ kc_C cA a_D I_D A_D) ⟨Nat.zero_le _, Nat.zero_le _⟩ rfl rfl (fun _ => rfl) rfl rfl rfl rfl rfl rfl rfl rfl (Nat.le_of_ble_eq_true rfl) (fun u_1 hw => ?_)
    refine vv_aload_n hC d_F_form_35 0 rfl rfl ?_
    refine vv_get hC (v := .ref (a_X 0)) hin_F 0 2 tb_251 d_F_form_36 rfl rfl (by decide) rfl rfl ?_
    refine vv_iload_n hC d_F_form_39 2 rfl rfl ?_
    refine vv_callVI (wr := kc_F cA a_F a_T a_R a_X a_Y a_C a_D ++ kc_R cA a_R a_U a_S I_R A_R ++ kc_U cA a_U a_T I_U ++ kc_T cA a_T I_T A_T ++ kc_S cA a_S I_S A_S ++ kc_X cA a_Y I_Y A_Y ++ kc_C cA a_C I_C A_C ++ kc_C cA a_D I_D A_D) hC (c_X_byteOf l D cA sx a_X u_1.1 u_1.2 x2 _ hw) (cw_F_111 hC) d_F_form_40 [] [13, 14, 15] [0, 1, 2, 3, 4, 5, 6, 7, 8, 9, 10, 11, 12, 16, 17, 18, 19, 20, 21, 22, 23, 24, 25, 26, 27, 28, 29, 30, 31, 32, 33, 34, 35, 36, 37, 38, 39, 40, 41, 42, 43, 44] [0, 1, 2, 3, 4, 5, 6, 7, 8, 9, 10, 11, 12, 42, 43, 44, 13, 14, 15, 16, 17, 18, 19, 20, 21, 22, 23, 24, 25, 26, 27, 28, 29, 30, 31, 32, 33, 34, 35, 36, 37, 38, 39, 40, 41] (fun u_5 : Unit => kc_F cA a_F a_T a_R a_X a_Y a_C a_D ++ kc_R cA a_R a_U a_S I_R A_R ++ kc_U cA a_U a_T I_U ++ kc_T cA a_T I_T A_T ++ kc_S cA a_S I_S A_S ++ kc_X cA a_X u_1.1 u_1.2 ++ kc_X cA a_Y I_Y A_Y ++ kc_C cA a_C I_C A_C ++ kc_C cA a_D I_D A_D) ⟨Nat.zero_le _, Nat.zero_le _⟩ rfl rfl (fun _ => rfl) rfl rfl rfl rfl rfl rfl rfl rfl (Nat.le_of_ble_eq_true rfl) (fun r_4 u_5 hw => ?_)
    exact vv_iret hC d_F_form_43 (u_1.1, u_1.2, I_Y, A_Y) hw rfl
  · have hw := hw.2 cd
    refine vv_aload_n hC d_F_form_4 0 rfl rfl ?_
    refine vv_get hC (v := .ref (a_Y 0)) hin_F 0 3 tb_252 d_F_form_5 rfl rfl (by decide) rfl rfl ?_
    refine vv_aload_n hC d_F_form_8 0 rfl rfl ?_
    refine vv_get hC (v := .ref (a_C 0)) hin_F 0 4 tb_253 d_F_form_9 rfl rfl (by decide) rfl rfl ?_
    refine vv_callVV (wr := kc_F cA a_F a_T a_R a_X a_Y a_C a_D ++ kc_R cA a_R a_U a_S I_R A_R ++ kc_U cA a_U a_T I_U ++ kc_T cA a_T I_T A_T ++ kc_S cA a_S I_S A_S ++ kc_X cA a_X I_X A_X ++ kc_C cA a_D I_D A_D) hC (c_X_writeBinary l D cA sx a_Y a_C I_Y A_Y I_C A_C _ hw) (cw_F_107 hC) d_F_form_12 [] [16, 17, 18, 19, 20, 21, 22, 23, 24, 25, 26, 27, 28, 29, 30, 31] [0, 1, 2, 3, 4, 5, 6, 7, 8, 9, 10, 11, 12, 13, 14, 15, 32, 33, 34, 35, 36, 37, 38, 39, 40, 41, 42, 43, 44] [0, 1, 2, 3, 4, 5, 6, 7, 8, 9, 10, 11, 12, 13, 14, 15, 29, 30, 31, 32, 33, 34, 35, 36, 37, 38, 39, 40, 41, 42, 43, 44, 16, 17, 18, 19, 20, 21, 22, 23, 24, 25, 26, 27, 28] (fun u_6 : (Nat → Int32) × (Nat → Nat → Int32) => kc_F cA a_F a_T a_R a_X a_Y a_C a_D ++ kc_R cA a_R a_U a_S I_R A_R ++ kc_U cA a_U a_T I_U ++ kc_T cA a_T I_T A_T ++ kc_S cA a_S I_S A_S ++ kc_X cA a_X I_X A_X ++ kc_X cA a_Y u_6.1 u_6.2 ++ kc_C cA a_C I_C A_C ++ kc_C cA a_D I_D A_D) ⟨Nat.zero_le _, Nat.zero_le _⟩ rfl rfl (fun _ => rfl) rfl rfl rfl rfl rfl rfl rfl rfl (Nat.le_of_ble_eq_true rfl) (fun u_6 hw => ?_)
    refine vv_aload_n hC d_F_form_15 0 rfl rfl ?_
    refine vv_get hC (v := .ref (a_Y 0)) hin_F 0 3 tb_252 d_F_form_16 rfl rfl (by decide) rfl rfl ?_
    refine vv_iload_n hC d_F_form_19 2 rfl rfl ?_
    refine vv_callVI (wr := kc_F cA a_F a_T a_R a_X a_Y a_C a_D ++ kc_R cA a_R a_U a_S I_R A_R ++ kc_U cA a_U a_T I_U ++ kc_T cA a_T I_T A_T ++ kc_S cA a_S I_S A_S ++ kc_X cA a_X I_X A_X ++ kc_C cA a_C I_C A_C ++ kc_C cA a_D I_D A_D) hC (c_X_byteOf l D cA sx a_Y u_6.1 u_6.2 x2 _ hw) (cw_F_111 hC) d_F_form_20 [] [16, 17, 18] [0, 1, 2, 3, 4, 5, 6, 7, 8, 9, 10, 11, 12, 13, 14, 15, 19, 20, 21, 22, 23, 24, 25, 26, 27, 28, 29, 30, 31, 32, 33, 34, 35, 36, 37, 38, 39, 40, 41, 42, 43, 44] [0, 1, 2, 3, 4, 5, 6, 7, 8, 9, 10, 11, 12, 13, 14, 15, 42, 43, 44, 16, 17, 18, 19, 20, 21, 22, 23, 24, 25, 26, 27, 28, 29, 30, 31, 32, 33, 34, 35, 36, 37, 38, 39, 40, 41] (fun u_10 : Unit => kc_F cA a_F a_T a_R a_X a_Y a_C a_D ++ kc_R cA a_R a_U a_S I_R A_R ++ kc_U cA a_U a_T I_U ++ kc_T cA a_T I_T A_T ++ kc_S cA a_S I_S A_S ++ kc_X cA a_X I_X A_X ++ kc_X cA a_Y u_6.1 u_6.2 ++ kc_C cA a_C I_C A_C ++ kc_C cA a_D I_D A_D) ⟨Nat.zero_le _, Nat.zero_le _⟩ rfl rfl (fun _ => rfl) rfl rfl rfl rfl rfl rfl rfl rfl (Nat.le_of_ble_eq_true rfl) (fun r_9 u_10 hw => ?_)
    exact vv_iret hC d_F_form_23 (I_X, A_X, u_6.1, u_6.2) hw rfl
set_option maxHeartbeats 4000000 in
set_option maxRecDepth 100000 in
theorem c_F_reset (l : Launch) (D : va_G) (cA : Nat → ClassId) (sx : Nat → Nat) (a_F a_R a_U a_T a_S a_X a_Y a_C a_D : Nat → Nat) (I_R : (Nat → Int32)) (A_R : (Nat → Nat → Int32)) (I_U : (Nat → Int32)) (I_T : (Nat → Int32)) (A_T : (Nat → Nat → Int32)) (I_S : (Nat → Int32)) (A_S : (Nat → Nat → Int32)) (I_X : (Nat → Int32)) (A_X : (Nat → Nat → Int32)) (I_Y : (Nat → Int32)) (A_Y : (Nat → Nat → Int32)) (I_C : (Nat → Int32)) (A_C : (Nat → Nat → Int32)) (I_D : (Nat → Int32)) (A_D : (Nat → Nat → Int32)) (Q : (Nat → Int32) → Prop) (hw : wp_F_reset I_C Q) : MetV l y_F_reset (Cond.code y_F_reset b_F_reset 1 none :: TB) ({ frames := 0, cells := 0, slots := 0, locals := 0 } : Room) D vwCl (tyl cA) (SPl sx) [.ref (a_F 0)] (kc_F cA a_F a_T a_R a_X a_Y a_C a_D ++ kc_R cA a_R a_U a_S I_R A_R ++ kc_U cA a_U a_T I_U ++ kc_T cA a_T I_T A_T ++ kc_S cA a_S I_S A_S ++ kc_X cA a_X I_X A_X ++ kc_X cA a_Y I_Y A_Y ++ kc_C cA a_C I_C A_C ++ kc_C cA a_D I_D A_D) (fun (u : (Nat → Int32)) => Q u) (fun u : (Nat → Int32) => kc_F cA a_F a_T a_R a_X a_Y a_C a_D ++ kc_R cA a_R a_U a_S I_R A_R ++ kc_U cA a_U a_T I_U ++ kc_T cA a_T I_T A_T ++ kc_S cA a_S I_S A_S ++ kc_X cA a_X I_X A_X ++ kc_X cA a_Y I_Y A_Y ++ kc_C cA a_C u A_C ++ kc_C cA a_D I_D A_D) := by
  refine vv_entryV (cc := b_F_reset) (own := R_F) (L := [(0, .ref (a_F 0))]) (by decide) rfl rfl (Nat.le_of_ble_eq_true rfl) rfl (fun p e s m args below meth c A hC => ?_)
  unfold wp_F_reset at hw
  refine vv_aload_n hC d_F_reset_0 0 rfl rfl ?_
  refine vv_get hC (v := .ref (a_C 0)) hin_F 0 4 tb_253 d_F_reset_1 rfl rfl (by decide) rfl rfl ?_
  refine vv_iconst hC d_F_reset_4 (v := (0 : Int32)) (by decide) ?_
  refine vv_put hC hin_C ty_C tyok_C nmok_C 19 5 tb_171 d_F_reset_5 rfl rfl (by decide) rfl rfl rfl rfl rfl (Nat.le_of_ble_eq_true rfl) (ws2 := kc_F cA a_F a_T a_R a_X a_Y a_C a_D ++ kc_R cA a_R a_U a_S I_R A_R ++ kc_U cA a_U a_T I_U ++ kc_T cA a_T I_T A_T ++ kc_S cA a_S I_S A_S ++ kc_X cA a_X I_X A_X ++ kc_X cA a_Y I_Y A_Y ++ kc_C cA a_C (va_up I_C 5 (0 : Int32)) A_C ++ kc_C cA a_D I_D A_D) (st_FRUTSXYCD_CI5 ..) ?_
  exact vv_vret hC d_F_reset_8 (va_up I_C 5 (0 : Int32)) hw rfl
set_option maxHeartbeats 4000000 in
set_option maxRecDepth 100000 in
theorem c_F_state (l : Launch) (D : va_G) (cA : Nat → ClassId) (sx : Nat → Nat) (a_F a_R a_U a_T a_S a_X a_Y a_C a_D : Nat → Nat) (I_R : (Nat → Int32)) (A_R : (Nat → Nat → Int32)) (I_U : (Nat → Int32)) (I_T : (Nat → Int32)) (A_T : (Nat → Nat → Int32)) (I_S : (Nat → Int32)) (A_S : (Nat → Nat → Int32)) (I_X : (Nat → Int32)) (A_X : (Nat → Nat → Int32)) (I_Y : (Nat → Int32)) (A_Y : (Nat → Nat → Int32)) (I_C : (Nat → Int32)) (A_C : (Nat → Nat → Int32)) (I_D : (Nat → Int32)) (A_D : (Nat → Nat → Int32)) (Q : Int32 → Prop) (hw : wp_F_state I_C Q) : MetI l y_F_state (Cond.code y_F_state b_F_state 1 (some .int) :: TB) ({ frames := 0, cells := 0, slots := 0, locals := 0 } : Room) D vwCl (tyl cA) (SPl sx) [.ref (a_F 0)] (kc_F cA a_F a_T a_R a_X a_Y a_C a_D ++ kc_R cA a_R a_U a_S I_R A_R ++ kc_U cA a_U a_T I_U ++ kc_T cA a_T I_T A_T ++ kc_S cA a_S I_S A_S ++ kc_X cA a_X I_X A_X ++ kc_X cA a_Y I_Y A_Y ++ kc_C cA a_C I_C A_C ++ kc_C cA a_D I_D A_D) (fun (r : Int32) (u : Unit) => Q r) (fun u : Unit => kc_F cA a_F a_T a_R a_X a_Y a_C a_D ++ kc_R cA a_R a_U a_S I_R A_R ++ kc_U cA a_U a_T I_U ++ kc_T cA a_T I_T A_T ++ kc_S cA a_S I_S A_S ++ kc_X cA a_X I_X A_X ++ kc_X cA a_Y I_Y A_Y ++ kc_C cA a_C I_C A_C ++ kc_C cA a_D I_D A_D) := by
  refine vv_entryI (cc := b_F_state) (own := R_F) (L := [(0, .ref (a_F 0))]) (by decide) rfl rfl (Nat.le_of_ble_eq_true rfl) rfl (fun p e s m args below meth c A hC => ?_)
  unfold wp_F_state at hw
  refine vv_aload_n hC d_F_state_0 0 rfl rfl ?_
  refine vv_get hC (v := .ref (a_C 0)) hin_F 0 4 tb_253 d_F_state_1 rfl rfl (by decide) rfl rfl ?_
  refine vv_get hC (v := .int (I_C 5)) hin_C 19 5 tb_171 d_F_state_4 rfl rfl (by decide) rfl rfl ?_
  exact vv_iret hC d_F_state_7 () hw rfl
set_option maxHeartbeats 4000000 in
set_option maxRecDepth 100000 in
theorem c_F_value (l : Launch) (D : va_G) (cA : Nat → ClassId) (sx : Nat → Nat) (a_F a_R a_U a_T a_S a_X a_Y a_C a_D : Nat → Nat) (I_R : (Nat → Int32)) (A_R : (Nat → Nat → Int32)) (I_U : (Nat → Int32)) (I_T : (Nat → Int32)) (A_T : (Nat → Nat → Int32)) (I_S : (Nat → Int32)) (A_S : (Nat → Nat → Int32)) (I_X : (Nat → Int32)) (A_X : (Nat → Nat → Int32)) (I_Y : (Nat → Int32)) (A_Y : (Nat → Nat → Int32)) (I_C : (Nat → Int32)) (A_C : (Nat → Nat → Int32)) (I_D : (Nat → Int32)) (A_D : (Nat → Nat → Int32)) (x1 x2 : Int32) (Q : Int32 → (Nat → Nat → Int32) → Prop) (hw : wp_F_value I_C A_C x1 x2 Q) : MetI l y_F_value (Cond.code y_F_value b_F_value 3 (some .int) :: TB) ({ frames := 2, cells := 0, slots := 0, locals := 44 } : Room) D vwCl (tyl cA) (SPl sx) [.ref (a_F 0), .int x1, .int x2] (kc_F cA a_F a_T a_R a_X a_Y a_C a_D ++ kc_R cA a_R a_U a_S I_R A_R ++ kc_U cA a_U a_T I_U ++ kc_T cA a_T I_T A_T ++ kc_S cA a_S I_S A_S ++ kc_X cA a_X I_X A_X ++ kc_X cA a_Y I_Y A_Y ++ kc_C cA a_C I_C A_C ++ kc_C cA a_D I_D A_D) (fun (r : Int32) (u : (Nat → Nat → Int32)) => Q r u) (fun u : (Nat → Nat → Int32) => kc_F cA a_F a_T a_R a_X a_Y a_C a_D ++ kc_R cA a_R a_U a_S I_R A_R ++ kc_U cA a_U a_T I_U ++ kc_T cA a_T I_T A_T ++ kc_S cA a_S I_S A_S ++ kc_X cA a_X I_X A_X ++ kc_X cA a_Y I_Y A_Y ++ kc_C cA a_C I_C u ++ kc_C cA a_D I_D A_D) := by
  refine vv_entryI (cc := b_F_value) (own := R_F) (L := [(0, .ref (a_F 0)), (1, .int x1), (2, .int x2)]) (by decide) rfl rfl (Nat.le_of_ble_eq_true rfl) rfl (fun p e s m args below meth c A hC => ?_)
  unfold wp_F_value at hw
  refine vv_iload_n hC d_F_value_0 1 rfl rfl ?_
  refine vv_if_lt hC 26 d_F_value_1 (by decide) (fun cd => ?_) (fun cd => ?_)
  · have hw := hw.1 cd
    refine vv_iconst hC d_F_value_26 (v := (-1 : Int32)) (by decide) ?_
    exact vv_iret hC d_F_value_27 A_C hw rfl
  · have hw := hw.2 cd
    refine vv_iload_n hC d_F_value_4 1 rfl rfl ?_
    refine vv_aload_n hC d_F_value_5 0 rfl rfl ?_
    refine vv_get hC (v := .ref (a_C 0)) hin_F 0 4 tb_253 d_F_value_6 rfl rfl (by decide) rfl rfl ?_
    refine vv_callVI (wr := kc_F cA a_F a_T a_R a_X a_Y a_C a_D ++ kc_R cA a_R a_U a_S I_R A_R ++ kc_U cA a_U a_T I_U ++ kc_T cA a_T I_T A_T ++ kc_S cA a_S I_S A_S ++ kc_X cA a_X I_X A_X ++ kc_X cA a_Y I_Y A_Y ++ kc_C cA a_D I_D A_D) hC (c_C_highestLiteral l D cA sx a_C I_C A_C _ hw) (cw_F_120 hC) d_F_value_9 [.int x1] [19, 20, 21, 22, 23, 24, 25, 26, 27, 28, 29, 30, 31] [0, 1, 2, 3, 4, 5, 6, 7, 8, 9, 10, 11, 12, 13, 14, 15, 16, 17, 18, 32, 33, 34, 35, 36, 37, 38, 39, 40, 41, 42, 43, 44] [0, 1, 2, 3, 4, 5, 6, 7, 8, 9, 10, 11, 12, 13, 14, 15, 16, 17, 18, 32, 33, 34, 35, 36, 37, 38, 39, 40, 41, 42, 43, 44, 19, 20, 21, 22, 23, 24, 25, 26, 27, 28, 29, 30, 31] (fun u_2 : Unit => kc_F cA a_F a_T a_R a_X a_Y a_C a_D ++ kc_R cA a_R a_U a_S I_R A_R ++ kc_U cA a_U a_T I_U ++ kc_T cA a_T I_T A_T ++ kc_S cA a_S I_S A_S ++ kc_X cA a_X I_X A_X ++ kc_X cA a_Y I_Y A_Y ++ kc_C cA a_C I_C A_C ++ kc_C cA a_D I_D A_D) ⟨Nat.zero_le _, Nat.zero_le _⟩ rfl rfl (fun _ => rfl) rfl rfl rfl rfl rfl rfl rfl rfl (Nat.le_of_ble_eq_true rfl) (fun r_1 u_2 hw => ?_)
    refine vv_icmp_gt hC 26 d_F_value_12 (by decide) (fun cd => ?_) (fun cd => ?_)
    · have hw := hw.1 cd
      refine vv_iconst hC d_F_value_26 (v := (-1 : Int32)) (by decide) ?_
      exact vv_iret hC d_F_value_27 A_C hw rfl
    · have hw := hw.2 cd
      refine vv_aload_n hC d_F_value_15 0 rfl rfl ?_
      refine vv_get hC (v := .ref (a_C 0)) hin_F 0 4 tb_253 d_F_value_16 rfl rfl (by decide) rfl rfl ?_
      refine vv_iload_n hC d_F_value_19 1 rfl rfl ?_
      refine vv_callVI (wr := kc_F cA a_F a_T a_R a_X a_Y a_C a_D ++ kc_R cA a_R a_U a_S I_R A_R ++ kc_U cA a_U a_T I_U ++ kc_T cA a_T I_T A_T ++ kc_S cA a_S I_S A_S ++ kc_X cA a_X I_X A_X ++ kc_X cA a_Y I_Y A_Y ++ kc_C cA a_D I_D A_D) hC (c_C_isKnown l D cA sx a_C I_C A_C x1 _ hw) (cw_F_123 hC) d_F_value_20 [] [19, 20, 21, 22, 23, 24, 25, 26, 27, 28, 29, 30, 31] [0, 1, 2, 3, 4, 5, 6, 7, 8, 9, 10, 11, 12, 13, 14, 15, 16, 17, 18, 32, 33, 34, 35, 36, 37, 38, 39, 40, 41, 42, 43, 44] [0, 1, 2, 3, 4, 5, 6, 7, 8, 9, 10, 11, 12, 13, 14, 15, 16, 17, 18, 32, 33, 34, 35, 36, 37, 38, 39, 40, 41, 42, 43, 44, 19, 20, 21, 22, 23, 24, 25, 26, 27, 28, 29, 30, 31] (fun u_4 : Unit => kc_F cA a_F a_T a_R a_X a_Y a_C a_D ++ kc_R cA a_R a_U a_S I_R A_R ++ kc_U cA a_U a_T I_U ++ kc_T cA a_T I_T A_T ++ kc_S cA a_S I_S A_S ++ kc_X cA a_X I_X A_X ++ kc_X cA a_Y I_Y A_Y ++ kc_C cA a_C I_C A_C ++ kc_C cA a_D I_D A_D) ⟨Nat.zero_le _, Nat.zero_le _⟩ rfl rfl (fun _ => rfl) rfl rfl rfl rfl rfl rfl rfl rfl (Nat.le_of_ble_eq_true rfl) (fun r_3 u_4 hw => ?_)
      refine vv_if_ne hC 28 d_F_value_23 (by decide) (fun cd => ?_) (fun cd => ?_)
      · have hw := hw.2 cd
        refine vv_aload_n hC d_F_value_28 0 rfl rfl ?_
        refine vv_get hC (v := .ref (a_C 0)) hin_F 0 4 tb_253 d_F_value_29 rfl rfl (by decide) rfl rfl ?_
        refine vv_iload_n hC d_F_value_32 2 rfl rfl ?_
        refine vv_callVV (wr := kc_F cA a_F a_T a_R a_X a_Y a_C a_D ++ kc_R cA a_R a_U a_S I_R A_R ++ kc_U cA a_U a_T I_U ++ kc_T cA a_T I_T A_T ++ kc_S cA a_S I_S A_S ++ kc_X cA a_X I_X A_X ++ kc_X cA a_Y I_Y A_Y ++ kc_C cA a_D I_D A_D) hC (c_C_settle l D cA sx a_C I_C A_C x2 _ hw) (cw_F_127 hC) d_F_value_33 [] [19, 20, 21, 22, 23, 24, 25, 26, 27, 28, 29, 30, 31] [0, 1, 2, 3, 4, 5, 6, 7, 8, 9, 10, 11, 12, 13, 14, 15, 16, 17, 18, 32, 33, 34, 35, 36, 37, 38, 39, 40, 41, 42, 43, 44] [0, 1, 2, 3, 4, 5, 6, 7, 8, 9, 10, 11, 12, 13, 14, 15, 16, 17, 18, 32, 33, 34, 35, 36, 37, 38, 39, 40, 41, 42, 43, 44, 19, 20, 21, 22, 23, 24, 25, 26, 27, 28, 29, 30, 31] (fun u_5 : (Nat → Nat → Int32) => kc_F cA a_F a_T a_R a_X a_Y a_C a_D ++ kc_R cA a_R a_U a_S I_R A_R ++ kc_U cA a_U a_T I_U ++ kc_T cA a_T I_T A_T ++ kc_S cA a_S I_S A_S ++ kc_X cA a_X I_X A_X ++ kc_X cA a_Y I_Y A_Y ++ kc_C cA a_C I_C u_5 ++ kc_C cA a_D I_D A_D) ⟨Nat.zero_le _, Nat.zero_le _⟩ rfl rfl (fun _ => rfl) rfl rfl rfl rfl rfl rfl rfl rfl (Nat.le_of_ble_eq_true rfl) (fun u_5 hw => ?_)
        refine vv_aload_n hC d_F_value_36 0 rfl rfl ?_
        refine vv_get hC (v := .ref (a_C 0)) hin_F 0 4 tb_253 d_F_value_37 rfl rfl (by decide) rfl rfl ?_
        refine vv_iload_n hC d_F_value_40 1 rfl rfl ?_
        refine vv_callVI (wr := kc_F cA a_F a_T a_R a_X a_Y a_C a_D ++ kc_R cA a_R a_U a_S I_R A_R ++ kc_U cA a_U a_T I_U ++ kc_T cA a_T I_T A_T ++ kc_S cA a_S I_S A_S ++ kc_X cA a_X I_X A_X ++ kc_X cA a_Y I_Y A_Y ++ kc_C cA a_D I_D A_D) hC (c_C_bitOf l D cA sx a_C I_C u_5 x1 _ hw) (cw_F_131 hC) d_F_value_41 [] [19, 20, 21, 22, 23, 24, 25, 26, 27, 28, 29, 30, 31] [0, 1, 2, 3, 4, 5, 6, 7, 8, 9, 10, 11, 12, 13, 14, 15, 16, 17, 18, 32, 33, 34, 35, 36, 37, 38, 39, 40, 41, 42, 43, 44] [0, 1, 2, 3, 4, 5, 6, 7, 8, 9, 10, 11, 12, 13, 14, 15, 16, 17, 18, 32, 33, 34, 35, 36, 37, 38, 39, 40, 41, 42, 43, 44, 19, 20, 21, 22, 23, 24, 25, 26, 27, 28, 29, 30, 31] (fun u_8 : Unit => kc_F cA a_F a_T a_R a_X a_Y a_C a_D ++ kc_R cA a_R a_U a_S I_R A_R ++ kc_U cA a_U a_T I_U ++ kc_T cA a_T I_T A_T ++ kc_S cA a_S I_S A_S ++ kc_X cA a_X I_X A_X ++ kc_X cA a_Y I_Y A_Y ++ kc_C cA a_C I_C u_5 ++ kc_C cA a_D I_D A_D) ⟨Nat.zero_le _, Nat.zero_le _⟩ rfl rfl (fun _ => rfl) rfl rfl rfl rfl rfl rfl rfl rfl (Nat.le_of_ble_eq_true rfl) (fun r_7 u_8 hw => ?_)
        exact vv_iret hC d_F_value_44 u_5 hw rfl
      · have hw := hw.1 cd
        refine vv_iconst hC d_F_value_26 (v := (-1 : Int32)) (by decide) ?_
        exact vv_iret hC d_F_value_27 A_C hw rfl
set_option maxHeartbeats 4000000 in
set_option maxRecDepth 100000 in
theorem c_F_step (l : Launch) (D : va_G) (cA : Nat → ClassId) (sx : Nat → Nat) (a_F a_R a_U a_T a_S a_X a_Y a_C a_D : Nat → Nat) (I_R : (Nat → Int32)) (A_R : (Nat → Nat → Int32)) (I_U : (Nat → Int32)) (I_T : (Nat → Int32)) (A_T : (Nat → Nat → Int32)) (I_S : (Nat → Int32)) (A_S : (Nat → Nat → Int32)) (I_X : (Nat → Int32)) (A_X : (Nat → Nat → Int32)) (I_Y : (Nat → Int32)) (A_Y : (Nat → Nat → Int32)) (I_C : (Nat → Int32)) (A_C : (Nat → Nat → Int32)) (I_D : (Nat → Int32)) (A_D : (Nat → Nat → Int32)) (x1 : Int32) (Q : Int32 → (Nat → Int32) → (Nat → Nat → Int32) → Prop) (hw : wp_F_step I_C A_C x1 Q) : MetI l y_F_step (Cond.code y_F_step b_F_step 3 (some .int) :: TB) ({ frames := 2, cells := 0, slots := 0, locals := 45 } : Room) D vwCl (tyl cA) (SPl sx) [.ref (a_F 0), .int x1] (kc_F cA a_F a_T a_R a_X a_Y a_C a_D ++ kc_R cA a_R a_U a_S I_R A_R ++ kc_U cA a_U a_T I_U ++ kc_T cA a_T I_T A_T ++ kc_S cA a_S I_S A_S ++ kc_X cA a_X I_X A_X ++ kc_X cA a_Y I_Y A_Y ++ kc_C cA a_C I_C A_C ++ kc_C cA a_D I_D A_D) (fun (r : Int32) (u : (Nat → Int32) × (Nat → Nat → Int32)) => Q r u.1 u.2) (fun u : (Nat → Int32) × (Nat → Nat → Int32) => kc_F cA a_F a_T a_R a_X a_Y a_C a_D ++ kc_R cA a_R a_U a_S I_R A_R ++ kc_U cA a_U a_T I_U ++ kc_T cA a_T I_T A_T ++ kc_S cA a_S I_S A_S ++ kc_X cA a_X I_X A_X ++ kc_X cA a_Y I_Y A_Y ++ kc_C cA a_C u.1 u.2 ++ kc_C cA a_D I_D A_D) := by
  refine vv_entryI (cc := b_F_step) (own := R_F) (L := [(0, .ref (a_F 0)), (1, .int x1)]) (by decide) rfl rfl (Nat.le_of_ble_eq_true rfl) rfl (fun p e s m args below meth c A hC => ?_)
  unfold wp_F_step at hw
  refine vv_aload_n hC d_F_step_0 0 rfl rfl ?_
  refine vv_get hC (v := .ref (a_C 0)) hin_F 0 4 tb_253 d_F_step_1 rfl rfl (by decide) rfl rfl ?_
  refine vv_iload_n hC d_F_step_4 1 rfl rfl ?_
  refine vv_callVV (wr := kc_F cA a_F a_T a_R a_X a_Y a_C a_D ++ kc_R cA a_R a_U a_S I_R A_R ++ kc_U cA a_U a_T I_U ++ kc_T cA a_T I_T A_T ++ kc_S cA a_S I_S A_S ++ kc_X cA a_X I_X A_X ++ kc_X cA a_Y I_Y A_Y ++ kc_C cA a_D I_D A_D) hC (c_C_settle l D cA sx a_C I_C A_C x1 _ hw) (cw_F_127 hC) d_F_step_5 [] [19, 20, 21, 22, 23, 24, 25, 26, 27, 28, 29, 30, 31] [0, 1, 2, 3, 4, 5, 6, 7, 8, 9, 10, 11, 12, 13, 14, 15, 16, 17, 18, 32, 33, 34, 35, 36, 37, 38, 39, 40, 41, 42, 43, 44] [0, 1, 2, 3, 4, 5, 6, 7, 8, 9, 10, 11, 12, 13, 14, 15, 16, 17, 18, 32, 33, 34, 35, 36, 37, 38, 39, 40, 41, 42, 43, 44, 19, 20, 21, 22, 23, 24, 25, 26, 27, 28, 29, 30, 31] (fun u_1 : (Nat → Nat → Int32) => kc_F cA a_F a_T a_R a_X a_Y a_C a_D ++ kc_R cA a_R a_U a_S I_R A_R ++ kc_U cA a_U a_T I_U ++ kc_T cA a_T I_T A_T ++ kc_S cA a_S I_S A_S ++ kc_X cA a_X I_X A_X ++ kc_X cA a_Y I_Y A_Y ++ kc_C cA a_C I_C u_1 ++ kc_C cA a_D I_D A_D) ⟨Nat.zero_le _, Nat.zero_le _⟩ rfl rfl (fun _ => rfl) rfl rfl rfl rfl rfl rfl rfl rfl (Nat.le_of_ble_eq_true rfl) (fun u_1 hw => ?_)
  refine vv_aload_n hC d_F_step_8 0 rfl rfl ?_
  refine vv_get hC (v := .ref (a_C 0)) hin_F 0 4 tb_253 d_F_step_9 rfl rfl (by decide) rfl rfl ?_
  refine vv_aload_n hC d_F_step_12 0 rfl rfl ?_
  refine vv_get hC (v := .ref (a_C 0)) hin_F 0 4 tb_253 d_F_step_13 rfl rfl (by decide) rfl rfl ?_
  refine vv_get hC (v := .ref (a_C 4)) hin_C 19 9 tb_185 d_F_step_16 rfl rfl (by decide) rfl rfl ?_
  refine vv_aload_n hC d_F_step_19 0 rfl rfl ?_
  refine vv_get hC (v := .ref (a_C 0)) hin_F 0 4 tb_253 d_F_step_20 rfl rfl (by decide) rfl rfl ?_
  refine vv_get hC (v := .int (I_C 3)) hin_C 19 3 tb_164 d_F_step_23 rfl rfl (by decide) rfl rfl ?_
  refine vv_callVI (wr := kc_F cA a_F a_T a_R a_X a_Y a_C a_D ++ kc_R cA a_R a_U a_S I_R A_R ++ kc_U cA a_U a_T I_U ++ kc_T cA a_T I_T A_T ++ kc_S cA a_S I_S A_S ++ kc_X cA a_X I_X A_X ++ kc_X cA a_Y I_Y A_Y ++ kc_C cA a_D I_D A_D) hC (c_C_bitsOf_outputLiteral l D cA sx a_C I_C u_1 (I_C 3) _ hw) (cw_F_137_outputLiteral hC) d_F_step_26 [] [19, 20, 21, 22, 23, 24, 25, 26, 27, 28, 29, 30, 31] [0, 1, 2, 3, 4, 5, 6, 7, 8, 9, 10, 11, 12, 13, 14, 15, 16, 17, 18, 32, 33, 34, 35, 36, 37, 38, 39, 40, 41, 42, 43, 44] [0, 1, 2, 3, 4, 5, 6, 7, 8, 9, 10, 11, 12, 13, 14, 15, 16, 17, 18, 32, 33, 34, 35, 36, 37, 38, 39, 40, 41, 42, 43, 44, 19, 20, 21, 22, 23, 24, 25, 26, 27, 28, 29, 30, 31] (fun u_4 : Unit => kc_F cA a_F a_T a_R a_X a_Y a_C a_D ++ kc_R cA a_R a_U a_S I_R A_R ++ kc_U cA a_U a_T I_U ++ kc_T cA a_T I_T A_T ++ kc_S cA a_S I_S A_S ++ kc_X cA a_X I_X A_X ++ kc_X cA a_Y I_Y A_Y ++ kc_C cA a_C I_C u_1 ++ kc_C cA a_D I_D A_D) ⟨Nat.zero_le _, Nat.zero_le _⟩ rfl rfl (fun _ => rfl) rfl rfl rfl rfl rfl rfl rfl rfl (Nat.le_of_ble_eq_true rfl) (fun r_3 u_4 hw => ?_)
  refine vv_istore_n hC d_F_step_29 rfl (by decide) [1, 2, 0] (L2 := [(0, .ref (a_F 0)), (1, .int x1), (2, .int r_3)]) rfl ?_
  refine vv_aload_n hC d_F_step_30 0 rfl rfl ?_
  refine vv_get hC (v := .ref (a_C 0)) hin_F 0 4 tb_253 d_F_step_31 rfl rfl (by decide) rfl rfl ?_
  refine vv_aload_n hC d_F_step_34 0 rfl rfl ?_
  refine vv_get hC (v := .ref (a_C 0)) hin_F 0 4 tb_253 d_F_step_35 rfl rfl (by decide) rfl rfl ?_
  refine vv_aload_n hC d_F_step_38 0 rfl rfl ?_
  refine vv_get hC (v := .ref (a_C 0)) hin_F 0 4 tb_253 d_F_step_39 rfl rfl (by decide) rfl rfl ?_
  refine vv_get hC (v := .ref (a_C 3)) hin_C 19 8 tb_181 d_F_step_42 rfl rfl (by decide) rfl rfl ?_
  refine vv_aload_n hC d_F_step_45 0 rfl rfl ?_
  refine vv_get hC (v := .ref (a_C 0)) hin_F 0 4 tb_253 d_F_step_46 rfl rfl (by decide) rfl rfl ?_
  refine vv_get hC (v := .int (I_C 2)) hin_C 19 2 tb_160 d_F_step_49 rfl rfl (by decide) rfl rfl ?_
  refine vv_callVI (wr := kc_F cA a_F a_T a_R a_X a_Y a_C a_D ++ kc_R cA a_R a_U a_S I_R A_R ++ kc_U cA a_U a_T I_U ++ kc_T cA a_T I_T A_T ++ kc_S cA a_S I_S A_S ++ kc_X cA a_X I_X A_X ++ kc_X cA a_Y I_Y A_Y ++ kc_C cA a_D I_D A_D) hC (c_C_bitsOf_latchNext l D cA sx a_C I_C u_1 (I_C 2) _ hw) (cw_F_137_latchNext hC) d_F_step_52 [.ref (a_C 0)] [19, 20, 21, 22, 23, 24, 25, 26, 27, 28, 29, 30, 31] [0, 1, 2, 3, 4, 5, 6, 7, 8, 9, 10, 11, 12, 13, 14, 15, 16, 17, 18, 32, 33, 34, 35, 36, 37, 38, 39, 40, 41, 42, 43, 44] [0, 1, 2, 3, 4, 5, 6, 7, 8, 9, 10, 11, 12, 13, 14, 15, 16, 17, 18, 32, 33, 34, 35, 36, 37, 38, 39, 40, 41, 42, 43, 44, 19, 20, 21, 22, 23, 24, 25, 26, 27, 28, 29, 30, 31] (fun u_6 : Unit => kc_F cA a_F a_T a_R a_X a_Y a_C a_D ++ kc_R cA a_R a_U a_S I_R A_R ++ kc_U cA a_U a_T I_U ++ kc_T cA a_T I_T A_T ++ kc_S cA a_S I_S A_S ++ kc_X cA a_X I_X A_X ++ kc_X cA a_Y I_Y A_Y ++ kc_C cA a_C I_C u_1 ++ kc_C cA a_D I_D A_D) ⟨Nat.zero_le _, Nat.zero_le _⟩ rfl rfl (fun _ => rfl) rfl rfl rfl rfl rfl rfl rfl rfl (Nat.le_of_ble_eq_true rfl) (fun r_5 u_6 hw => ?_)
  refine vv_put hC hin_C ty_C tyok_C nmok_C 19 5 tb_171 d_F_step_55 rfl rfl (by decide) rfl rfl rfl rfl rfl (Nat.le_of_ble_eq_true rfl) (ws2 := kc_F cA a_F a_T a_R a_X a_Y a_C a_D ++ kc_R cA a_R a_U a_S I_R A_R ++ kc_U cA a_U a_T I_U ++ kc_T cA a_T I_T A_T ++ kc_S cA a_S I_S A_S ++ kc_X cA a_X I_X A_X ++ kc_X cA a_Y I_Y A_Y ++ kc_C cA a_C (va_up I_C 5 r_5) u_1 ++ kc_C cA a_D I_D A_D) (st_FRUTSXYCD_CI5 ..) ?_
  refine vv_iload_n hC d_F_step_58 2 rfl rfl ?_
  exact vv_iret hC d_F_step_59 ((va_up I_C 5 r_5), u_1) hw rfl
