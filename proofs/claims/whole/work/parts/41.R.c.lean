set_option maxHeartbeats 4000000 in
set_option maxRecDepth 100000 in
theorem c_R_readCount (l : Launch) (D : va_G) (cA : Nat → ClassId) (sx : Nat → Nat) (a_R a_U a_T a_S : Nat → Nat) (I_R : (Nat → Int32)) (A_R : (Nat → Nat → Int32)) (I_U : (Nat → Int32)) (I_T : (Nat → Int32)) (A_T : (Nat → Nat → Int32)) (I_S : (Nat → Int32)) (A_S : (Nat → Nat → Int32)) (Q : Int32 → (Nat → Int32) → Prop) (hw : wp_R_readCount I_U I_T A_T Q) : MetI l y_R_readCount (Cond.code y_R_readCount b_R_readCount 1 (some .boolean) :: TB) ({ frames := 2, cells := 0, slots := 0, locals := 45 } : Room) D vwCl (tyl cA) (SPl sx) [.ref (a_R 0)] (kc_R cA a_R a_U a_S I_R A_R ++ kc_U cA a_U a_T I_U ++ kc_T cA a_T I_T A_T ++ kc_S cA a_S I_S A_S) (fun (r : Int32) (u : (Nat → Int32)) => Q r u) (fun u : (Nat → Int32) => kc_R cA a_R a_U a_S I_R A_R ++ kc_U cA a_U a_T u ++ kc_T cA a_T I_T A_T ++ kc_S cA a_S I_S A_S) := by
  refine vv_entryI (cc := b_R_readCount) (own := R_R) (L := [(0, .ref (a_R 0))]) (by decide) rfl rfl (Nat.le_of_ble_eq_true rfl) rfl (fun p e s m args below meth c A hC => ?_)
  unfold wp_R_readCount at hw
  refine vv_aload_n hC d_R_readCount_0 0 rfl rfl ?_
  refine vv_get hC (v := .ref (a_U 0)) hin_R 0 0 tb_104 d_R_readCount_1 rfl rfl (by decide) rfl rfl ?_
  refine vv_bipush hC d_R_readCount_4 (v := (32 : Int32)) (by decide) ?_
  refine vv_callVI (wr := kc_R cA a_R a_U a_S I_R A_R ++ kc_S cA a_S I_S A_S) hC (c_U_expect l D cA sx a_U a_T I_U I_T A_T (32 : Int32) _ hw) (cw_R_84 hC) d_R_readCount_6 [] [3, 4, 5, 6] [0, 1, 2, 7, 8, 9, 10, 11] [0, 1, 2, 8, 9, 10, 11, 3, 4, 5, 6, 7] (fun u_2 : (Nat → Int32) => kc_R cA a_R a_U a_S I_R A_R ++ kc_U cA a_U a_T u_2 ++ kc_T cA a_T I_T A_T ++ kc_S cA a_S I_S A_S) ⟨Nat.zero_le _, Nat.zero_le _⟩ rfl rfl (fun _ => rfl) rfl rfl rfl rfl rfl rfl rfl rfl (Nat.le_of_ble_eq_true rfl) (fun r_1 u_2 hw => ?_)
  refine vv_if_eq hC 26 d_R_readCount_9 (by decide) (fun cd => ?_) (fun cd => ?_)
  · have hw := hw.1 cd
    refine vv_iconst hC d_R_readCount_26 (v := (0 : Int32)) (by decide) ?_
    exact vv_zret hC d_R_readCount_27 rfl u_2 hw rfl
  · have hw := hw.2 cd
    refine vv_aload_n hC d_R_readCount_12 0 rfl rfl ?_
    refine vv_get hC (v := .ref (a_U 0)) hin_R 0 0 tb_104 d_R_readCount_13 rfl rfl (by decide) rfl rfl ?_
    refine vv_callVI (wr := kc_R cA a_R a_U a_S I_R A_R ++ kc_S cA a_S I_S A_S) hC (c_U_readNumber l D cA sx a_U a_T u_2 I_T A_T _ hw) (cw_R_125 hC) d_R_readCount_16 [] [3, 4, 5, 6] [0, 1, 2, 7, 8, 9, 10, 11] [0, 1, 2, 8, 9, 10, 11, 3, 4, 5, 6, 7] (fun u_5 : (Nat → Int32) => kc_R cA a_R a_U a_S I_R A_R ++ kc_U cA a_U a_T u_5 ++ kc_T cA a_T I_T A_T ++ kc_S cA a_S I_S A_S) ⟨Nat.zero_le _, Nat.zero_le _⟩ rfl rfl (fun _ => rfl) rfl rfl rfl rfl rfl rfl rfl rfl (Nat.le_of_ble_eq_true rfl) (fun r_4 u_5 hw => ?_)
    refine vv_if_eq hC 26 d_R_readCount_19 (by decide) (fun cd => ?_) (fun cd => ?_)
    · have hw := hw.1 cd
      refine vv_iconst hC d_R_readCount_26 (v := (0 : Int32)) (by decide) ?_
      exact vv_zret hC d_R_readCount_27 rfl u_5 hw rfl
    · have hw := hw.2 cd
      refine vv_iconst hC d_R_readCount_22 (v := (1 : Int32)) (by decide) ?_
      refine vv_goto hC 27 d_R_readCount_23 (by decide) ?_
      exact vv_zret hC d_R_readCount_27 rfl u_5 hw rfl
set_option maxHeartbeats 4000000 in
set_option maxRecDepth 100000 in
theorem l_R_readHeader_b59 {p : Program} {l : Launch} {e : Env} {s : State} {m : MethodId} {args : Array Value} {below : List Frame} {meth : Method} {c : Code} {D : va_G} {cA : Nat → ClassId} {sx : Nat → Nat} {A : Nat → Prop} (a_R a_U a_T a_S a_C : Nat → Nat) (A_R : (Nat → Nat → Int32)) (I_T : (Nat → Int32)) (A_T : (Nat → Nat → Int32)) (I_S : (Nat → Int32)) (A_S : (Nat → Nat → Int32)) (A_C : (Nat → Nat → Int32)) (Q : Int32 → (Nat → Int32) → (Nat → Int32) → (Nat → Int32) → Prop) (hC : CX p s m args meth c b_R_readHeader R_R TB 2 D vwCl (tyl cA) A (SPl sx) (some .boolean)) : ∀ (I_R : (Nat → Int32)) (I_U : (Nat → Int32)) (I_C : (Nat → Int32)), wp_R_readHeader_b59 I_T A_T Q I_R I_U I_C → VV p l e ({ frames := 3, cells := 0, slots := 0, locals := 65 } : Room) s m args below meth c 2 D vwCl A 0 0 (QI below args s D vwCl (tyl cA) A (fun (r : Int32) (u : (Nat → Int32) × (Nat → Int32) × (Nat → Int32)) => Q r u.1 u.2.1 u.2.2) (fun u : (Nat → Int32) × (Nat → Int32) × (Nat → Int32) => kc_R cA a_R a_U a_S u.1 A_R ++ kc_U cA a_U a_T u.2.1 ++ kc_T cA a_T I_T A_T ++ kc_S cA a_S I_S A_S ++ kc_C cA a_C u.2.2 A_C)) (kc_R cA a_R a_U a_S I_R A_R ++ kc_U cA a_U a_T I_U ++ kc_T cA a_T I_T A_T ++ kc_S cA a_S I_S A_S ++ kc_C cA a_C I_C A_C) 59 [(0, .ref (a_R 0)), (1, .ref (a_C 0))] [] := by
  intro I_R I_U I_C hw
  unfold wp_R_readHeader_b59 at hw
  refine vv_aload_n hC d_R_readHeader_59 0 rfl rfl ?_
  refine vv_get hC (v := .ref (a_U 0)) hin_R 0 0 tb_104 d_R_readHeader_60 rfl rfl (by decide) rfl rfl ?_
  refine vv_bipush hC d_R_readHeader_63 (v := (103 : Int32)) (by decide) ?_
  refine vv_callVI (wr := kc_R cA a_R a_U a_S I_R A_R ++ kc_S cA a_S I_S A_S ++ kc_C cA a_C I_C A_C) hC (c_U_expect l D cA sx a_U a_T I_U I_T A_T (103 : Int32) _ hw) (cw_R_84 hC) d_R_readHeader_65 [] [3, 4, 5, 6] [0, 1, 2, 7, 8, 9, 10, 11, 12, 13, 14, 15, 16, 17, 18, 19, 20, 21, 22, 23, 24] [0, 1, 2, 21, 22, 23, 24, 3, 4, 5, 6, 7, 8, 9, 10, 11, 12, 13, 14, 15, 16, 17, 18, 19, 20] (fun u_10 : (Nat → Int32) => kc_R cA a_R a_U a_S I_R A_R ++ kc_U cA a_U a_T u_10 ++ kc_T cA a_T I_T A_T ++ kc_S cA a_S I_S A_S ++ kc_C cA a_C I_C A_C) ⟨Nat.zero_le _, Nat.zero_le _⟩ rfl rfl (fun _ => rfl) rfl rfl rfl rfl rfl rfl rfl rfl (Nat.le_of_ble_eq_true rfl) (fun r_9 u_10 hw => ?_)
  refine vv_if_eq hC 78 d_R_readHeader_68 (by decide) (fun cd => ?_) (fun cd => ?_)
  · have hw := hw.1 cd
    refine vv_iconst hC d_R_readHeader_78 (v := (0 : Int32)) (by decide) ?_
    exact vv_zret hC d_R_readHeader_79 rfl (I_R, u_10, I_C) hw rfl
  · have hw := hw.2 cd
    refine vv_aload_n hC d_R_readHeader_71 0 rfl rfl ?_
    refine vv_callVI (wr := kc_C cA a_C I_C A_C) hC (c_R_readCount l D cA sx a_R a_U a_T a_S I_R A_R u_10 I_T A_T I_S A_S _ hw) (cw_R_92 hC) d_R_readHeader_72 [] [0, 1, 2, 3, 4, 5, 6, 7, 8, 9, 10, 11] [12, 13, 14, 15, 16, 17, 18, 19, 20, 21, 22, 23, 24] [13, 14, 15, 16, 17, 18, 19, 20, 21, 22, 23, 24, 0, 1, 2, 3, 4, 5, 6, 7, 8, 9, 10, 11, 12] (fun u_13 : (Nat → Int32) => kc_R cA a_R a_U a_S I_R A_R ++ kc_U cA a_U a_T u_13 ++ kc_T cA a_T I_T A_T ++ kc_S cA a_S I_S A_S ++ kc_C cA a_C I_C A_C) ⟨Nat.zero_le _, Nat.zero_le _⟩ rfl rfl (fun _ => rfl) rfl rfl rfl rfl rfl rfl rfl rfl (Nat.le_of_ble_eq_true rfl) (fun r_12 u_13 hw => ?_)
    refine vv_if_ne hC 80 d_R_readHeader_75 (by decide) (fun cd => ?_) (fun cd => ?_)
    · have hw := hw.2 cd
      refine vv_aload_n hC d_R_readHeader_80 1 rfl rfl ?_
      refine vv_aload_n hC d_R_readHeader_81 0 rfl rfl ?_
      refine vv_get hC (v := .ref (a_U 0)) hin_R 0 0 tb_104 d_R_readHeader_82 rfl rfl (by decide) rfl rfl ?_
      refine vv_get hC (v := .int (u_13 2)) hin_U 3 3 tb_86 d_R_readHeader_85 rfl rfl (by decide) rfl rfl ?_
      refine vv_put hC hin_C ty_C tyok_C nmok_C 12 0 tb_151 d_R_readHeader_88 rfl rfl (by decide) rfl rfl rfl rfl rfl (Nat.le_of_ble_eq_true rfl) (ws2 := kc_R cA a_R a_U a_S I_R A_R ++ kc_U cA a_U a_T u_13 ++ kc_T cA a_T I_T A_T ++ kc_S cA a_S I_S A_S ++ kc_C cA a_C (va_up I_C 0 (u_13 2)) A_C) (st_RUTSC_CI0 ..) ?_
      refine vv_aload_n hC d_R_readHeader_91 0 rfl rfl ?_
      refine vv_callVI (wr := kc_C cA a_C (va_up I_C 0 (u_13 2)) A_C) hC (c_R_readCount l D cA sx a_R a_U a_T a_S I_R A_R u_13 I_T A_T I_S A_S _ hw) (cw_R_92 hC) d_R_readHeader_92 [] [0, 1, 2, 3, 4, 5, 6, 7, 8, 9, 10, 11] [12, 13, 14, 15, 16, 17, 18, 19, 20, 21, 22, 23, 24] [13, 14, 15, 16, 17, 18, 19, 20, 21, 22, 23, 24, 0, 1, 2, 3, 4, 5, 6, 7, 8, 9, 10, 11, 12] (fun u_16 : (Nat → Int32) => kc_R cA a_R a_U a_S I_R A_R ++ kc_U cA a_U a_T u_16 ++ kc_T cA a_T I_T A_T ++ kc_S cA a_S I_S A_S ++ kc_C cA a_C (va_up I_C 0 (u_13 2)) A_C) ⟨Nat.zero_le _, Nat.zero_le _⟩ rfl rfl (fun _ => rfl) rfl rfl rfl rfl rfl rfl rfl rfl (Nat.le_of_ble_eq_true rfl) (fun r_15 u_16 hw => ?_)
      refine vv_if_ne hC 100 d_R_readHeader_95 (by decide) (fun cd => ?_) (fun cd => ?_)
      · have hw := hw.2 cd
        refine vv_aload_n hC d_R_readHeader_100 1 rfl rfl ?_
        refine vv_aload_n hC d_R_readHeader_101 0 rfl rfl ?_
        refine vv_get hC (v := .ref (a_U 0)) hin_R 0 0 tb_104 d_R_readHeader_102 rfl rfl (by decide) rfl rfl ?_
        refine vv_get hC (v := .int (u_16 2)) hin_U 3 3 tb_86 d_R_readHeader_105 rfl rfl (by decide) rfl rfl ?_
        refine vv_put hC hin_C ty_C tyok_C nmok_C 12 1 tb_155 d_R_readHeader_108 rfl rfl (by decide) rfl rfl rfl rfl rfl (Nat.le_of_ble_eq_true rfl) (ws2 := kc_R cA a_R a_U a_S I_R A_R ++ kc_U cA a_U a_T u_16 ++ kc_T cA a_T I_T A_T ++ kc_S cA a_S I_S A_S ++ kc_C cA a_C (va_up (va_up I_C 0 (u_13 2)) 1 (u_16 2)) A_C) (st_RUTSC_CI1 ..) ?_
        refine vv_aload_n hC d_R_readHeader_111 0 rfl rfl ?_
        refine vv_callVI (wr := kc_C cA a_C (va_up (va_up I_C 0 (u_13 2)) 1 (u_16 2)) A_C) hC (c_R_readCount l D cA sx a_R a_U a_T a_S I_R A_R u_16 I_T A_T I_S A_S _ hw) (cw_R_92 hC) d_R_readHeader_112 [] [0, 1, 2, 3, 4, 5, 6, 7, 8, 9, 10, 11] [12, 13, 14, 15, 16, 17, 18, 19, 20, 21, 22, 23, 24] [13, 14, 15, 16, 17, 18, 19, 20, 21, 22, 23, 24, 0, 1, 2, 3, 4, 5, 6, 7, 8, 9, 10, 11, 12] (fun u_19 : (Nat → Int32) => kc_R cA a_R a_U a_S I_R A_R ++ kc_U cA a_U a_T u_19 ++ kc_T cA a_T I_T A_T ++ kc_S cA a_S I_S A_S ++ kc_C cA a_C (va_up (va_up I_C 0 (u_13 2)) 1 (u_16 2)) A_C) ⟨Nat.zero_le _, Nat.zero_le _⟩ rfl rfl (fun _ => rfl) rfl rfl rfl rfl rfl rfl rfl rfl (Nat.le_of_ble_eq_true rfl) (fun r_18 u_19 hw => ?_)
        refine vv_if_ne hC 120 d_R_readHeader_115 (by decide) (fun cd => ?_) (fun cd => ?_)
        · have hw := hw.2 cd
          refine vv_aload_n hC d_R_readHeader_120 1 rfl rfl ?_
          refine vv_aload_n hC d_R_readHeader_121 0 rfl rfl ?_
          refine vv_get hC (v := .ref (a_U 0)) hin_R 0 0 tb_104 d_R_readHeader_122 rfl rfl (by decide) rfl rfl ?_
          refine vv_get hC (v := .int (u_19 2)) hin_U 3 3 tb_86 d_R_readHeader_125 rfl rfl (by decide) rfl rfl ?_
          refine vv_put hC hin_C ty_C tyok_C nmok_C 12 2 tb_159 d_R_readHeader_128 rfl rfl (by decide) rfl rfl rfl rfl rfl (Nat.le_of_ble_eq_true rfl) (ws2 := kc_R cA a_R a_U a_S I_R A_R ++ kc_U cA a_U a_T u_19 ++ kc_T cA a_T I_T A_T ++ kc_S cA a_S I_S A_S ++ kc_C cA a_C (va_up (va_up (va_up I_C 0 (u_13 2)) 1 (u_16 2)) 2 (u_19 2)) A_C) (st_RUTSC_CI2 ..) ?_
          refine vv_aload_n hC d_R_readHeader_131 0 rfl rfl ?_
          refine vv_callVI (wr := kc_C cA a_C (va_up (va_up (va_up I_C 0 (u_13 2)) 1 (u_16 2)) 2 (u_19 2)) A_C) hC (c_R_readCount l D cA sx a_R a_U a_T a_S I_R A_R u_19 I_T A_T I_S A_S _ hw) (cw_R_92 hC) d_R_readHeader_132 [] [0, 1, 2, 3, 4, 5, 6, 7, 8, 9, 10, 11] [12, 13, 14, 15, 16, 17, 18, 19, 20, 21, 22, 23, 24] [13, 14, 15, 16, 17, 18, 19, 20, 21, 22, 23, 24, 0, 1, 2, 3, 4, 5, 6, 7, 8, 9, 10, 11, 12] (fun u_22 : (Nat → Int32) => kc_R cA a_R a_U a_S I_R A_R ++ kc_U cA a_U a_T u_22 ++ kc_T cA a_T I_T A_T ++ kc_S cA a_S I_S A_S ++ kc_C cA a_C (va_up (va_up (va_up I_C 0 (u_13 2)) 1 (u_16 2)) 2 (u_19 2)) A_C) ⟨Nat.zero_le _, Nat.zero_le _⟩ rfl rfl (fun _ => rfl) rfl rfl rfl rfl rfl rfl rfl rfl (Nat.le_of_ble_eq_true rfl) (fun r_21 u_22 hw => ?_)
          refine vv_if_ne hC 140 d_R_readHeader_135 (by decide) (fun cd => ?_) (fun cd => ?_)
          · have hw := hw.2 cd
            refine vv_aload_n hC d_R_readHeader_140 1 rfl rfl ?_
            refine vv_aload_n hC d_R_readHeader_141 0 rfl rfl ?_
            refine vv_get hC (v := .ref (a_U 0)) hin_R 0 0 tb_104 d_R_readHeader_142 rfl rfl (by decide) rfl rfl ?_
            refine vv_get hC (v := .int (u_22 2)) hin_U 3 3 tb_86 d_R_readHeader_145 rfl rfl (by decide) rfl rfl ?_
            refine vv_put hC hin_C ty_C tyok_C nmok_C 12 3 tb_163 d_R_readHeader_148 rfl rfl (by decide) rfl rfl rfl rfl rfl (Nat.le_of_ble_eq_true rfl) (ws2 := kc_R cA a_R a_U a_S I_R A_R ++ kc_U cA a_U a_T u_22 ++ kc_T cA a_T I_T A_T ++ kc_S cA a_S I_S A_S ++ kc_C cA a_C (va_up (va_up (va_up (va_up I_C 0 (u_13 2)) 1 (u_16 2)) 2 (u_19 2)) 3 (u_22 2)) A_C) (st_RUTSC_CI3 ..) ?_
            refine vv_aload_n hC d_R_readHeader_151 0 rfl rfl ?_
            refine vv_callVI (wr := kc_C cA a_C (va_up (va_up (va_up (va_up I_C 0 (u_13 2)) 1 (u_16 2)) 2 (u_19 2)) 3 (u_22 2)) A_C) hC (c_R_readCount l D cA sx a_R a_U a_T a_S I_R A_R u_22 I_T A_T I_S A_S _ hw) (cw_R_92 hC) d_R_readHeader_152 [] [0, 1, 2, 3, 4, 5, 6, 7, 8, 9, 10, 11] [12, 13, 14, 15, 16, 17, 18, 19, 20, 21, 22, 23, 24] [13, 14, 15, 16, 17, 18, 19, 20, 21, 22, 23, 24, 0, 1, 2, 3, 4, 5, 6, 7, 8, 9, 10, 11, 12] (fun u_25 : (Nat → Int32) => kc_R cA a_R a_U a_S I_R A_R ++ kc_U cA a_U a_T u_25 ++ kc_T cA a_T I_T A_T ++ kc_S cA a_S I_S A_S ++ kc_C cA a_C (va_up (va_up (va_up (va_up I_C 0 (u_13 2)) 1 (u_16 2)) 2 (u_19 2)) 3 (u_22 2)) A_C) ⟨Nat.zero_le _, Nat.zero_le _⟩ rfl rfl (fun _ => rfl) rfl rfl rfl rfl rfl rfl rfl rfl (Nat.le_of_ble_eq_true rfl) (fun r_24 u_25 hw => ?_)
            refine vv_if_ne hC 160 d_R_readHeader_155 (by decide) (fun cd => ?_) (fun cd => ?_)
            · have hw := hw.2 cd
              refine vv_aload_n hC d_R_readHeader_160 1 rfl rfl ?_
              refine vv_aload_n hC d_R_readHeader_161 0 rfl rfl ?_
              refine vv_get hC (v := .ref (a_U 0)) hin_R 0 0 tb_104 d_R_readHeader_162 rfl rfl (by decide) rfl rfl ?_
              refine vv_get hC (v := .int (u_25 2)) hin_U 3 3 tb_86 d_R_readHeader_165 rfl rfl (by decide) rfl rfl ?_
              refine vv_put hC hin_C ty_C tyok_C nmok_C 12 4 tb_169 d_R_readHeader_168 rfl rfl (by decide) rfl rfl rfl rfl rfl (Nat.le_of_ble_eq_true rfl) (ws2 := kc_R cA a_R a_U a_S I_R A_R ++ kc_U cA a_U a_T u_25 ++ kc_T cA a_T I_T A_T ++ kc_S cA a_S I_S A_S ++ kc_C cA a_C (va_up (va_up (va_up (va_up (va_up I_C 0 (u_13 2)) 1 (u_16 2)) 2 (u_19 2)) 3 (u_22 2)) 4 (u_25 2)) A_C) (st_RUTSC_CI4 ..) ?_
              refine vv_aload_n hC d_R_readHeader_171 0 rfl rfl ?_
              refine vv_get hC (v := .ref (a_U 0)) hin_R 0 0 tb_104 d_R_readHeader_172 rfl rfl (by decide) rfl rfl ?_
              refine vv_bipush hC d_R_readHeader_175 (v := (10 : Int32)) (by decide) ?_
              refine vv_callVI (wr := kc_R cA a_R a_U a_S I_R A_R ++ kc_S cA a_S I_S A_S ++ kc_C cA a_C (va_up (va_up (va_up (va_up (va_up I_C 0 (u_13 2)) 1 (u_16 2)) 2 (u_19 2)) 3 (u_22 2)) 4 (u_25 2)) A_C) hC (c_U_expect l D cA sx a_U a_T u_25 I_T A_T (10 : Int32) _ hw) (cw_R_84 hC) d_R_readHeader_177 [] [3, 4, 5, 6] [0, 1, 2, 7, 8, 9, 10, 11, 12, 13, 14, 15, 16, 17, 18, 19, 20, 21, 22, 23, 24] [0, 1, 2, 21, 22, 23, 24, 3, 4, 5, 6, 7, 8, 9, 10, 11, 12, 13, 14, 15, 16, 17, 18, 19, 20] (fun u_28 : (Nat → Int32) => kc_R cA a_R a_U a_S I_R A_R ++ kc_U cA a_U a_T u_28 ++ kc_T cA a_T I_T A_T ++ kc_S cA a_S I_S A_S ++ kc_C cA a_C (va_up (va_up (va_up (va_up (va_up I_C 0 (u_13 2)) 1 (u_16 2)) 2 (u_19 2)) 3 (u_22 2)) 4 (u_25 2)) A_C) ⟨Nat.zero_le _, Nat.zero_le _⟩ rfl rfl (fun _ => rfl) rfl rfl rfl rfl rfl rfl rfl rfl (Nat.le_of_ble_eq_true rfl) (fun r_27 u_28 hw => ?_)
              refine vv_if_ne hC 185 d_R_readHeader_180 (by decide) (fun cd => ?_) (fun cd => ?_)
              · have hw := hw.2 cd
                refine vv_aload_n hC d_R_readHeader_185 1 rfl rfl ?_
                refine vv_aload_n hC d_R_readHeader_186 0 rfl rfl ?_
                refine vv_get hC (v := .int (I_R 1)) hin_R 0 5 tb_109 d_R_readHeader_187 rfl rfl (by decide) rfl rfl ?_
                refine vv_callVI (wr := kc_R cA a_R a_U a_S I_R A_R ++ kc_U cA a_U a_T u_28 ++ kc_T cA a_T I_T A_T ++ kc_S cA a_S I_S A_S) hC (c_C_isWithinBounds l D cA sx a_C (va_up (va_up (va_up (va_up (va_up I_C 0 (u_13 2)) 1 (u_16 2)) 2 (u_19 2)) 3 (u_22 2)) 4 (u_25 2)) A_C (I_R 1) _ hw) (cw_R_114 hC) d_R_readHeader_190 [] [12, 13, 14, 15, 16, 17, 18, 19, 20, 21, 22, 23, 24] [0, 1, 2, 3, 4, 5, 6, 7, 8, 9, 10, 11] [0, 1, 2, 3, 4, 5, 6, 7, 8, 9, 10, 11, 12, 13, 14, 15, 16, 17, 18, 19, 20, 21, 22, 23, 24] (fun u_31 : Unit => kc_R cA a_R a_U a_S I_R A_R ++ kc_U cA a_U a_T u_28 ++ kc_T cA a_T I_T A_T ++ kc_S cA a_S I_S A_S ++ kc_C cA a_C (va_up (va_up (va_up (va_up (va_up I_C 0 (u_13 2)) 1 (u_16 2)) 2 (u_19 2)) 3 (u_22 2)) 4 (u_25 2)) A_C) ⟨Nat.zero_le _, Nat.zero_le _⟩ rfl rfl (fun _ => rfl) rfl rfl rfl rfl rfl rfl rfl rfl (Nat.le_of_ble_eq_true rfl) (fun r_30 u_31 hw => ?_)
                refine vv_if_ne hC 214 d_R_readHeader_193 (by decide) (fun cd => ?_) (fun cd => ?_)
                · have hw := hw.2 cd
                  refine vv_iconst hC d_R_readHeader_214 (v := (1 : Int32)) (by decide) ?_
                  refine vv_goto hC 219 d_R_readHeader_215 (by decide) ?_
                  exact vv_zret hC d_R_readHeader_219 rfl (I_R, u_28, (va_up (va_up (va_up (va_up (va_up I_C 0 (u_13 2)) 1 (u_16 2)) 2 (u_19 2)) 3 (u_22 2)) 4 (u_25 2))) hw rfl
                · have hw := hw.1 cd
                  refine vv_aload_n hC d_R_readHeader_196 0 rfl rfl ?_
                  refine vv_get hC (v := .ref (a_U 0)) hin_R 0 0 tb_104 d_R_readHeader_197 rfl rfl (by decide) rfl rfl ?_
                  refine vv_iconst hC d_R_readHeader_200 (v := (2 : Int32)) (by decide) ?_
                  refine vv_aload_n hC d_R_readHeader_201 0 rfl rfl ?_
                  refine vv_get hC (v := .ref (a_U 0)) hin_R 0 0 tb_104 d_R_readHeader_202 rfl rfl (by decide) rfl rfl ?_
                  refine vv_get hC (v := .int (u_28 0)) hin_U 3 1 tb_82 d_R_readHeader_205 rfl rfl (by decide) rfl rfl ?_
                  refine vv_callVI (wr := kc_R cA a_R a_U a_S I_R A_R ++ kc_S cA a_S I_S A_S ++ kc_C cA a_C (va_up (va_up (va_up (va_up (va_up I_C 0 (u_13 2)) 1 (u_16 2)) 2 (u_19 2)) 3 (u_22 2)) 4 (u_25 2)) A_C) hC (c_U_fail l D cA sx a_U a_T u_28 I_T A_T (2 : Int32) (u_28 0) _ hw) (cw_R_121 hC) d_R_readHeader_208 [] [3, 4, 5, 6] [0, 1, 2, 7, 8, 9, 10, 11, 12, 13, 14, 15, 16, 17, 18, 19, 20, 21, 22, 23, 24] [0, 1, 2, 21, 22, 23, 24, 3, 4, 5, 6, 7, 8, 9, 10, 11, 12, 13, 14, 15, 16, 17, 18, 19, 20] (fun u_33 : (Nat → Int32) => kc_R cA a_R a_U a_S I_R A_R ++ kc_U cA a_U a_T u_33 ++ kc_T cA a_T I_T A_T ++ kc_S cA a_S I_S A_S ++ kc_C cA a_C (va_up (va_up (va_up (va_up (va_up I_C 0 (u_13 2)) 1 (u_16 2)) 2 (u_19 2)) 3 (u_22 2)) 4 (u_25 2)) A_C) ⟨Nat.zero_le _, Nat.zero_le _⟩ rfl rfl (fun _ => rfl) rfl rfl rfl rfl rfl rfl rfl rfl (Nat.le_of_ble_eq_true rfl) (fun r_32 u_33 hw => ?_)
                  refine vv_if_eq hC 218 d_R_readHeader_211 (by decide) (fun cd => ?_) (fun cd => ?_)
                  · have hw := hw.1 cd
                    refine vv_iconst hC d_R_readHeader_218 (v := (0 : Int32)) (by decide) ?_
                    exact vv_zret hC d_R_readHeader_219 rfl (I_R, u_33, (va_up (va_up (va_up (va_up (va_up I_C 0 (u_13 2)) 1 (u_16 2)) 2 (u_19 2)) 3 (u_22 2)) 4 (u_25 2))) hw rfl
                  · have hw := hw.2 cd
                    refine vv_iconst hC d_R_readHeader_214 (v := (1 : Int32)) (by decide) ?_
                    refine vv_goto hC 219 d_R_readHeader_215 (by decide) ?_
                    exact vv_zret hC d_R_readHeader_219 rfl (I_R, u_33, (va_up (va_up (va_up (va_up (va_up I_C 0 (u_13 2)) 1 (u_16 2)) 2 (u_19 2)) 3 (u_22 2)) 4 (u_25 2))) hw rfl
              · have hw := hw.1 cd
                refine vv_iconst hC d_R_readHeader_183 (v := (0 : Int32)) (by decide) ?_
                exact vv_zret hC d_R_readHeader_184 rfl (I_R, u_28, (va_up (va_up (va_up (va_up (va_up I_C 0 (u_13 2)) 1 (u_16 2)) 2 (u_19 2)) 3 (u_22 2)) 4 (u_25 2))) hw rfl
            · have hw := hw.1 cd
              refine vv_iconst hC d_R_readHeader_158 (v := (0 : Int32)) (by decide) ?_
              exact vv_zret hC d_R_readHeader_159 rfl (I_R, u_25, (va_up (va_up (va_up (va_up I_C 0 (u_13 2)) 1 (u_16 2)) 2 (u_19 2)) 3 (u_22 2))) hw rfl
          · have hw := hw.1 cd
            refine vv_iconst hC d_R_readHeader_138 (v := (0 : Int32)) (by decide) ?_
            exact vv_zret hC d_R_readHeader_139 rfl (I_R, u_22, (va_up (va_up (va_up I_C 0 (u_13 2)) 1 (u_16 2)) 2 (u_19 2))) hw rfl
        · have hw := hw.1 cd
          refine vv_iconst hC d_R_readHeader_118 (v := (0 : Int32)) (by decide) ?_
          exact vv_zret hC d_R_readHeader_119 rfl (I_R, u_19, (va_up (va_up I_C 0 (u_13 2)) 1 (u_16 2))) hw rfl
      · have hw := hw.1 cd
        refine vv_iconst hC d_R_readHeader_98 (v := (0 : Int32)) (by decide) ?_
        exact vv_zret hC d_R_readHeader_99 rfl (I_R, u_16, (va_up I_C 0 (u_13 2))) hw rfl
    · have hw := hw.1 cd
      refine vv_iconst hC d_R_readHeader_78 (v := (0 : Int32)) (by decide) ?_
      exact vv_zret hC d_R_readHeader_79 rfl (I_R, u_13, I_C) hw rfl
set_option maxHeartbeats 4000000 in
set_option maxRecDepth 100000 in
theorem l_R_readHeader_b35 {p : Program} {l : Launch} {e : Env} {s : State} {m : MethodId} {args : Array Value} {below : List Frame} {meth : Method} {c : Code} {D : va_G} {cA : Nat → ClassId} {sx : Nat → Nat} {A : Nat → Prop} (a_R a_U a_T a_S a_C : Nat → Nat) (A_R : (Nat → Nat → Int32)) (I_T : (Nat → Int32)) (A_T : (Nat → Nat → Int32)) (I_S : (Nat → Int32)) (A_S : (Nat → Nat → Int32)) (A_C : (Nat → Nat → Int32)) (Q : Int32 → (Nat → Int32) → (Nat → Int32) → (Nat → Int32) → Prop) (hC : CX p s m args meth c b_R_readHeader R_R TB 2 D vwCl (tyl cA) A (SPl sx) (some .boolean)) : ∀ (I_R : (Nat → Int32)) (I_U : (Nat → Int32)) (I_C : (Nat → Int32)), wp_R_readHeader_b35 I_T A_T Q I_R I_U I_C → VV p l e ({ frames := 3, cells := 0, slots := 0, locals := 65 } : Room) s m args below meth c 2 D vwCl A 0 0 (QI below args s D vwCl (tyl cA) A (fun (r : Int32) (u : (Nat → Int32) × (Nat → Int32) × (Nat → Int32)) => Q r u.1 u.2.1 u.2.2) (fun u : (Nat → Int32) × (Nat → Int32) × (Nat → Int32) => kc_R cA a_R a_U a_S u.1 A_R ++ kc_U cA a_U a_T u.2.1 ++ kc_T cA a_T I_T A_T ++ kc_S cA a_S I_S A_S ++ kc_C cA a_C u.2.2 A_C)) (kc_R cA a_R a_U a_S I_R A_R ++ kc_U cA a_U a_T I_U ++ kc_T cA a_T I_T A_T ++ kc_S cA a_S I_S A_S ++ kc_C cA a_C I_C A_C) 35 [(0, .ref (a_R 0)), (1, .ref (a_C 0))] [] := by
  intro I_R I_U I_C hw
  unfold wp_R_readHeader_b35 at hw
  refine vv_aload_n hC d_R_readHeader_35 0 rfl rfl ?_
  refine vv_get hC (v := .ref (a_U 0)) hin_R 0 0 tb_104 d_R_readHeader_36 rfl rfl (by decide) rfl rfl ?_
  refine vv_aload_n hC d_R_readHeader_39 0 rfl rfl ?_
  refine vv_get hC (v := .int (I_R 1)) hin_R 0 5 tb_109 d_R_readHeader_40 rfl rfl (by decide) rfl rfl ?_
  refine vv_if_eq hC 51 d_R_readHeader_43 (by decide) (fun cd => ?_) (fun cd => ?_)
  · have hw := hw.1 cd
    refine vv_bipush hC d_R_readHeader_51 (v := (97 : Int32)) (by decide) ?_
    refine vv_callVI (wr := kc_R cA a_R a_U a_S I_R A_R ++ kc_S cA a_S I_S A_S ++ kc_C cA a_C I_C A_C) hC (c_U_expect l D cA sx a_U a_T I_U I_T A_T (97 : Int32) _ hw) (cw_R_84 hC) d_R_readHeader_53 [] [3, 4, 5, 6] [0, 1, 2, 7, 8, 9, 10, 11, 12, 13, 14, 15, 16, 17, 18, 19, 20, 21, 22, 23, 24] [0, 1, 2, 21, 22, 23, 24, 3, 4, 5, 6, 7, 8, 9, 10, 11, 12, 13, 14, 15, 16, 17, 18, 19, 20] (fun u_7 : (Nat → Int32) => kc_R cA a_R a_U a_S I_R A_R ++ kc_U cA a_U a_T u_7 ++ kc_T cA a_T I_T A_T ++ kc_S cA a_S I_S A_S ++ kc_C cA a_C I_C A_C) ⟨Nat.zero_le _, Nat.zero_le _⟩ rfl rfl (fun _ => rfl) rfl rfl rfl rfl rfl rfl rfl rfl (Nat.le_of_ble_eq_true rfl) (fun r_6 u_7 hw => ?_)
    refine vv_if_eq hC 78 d_R_readHeader_56 (by decide) (fun cd => ?_) (fun cd => ?_)
    · have hw := hw.1 cd
      refine vv_iconst hC d_R_readHeader_78 (v := (0 : Int32)) (by decide) ?_
      exact vv_zret hC d_R_readHeader_79 rfl (I_R, u_7, I_C) hw rfl
    · have hw := hw.2 cd
      exact vv_sub [0, 1] (by rfl) (l_R_readHeader_b59 a_R a_U a_T a_S a_C A_R I_T A_T I_S A_S A_C Q hC I_R u_7 I_C hw)
  · have hw := hw.2 cd
    refine vv_bipush hC d_R_readHeader_46 (v := (105 : Int32)) (by decide) ?_
    refine vv_goto hC 53 d_R_readHeader_48 (by decide) ?_
    refine vv_callVI (wr := kc_R cA a_R a_U a_S I_R A_R ++ kc_S cA a_S I_S A_S ++ kc_C cA a_C I_C A_C) hC (c_U_expect l D cA sx a_U a_T I_U I_T A_T (105 : Int32) _ hw) (cw_R_84 hC) d_R_readHeader_53 [] [3, 4, 5, 6] [0, 1, 2, 7, 8, 9, 10, 11, 12, 13, 14, 15, 16, 17, 18, 19, 20, 21, 22, 23, 24] [0, 1, 2, 21, 22, 23, 24, 3, 4, 5, 6, 7, 8, 9, 10, 11, 12, 13, 14, 15, 16, 17, 18, 19, 20] (fun u_36 : (Nat → Int32) => kc_R cA a_R a_U a_S I_R A_R ++ kc_U cA a_U a_T u_36 ++ kc_T cA a_T I_T A_T ++ kc_S cA a_S I_S A_S ++ kc_C cA a_C I_C A_C) ⟨Nat.zero_le _, Nat.zero_le _⟩ rfl rfl (fun _ => rfl) rfl rfl rfl rfl rfl rfl rfl rfl (Nat.le_of_ble_eq_true rfl) (fun r_35 u_36 hw => ?_)
    refine vv_if_eq hC 78 d_R_readHeader_56 (by decide) (fun cd => ?_) (fun cd => ?_)
    · have hw := hw.1 cd
      refine vv_iconst hC d_R_readHeader_78 (v := (0 : Int32)) (by decide) ?_
      exact vv_zret hC d_R_readHeader_79 rfl (I_R, u_36, I_C) hw rfl
    · have hw := hw.2 cd
      exact vv_sub [0, 1] (by rfl) (l_R_readHeader_b59 a_R a_U a_T a_S a_C A_R I_T A_T I_S A_S A_C Q hC I_R u_36 I_C hw)
set_option maxHeartbeats 4000000 in
set_option maxRecDepth 100000 in
theorem c_R_readHeader (l : Launch) (D : va_G) (cA : Nat → ClassId) (sx : Nat → Nat) (a_R a_U a_T a_S a_C : Nat → Nat) (I_R : (Nat → Int32)) (A_R : (Nat → Nat → Int32)) (I_U : (Nat → Int32)) (I_T : (Nat → Int32)) (A_T : (Nat → Nat → Int32)) (I_S : (Nat → Int32)) (A_S : (Nat → Nat → Int32)) (I_C : (Nat → Int32)) (A_C : (Nat → Nat → Int32)) (Q : Int32 → (Nat → Int32) → (Nat → Int32) → (Nat → Int32) → Prop) (hw : wp_R_readHeader I_R I_U I_T A_T I_C Q) : MetI l y_R_readHeader (Cond.code y_R_readHeader b_R_readHeader 2 (some .boolean) :: TB) ({ frames := 3, cells := 0, slots := 0, locals := 65 } : Room) D vwCl (tyl cA) (SPl sx) [.ref (a_R 0), .ref (a_C 0)] (kc_R cA a_R a_U a_S I_R A_R ++ kc_U cA a_U a_T I_U ++ kc_T cA a_T I_T A_T ++ kc_S cA a_S I_S A_S ++ kc_C cA a_C I_C A_C) (fun (r : Int32) (u : (Nat → Int32) × (Nat → Int32) × (Nat → Int32)) => Q r u.1 u.2.1 u.2.2) (fun u : (Nat → Int32) × (Nat → Int32) × (Nat → Int32) => kc_R cA a_R a_U a_S u.1 A_R ++ kc_U cA a_U a_T u.2.1 ++ kc_T cA a_T I_T A_T ++ kc_S cA a_S I_S A_S ++ kc_C cA a_C u.2.2 A_C) := by
  refine vv_entryI (cc := b_R_readHeader) (own := R_R) (L := [(0, .ref (a_R 0)), (1, .ref (a_C 0))]) (by decide) rfl rfl (Nat.le_of_ble_eq_true rfl) rfl (fun p e s m args below meth c A hC => ?_)
  unfold wp_R_readHeader at hw
  refine vv_aload_n hC d_R_readHeader_0 0 rfl rfl ?_
  refine vv_get hC (v := .ref (a_U 0)) hin_R 0 0 tb_104 d_R_readHeader_1 rfl rfl (by decide) rfl rfl ?_
  refine vv_bipush hC d_R_readHeader_4 (v := (97 : Int32)) (by decide) ?_
  refine vv_callVI (wr := kc_R cA a_R a_U a_S I_R A_R ++ kc_S cA a_S I_S A_S ++ kc_C cA a_C I_C A_C) hC (c_U_expect l D cA sx a_U a_T I_U I_T A_T (97 : Int32) _ hw) (cw_R_84 hC) d_R_readHeader_6 [] [3, 4, 5, 6] [0, 1, 2, 7, 8, 9, 10, 11, 12, 13, 14, 15, 16, 17, 18, 19, 20, 21, 22, 23, 24] [0, 1, 2, 21, 22, 23, 24, 3, 4, 5, 6, 7, 8, 9, 10, 11, 12, 13, 14, 15, 16, 17, 18, 19, 20] (fun u_2 : (Nat → Int32) => kc_R cA a_R a_U a_S I_R A_R ++ kc_U cA a_U a_T u_2 ++ kc_T cA a_T I_T A_T ++ kc_S cA a_S I_S A_S ++ kc_C cA a_C I_C A_C) ⟨Nat.zero_le _, Nat.zero_le _⟩ rfl rfl (fun _ => rfl) rfl rfl rfl rfl rfl rfl rfl rfl (Nat.le_of_ble_eq_true rfl) (fun r_1 u_2 hw => ?_)
  refine vv_if_ne hC 14 d_R_readHeader_9 (by decide) (fun cd => ?_) (fun cd => ?_)
  · have hw := hw.2 cd
    refine vv_aload_n hC d_R_readHeader_14 0 rfl rfl ?_
    refine vv_aload_n hC d_R_readHeader_15 0 rfl rfl ?_
    refine vv_get hC (v := .ref (a_U 0)) hin_R 0 0 tb_104 d_R_readHeader_16 rfl rfl (by decide) rfl rfl ?_
    refine vv_callVI (wr := kc_R cA a_R a_U a_S I_R A_R ++ kc_S cA a_S I_S A_S ++ kc_C cA a_C I_C A_C) hC (c_U_peek l D cA sx a_U a_T u_2 I_T A_T _ hw) (cw_R_88 hC) d_R_readHeader_19 [.ref (a_R 0)] [3, 4, 5, 6] [0, 1, 2, 7, 8, 9, 10, 11, 12, 13, 14, 15, 16, 17, 18, 19, 20, 21, 22, 23, 24] [0, 1, 2, 21, 22, 23, 24, 3, 4, 5, 6, 7, 8, 9, 10, 11, 12, 13, 14, 15, 16, 17, 18, 19, 20] (fun u_5 : Unit => kc_R cA a_R a_U a_S I_R A_R ++ kc_U cA a_U a_T u_2 ++ kc_T cA a_T I_T A_T ++ kc_S cA a_S I_S A_S ++ kc_C cA a_C I_C A_C) ⟨Nat.zero_le _, Nat.zero_le _⟩ rfl rfl (fun _ => rfl) rfl rfl rfl rfl rfl rfl rfl rfl (Nat.le_of_ble_eq_true rfl) (fun r_4 u_5 hw => ?_)
    refine vv_bipush hC d_R_readHeader_22 (v := (105 : Int32)) (by decide) ?_
    refine vv_icmp_ne hC 31 d_R_readHeader_24 (by decide) (fun cd => ?_) (fun cd => ?_)
    · have hw := hw.2 cd
      refine vv_iconst hC d_R_readHeader_31 (v := (0 : Int32)) (by decide) ?_
      refine vv_put hC hin_R ty_R tyok_R nmok_R 0 5 tb_109 d_R_readHeader_32 rfl rfl (by decide) rfl rfl rfl rfl rfl (Nat.le_of_ble_eq_true rfl) (ws2 := kc_R cA a_R a_U a_S (va_up I_R 1 (0 : Int32)) A_R ++ kc_U cA a_U a_T u_2 ++ kc_T cA a_T I_T A_T ++ kc_S cA a_S I_S A_S ++ kc_C cA a_C I_C A_C) (st_RUTSC_RI1 ..) ?_
      exact vv_sub [0, 1] (by rfl) (l_R_readHeader_b35 a_R a_U a_T a_S a_C A_R I_T A_T I_S A_S A_C Q hC (va_up I_R 1 (0 : Int32)) u_2 I_C hw)
    · have hw := hw.1 cd
      refine vv_iconst hC d_R_readHeader_27 (v := (1 : Int32)) (by decide) ?_
      refine vv_goto hC 32 d_R_readHeader_28 (by decide) ?_
      refine vv_put hC hin_R ty_R tyok_R nmok_R 0 5 tb_109 d_R_readHeader_32 rfl rfl (by decide) rfl rfl rfl rfl rfl (Nat.le_of_ble_eq_true rfl) (ws2 := kc_R cA a_R a_U a_S (va_up I_R 1 (1 : Int32)) A_R ++ kc_U cA a_U a_T u_2 ++ kc_T cA a_T I_T A_T ++ kc_S cA a_S I_S A_S ++ kc_C cA a_C I_C A_C) (st_RUTSC_RI1 ..) ?_
      exact vv_sub [0, 1] (by rfl) (l_R_readHeader_b35 a_R a_U a_T a_S a_C A_R I_T A_T I_S A_S A_C Q hC (va_up I_R 1 (1 : Int32)) u_2 I_C hw)
  · have hw := hw.1 cd
    refine vv_iconst hC d_R_readHeader_12 (v := (0 : Int32)) (by decide) ?_
    exact vv_zret hC d_R_readHeader_13 rfl (I_R, u_2, I_C) hw rfl
set_option maxHeartbeats 4000000 in
set_option maxRecDepth 100000 in
theorem c_R_readLiteral (l : Launch) (D : va_G) (cA : Nat → ClassId) (sx : Nat → Nat) (a_R a_U a_T a_S a_C : Nat → Nat) (I_R : (Nat → Int32)) (A_R : (Nat → Nat → Int32)) (I_U : (Nat → Int32)) (I_T : (Nat → Int32)) (A_T : (Nat → Nat → Int32)) (I_S : (Nat → Int32)) (A_S : (Nat → Nat → Int32)) (I_C : (Nat → Int32)) (A_C : (Nat → Nat → Int32)) (Q : Int32 → (Nat → Int32) → Prop) (hw : wp_R_readLiteral I_U I_T A_T I_C Q) : MetI l y_R_readLiteral (Cond.code y_R_readLiteral b_R_readLiteral 2 (some .boolean) :: TB) ({ frames := 2, cells := 0, slots := 0, locals := 45 } : Room) D vwCl (tyl cA) (SPl sx) [.ref (a_R 0), .ref (a_C 0)] (kc_R cA a_R a_U a_S I_R A_R ++ kc_U cA a_U a_T I_U ++ kc_T cA a_T I_T A_T ++ kc_S cA a_S I_S A_S ++ kc_C cA a_C I_C A_C) (fun (r : Int32) (u : (Nat → Int32)) => Q r u) (fun u : (Nat → Int32) => kc_R cA a_R a_U a_S I_R A_R ++ kc_U cA a_U a_T u ++ kc_T cA a_T I_T A_T ++ kc_S cA a_S I_S A_S ++ kc_C cA a_C I_C A_C) := by
  refine vv_entryI (cc := b_R_readLiteral) (own := R_R) (L := [(0, .ref (a_R 0)), (1, .ref (a_C 0))]) (by decide) rfl rfl (Nat.le_of_ble_eq_true rfl) rfl (fun p e s m args below meth c A hC => ?_)
  unfold wp_R_readLiteral at hw
  refine vv_aload_n hC d_R_readLiteral_0 0 rfl rfl ?_
  refine vv_get hC (v := .ref (a_U 0)) hin_R 0 0 tb_104 d_R_readLiteral_1 rfl rfl (by decide) rfl rfl ?_
  refine vv_callVI (wr := kc_R cA a_R a_U a_S I_R A_R ++ kc_S cA a_S I_S A_S ++ kc_C cA a_C I_C A_C) hC (c_U_readNumber l D cA sx a_U a_T I_U I_T A_T _ hw) (cw_R_125 hC) d_R_readLiteral_4 [] [3, 4, 5, 6] [0, 1, 2, 7, 8, 9, 10, 11, 12, 13, 14, 15, 16, 17, 18, 19, 20, 21, 22, 23, 24] [0, 1, 2, 21, 22, 23, 24, 3, 4, 5, 6, 7, 8, 9, 10, 11, 12, 13, 14, 15, 16, 17, 18, 19, 20] (fun u_2 : (Nat → Int32) => kc_R cA a_R a_U a_S I_R A_R ++ kc_U cA a_U a_T u_2 ++ kc_T cA a_T I_T A_T ++ kc_S cA a_S I_S A_S ++ kc_C cA a_C I_C A_C) ⟨Nat.zero_le _, Nat.zero_le _⟩ rfl rfl (fun _ => rfl) rfl rfl rfl rfl rfl rfl rfl rfl (Nat.le_of_ble_eq_true rfl) (fun r_1 u_2 hw => ?_)
  refine vv_if_ne hC 12 d_R_readLiteral_7 (by decide) (fun cd => ?_) (fun cd => ?_)
  · have hw := hw.2 cd
    refine vv_aload_n hC d_R_readLiteral_12 0 rfl rfl ?_
    refine vv_get hC (v := .ref (a_U 0)) hin_R 0 0 tb_104 d_R_readLiteral_13 rfl rfl (by decide) rfl rfl ?_
    refine vv_get hC (v := .int (u_2 2)) hin_U 3 3 tb_86 d_R_readLiteral_16 rfl rfl (by decide) rfl rfl ?_
    refine vv_aload_n hC d_R_readLiteral_19 1 rfl rfl ?_
    refine vv_callVI (wr := kc_R cA a_R a_U a_S I_R A_R ++ kc_U cA a_U a_T u_2 ++ kc_T cA a_T I_T A_T ++ kc_S cA a_S I_S A_S) hC (c_C_highestLiteral l D cA sx a_C I_C A_C _ hw) (cw_R_168 hC) d_R_readLiteral_20 [.int (u_2 2)] [12, 13, 14, 15, 16, 17, 18, 19, 20, 21, 22, 23, 24] [0, 1, 2, 3, 4, 5, 6, 7, 8, 9, 10, 11] [0, 1, 2, 3, 4, 5, 6, 7, 8, 9, 10, 11, 12, 13, 14, 15, 16, 17, 18, 19, 20, 21, 22, 23, 24] (fun u_5 : Unit => kc_R cA a_R a_U a_S I_R A_R ++ kc_U cA a_U a_T u_2 ++ kc_T cA a_T I_T A_T ++ kc_S cA a_S I_S A_S ++ kc_C cA a_C I_C A_C) ⟨Nat.zero_le _, Nat.zero_le _⟩ rfl rfl (fun _ => rfl) rfl rfl rfl rfl rfl rfl rfl rfl (Nat.le_of_ble_eq_true rfl) (fun r_4 u_5 hw => ?_)
    refine vv_icmp_le hC 44 d_R_readLiteral_23 (by decide) (fun cd => ?_) (fun cd => ?_)
    · have hw := hw.1 cd
      refine vv_iconst hC d_R_readLiteral_44 (v := (1 : Int32)) (by decide) ?_
      refine vv_goto hC 49 d_R_readLiteral_45 (by decide) ?_
      exact vv_zret hC d_R_readLiteral_49 rfl u_2 hw rfl
    · have hw := hw.2 cd
      refine vv_aload_n hC d_R_readLiteral_26 0 rfl rfl ?_
      refine vv_get hC (v := .ref (a_U 0)) hin_R 0 0 tb_104 d_R_readLiteral_27 rfl rfl (by decide) rfl rfl ?_
      refine vv_iconst hC d_R_readLiteral_30 (v := (3 : Int32)) (by decide) ?_
      refine vv_aload_n hC d_R_readLiteral_31 0 rfl rfl ?_
      refine vv_get hC (v := .ref (a_U 0)) hin_R 0 0 tb_104 d_R_readLiteral_32 rfl rfl (by decide) rfl rfl ?_
      refine vv_get hC (v := .int (u_2 1)) hin_U 3 2 tb_84 d_R_readLiteral_35 rfl rfl (by decide) rfl rfl ?_
      refine vv_callVI (wr := kc_R cA a_R a_U a_S I_R A_R ++ kc_S cA a_S I_S A_S ++ kc_C cA a_C I_C A_C) hC (c_U_fail l D cA sx a_U a_T u_2 I_T A_T (3 : Int32) (u_2 1) _ hw) (cw_R_121 hC) d_R_readLiteral_38 [] [3, 4, 5, 6] [0, 1, 2, 7, 8, 9, 10, 11, 12, 13, 14, 15, 16, 17, 18, 19, 20, 21, 22, 23, 24] [0, 1, 2, 21, 22, 23, 24, 3, 4, 5, 6, 7, 8, 9, 10, 11, 12, 13, 14, 15, 16, 17, 18, 19, 20] (fun u_7 : (Nat → Int32) => kc_R cA a_R a_U a_S I_R A_R ++ kc_U cA a_U a_T u_7 ++ kc_T cA a_T I_T A_T ++ kc_S cA a_S I_S A_S ++ kc_C cA a_C I_C A_C) ⟨Nat.zero_le _, Nat.zero_le _⟩ rfl rfl (fun _ => rfl) rfl rfl rfl rfl rfl rfl rfl rfl (Nat.le_of_ble_eq_true rfl) (fun r_6 u_7 hw => ?_)
      refine vv_if_eq hC 48 d_R_readLiteral_41 (by decide) (fun cd => ?_) (fun cd => ?_)
      · have hw := hw.1 cd
        refine vv_iconst hC d_R_readLiteral_48 (v := (0 : Int32)) (by decide) ?_
        exact vv_zret hC d_R_readLiteral_49 rfl u_7 hw rfl
      · have hw := hw.2 cd
        refine vv_iconst hC d_R_readLiteral_44 (v := (1 : Int32)) (by decide) ?_
        refine vv_goto hC 49 d_R_readLiteral_45 (by decide) ?_
        exact vv_zret hC d_R_readLiteral_49 rfl u_7 hw rfl
  · have hw := hw.1 cd
    refine vv_iconst hC d_R_readLiteral_10 (v := (0 : Int32)) (by decide) ?_
    exact vv_zret hC d_R_readLiteral_11 rfl u_2 hw rfl
set_option maxHeartbeats 4000000 in
set_option maxRecDepth 100000 in
theorem l_R_readDefinition_b46 {p : Program} {l : Launch} {e : Env} {s : State} {m : MethodId} {args : Array Value} {below : List Frame} {meth : Method} {c : Code} {D : va_G} {cA : Nat → ClassId} {sx : Nat → Nat} {A : Nat → Prop} (a_R a_U a_T a_S a_C : Nat → Nat) (I_R : (Nat → Int32)) (A_R : (Nat → Nat → Int32)) (I_T : (Nat → Int32)) (A_T : (Nat → Nat → Int32)) (I_S : (Nat → Int32)) (A_S : (Nat → Nat → Int32)) (I_C : (Nat → Int32)) (A_C : (Nat → Nat → Int32)) (Q : Int32 → (Nat → Int32) → Prop) (hC : CX p s m args meth c b_R_readDefinition R_R TB 4 D vwCl (tyl cA) A (SPl sx) (some .boolean)) : ∀ (I_U : (Nat → Int32)) (v3 : Int32), wp_R_readDefinition_b46 I_T A_T I_C A_C Q I_U v3 → VV p l e ({ frames := 3, cells := 0, slots := 0, locals := 66 } : Room) s m args below meth c 4 D vwCl A 0 0 (QI below args s D vwCl (tyl cA) A (fun (r : Int32) (u : (Nat → Int32)) => Q r u) (fun u : (Nat → Int32) => kc_R cA a_R a_U a_S I_R A_R ++ kc_U cA a_U a_T u ++ kc_T cA a_T I_T A_T ++ kc_S cA a_S I_S A_S ++ kc_C cA a_C I_C A_C)) (kc_R cA a_R a_U a_S I_R A_R ++ kc_U cA a_U a_T I_U ++ kc_T cA a_T I_T A_T ++ kc_S cA a_S I_S A_S ++ kc_C cA a_C I_C A_C) 46 [(0, .ref (a_R 0)), (3, .int v3)] [] := by
  intro I_U v3 hw
  unfold wp_R_readDefinition_b46 at hw
  refine vv_iload_n hC d_R_readDefinition_46 1 rfl rfl ?_
  refine vv_if_ne hC 68 d_R_readDefinition_47 (by decide) (fun cd => ?_) (fun cd => ?_)
  · have hw := hw.2 cd
    refine vv_iconst hC d_R_readDefinition_68 (v := (1 : Int32)) (by decide) ?_
    refine vv_goto hC 73 d_R_readDefinition_69 (by decide) ?_
    exact vv_zret hC d_R_readDefinition_73 rfl I_U hw rfl
  · have hw := hw.1 cd
    refine vv_aload_n hC d_R_readDefinition_50 0 rfl rfl ?_
    refine vv_get hC (v := .ref (a_U 0)) hin_R 0 0 tb_104 d_R_readDefinition_51 rfl rfl (by decide) rfl rfl ?_
    refine vv_iconst hC d_R_readDefinition_54 (v := (4 : Int32)) (by decide) ?_
    refine vv_aload_n hC d_R_readDefinition_55 0 rfl rfl ?_
    refine vv_get hC (v := .ref (a_U 0)) hin_R 0 0 tb_104 d_R_readDefinition_56 rfl rfl (by decide) rfl rfl ?_
    refine vv_get hC (v := .int (I_U 1)) hin_U 3 2 tb_84 d_R_readDefinition_59 rfl rfl (by decide) rfl rfl ?_
    refine vv_callVI (wr := kc_R cA a_R a_U a_S I_R A_R ++ kc_S cA a_S I_S A_S ++ kc_C cA a_C I_C A_C) hC (c_U_fail l D cA sx a_U a_T I_U I_T A_T (4 : Int32) (I_U 1) _ hw) (cw_R_121 hC) d_R_readDefinition_62 [] [3, 4, 5, 6] [0, 1, 2, 7, 8, 9, 10, 11, 12, 13, 14, 15, 16, 17, 18, 19, 20, 21, 22, 23, 24] [0, 1, 2, 21, 22, 23, 24, 3, 4, 5, 6, 7, 8, 9, 10, 11, 12, 13, 14, 15, 16, 17, 18, 19, 20] (fun u_5 : (Nat → Int32) => kc_R cA a_R a_U a_S I_R A_R ++ kc_U cA a_U a_T u_5 ++ kc_T cA a_T I_T A_T ++ kc_S cA a_S I_S A_S ++ kc_C cA a_C I_C A_C) ⟨Nat.zero_le _, Nat.zero_le _⟩ rfl rfl (fun _ => rfl) rfl rfl rfl rfl rfl rfl rfl rfl (Nat.le_of_ble_eq_true rfl) (fun r_4 u_5 hw => ?_)
    refine vv_if_eq hC 72 d_R_readDefinition_65 (by decide) (fun cd => ?_) (fun cd => ?_)
    · have hw := hw.1 cd
      refine vv_iconst hC d_R_readDefinition_72 (v := (0 : Int32)) (by decide) ?_
      exact vv_zret hC d_R_readDefinition_73 rfl u_5 hw rfl
    · have hw := hw.2 cd
      refine vv_iconst hC d_R_readDefinition_68 (v := (1 : Int32)) (by decide) ?_
      refine vv_goto hC 73 d_R_readDefinition_69 (by decide) ?_
      exact vv_zret hC d_R_readDefinition_73 rfl u_5 hw rfl
set_option maxHeartbeats 4000000 in
set_option maxRecDepth 100000 in
theorem l_R_readDefinition_b44 {p : Program} {l : Launch} {e : Env} {s : State} {m : MethodId} {args : Array Value} {below : List Frame} {meth : Method} {c : Code} {D : va_G} {cA : Nat → ClassId} {sx : Nat → Nat} {A : Nat → Prop} (a_R a_U a_T a_S a_C : Nat → Nat) (I_R : (Nat → Int32)) (A_R : (Nat → Nat → Int32)) (I_T : (Nat → Int32)) (A_T : (Nat → Nat → Int32)) (I_S : (Nat → Int32)) (A_S : (Nat → Nat → Int32)) (I_C : (Nat → Int32)) (A_C : (Nat → Nat → Int32)) (Q : Int32 → (Nat → Int32) → Prop) (hC : CX p s m args meth c b_R_readDefinition R_R TB 4 D vwCl (tyl cA) A (SPl sx) (some .boolean)) : ∀ (I_U : (Nat → Int32)), wp_R_readDefinition_b44 I_T A_T I_C A_C Q I_U → VV p l e ({ frames := 3, cells := 0, slots := 0, locals := 66 } : Room) s m args below meth c 4 D vwCl A 0 0 (QI below args s D vwCl (tyl cA) A (fun (r : Int32) (u : (Nat → Int32)) => Q r u) (fun u : (Nat → Int32) => kc_R cA a_R a_U a_S I_R A_R ++ kc_U cA a_U a_T u ++ kc_T cA a_T I_T A_T ++ kc_S cA a_S I_S A_S ++ kc_C cA a_C I_C A_C)) (kc_R cA a_R a_U a_S I_R A_R ++ kc_U cA a_U a_T I_U ++ kc_T cA a_T I_T A_T ++ kc_S cA a_S I_S A_S ++ kc_C cA a_C I_C A_C) 44 [(0, .ref (a_R 0))] [] := by
  intro I_U hw
  unfold wp_R_readDefinition_b44 at hw
  refine vv_iconst hC d_R_readDefinition_44 (v := (0 : Int32)) (by decide) ?_
  refine vv_istore_n hC d_R_readDefinition_45 rfl (by decide) [1, 0] (L2 := [(0, .ref (a_R 0)), (3, .int (0 : Int32))]) rfl ?_
  exact vv_sub [0, 1] (by rfl) (l_R_readDefinition_b46 a_R a_U a_T a_S a_C I_R A_R I_T A_T I_S A_S I_C A_C Q hC I_U (0 : Int32) hw)
set_option maxHeartbeats 4000000 in
set_option maxRecDepth 100000 in
theorem c_R_readDefinition (l : Launch) (D : va_G) (cA : Nat → ClassId) (sx : Nat → Nat) (a_R a_U a_T a_S a_C : Nat → Nat) (I_R : (Nat → Int32)) (A_R : (Nat → Nat → Int32)) (I_U : (Nat → Int32)) (I_T : (Nat → Int32)) (A_T : (Nat → Nat → Int32)) (I_S : (Nat → Int32)) (A_S : (Nat → Nat → Int32)) (I_C : (Nat → Int32)) (A_C : (Nat → Nat → Int32)) (Q : Int32 → (Nat → Int32) → Prop) (hw : wp_R_readDefinition I_U I_T A_T I_C A_C Q) : MetI l y_R_readDefinition (Cond.code y_R_readDefinition b_R_readDefinition 4 (some .boolean) :: TB) ({ frames := 3, cells := 0, slots := 0, locals := 66 } : Room) D vwCl (tyl cA) (SPl sx) [.ref (a_R 0), .ref (a_C 0)] (kc_R cA a_R a_U a_S I_R A_R ++ kc_U cA a_U a_T I_U ++ kc_T cA a_T I_T A_T ++ kc_S cA a_S I_S A_S ++ kc_C cA a_C I_C A_C) (fun (r : Int32) (u : (Nat → Int32)) => Q r u) (fun u : (Nat → Int32) => kc_R cA a_R a_U a_S I_R A_R ++ kc_U cA a_U a_T u ++ kc_T cA a_T I_T A_T ++ kc_S cA a_S I_S A_S ++ kc_C cA a_C I_C A_C) := by
  refine vv_entryI (cc := b_R_readDefinition) (own := R_R) (L := [(0, .ref (a_R 0)), (1, .ref (a_C 0))]) (by decide) rfl rfl (Nat.le_of_ble_eq_true rfl) rfl (fun p e s m args below meth c A hC => ?_)
  unfold wp_R_readDefinition at hw
  refine vv_aload_n hC d_R_readDefinition_0 0 rfl rfl ?_
  refine vv_aload_n hC d_R_readDefinition_1 1 rfl rfl ?_
  refine vv_callVI (wr := []) hC (c_R_readLiteral l D cA sx a_R a_U a_T a_S a_C I_R A_R I_U I_T A_T I_S A_S I_C A_C _ hw) (cw_R_171 hC) d_R_readDefinition_2 [] [0, 1, 2, 3, 4, 5, 6, 7, 8, 9, 10, 11, 12, 13, 14, 15, 16, 17, 18, 19, 20, 21, 22, 23, 24] [] [0, 1, 2, 3, 4, 5, 6, 7, 8, 9, 10, 11, 12, 13, 14, 15, 16, 17, 18, 19, 20, 21, 22, 23, 24] (fun u_2 : (Nat → Int32) => kc_R cA a_R a_U a_S I_R A_R ++ kc_U cA a_U a_T u_2 ++ kc_T cA a_T I_T A_T ++ kc_S cA a_S I_S A_S ++ kc_C cA a_C I_C A_C) ⟨Nat.zero_le _, Nat.zero_le _⟩ rfl rfl (fun _ => rfl) rfl rfl rfl rfl rfl rfl rfl rfl (Nat.le_of_ble_eq_true rfl) (fun r_1 u_2 hw => ?_)
  refine vv_if_ne hC 10 d_R_readDefinition_5 (by decide) (fun cd => ?_) (fun cd => ?_)
  · have hw := hw.2 cd
    refine vv_aload_n hC d_R_readDefinition_10 0 rfl rfl ?_
    refine vv_get hC (v := .ref (a_U 0)) hin_R 0 0 tb_104 d_R_readDefinition_11 rfl rfl (by decide) rfl rfl ?_
    refine vv_get hC (v := .int (u_2 2)) hin_U 3 3 tb_86 d_R_readDefinition_14 rfl rfl (by decide) rfl rfl ?_
    refine vv_istore_n hC d_R_readDefinition_17 rfl (by decide) [1, 2, 0] (L2 := [(0, .ref (a_R 0)), (1, .ref (a_C 0)), (2, .int (u_2 2))]) rfl ?_
    refine vv_iload_n hC d_R_readDefinition_18 2 rfl rfl ?_
    refine vv_iconst hC d_R_readDefinition_19 (v := (2 : Int32)) (by decide) ?_
    refine vv_icmp_lt hC 44 d_R_readDefinition_20 (by decide) (fun cd => ?_) (fun cd => ?_)
    · have hw := hw.1 cd
      exact vv_sub [0] (by rfl) (l_R_readDefinition_b44 a_R a_U a_T a_S a_C I_R A_R I_T A_T I_S A_S I_C A_C Q hC u_2 hw)
    · have hw := hw.2 cd
      refine vv_iload_n hC d_R_readDefinition_23 2 rfl rfl ?_
      refine vv_iconst hC d_R_readDefinition_24 (v := (1 : Int32)) (by decide) ?_
      refine vv_iand hC d_R_readDefinition_25 ?_
      refine vv_if_ne hC 44 d_R_readDefinition_26 (by decide) (fun cd => ?_) (fun cd => ?_)
      · have hw := hw.2 cd
        exact vv_sub [0] (by rfl) (l_R_readDefinition_b44 a_R a_U a_T a_S a_C I_R A_R I_T A_T I_S A_S I_C A_C Q hC u_2 hw)
      · have hw := hw.1 cd
        refine vv_aload_n hC d_R_readDefinition_29 1 rfl rfl ?_
        refine vv_get hC (v := .ref (a_C 9)) hin_C 12 14 tb_202 d_R_readDefinition_30 rfl rfl (by decide) rfl rfl ?_
        refine vv_iload_n hC d_R_readDefinition_33 2 rfl rfl ?_
        refine vv_iconst hC d_R_readDefinition_34 (v := (1 : Int32)) (by decide) ?_
        refine vv_ishr hC d_R_readDefinition_35 ?_
        obtain ⟨hin_7, hw⟩ := hw
        refine vv_zald hC 21 1 d_R_readDefinition_36 rfl rfl hin_7 ?_
        refine vv_if_ne hC 44 d_R_readDefinition_37 (by decide) (fun cd => ?_) (fun cd => ?_)
        · have hw := hw.2 cd
          exact vv_sub [0] (by rfl) (l_R_readDefinition_b44 a_R a_U a_T a_S a_C I_R A_R I_T A_T I_S A_S I_C A_C Q hC u_2 hw)
        · have hw := hw.1 cd
          refine vv_iconst hC d_R_readDefinition_40 (v := (1 : Int32)) (by decide) ?_
          refine vv_goto hC 45 d_R_readDefinition_41 (by decide) ?_
          refine vv_istore_n hC d_R_readDefinition_45 rfl (by decide) [1, 2, 3, 0] (L2 := [(0, .ref (a_R 0)), (1, .ref (a_C 0)), (2, .int (u_2 2)), (3, .int (1 : Int32))]) rfl ?_
          exact vv_sub [0, 3] (by rfl) (l_R_readDefinition_b46 a_R a_U a_T a_S a_C I_R A_R I_T A_T I_S A_S I_C A_C Q hC u_2 (1 : Int32) hw)
  · have hw := hw.1 cd
    refine vv_iconst hC d_R_readDefinition_8 (v := (0 : Int32)) (by decide) ?_
    exact vv_zret hC d_R_readDefinition_9 rfl u_2 hw rfl
set_option maxHeartbeats 4000000 in
set_option maxRecDepth 100000 in
theorem l_R_readInputs_b66 {p : Program} {l : Launch} {e : Env} {s : State} {m : MethodId} {args : Array Value} {below : List Frame} {meth : Method} {c : Code} {D : va_G} {cA : Nat → ClassId} {sx : Nat → Nat} {A : Nat → Prop} (a_R a_U a_T a_S a_C : Nat → Nat) (I_R : (Nat → Int32)) (A_R : (Nat → Nat → Int32)) (I_T : (Nat → Int32)) (A_T : (Nat → Nat → Int32)) (I_S : (Nat → Int32)) (A_S : (Nat → Nat → Int32)) (I_C : (Nat → Int32)) (Q : Int32 → (Nat → Int32) → (Nat → Nat → Int32) → Prop) (K2 : (Nat → Int32) → (Nat → Nat → Int32) → Int32 → Prop) (X2 : (Nat → Int32) → (Nat → Nat → Int32) → Prop) (hC : CX p s m args meth c b_R_readInputs R_R TB 3 D vwCl (tyl cA) A (SPl sx) (some .boolean)) (hK2 : ∀ (I_U : (Nat → Int32)) (A_C : (Nat → Nat → Int32)) (v2 : Int32), K2 I_U A_C v2 → VV p l e ({ frames := 4, cells := 0, slots := 0, locals := 89 } : Room) s m args below meth c 3 D vwCl A 0 0 (QI below args s D vwCl (tyl cA) A (fun (r : Int32) (u : (Nat → Int32) × (Nat → Nat → Int32)) => Q r u.1 u.2) (fun u : (Nat → Int32) × (Nat → Nat → Int32) => kc_R cA a_R a_U a_S I_R A_R ++ kc_U cA a_U a_T u.1 ++ kc_T cA a_T I_T A_T ++ kc_S cA a_S I_S A_S ++ kc_C cA a_C I_C u.2)) (kc_R cA a_R a_U a_S I_R A_R ++ kc_U cA a_U a_T I_U ++ kc_T cA a_T I_T A_T ++ kc_S cA a_S I_S A_S ++ kc_C cA a_C I_C A_C) 2 [(0, .ref (a_R 0)), (1, .ref (a_C 0)), (2, .int v2)] []) (hX2 : ∀ (I_U : (Nat → Int32)) (A_C : (Nat → Nat → Int32)), X2 I_U A_C → VV p l e ({ frames := 4, cells := 0, slots := 0, locals := 89 } : Room) s m args below meth c 3 D vwCl A 0 0 (QI below args s D vwCl (tyl cA) A (fun (r : Int32) (u : (Nat → Int32) × (Nat → Nat → Int32)) => Q r u.1 u.2) (fun u : (Nat → Int32) × (Nat → Nat → Int32) => kc_R cA a_R a_U a_S I_R A_R ++ kc_U cA a_U a_T u.1 ++ kc_T cA a_T I_T A_T ++ kc_S cA a_S I_S A_S ++ kc_C cA a_C I_C u.2)) (kc_R cA a_R a_U a_S I_R A_R ++ kc_U cA a_U a_T I_U ++ kc_T cA a_T I_T A_T ++ kc_S cA a_S I_S A_S ++ kc_C cA a_C I_C A_C) 84 [] []) : ∀ (I_U : (Nat → Int32)) (A_C : (Nat → Nat → Int32)) (v2 : Int32), wp_R_readInputs_b66 I_R I_T A_T I_C Q K2 X2 I_U A_C v2 → VV p l e ({ frames := 4, cells := 0, slots := 0, locals := 89 } : Room) s m args below meth c 3 D vwCl A 0 0 (QI below args s D vwCl (tyl cA) A (fun (r : Int32) (u : (Nat → Int32) × (Nat → Nat → Int32)) => Q r u.1 u.2) (fun u : (Nat → Int32) × (Nat → Nat → Int32) => kc_R cA a_R a_U a_S I_R A_R ++ kc_U cA a_U a_T u.1 ++ kc_T cA a_T I_T A_T ++ kc_S cA a_S I_S A_S ++ kc_C cA a_C I_C u.2)) (kc_R cA a_R a_U a_S I_R A_R ++ kc_U cA a_U a_T I_U ++ kc_T cA a_T I_T A_T ++ kc_S cA a_S I_S A_S ++ kc_C cA a_C I_C A_C) 66 [(0, .ref (a_R 0)), (1, .ref (a_C 0)), (2, .int v2)] [] := by
  intro I_U A_C v2 hw
  unfold wp_R_readInputs_b66 at hw
  refine vv_aload_n hC d_R_readInputs_66 1 rfl rfl ?_
  refine vv_get hC (v := .ref (a_C 9)) hin_C 12 14 tb_202 d_R_readInputs_67 rfl rfl (by decide) rfl rfl ?_
  refine vv_aload_n hC d_R_readInputs_70 1 rfl rfl ?_
  refine vv_get hC (v := .ref (a_C 1)) hin_C 12 6 tb_174 d_R_readInputs_71 rfl rfl (by decide) rfl rfl ?_
  refine vv_iload_n hC d_R_readInputs_74 2 rfl rfl ?_
  obtain ⟨hin_8, hw⟩ := hw
  refine vv_iald hC 13 0 d_R_readInputs_75 rfl rfl hin_8 ?_
  refine vv_iconst hC d_R_readInputs_76 (v := (1 : Int32)) (by decide) ?_
  obtain ⟨hin_9, hw⟩ := hw
  refine vv_zast hC 21 1 d_R_readInputs_77 rfl rfl hin_9 (ws2 := kc_R cA a_R a_U a_S I_R A_R ++ kc_U cA a_U a_T I_U ++ kc_T cA a_T I_T A_T ++ kc_S cA a_S I_S A_S ++ kc_C cA a_C I_C (va_up A_C 8 (upd (A_C 8) (((A_C 0) (v2).toNatClampNeg)).toNatClampNeg (1 : Int32)))) (st_RUTSC_CA8 ..) ?_
  refine vv_iinc hC d_R_readInputs_78 2 rfl (v := (v2 + (1 : Int32))) rfl (by decide) [1, 2, 0] (L2 := [(0, .ref (a_R 0)), (1, .ref (a_C 0)), (2, .int (v2 + (1 : Int32)))]) rfl ?_
  refine vv_goto hC 2 d_R_readInputs_81 (by decide) ?_
  exact vv_sub [0, 1, 2] (by rfl) (hK2 I_U (va_up A_C 8 (upd (A_C 8) (((A_C 0) (v2).toNatClampNeg)).toNatClampNeg (1 : Int32))) (v2 + (1 : Int32)) hw)
set_option maxHeartbeats 4000000 in
set_option maxRecDepth 100000 in
theorem l_R_readInputs_L2 {p : Program} {l : Launch} {e : Env} {s : State} {m : MethodId} {args : Array Value} {below : List Frame} {meth : Method} {c : Code} {D : va_G} {cA : Nat → ClassId} {sx : Nat → Nat} {A : Nat → Prop} (a_R a_U a_T a_S a_C : Nat → Nat) (I_R : (Nat → Int32)) (A_R : (Nat → Nat → Int32)) (I_T : (Nat → Int32)) (A_T : (Nat → Nat → Int32)) (I_S : (Nat → Int32)) (A_S : (Nat → Nat → Int32)) (I_C : (Nat → Int32)) (Q : Int32 → (Nat → Int32) → (Nat → Nat → Int32) → Prop) (X2 : (Nat → Int32) → (Nat → Nat → Int32) → Prop) (hC : CX p s m args meth c b_R_readInputs R_R TB 3 D vwCl (tyl cA) A (SPl sx) (some .boolean)) (hX2 : ∀ (I_U : (Nat → Int32)) (A_C : (Nat → Nat → Int32)), X2 I_U A_C → VV p l e ({ frames := 4, cells := 0, slots := 0, locals := 89 } : Room) s m args below meth c 3 D vwCl A 0 0 (QI below args s D vwCl (tyl cA) A (fun (r : Int32) (u : (Nat → Int32) × (Nat → Nat → Int32)) => Q r u.1 u.2) (fun u : (Nat → Int32) × (Nat → Nat → Int32) => kc_R cA a_R a_U a_S I_R A_R ++ kc_U cA a_U a_T u.1 ++ kc_T cA a_T I_T A_T ++ kc_S cA a_S I_S A_S ++ kc_C cA a_C I_C u.2)) (kc_R cA a_R a_U a_S I_R A_R ++ kc_U cA a_U a_T I_U ++ kc_T cA a_T I_T A_T ++ kc_S cA a_S I_S A_S ++ kc_C cA a_C I_C A_C) 84 [] []) : ∀ (n2 : Nat) (I_U : (Nat → Int32)) (A_C : (Nat → Nat → Int32)) (v2 : Int32), wp_R_readInputs_L2 I_R I_T A_T I_C Q X2 n2 I_U A_C v2 → VV p l e ({ frames := 4, cells := 0, slots := 0, locals := 89 } : Room) s m args below meth c 3 D vwCl A 0 0 (QI below args s D vwCl (tyl cA) A (fun (r : Int32) (u : (Nat → Int32) × (Nat → Nat → Int32)) => Q r u.1 u.2) (fun u : (Nat → Int32) × (Nat → Nat → Int32) => kc_R cA a_R a_U a_S I_R A_R ++ kc_U cA a_U a_T u.1 ++ kc_T cA a_T I_T A_T ++ kc_S cA a_S I_S A_S ++ kc_C cA a_C I_C u.2)) (kc_R cA a_R a_U a_S I_R A_R ++ kc_U cA a_U a_T I_U ++ kc_T cA a_T I_T A_T ++ kc_S cA a_S I_S A_S ++ kc_C cA a_C I_C A_C) 2 [(0, .ref (a_R 0)), (1, .ref (a_C 0)), (2, .int v2)] [] := by
  intro n2
  induction n2 with
  | zero =>
    intro I_U A_C v2 hw
    exact absurd hw (fun z => z)
  | succ n2 ih =>
    intro I_U A_C v2 hw
    unfold wp_R_readInputs_L2 at hw
    refine vv_iload_n hC d_R_readInputs_2 2 rfl rfl ?_
    refine vv_aload_n hC d_R_readInputs_3 1 rfl rfl ?_
    refine vv_get hC (v := .int (I_C 1)) hin_C 12 1 tb_155 d_R_readInputs_4 rfl rfl (by decide) rfl rfl ?_
    refine vv_icmp_ge hC 84 d_R_readInputs_7 (by decide) (fun cd => ?_) (fun cd => ?_)
    · have hw := hw.1 cd
      exact vv_sub [] (by rfl) (hX2 I_U A_C hw)
    · have hw := hw.2 cd
      refine vv_aload_n hC d_R_readInputs_10 0 rfl rfl ?_
      refine vv_get hC (v := .int (I_R 1)) hin_R 0 5 tb_109 d_R_readInputs_11 rfl rfl (by decide) rfl rfl ?_
      refine vv_if_eq hC 29 d_R_readInputs_14 (by decide) (fun cd => ?_) (fun cd => ?_)
      · have hw := hw.1 cd
        refine vv_aload_n hC d_R_readInputs_29 0 rfl rfl ?_
        refine vv_aload_n hC d_R_readInputs_30 1 rfl rfl ?_
        refine vv_callVI (wr := []) hC (c_R_readDefinition l D cA sx a_R a_U a_T a_S a_C I_R A_R I_U I_T A_T I_S A_S I_C A_C _ hw) (cw_R_131 hC) d_R_readInputs_31 [] [0, 1, 2, 3, 4, 5, 6, 7, 8, 9, 10, 11, 12, 13, 14, 15, 16, 17, 18, 19, 20, 21, 22, 23, 24] [] [0, 1, 2, 3, 4, 5, 6, 7, 8, 9, 10, 11, 12, 13, 14, 15, 16, 17, 18, 19, 20, 21, 22, 23, 24] (fun u_2 : (Nat → Int32) => kc_R cA a_R a_U a_S I_R A_R ++ kc_U cA a_U a_T u_2 ++ kc_T cA a_T I_T A_T ++ kc_S cA a_S I_S A_S ++ kc_C cA a_C I_C A_C) ⟨Nat.zero_le _, Nat.zero_le _⟩ rfl rfl (fun _ => rfl) rfl rfl rfl rfl rfl rfl rfl rfl (Nat.le_of_ble_eq_true rfl) (fun r_1 u_2 hw => ?_)
        refine vv_if_eq hC 49 d_R_readInputs_34 (by decide) (fun cd => ?_) (fun cd => ?_)
        · have hw := hw.1 cd
          refine vv_iconst hC d_R_readInputs_49 (v := (0 : Int32)) (by decide) ?_
          exact vv_zret hC d_R_readInputs_50 rfl (u_2, A_C) hw rfl
        · have hw := hw.2 cd
          refine vv_aload_n hC d_R_readInputs_37 0 rfl rfl ?_
          refine vv_get hC (v := .ref (a_U 0)) hin_R 0 0 tb_104 d_R_readInputs_38 rfl rfl (by decide) rfl rfl ?_
          refine vv_bipush hC d_R_readInputs_41 (v := (10 : Int32)) (by decide) ?_
          refine vv_callVI (wr := kc_R cA a_R a_U a_S I_R A_R ++ kc_S cA a_S I_S A_S ++ kc_C cA a_C I_C A_C) hC (c_U_expect l D cA sx a_U a_T u_2 I_T A_T (10 : Int32) _ hw) (cw_R_84 hC) d_R_readInputs_43 [] [3, 4, 5, 6] [0, 1, 2, 7, 8, 9, 10, 11, 12, 13, 14, 15, 16, 17, 18, 19, 20, 21, 22, 23, 24] [0, 1, 2, 21, 22, 23, 24, 3, 4, 5, 6, 7, 8, 9, 10, 11, 12, 13, 14, 15, 16, 17, 18, 19, 20] (fun u_5 : (Nat → Int32) => kc_R cA a_R a_U a_S I_R A_R ++ kc_U cA a_U a_T u_5 ++ kc_T cA a_T I_T A_T ++ kc_S cA a_S I_S A_S ++ kc_C cA a_C I_C A_C) ⟨Nat.zero_le _, Nat.zero_le _⟩ rfl rfl (fun _ => rfl) rfl rfl rfl rfl rfl rfl rfl rfl (Nat.le_of_ble_eq_true rfl) (fun r_4 u_5 hw => ?_)
          refine vv_if_ne hC 51 d_R_readInputs_46 (by decide) (fun cd => ?_) (fun cd => ?_)
          · have hw := hw.2 cd
            refine vv_aload_n hC d_R_readInputs_51 1 rfl rfl ?_
            refine vv_get hC (v := .ref (a_C 1)) hin_C 12 6 tb_174 d_R_readInputs_52 rfl rfl (by decide) rfl rfl ?_
            refine vv_iload_n hC d_R_readInputs_55 2 rfl rfl ?_
            refine vv_aload_n hC d_R_readInputs_56 0 rfl rfl ?_
            refine vv_get hC (v := .ref (a_U 0)) hin_R 0 0 tb_104 d_R_readInputs_57 rfl rfl (by decide) rfl rfl ?_
            refine vv_get hC (v := .int (u_5 2)) hin_U 3 3 tb_86 d_R_readInputs_60 rfl rfl (by decide) rfl rfl ?_
            refine vv_iconst hC d_R_readInputs_63 (v := (1 : Int32)) (by decide) ?_
            refine vv_ishr hC d_R_readInputs_64 ?_
            obtain ⟨hin_7, hw⟩ := hw
            refine vv_iast hC 13 0 d_R_readInputs_65 rfl rfl hin_7 (ws2 := kc_R cA a_R a_U a_S I_R A_R ++ kc_U cA a_U a_T u_5 ++ kc_T cA a_T I_T A_T ++ kc_S cA a_S I_S A_S ++ kc_C cA a_C I_C (va_up A_C 0 (upd (A_C 0) (v2).toNatClampNeg ((u_5 2) >>> ((1 : Int32) &&& 31))))) (st_RUTSC_CA0 ..) ?_
            exact vv_sub [0, 1, 2] (by rfl) (l_R_readInputs_b66 a_R a_U a_T a_S a_C I_R A_R I_T A_T I_S A_S I_C Q (wp_R_readInputs_L2 I_R I_T A_T I_C Q X2 n2) X2 hC ih hX2 u_5 (va_up A_C 0 (upd (A_C 0) (v2).toNatClampNeg ((u_5 2) >>> ((1 : Int32) &&& 31)))) v2 hw)
          · have hw := hw.1 cd
            refine vv_iconst hC d_R_readInputs_49 (v := (0 : Int32)) (by decide) ?_
            exact vv_zret hC d_R_readInputs_50 rfl (u_5, A_C) hw rfl
      · have hw := hw.2 cd
        refine vv_aload_n hC d_R_readInputs_17 1 rfl rfl ?_
        refine vv_get hC (v := .ref (a_C 1)) hin_C 12 6 tb_174 d_R_readInputs_18 rfl rfl (by decide) rfl rfl ?_
        refine vv_iload_n hC d_R_readInputs_21 2 rfl rfl ?_
        refine vv_iload_n hC d_R_readInputs_22 2 rfl rfl ?_
        refine vv_iconst hC d_R_readInputs_23 (v := (1 : Int32)) (by decide) ?_
        refine vv_iadd hC d_R_readInputs_24 ?_
        obtain ⟨hin_10, hw⟩ := hw
        refine vv_iast hC 13 0 d_R_readInputs_25 rfl rfl hin_10 (ws2 := kc_R cA a_R a_U a_S I_R A_R ++ kc_U cA a_U a_T I_U ++ kc_T cA a_T I_T A_T ++ kc_S cA a_S I_S A_S ++ kc_C cA a_C I_C (va_up A_C 0 (upd (A_C 0) (v2).toNatClampNeg (v2 + (1 : Int32))))) (st_RUTSC_CA0 ..) ?_
        refine vv_goto hC 66 d_R_readInputs_26 (by decide) ?_
        exact vv_sub [0, 1, 2] (by rfl) (l_R_readInputs_b66 a_R a_U a_T a_S a_C I_R A_R I_T A_T I_S A_S I_C Q (wp_R_readInputs_L2 I_R I_T A_T I_C Q X2 n2) X2 hC ih hX2 I_U (va_up A_C 0 (upd (A_C 0) (v2).toNatClampNeg (v2 + (1 : Int32)))) v2 hw)
set_option maxHeartbeats 4000000 in
set_option maxRecDepth 100000 in
theorem c_R_readInputs (l : Launch) (D : va_G) (cA : Nat → ClassId) (sx : Nat → Nat) (a_R a_U a_T a_S a_C : Nat → Nat) (I_R : (Nat → Int32)) (A_R : (Nat → Nat → Int32)) (I_U : (Nat → Int32)) (I_T : (Nat → Int32)) (A_T : (Nat → Nat → Int32)) (I_S : (Nat → Int32)) (A_S : (Nat → Nat → Int32)) (I_C : (Nat → Int32)) (A_C : (Nat → Nat → Int32)) (Q : Int32 → (Nat → Int32) → (Nat → Nat → Int32) → Prop) (hw : wp_R_readInputs I_R I_U I_T A_T I_C A_C Q) : MetI l y_R_readInputs (Cond.code y_R_readInputs b_R_readInputs 3 (some .boolean) :: TB) ({ frames := 4, cells := 0, slots := 0, locals := 89 } : Room) D vwCl (tyl cA) (SPl sx) [.ref (a_R 0), .ref (a_C 0)] (kc_R cA a_R a_U a_S I_R A_R ++ kc_U cA a_U a_T I_U ++ kc_T cA a_T I_T A_T ++ kc_S cA a_S I_S A_S ++ kc_C cA a_C I_C A_C) (fun (r : Int32) (u : (Nat → Int32) × (Nat → Nat → Int32)) => Q r u.1 u.2) (fun u : (Nat → Int32) × (Nat → Nat → Int32) => kc_R cA a_R a_U a_S I_R A_R ++ kc_U cA a_U a_T u.1 ++ kc_T cA a_T I_T A_T ++ kc_S cA a_S I_S A_S ++ kc_C cA a_C I_C u.2) := by
  refine vv_entryI (cc := b_R_readInputs) (own := R_R) (L := [(0, .ref (a_R 0)), (1, .ref (a_C 0))]) (by decide) rfl rfl (Nat.le_of_ble_eq_true rfl) rfl (fun p e s m args below meth c A hC => ?_)
  unfold wp_R_readInputs at hw
  refine vv_iconst hC d_R_readInputs_0 (v := (0 : Int32)) (by decide) ?_
  refine vv_istore_n hC d_R_readInputs_1 rfl (by decide) [1, 2, 0] (L2 := [(0, .ref (a_R 0)), (1, .ref (a_C 0)), (2, .int (0 : Int32))]) rfl ?_
  obtain ⟨m2, hw⟩ := hw
  refine vv_sub [0, 1, 2] (by rfl) (l_R_readInputs_L2 a_R a_U a_T a_S a_C I_R A_R I_T A_T I_S A_S I_C Q _ hC (fun I_U_11 A_C_12 hw => ?_) m2 I_U A_C (0 : Int32) hw)
  refine vv_iconst hC d_R_readInputs_84 (v := (1 : Int32)) (by decide) ?_
  exact vv_zret hC d_R_readInputs_85 rfl (I_U_11, A_C_12) hw rfl
set_option maxHeartbeats 4000000 in
set_option maxRecDepth 100000 in
theorem c_R_readUse (l : Launch) (D : va_G) (cA : Nat → ClassId) (sx : Nat → Nat) (a_R a_U a_T a_S a_C : Nat → Nat) (I_R : (Nat → Int32)) (A_R : (Nat → Nat → Int32)) (I_U : (Nat → Int32)) (I_T : (Nat → Int32)) (A_T : (Nat → Nat → Int32)) (I_S : (Nat → Int32)) (A_S : (Nat → Nat → Int32)) (I_C : (Nat → Int32)) (A_C : (Nat → Nat → Int32)) (Q : Int32 → (Nat → Int32) → (Nat → Nat → Int32) → (Nat → Int32) → Prop) (hw : wp_R_readUse I_R A_R I_U I_T A_T I_C Q) : MetI l y_R_readUse (Cond.code y_R_readUse b_R_readUse 2 (some .boolean) :: TB) ({ frames := 3, cells := 0, slots := 0, locals := 66 } : Room) D vwCl (tyl cA) (SPl sx) [.ref (a_R 0), .ref (a_C 0)] (kc_R cA a_R a_U a_S I_R A_R ++ kc_U cA a_U a_T I_U ++ kc_T cA a_T I_T A_T ++ kc_S cA a_S I_S A_S ++ kc_C cA a_C I_C A_C) (fun (r : Int32) (u : (Nat → Int32) × (Nat → Nat → Int32) × (Nat → Int32)) => Q r u.1 u.2.1 u.2.2) (fun u : (Nat → Int32) × (Nat → Nat → Int32) × (Nat → Int32) => kc_R cA a_R a_U a_S u.1 u.2.1 ++ kc_U cA a_U a_T u.2.2 ++ kc_T cA a_T I_T A_T ++ kc_S cA a_S I_S A_S ++ kc_C cA a_C I_C A_C) := by
  refine vv_entryI (cc := b_R_readUse) (own := R_R) (L := [(0, .ref (a_R 0)), (1, .ref (a_C 0))]) (by decide) rfl rfl (Nat.le_of_ble_eq_true rfl) rfl (fun p e s m args below meth c A hC => ?_)
  unfold wp_R_readUse at hw
  refine vv_aload_n hC d_R_readUse_0 0 rfl rfl ?_
  refine vv_aload_n hC d_R_readUse_1 1 rfl rfl ?_
  refine vv_callVI (wr := []) hC (c_R_readLiteral l D cA sx a_R a_U a_T a_S a_C I_R A_R I_U I_T A_T I_S A_S I_C A_C _ hw) (cw_R_171 hC) d_R_readUse_2 [] [0, 1, 2, 3, 4, 5, 6, 7, 8, 9, 10, 11, 12, 13, 14, 15, 16, 17, 18, 19, 20, 21, 22, 23, 24] [] [0, 1, 2, 3, 4, 5, 6, 7, 8, 9, 10, 11, 12, 13, 14, 15, 16, 17, 18, 19, 20, 21, 22, 23, 24] (fun u_2 : (Nat → Int32) => kc_R cA a_R a_U a_S I_R A_R ++ kc_U cA a_U a_T u_2 ++ kc_T cA a_T I_T A_T ++ kc_S cA a_S I_S A_S ++ kc_C cA a_C I_C A_C) ⟨Nat.zero_le _, Nat.zero_le _⟩ rfl rfl (fun _ => rfl) rfl rfl rfl rfl rfl rfl rfl rfl (Nat.le_of_ble_eq_true rfl) (fun r_1 u_2 hw => ?_)
  refine vv_if_ne hC 10 d_R_readUse_5 (by decide) (fun cd => ?_) (fun cd => ?_)
  · have hw := hw.2 cd
    refine vv_aload_n hC d_R_readUse_10 0 rfl rfl ?_
    refine vv_get hC (v := .int (I_R 0)) hin_R 0 4 tb_108 d_R_readUse_11 rfl rfl (by decide) rfl rfl ?_
    refine vv_sipush hC d_R_readUse_14 (v := (615 : Int32)) (by decide) ?_
    refine vv_icmp_ge hC 62 d_R_readUse_17 (by decide) (fun cd => ?_) (fun cd => ?_)
    · have hw := hw.1 cd
      refine vv_iconst hC d_R_readUse_62 (v := (1 : Int32)) (by decide) ?_
      exact vv_zret hC d_R_readUse_63 rfl (I_R, A_R, u_2) hw rfl
    · have hw := hw.2 cd
      refine vv_aload_n hC d_R_readUse_20 0 rfl rfl ?_
      refine vv_get hC (v := .ref (a_R 1)) hin_R 0 2 tb_106 d_R_readUse_21 rfl rfl (by decide) rfl rfl ?_
      refine vv_aload_n hC d_R_readUse_24 0 rfl rfl ?_
      refine vv_get hC (v := .int (I_R 0)) hin_R 0 4 tb_108 d_R_readUse_25 rfl rfl (by decide) rfl rfl ?_
      refine vv_aload_n hC d_R_readUse_28 0 rfl rfl ?_
      refine vv_get hC (v := .ref (a_U 0)) hin_R 0 0 tb_104 d_R_readUse_29 rfl rfl (by decide) rfl rfl ?_
      refine vv_get hC (v := .int (u_2 2)) hin_U 3 3 tb_86 d_R_readUse_32 rfl rfl (by decide) rfl rfl ?_
      obtain ⟨hin_4, hw⟩ := hw
      refine vv_iast hC 1 0 d_R_readUse_35 rfl rfl hin_4 (ws2 := kc_R cA a_R a_U a_S I_R (va_up A_R 0 (upd (A_R 0) ((I_R 0)).toNatClampNeg (u_2 2))) ++ kc_U cA a_U a_T u_2 ++ kc_T cA a_T I_T A_T ++ kc_S cA a_S I_S A_S ++ kc_C cA a_C I_C A_C) (st_RUTSC_RA0 ..) ?_
      refine vv_aload_n hC d_R_readUse_36 0 rfl rfl ?_
      refine vv_get hC (v := .ref (a_R 2)) hin_R 0 3 tb_107 d_R_readUse_37 rfl rfl (by decide) rfl rfl ?_
      refine vv_aload_n hC d_R_readUse_40 0 rfl rfl ?_
      refine vv_get hC (v := .int (I_R 0)) hin_R 0 4 tb_108 d_R_readUse_41 rfl rfl (by decide) rfl rfl ?_
      refine vv_aload_n hC d_R_readUse_44 0 rfl rfl ?_
      refine vv_get hC (v := .ref (a_U 0)) hin_R 0 0 tb_104 d_R_readUse_45 rfl rfl (by decide) rfl rfl ?_
      refine vv_get hC (v := .int (u_2 1)) hin_U 3 2 tb_84 d_R_readUse_48 rfl rfl (by decide) rfl rfl ?_
      refine vv_iast hC 2 0 d_R_readUse_51 rfl rfl hin_4 (ws2 := kc_R cA a_R a_U a_S I_R (va_up (va_up A_R 0 (upd (A_R 0) ((I_R 0)).toNatClampNeg (u_2 2))) 1 (upd (A_R 1) ((I_R 0)).toNatClampNeg (u_2 1))) ++ kc_U cA a_U a_T u_2 ++ kc_T cA a_T I_T A_T ++ kc_S cA a_S I_S A_S ++ kc_C cA a_C I_C A_C) (st_RUTSC_RA1 ..) ?_
      refine vv_aload_n hC d_R_readUse_52 0 rfl rfl ?_
      refine vv_dup hC d_R_readUse_53 rfl ?_
      refine vv_get hC (v := .int (I_R 0)) hin_R 0 4 tb_108 d_R_readUse_54 rfl rfl (by decide) rfl rfl ?_
      refine vv_iconst hC d_R_readUse_57 (v := (1 : Int32)) (by decide) ?_
      refine vv_iadd hC d_R_readUse_58 ?_
      refine vv_put hC hin_R ty_R tyok_R nmok_R 0 4 tb_108 d_R_readUse_59 rfl rfl (by decide) rfl rfl rfl rfl rfl (Nat.le_of_ble_eq_true rfl) (ws2 := kc_R cA a_R a_U a_S (va_up I_R 0 ((I_R 0) + (1 : Int32))) (va_up (va_up A_R 0 (upd (A_R 0) ((I_R 0)).toNatClampNeg (u_2 2))) 1 (upd (A_R 1) ((I_R 0)).toNatClampNeg (u_2 1))) ++ kc_U cA a_U a_T u_2 ++ kc_T cA a_T I_T A_T ++ kc_S cA a_S I_S A_S ++ kc_C cA a_C I_C A_C) (st_RUTSC_RI0 ..) ?_
      refine vv_iconst hC d_R_readUse_62 (v := (1 : Int32)) (by decide) ?_
      exact vv_zret hC d_R_readUse_63 rfl ((va_up I_R 0 ((I_R 0) + (1 : Int32))), (va_up (va_up A_R 0 (upd (A_R 0) ((I_R 0)).toNatClampNeg (u_2 2))) 1 (upd (A_R 1) ((I_R 0)).toNatClampNeg (u_2 1))), u_2) hw rfl
  · have hw := hw.1 cd
    refine vv_iconst hC d_R_readUse_8 (v := (0 : Int32)) (by decide) ?_
    exact vv_zret hC d_R_readUse_9 rfl (I_R, A_R, u_2) hw rfl
set_option maxHeartbeats 4000000 in
set_option maxRecDepth 100000 in
theorem l_R_readLatches_b71 {p : Program} {l : Launch} {e : Env} {s : State} {m : MethodId} {args : Array Value} {below : List Frame} {meth : Method} {c : Code} {D : va_G} {cA : Nat → ClassId} {sx : Nat → Nat} {A : Nat → Prop} (a_R a_U a_T a_S a_C : Nat → Nat) (I_T : (Nat → Int32)) (A_T : (Nat → Nat → Int32)) (I_S : (Nat → Int32)) (A_S : (Nat → Nat → Int32)) (I_C : (Nat → Int32)) (Q : Int32 → (Nat → Int32) → (Nat → Nat → Int32) → (Nat → Int32) → (Nat → Nat → Int32) → Prop) (K2 : (Nat → Int32) → (Nat → Nat → Int32) → (Nat → Int32) → (Nat → Nat → Int32) → Int32 → Prop) (X2 : (Nat → Int32) → (Nat → Nat → Int32) → (Nat → Int32) → (Nat → Nat → Int32) → Prop) (hC : CX p s m args meth c b_R_readLatches R_R TB 3 D vwCl (tyl cA) A (SPl sx) (some .boolean)) (hK2 : ∀ (I_R : (Nat → Int32)) (A_R : (Nat → Nat → Int32)) (I_U : (Nat → Int32)) (A_C : (Nat → Nat → Int32)) (v2 : Int32), K2 I_R A_R I_U A_C v2 → VV p l e ({ frames := 4, cells := 0, slots := 0, locals := 89 } : Room) s m args below meth c 3 D vwCl A 0 0 (QI below args s D vwCl (tyl cA) A (fun (r : Int32) (u : (Nat → Int32) × (Nat → Nat → Int32) × (Nat → Int32) × (Nat → Nat → Int32)) => Q r u.1 u.2.1 u.2.2.1 u.2.2.2) (fun u : (Nat → Int32) × (Nat → Nat → Int32) × (Nat → Int32) × (Nat → Nat → Int32) => kc_R cA a_R a_U a_S u.1 u.2.1 ++ kc_U cA a_U a_T u.2.2.1 ++ kc_T cA a_T I_T A_T ++ kc_S cA a_S I_S A_S ++ kc_C cA a_C I_C u.2.2.2)) (kc_R cA a_R a_U a_S I_R A_R ++ kc_U cA a_U a_T I_U ++ kc_T cA a_T I_T A_T ++ kc_S cA a_S I_S A_S ++ kc_C cA a_C I_C A_C) 2 [(0, .ref (a_R 0)), (1, .ref (a_C 0)), (2, .int v2)] []) (hX2 : ∀ (I_R : (Nat → Int32)) (A_R : (Nat → Nat → Int32)) (I_U : (Nat → Int32)) (A_C : (Nat → Nat → Int32)), X2 I_R A_R I_U A_C → VV p l e ({ frames := 4, cells := 0, slots := 0, locals := 89 } : Room) s m args below meth c 3 D vwCl A 0 0 (QI below args s D vwCl (tyl cA) A (fun (r : Int32) (u : (Nat → Int32) × (Nat → Nat → Int32) × (Nat → Int32) × (Nat → Nat → Int32)) => Q r u.1 u.2.1 u.2.2.1 u.2.2.2) (fun u : (Nat → Int32) × (Nat → Nat → Int32) × (Nat → Int32) × (Nat → Nat → Int32) => kc_R cA a_R a_U a_S u.1 u.2.1 ++ kc_U cA a_U a_T u.2.2.1 ++ kc_T cA a_T I_T A_T ++ kc_S cA a_S I_S A_S ++ kc_C cA a_C I_C u.2.2.2)) (kc_R cA a_R a_U a_S I_R A_R ++ kc_U cA a_U a_T I_U ++ kc_T cA a_T I_T A_T ++ kc_S cA a_S I_S A_S ++ kc_C cA a_C I_C A_C) 124 [] []) : ∀ (I_R : (Nat → Int32)) (A_R : (Nat → Nat → Int32)) (I_U : (Nat → Int32)) (A_C : (Nat → Nat → Int32)) (v2 : Int32), wp_R_readLatches_b71 I_T A_T I_C Q K2 X2 I_R A_R I_U A_C v2 → VV p l e ({ frames := 4, cells := 0, slots := 0, locals := 89 } : Room) s m args below meth c 3 D vwCl A 0 0 (QI below args s D vwCl (tyl cA) A (fun (r : Int32) (u : (Nat → Int32) × (Nat → Nat → Int32) × (Nat → Int32) × (Nat → Nat → Int32)) => Q r u.1 u.2.1 u.2.2.1 u.2.2.2) (fun u : (Nat → Int32) × (Nat → Nat → Int32) × (Nat → Int32) × (Nat → Nat → Int32) => kc_R cA a_R a_U a_S u.1 u.2.1 ++ kc_U cA a_U a_T u.2.2.1 ++ kc_T cA a_T I_T A_T ++ kc_S cA a_S I_S A_S ++ kc_C cA a_C I_C u.2.2.2)) (kc_R cA a_R a_U a_S I_R A_R ++ kc_U cA a_U a_T I_U ++ kc_T cA a_T I_T A_T ++ kc_S cA a_S I_S A_S ++ kc_C cA a_C I_C A_C) 71 [(0, .ref (a_R 0)), (1, .ref (a_C 0)), (2, .int v2)] [] := by
  intro I_R A_R I_U A_C v2 hw
  unfold wp_R_readLatches_b71 at hw
  refine vv_aload_n hC d_R_readLatches_71 1 rfl rfl ?_
  refine vv_get hC (v := .ref (a_C 9)) hin_C 12 14 tb_202 d_R_readLatches_72 rfl rfl (by decide) rfl rfl ?_
  refine vv_aload_n hC d_R_readLatches_75 1 rfl rfl ?_
  refine vv_get hC (v := .ref (a_C 2)) hin_C 12 7 tb_177 d_R_readLatches_76 rfl rfl (by decide) rfl rfl ?_
  refine vv_iload_n hC d_R_readLatches_79 2 rfl rfl ?_
  obtain ⟨hin_8, hw⟩ := hw
  refine vv_iald hC 14 0 d_R_readLatches_80 rfl rfl hin_8 ?_
  refine vv_iconst hC d_R_readLatches_81 (v := (1 : Int32)) (by decide) ?_
  obtain ⟨hin_9, hw⟩ := hw
  refine vv_zast hC 21 1 d_R_readLatches_82 rfl rfl hin_9 (ws2 := kc_R cA a_R a_U a_S I_R A_R ++ kc_U cA a_U a_T I_U ++ kc_T cA a_T I_T A_T ++ kc_S cA a_S I_S A_S ++ kc_C cA a_C I_C (va_up A_C 8 (upd (A_C 8) (((A_C 1) (v2).toNatClampNeg)).toNatClampNeg (1 : Int32)))) (st_RUTSC_CA8 ..) ?_
  refine vv_aload_n hC d_R_readLatches_83 0 rfl rfl ?_
  refine vv_aload_n hC d_R_readLatches_84 1 rfl rfl ?_
  refine vv_callVI (wr := []) hC (c_R_readUse l D cA sx a_R a_U a_T a_S a_C I_R A_R I_U I_T A_T I_S A_S I_C (va_up A_C 8 (upd (A_C 8) (((A_C 1) (v2).toNatClampNeg)).toNatClampNeg (1 : Int32))) _ hw) (cw_R_141 hC) d_R_readLatches_85 [] [0, 1, 2, 3, 4, 5, 6, 7, 8, 9, 10, 11, 12, 13, 14, 15, 16, 17, 18, 19, 20, 21, 22, 23, 24] [] [0, 1, 2, 3, 4, 5, 6, 7, 8, 9, 10, 11, 12, 13, 14, 15, 16, 17, 18, 19, 20, 21, 22, 23, 24] (fun u_11 : (Nat → Int32) × (Nat → Nat → Int32) × (Nat → Int32) => kc_R cA a_R a_U a_S u_11.1 u_11.2.1 ++ kc_U cA a_U a_T u_11.2.2 ++ kc_T cA a_T I_T A_T ++ kc_S cA a_S I_S A_S ++ kc_C cA a_C I_C (va_up A_C 8 (upd (A_C 8) (((A_C 1) (v2).toNatClampNeg)).toNatClampNeg (1 : Int32)))) ⟨Nat.zero_le _, Nat.zero_le _⟩ rfl rfl (fun _ => rfl) rfl rfl rfl rfl rfl rfl rfl rfl (Nat.le_of_ble_eq_true rfl) (fun r_10 u_11 hw => ?_)
  refine vv_if_eq hC 103 d_R_readLatches_88 (by decide) (fun cd => ?_) (fun cd => ?_)
  · have hw := hw.1 cd
    refine vv_iconst hC d_R_readLatches_103 (v := (0 : Int32)) (by decide) ?_
    exact vv_zret hC d_R_readLatches_104 rfl (u_11.1, u_11.2.1, u_11.2.2, (va_up A_C 8 (upd (A_C 8) (((A_C 1) (v2).toNatClampNeg)).toNatClampNeg (1 : Int32)))) hw rfl
  · have hw := hw.2 cd
    refine vv_aload_n hC d_R_readLatches_91 0 rfl rfl ?_
    refine vv_get hC (v := .ref (a_U 0)) hin_R 0 0 tb_104 d_R_readLatches_92 rfl rfl (by decide) rfl rfl ?_
    refine vv_bipush hC d_R_readLatches_95 (v := (10 : Int32)) (by decide) ?_
    refine vv_callVI (wr := kc_R cA a_R a_U a_S u_11.1 u_11.2.1 ++ kc_S cA a_S I_S A_S ++ kc_C cA a_C I_C (va_up A_C 8 (upd (A_C 8) (((A_C 1) (v2).toNatClampNeg)).toNatClampNeg (1 : Int32)))) hC (c_U_expect l D cA sx a_U a_T u_11.2.2 I_T A_T (10 : Int32) _ hw) (cw_R_84 hC) d_R_readLatches_97 [] [3, 4, 5, 6] [0, 1, 2, 7, 8, 9, 10, 11, 12, 13, 14, 15, 16, 17, 18, 19, 20, 21, 22, 23, 24] [0, 1, 2, 21, 22, 23, 24, 3, 4, 5, 6, 7, 8, 9, 10, 11, 12, 13, 14, 15, 16, 17, 18, 19, 20] (fun u_16 : (Nat → Int32) => kc_R cA a_R a_U a_S u_11.1 u_11.2.1 ++ kc_U cA a_U a_T u_16 ++ kc_T cA a_T I_T A_T ++ kc_S cA a_S I_S A_S ++ kc_C cA a_C I_C (va_up A_C 8 (upd (A_C 8) (((A_C 1) (v2).toNatClampNeg)).toNatClampNeg (1 : Int32)))) ⟨Nat.zero_le _, Nat.zero_le _⟩ rfl rfl (fun _ => rfl) rfl rfl rfl rfl rfl rfl rfl rfl (Nat.le_of_ble_eq_true rfl) (fun r_15 u_16 hw => ?_)
    refine vv_if_ne hC 105 d_R_readLatches_100 (by decide) (fun cd => ?_) (fun cd => ?_)
    · have hw := hw.2 cd
      refine vv_aload_n hC d_R_readLatches_105 1 rfl rfl ?_
      refine vv_get hC (v := .ref (a_C 3)) hin_C 12 8 tb_180 d_R_readLatches_106 rfl rfl (by decide) rfl rfl ?_
      refine vv_iload_n hC d_R_readLatches_109 2 rfl rfl ?_
      refine vv_aload_n hC d_R_readLatches_110 0 rfl rfl ?_
      refine vv_get hC (v := .ref (a_U 0)) hin_R 0 0 tb_104 d_R_readLatches_111 rfl rfl (by decide) rfl rfl ?_
      refine vv_get hC (v := .int (u_16 2)) hin_U 3 3 tb_86 d_R_readLatches_114 rfl rfl (by decide) rfl rfl ?_
      refine vv_iast hC 15 0 d_R_readLatches_117 rfl rfl hin_8 (ws2 := kc_R cA a_R a_U a_S u_11.1 u_11.2.1 ++ kc_U cA a_U a_T u_16 ++ kc_T cA a_T I_T A_T ++ kc_S cA a_S I_S A_S ++ kc_C cA a_C I_C (va_up (va_up A_C 8 (upd (A_C 8) (((A_C 1) (v2).toNatClampNeg)).toNatClampNeg (1 : Int32))) 2 (upd (A_C 2) (v2).toNatClampNeg (u_16 2)))) (st_RUTSC_CA2 ..) ?_
      refine vv_iinc hC d_R_readLatches_118 2 rfl (v := (v2 + (1 : Int32))) rfl (by decide) [1, 2, 0] (L2 := [(0, .ref (a_R 0)), (1, .ref (a_C 0)), (2, .int (v2 + (1 : Int32)))]) rfl ?_
      refine vv_goto hC 2 d_R_readLatches_121 (by decide) ?_
      exact vv_sub [0, 1, 2] (by rfl) (hK2 u_11.1 u_11.2.1 u_16 (va_up (va_up A_C 8 (upd (A_C 8) (((A_C 1) (v2).toNatClampNeg)).toNatClampNeg (1 : Int32))) 2 (upd (A_C 2) (v2).toNatClampNeg (u_16 2))) (v2 + (1 : Int32)) hw)
    · have hw := hw.1 cd
      refine vv_iconst hC d_R_readLatches_103 (v := (0 : Int32)) (by decide) ?_
      exact vv_zret hC d_R_readLatches_104 rfl (u_11.1, u_11.2.1, u_16, (va_up A_C 8 (upd (A_C 8) (((A_C 1) (v2).toNatClampNeg)).toNatClampNeg (1 : Int32)))) hw rfl
set_option maxHeartbeats 4000000 in
set_option maxRecDepth 100000 in
theorem l_R_readLatches_L2 {p : Program} {l : Launch} {e : Env} {s : State} {m : MethodId} {args : Array Value} {below : List Frame} {meth : Method} {c : Code} {D : va_G} {cA : Nat → ClassId} {sx : Nat → Nat} {A : Nat → Prop} (a_R a_U a_T a_S a_C : Nat → Nat) (I_T : (Nat → Int32)) (A_T : (Nat → Nat → Int32)) (I_S : (Nat → Int32)) (A_S : (Nat → Nat → Int32)) (I_C : (Nat → Int32)) (Q : Int32 → (Nat → Int32) → (Nat → Nat → Int32) → (Nat → Int32) → (Nat → Nat → Int32) → Prop) (X2 : (Nat → Int32) → (Nat → Nat → Int32) → (Nat → Int32) → (Nat → Nat → Int32) → Prop) (hC : CX p s m args meth c b_R_readLatches R_R TB 3 D vwCl (tyl cA) A (SPl sx) (some .boolean)) (hX2 : ∀ (I_R : (Nat → Int32)) (A_R : (Nat → Nat → Int32)) (I_U : (Nat → Int32)) (A_C : (Nat → Nat → Int32)), X2 I_R A_R I_U A_C → VV p l e ({ frames := 4, cells := 0, slots := 0, locals := 89 } : Room) s m args below meth c 3 D vwCl A 0 0 (QI below args s D vwCl (tyl cA) A (fun (r : Int32) (u : (Nat → Int32) × (Nat → Nat → Int32) × (Nat → Int32) × (Nat → Nat → Int32)) => Q r u.1 u.2.1 u.2.2.1 u.2.2.2) (fun u : (Nat → Int32) × (Nat → Nat → Int32) × (Nat → Int32) × (Nat → Nat → Int32) => kc_R cA a_R a_U a_S u.1 u.2.1 ++ kc_U cA a_U a_T u.2.2.1 ++ kc_T cA a_T I_T A_T ++ kc_S cA a_S I_S A_S ++ kc_C cA a_C I_C u.2.2.2)) (kc_R cA a_R a_U a_S I_R A_R ++ kc_U cA a_U a_T I_U ++ kc_T cA a_T I_T A_T ++ kc_S cA a_S I_S A_S ++ kc_C cA a_C I_C A_C) 124 [] []) : ∀ (n2 : Nat) (I_R : (Nat → Int32)) (A_R : (Nat → Nat → Int32)) (I_U : (Nat → Int32)) (A_C : (Nat → Nat → Int32)) (v2 : Int32), wp_R_readLatches_L2 I_T A_T I_C Q X2 n2 I_R A_R I_U A_C v2 → VV p l e ({ frames := 4, cells := 0, slots := 0, locals := 89 } : Room) s m args below meth c 3 D vwCl A 0 0 (QI below args s D vwCl (tyl cA) A (fun (r : Int32) (u : (Nat → Int32) × (Nat → Nat → Int32) × (Nat → Int32) × (Nat → Nat → Int32)) => Q r u.1 u.2.1 u.2.2.1 u.2.2.2) (fun u : (Nat → Int32) × (Nat → Nat → Int32) × (Nat → Int32) × (Nat → Nat → Int32) => kc_R cA a_R a_U a_S u.1 u.2.1 ++ kc_U cA a_U a_T u.2.2.1 ++ kc_T cA a_T I_T A_T ++ kc_S cA a_S I_S A_S ++ kc_C cA a_C I_C u.2.2.2)) (kc_R cA a_R a_U a_S I_R A_R ++ kc_U cA a_U a_T I_U ++ kc_T cA a_T I_T A_T ++ kc_S cA a_S I_S A_S ++ kc_C cA a_C I_C A_C) 2 [(0, .ref (a_R 0)), (1, .ref (a_C 0)), (2, .int v2)] [] := by
  intro n2
  induction n2 with
  | zero =>
    intro I_R A_R I_U A_C v2 hw
    exact absurd hw (fun z => z)
  | succ n2 ih =>
    intro I_R A_R I_U A_C v2 hw
    unfold wp_R_readLatches_L2 at hw
    refine vv_iload_n hC d_R_readLatches_2 2 rfl rfl ?_
    refine vv_aload_n hC d_R_readLatches_3 1 rfl rfl ?_
    refine vv_get hC (v := .int (I_C 2)) hin_C 12 2 tb_159 d_R_readLatches_4 rfl rfl (by decide) rfl rfl ?_
    refine vv_icmp_ge hC 124 d_R_readLatches_7 (by decide) (fun cd => ?_) (fun cd => ?_)
    · have hw := hw.1 cd
      exact vv_sub [] (by rfl) (hX2 I_R A_R I_U A_C hw)
    · have hw := hw.2 cd
      refine vv_aload_n hC d_R_readLatches_10 0 rfl rfl ?_
      refine vv_get hC (v := .int (I_R 1)) hin_R 0 5 tb_109 d_R_readLatches_11 rfl rfl (by decide) rfl rfl ?_
      refine vv_if_eq hC 34 d_R_readLatches_14 (by decide) (fun cd => ?_) (fun cd => ?_)
      · have hw := hw.1 cd
        refine vv_aload_n hC d_R_readLatches_34 0 rfl rfl ?_
        refine vv_aload_n hC d_R_readLatches_35 1 rfl rfl ?_
        refine vv_callVI (wr := []) hC (c_R_readDefinition l D cA sx a_R a_U a_T a_S a_C I_R A_R I_U I_T A_T I_S A_S I_C A_C _ hw) (cw_R_131 hC) d_R_readLatches_36 [] [0, 1, 2, 3, 4, 5, 6, 7, 8, 9, 10, 11, 12, 13, 14, 15, 16, 17, 18, 19, 20, 21, 22, 23, 24] [] [0, 1, 2, 3, 4, 5, 6, 7, 8, 9, 10, 11, 12, 13, 14, 15, 16, 17, 18, 19, 20, 21, 22, 23, 24] (fun u_2 : (Nat → Int32) => kc_R cA a_R a_U a_S I_R A_R ++ kc_U cA a_U a_T u_2 ++ kc_T cA a_T I_T A_T ++ kc_S cA a_S I_S A_S ++ kc_C cA a_C I_C A_C) ⟨Nat.zero_le _, Nat.zero_le _⟩ rfl rfl (fun _ => rfl) rfl rfl rfl rfl rfl rfl rfl rfl (Nat.le_of_ble_eq_true rfl) (fun r_1 u_2 hw => ?_)
        refine vv_if_eq hC 54 d_R_readLatches_39 (by decide) (fun cd => ?_) (fun cd => ?_)
        · have hw := hw.1 cd
          refine vv_iconst hC d_R_readLatches_54 (v := (0 : Int32)) (by decide) ?_
          exact vv_zret hC d_R_readLatches_55 rfl (I_R, A_R, u_2, A_C) hw rfl
        · have hw := hw.2 cd
          refine vv_aload_n hC d_R_readLatches_42 0 rfl rfl ?_
          refine vv_get hC (v := .ref (a_U 0)) hin_R 0 0 tb_104 d_R_readLatches_43 rfl rfl (by decide) rfl rfl ?_
          refine vv_bipush hC d_R_readLatches_46 (v := (32 : Int32)) (by decide) ?_
          refine vv_callVI (wr := kc_R cA a_R a_U a_S I_R A_R ++ kc_S cA a_S I_S A_S ++ kc_C cA a_C I_C A_C) hC (c_U_expect l D cA sx a_U a_T u_2 I_T A_T (32 : Int32) _ hw) (cw_R_84 hC) d_R_readLatches_48 [] [3, 4, 5, 6] [0, 1, 2, 7, 8, 9, 10, 11, 12, 13, 14, 15, 16, 17, 18, 19, 20, 21, 22, 23, 24] [0, 1, 2, 21, 22, 23, 24, 3, 4, 5, 6, 7, 8, 9, 10, 11, 12, 13, 14, 15, 16, 17, 18, 19, 20] (fun u_5 : (Nat → Int32) => kc_R cA a_R a_U a_S I_R A_R ++ kc_U cA a_U a_T u_5 ++ kc_T cA a_T I_T A_T ++ kc_S cA a_S I_S A_S ++ kc_C cA a_C I_C A_C) ⟨Nat.zero_le _, Nat.zero_le _⟩ rfl rfl (fun _ => rfl) rfl rfl rfl rfl rfl rfl rfl rfl (Nat.le_of_ble_eq_true rfl) (fun r_4 u_5 hw => ?_)
          refine vv_if_ne hC 56 d_R_readLatches_51 (by decide) (fun cd => ?_) (fun cd => ?_)
          · have hw := hw.2 cd
            refine vv_aload_n hC d_R_readLatches_56 1 rfl rfl ?_
            refine vv_get hC (v := .ref (a_C 2)) hin_C 12 7 tb_177 d_R_readLatches_57 rfl rfl (by decide) rfl rfl ?_
            refine vv_iload_n hC d_R_readLatches_60 2 rfl rfl ?_
            refine vv_aload_n hC d_R_readLatches_61 0 rfl rfl ?_
            refine vv_get hC (v := .ref (a_U 0)) hin_R 0 0 tb_104 d_R_readLatches_62 rfl rfl (by decide) rfl rfl ?_
            refine vv_get hC (v := .int (u_5 2)) hin_U 3 3 tb_86 d_R_readLatches_65 rfl rfl (by decide) rfl rfl ?_
            refine vv_iconst hC d_R_readLatches_68 (v := (1 : Int32)) (by decide) ?_
            refine vv_ishr hC d_R_readLatches_69 ?_
            obtain ⟨hin_7, hw⟩ := hw
            refine vv_iast hC 14 0 d_R_readLatches_70 rfl rfl hin_7 (ws2 := kc_R cA a_R a_U a_S I_R A_R ++ kc_U cA a_U a_T u_5 ++ kc_T cA a_T I_T A_T ++ kc_S cA a_S I_S A_S ++ kc_C cA a_C I_C (va_up A_C 1 (upd (A_C 1) (v2).toNatClampNeg ((u_5 2) >>> ((1 : Int32) &&& 31))))) (st_RUTSC_CA1 ..) ?_
            exact vv_sub [0, 1, 2] (by rfl) (l_R_readLatches_b71 a_R a_U a_T a_S a_C I_T A_T I_S A_S I_C Q (wp_R_readLatches_L2 I_T A_T I_C Q X2 n2) X2 hC ih hX2 I_R A_R u_5 (va_up A_C 1 (upd (A_C 1) (v2).toNatClampNeg ((u_5 2) >>> ((1 : Int32) &&& 31)))) v2 hw)
          · have hw := hw.1 cd
            refine vv_iconst hC d_R_readLatches_54 (v := (0 : Int32)) (by decide) ?_
            exact vv_zret hC d_R_readLatches_55 rfl (I_R, A_R, u_5, A_C) hw rfl
      · have hw := hw.2 cd
        refine vv_aload_n hC d_R_readLatches_17 1 rfl rfl ?_
        refine vv_get hC (v := .ref (a_C 2)) hin_C 12 7 tb_177 d_R_readLatches_18 rfl rfl (by decide) rfl rfl ?_
        refine vv_iload_n hC d_R_readLatches_21 2 rfl rfl ?_
        refine vv_aload_n hC d_R_readLatches_22 1 rfl rfl ?_
        refine vv_get hC (v := .int (I_C 1)) hin_C 12 1 tb_155 d_R_readLatches_23 rfl rfl (by decide) rfl rfl ?_
        refine vv_iload_n hC d_R_readLatches_26 2 rfl rfl ?_
        refine vv_iadd hC d_R_readLatches_27 ?_
        refine vv_iconst hC d_R_readLatches_28 (v := (1 : Int32)) (by decide) ?_
        refine vv_iadd hC d_R_readLatches_29 ?_
        obtain ⟨hin_18, hw⟩ := hw
        refine vv_iast hC 14 0 d_R_readLatches_30 rfl rfl hin_18 (ws2 := kc_R cA a_R a_U a_S I_R A_R ++ kc_U cA a_U a_T I_U ++ kc_T cA a_T I_T A_T ++ kc_S cA a_S I_S A_S ++ kc_C cA a_C I_C (va_up A_C 1 (upd (A_C 1) (v2).toNatClampNeg (((I_C 1) + v2) + (1 : Int32))))) (st_RUTSC_CA1 ..) ?_
        refine vv_goto hC 71 d_R_readLatches_31 (by decide) ?_
        exact vv_sub [0, 1, 2] (by rfl) (l_R_readLatches_b71 a_R a_U a_T a_S a_C I_T A_T I_S A_S I_C Q (wp_R_readLatches_L2 I_T A_T I_C Q X2 n2) X2 hC ih hX2 I_R A_R I_U (va_up A_C 1 (upd (A_C 1) (v2).toNatClampNeg (((I_C 1) + v2) + (1 : Int32)))) v2 hw)
set_option maxHeartbeats 4000000 in
set_option maxRecDepth 100000 in
theorem c_R_readLatches (l : Launch) (D : va_G) (cA : Nat → ClassId) (sx : Nat → Nat) (a_R a_U a_T a_S a_C : Nat → Nat) (I_R : (Nat → Int32)) (A_R : (Nat → Nat → Int32)) (I_U : (Nat → Int32)) (I_T : (Nat → Int32)) (A_T : (Nat → Nat → Int32)) (I_S : (Nat → Int32)) (A_S : (Nat → Nat → Int32)) (I_C : (Nat → Int32)) (A_C : (Nat → Nat → Int32)) (Q : Int32 → (Nat → Int32) → (Nat → Nat → Int32) → (Nat → Int32) → (Nat → Nat → Int32) → Prop) (hw : wp_R_readLatches I_R A_R I_U I_T A_T I_C A_C Q) : MetI l y_R_readLatches (Cond.code y_R_readLatches b_R_readLatches 3 (some .boolean) :: TB) ({ frames := 4, cells := 0, slots := 0, locals := 89 } : Room) D vwCl (tyl cA) (SPl sx) [.ref (a_R 0), .ref (a_C 0)] (kc_R cA a_R a_U a_S I_R A_R ++ kc_U cA a_U a_T I_U ++ kc_T cA a_T I_T A_T ++ kc_S cA a_S I_S A_S ++ kc_C cA a_C I_C A_C) (fun (r : Int32) (u : (Nat → Int32) × (Nat → Nat → Int32) × (Nat → Int32) × (Nat → Nat → Int32)) => Q r u.1 u.2.1 u.2.2.1 u.2.2.2) (fun u : (Nat → Int32) × (Nat → Nat → Int32) × (Nat → Int32) × (Nat → Nat → Int32) => kc_R cA a_R a_U a_S u.1 u.2.1 ++ kc_U cA a_U a_T u.2.2.1 ++ kc_T cA a_T I_T A_T ++ kc_S cA a_S I_S A_S ++ kc_C cA a_C I_C u.2.2.2) := by
  refine vv_entryI (cc := b_R_readLatches) (own := R_R) (L := [(0, .ref (a_R 0)), (1, .ref (a_C 0))]) (by decide) rfl rfl (Nat.le_of_ble_eq_true rfl) rfl (fun p e s m args below meth c A hC => ?_)
  unfold wp_R_readLatches at hw
  refine vv_iconst hC d_R_readLatches_0 (v := (0 : Int32)) (by decide) ?_
  refine vv_istore_n hC d_R_readLatches_1 rfl (by decide) [1, 2, 0] (L2 := [(0, .ref (a_R 0)), (1, .ref (a_C 0)), (2, .int (0 : Int32))]) rfl ?_
  obtain ⟨m2, hw⟩ := hw
  refine vv_sub [0, 1, 2] (by rfl) (l_R_readLatches_L2 a_R a_U a_T a_S a_C I_T A_T I_S A_S I_C Q _ hC (fun I_R_19 A_R_20 I_U_21 A_C_22 hw => ?_) m2 I_R A_R I_U A_C (0 : Int32) hw)
  refine vv_iconst hC d_R_readLatches_124 (v := (1 : Int32)) (by decide) ?_
  exact vv_zret hC d_R_readLatches_125 rfl (I_R_19, A_R_20, I_U_21, A_C_22) hw rfl
set_option maxHeartbeats 4000000 in
set_option maxRecDepth 100000 in
theorem l_R_readOutputs_L2 {p : Program} {l : Launch} {e : Env} {s : State} {m : MethodId} {args : Array Value} {below : List Frame} {meth : Method} {c : Code} {D : va_G} {cA : Nat → ClassId} {sx : Nat → Nat} {A : Nat → Prop} (a_R a_U a_T a_S a_C : Nat → Nat) (I_T : (Nat → Int32)) (A_T : (Nat → Nat → Int32)) (I_S : (Nat → Int32)) (A_S : (Nat → Nat → Int32)) (I_C : (Nat → Int32)) (Q : Int32 → (Nat → Int32) → (Nat → Nat → Int32) → (Nat → Int32) → (Nat → Nat → Int32) → Prop) (X2 : (Nat → Int32) → (Nat → Nat → Int32) → (Nat → Int32) → (Nat → Nat → Int32) → Prop) (hC : CX p s m args meth c b_R_readOutputs R_R TB 3 D vwCl (tyl cA) A (SPl sx) (some .boolean)) (hX2 : ∀ (I_R : (Nat → Int32)) (A_R : (Nat → Nat → Int32)) (I_U : (Nat → Int32)) (A_C : (Nat → Nat → Int32)), X2 I_R A_R I_U A_C → VV p l e ({ frames := 4, cells := 0, slots := 0, locals := 87 } : Room) s m args below meth c 3 D vwCl A 0 0 (QI below args s D vwCl (tyl cA) A (fun (r : Int32) (u : (Nat → Int32) × (Nat → Nat → Int32) × (Nat → Int32) × (Nat → Nat → Int32)) => Q r u.1 u.2.1 u.2.2.1 u.2.2.2) (fun u : (Nat → Int32) × (Nat → Nat → Int32) × (Nat → Int32) × (Nat → Nat → Int32) => kc_R cA a_R a_U a_S u.1 u.2.1 ++ kc_U cA a_U a_T u.2.2.1 ++ kc_T cA a_T I_T A_T ++ kc_S cA a_S I_S A_S ++ kc_C cA a_C I_C u.2.2.2)) (kc_R cA a_R a_U a_S I_R A_R ++ kc_U cA a_U a_T I_U ++ kc_T cA a_T I_T A_T ++ kc_S cA a_S I_S A_S ++ kc_C cA a_C I_C A_C) 51 [] []) : ∀ (n2 : Nat) (I_R : (Nat → Int32)) (A_R : (Nat → Nat → Int32)) (I_U : (Nat → Int32)) (A_C : (Nat → Nat → Int32)) (v2 : Int32), wp_R_readOutputs_L2 I_T A_T I_C Q X2 n2 I_R A_R I_U A_C v2 → VV p l e ({ frames := 4, cells := 0, slots := 0, locals := 87 } : Room) s m args below meth c 3 D vwCl A 0 0 (QI below args s D vwCl (tyl cA) A (fun (r : Int32) (u : (Nat → Int32) × (Nat → Nat → Int32) × (Nat → Int32) × (Nat → Nat → Int32)) => Q r u.1 u.2.1 u.2.2.1 u.2.2.2) (fun u : (Nat → Int32) × (Nat → Nat → Int32) × (Nat → Int32) × (Nat → Nat → Int32) => kc_R cA a_R a_U a_S u.1 u.2.1 ++ kc_U cA a_U a_T u.2.2.1 ++ kc_T cA a_T I_T A_T ++ kc_S cA a_S I_S A_S ++ kc_C cA a_C I_C u.2.2.2)) (kc_R cA a_R a_U a_S I_R A_R ++ kc_U cA a_U a_T I_U ++ kc_T cA a_T I_T A_T ++ kc_S cA a_S I_S A_S ++ kc_C cA a_C I_C A_C) 2 [(0, .ref (a_R 0)), (1, .ref (a_C 0)), (2, .int v2)] [] := by
  intro n2
  induction n2 with
  | zero =>
    intro I_R A_R I_U A_C v2 hw
    exact absurd hw (fun z => z)
  | succ n2 ih =>
    intro I_R A_R I_U A_C v2 hw
    unfold wp_R_readOutputs_L2 at hw
    refine vv_iload_n hC d_R_readOutputs_2 2 rfl rfl ?_
    refine vv_aload_n hC d_R_readOutputs_3 1 rfl rfl ?_
    refine vv_get hC (v := .int (I_C 3)) hin_C 12 3 tb_163 d_R_readOutputs_4 rfl rfl (by decide) rfl rfl ?_
    refine vv_icmp_ge hC 51 d_R_readOutputs_7 (by decide) (fun cd => ?_) (fun cd => ?_)
    · have hw := hw.1 cd
      exact vv_sub [] (by rfl) (hX2 I_R A_R I_U A_C hw)
    · have hw := hw.2 cd
      refine vv_aload_n hC d_R_readOutputs_10 0 rfl rfl ?_
      refine vv_aload_n hC d_R_readOutputs_11 1 rfl rfl ?_
      refine vv_callVI (wr := []) hC (c_R_readUse l D cA sx a_R a_U a_T a_S a_C I_R A_R I_U I_T A_T I_S A_S I_C A_C _ hw) (cw_R_141 hC) d_R_readOutputs_12 [] [0, 1, 2, 3, 4, 5, 6, 7, 8, 9, 10, 11, 12, 13, 14, 15, 16, 17, 18, 19, 20, 21, 22, 23, 24] [] [0, 1, 2, 3, 4, 5, 6, 7, 8, 9, 10, 11, 12, 13, 14, 15, 16, 17, 18, 19, 20, 21, 22, 23, 24] (fun u_2 : (Nat → Int32) × (Nat → Nat → Int32) × (Nat → Int32) => kc_R cA a_R a_U a_S u_2.1 u_2.2.1 ++ kc_U cA a_U a_T u_2.2.2 ++ kc_T cA a_T I_T A_T ++ kc_S cA a_S I_S A_S ++ kc_C cA a_C I_C A_C) ⟨Nat.zero_le _, Nat.zero_le _⟩ rfl rfl (fun _ => rfl) rfl rfl rfl rfl rfl rfl rfl rfl (Nat.le_of_ble_eq_true rfl) (fun r_1 u_2 hw => ?_)
      refine vv_if_eq hC 30 d_R_readOutputs_15 (by decide) (fun cd => ?_) (fun cd => ?_)
      · have hw := hw.1 cd
        refine vv_iconst hC d_R_readOutputs_30 (v := (0 : Int32)) (by decide) ?_
        exact vv_zret hC d_R_readOutputs_31 rfl (u_2.1, u_2.2.1, u_2.2.2, A_C) hw rfl
      · have hw := hw.2 cd
        refine vv_aload_n hC d_R_readOutputs_18 0 rfl rfl ?_
        refine vv_get hC (v := .ref (a_U 0)) hin_R 0 0 tb_104 d_R_readOutputs_19 rfl rfl (by decide) rfl rfl ?_
        refine vv_bipush hC d_R_readOutputs_22 (v := (10 : Int32)) (by decide) ?_
        refine vv_callVI (wr := kc_R cA a_R a_U a_S u_2.1 u_2.2.1 ++ kc_S cA a_S I_S A_S ++ kc_C cA a_C I_C A_C) hC (c_U_expect l D cA sx a_U a_T u_2.2.2 I_T A_T (10 : Int32) _ hw) (cw_R_84 hC) d_R_readOutputs_24 [] [3, 4, 5, 6] [0, 1, 2, 7, 8, 9, 10, 11, 12, 13, 14, 15, 16, 17, 18, 19, 20, 21, 22, 23, 24] [0, 1, 2, 21, 22, 23, 24, 3, 4, 5, 6, 7, 8, 9, 10, 11, 12, 13, 14, 15, 16, 17, 18, 19, 20] (fun u_7 : (Nat → Int32) => kc_R cA a_R a_U a_S u_2.1 u_2.2.1 ++ kc_U cA a_U a_T u_7 ++ kc_T cA a_T I_T A_T ++ kc_S cA a_S I_S A_S ++ kc_C cA a_C I_C A_C) ⟨Nat.zero_le _, Nat.zero_le _⟩ rfl rfl (fun _ => rfl) rfl rfl rfl rfl rfl rfl rfl rfl (Nat.le_of_ble_eq_true rfl) (fun r_6 u_7 hw => ?_)
        refine vv_if_ne hC 32 d_R_readOutputs_27 (by decide) (fun cd => ?_) (fun cd => ?_)
        · have hw := hw.2 cd
          refine vv_aload_n hC d_R_readOutputs_32 1 rfl rfl ?_
          refine vv_get hC (v := .ref (a_C 4)) hin_C 12 9 tb_184 d_R_readOutputs_33 rfl rfl (by decide) rfl rfl ?_
          refine vv_iload_n hC d_R_readOutputs_36 2 rfl rfl ?_
          refine vv_aload_n hC d_R_readOutputs_37 0 rfl rfl ?_
          refine vv_get hC (v := .ref (a_U 0)) hin_R 0 0 tb_104 d_R_readOutputs_38 rfl rfl (by decide) rfl rfl ?_
          refine vv_get hC (v := .int (u_7 2)) hin_U 3 3 tb_86 d_R_readOutputs_41 rfl rfl (by decide) rfl rfl ?_
          obtain ⟨hin_9, hw⟩ := hw
          refine vv_iast hC 16 0 d_R_readOutputs_44 rfl rfl hin_9 (ws2 := kc_R cA a_R a_U a_S u_2.1 u_2.2.1 ++ kc_U cA a_U a_T u_7 ++ kc_T cA a_T I_T A_T ++ kc_S cA a_S I_S A_S ++ kc_C cA a_C I_C (va_up A_C 3 (upd (A_C 3) (v2).toNatClampNeg (u_7 2)))) (st_RUTSC_CA3 ..) ?_
          refine vv_iinc hC d_R_readOutputs_45 2 rfl (v := (v2 + (1 : Int32))) rfl (by decide) [1, 2, 0] (L2 := [(0, .ref (a_R 0)), (1, .ref (a_C 0)), (2, .int (v2 + (1 : Int32)))]) rfl ?_
          refine vv_goto hC 2 d_R_readOutputs_48 (by decide) ?_
          exact vv_sub [0, 1, 2] (by rfl) (ih u_2.1 u_2.2.1 u_7 (va_up A_C 3 (upd (A_C 3) (v2).toNatClampNeg (u_7 2))) (v2 + (1 : Int32)) hw)
        · have hw := hw.1 cd
          refine vv_iconst hC d_R_readOutputs_30 (v := (0 : Int32)) (by decide) ?_
          exact vv_zret hC d_R_readOutputs_31 rfl (u_2.1, u_2.2.1, u_7, A_C) hw rfl
set_option maxHeartbeats 4000000 in
set_option maxRecDepth 100000 in
theorem c_R_readOutputs (l : Launch) (D : va_G) (cA : Nat → ClassId) (sx : Nat → Nat) (a_R a_U a_T a_S a_C : Nat → Nat) (I_R : (Nat → Int32)) (A_R : (Nat → Nat → Int32)) (I_U : (Nat → Int32)) (I_T : (Nat → Int32)) (A_T : (Nat → Nat → Int32)) (I_S : (Nat → Int32)) (A_S : (Nat → Nat → Int32)) (I_C : (Nat → Int32)) (A_C : (Nat → Nat → Int32)) (Q : Int32 → (Nat → Int32) → (Nat → Nat → Int32) → (Nat → Int32) → (Nat → Nat → Int32) → Prop) (hw : wp_R_readOutputs I_R A_R I_U I_T A_T I_C A_C Q) : MetI l y_R_readOutputs (Cond.code y_R_readOutputs b_R_readOutputs 3 (some .boolean) :: TB) ({ frames := 4, cells := 0, slots := 0, locals := 87 } : Room) D vwCl (tyl cA) (SPl sx) [.ref (a_R 0), .ref (a_C 0)] (kc_R cA a_R a_U a_S I_R A_R ++ kc_U cA a_U a_T I_U ++ kc_T cA a_T I_T A_T ++ kc_S cA a_S I_S A_S ++ kc_C cA a_C I_C A_C) (fun (r : Int32) (u : (Nat → Int32) × (Nat → Nat → Int32) × (Nat → Int32) × (Nat → Nat → Int32)) => Q r u.1 u.2.1 u.2.2.1 u.2.2.2) (fun u : (Nat → Int32) × (Nat → Nat → Int32) × (Nat → Int32) × (Nat → Nat → Int32) => kc_R cA a_R a_U a_S u.1 u.2.1 ++ kc_U cA a_U a_T u.2.2.1 ++ kc_T cA a_T I_T A_T ++ kc_S cA a_S I_S A_S ++ kc_C cA a_C I_C u.2.2.2) := by
  refine vv_entryI (cc := b_R_readOutputs) (own := R_R) (L := [(0, .ref (a_R 0)), (1, .ref (a_C 0))]) (by decide) rfl rfl (Nat.le_of_ble_eq_true rfl) rfl (fun p e s m args below meth c A hC => ?_)
  unfold wp_R_readOutputs at hw
  refine vv_iconst hC d_R_readOutputs_0 (v := (0 : Int32)) (by decide) ?_
  refine vv_istore_n hC d_R_readOutputs_1 rfl (by decide) [1, 2, 0] (L2 := [(0, .ref (a_R 0)), (1, .ref (a_C 0)), (2, .int (0 : Int32))]) rfl ?_
  obtain ⟨m2, hw⟩ := hw
  refine vv_sub [0, 1, 2] (by rfl) (l_R_readOutputs_L2 a_R a_U a_T a_S a_C I_T A_T I_S A_S I_C Q _ hC (fun I_R_10 A_R_11 I_U_12 A_C_13 hw => ?_) m2 I_R A_R I_U A_C (0 : Int32) hw)
  refine vv_iconst hC d_R_readOutputs_51 (v := (1 : Int32)) (by decide) ?_
  exact vv_zret hC d_R_readOutputs_52 rfl (I_R_10, A_R_11, I_U_12, A_C_13) hw rfl
set_option maxHeartbeats 4000000 in
set_option maxRecDepth 100000 in
theorem l_R_readTextAnds_L2 {p : Program} {l : Launch} {e : Env} {s : State} {m : MethodId} {args : Array Value} {below : List Frame} {meth : Method} {c : Code} {D : va_G} {cA : Nat → ClassId} {sx : Nat → Nat} {A : Nat → Prop} (a_R a_U a_T a_S a_C : Nat → Nat) (I_T : (Nat → Int32)) (A_T : (Nat → Nat → Int32)) (I_S : (Nat → Int32)) (A_S : (Nat → Nat → Int32)) (I_C : (Nat → Int32)) (Q : Int32 → (Nat → Int32) → (Nat → Nat → Int32) → (Nat → Int32) → (Nat → Nat → Int32) → Prop) (X2 : (Nat → Int32) → (Nat → Nat → Int32) → (Nat → Int32) → (Nat → Nat → Int32) → Prop) (hC : CX p s m args meth c b_R_readTextAnds R_R TB 3 D vwCl (tyl cA) A (SPl sx) (some .boolean)) (hX2 : ∀ (I_R : (Nat → Int32)) (A_R : (Nat → Nat → Int32)) (I_U : (Nat → Int32)) (A_C : (Nat → Nat → Int32)), X2 I_R A_R I_U A_C → VV p l e ({ frames := 4, cells := 0, slots := 0, locals := 89 } : Room) s m args below meth c 3 D vwCl A 0 0 (QI below args s D vwCl (tyl cA) A (fun (r : Int32) (u : (Nat → Int32) × (Nat → Nat → Int32) × (Nat → Int32) × (Nat → Nat → Int32)) => Q r u.1 u.2.1 u.2.2.1 u.2.2.2) (fun u : (Nat → Int32) × (Nat → Nat → Int32) × (Nat → Int32) × (Nat → Nat → Int32) => kc_R cA a_R a_U a_S u.1 u.2.1 ++ kc_U cA a_U a_T u.2.2.1 ++ kc_T cA a_T I_T A_T ++ kc_S cA a_S I_S A_S ++ kc_C cA a_C I_C u.2.2.2)) (kc_R cA a_R a_U a_S I_R A_R ++ kc_U cA a_U a_T I_U ++ kc_T cA a_T I_T A_T ++ kc_S cA a_S I_S A_S ++ kc_C cA a_C I_C A_C) 135 [] []) : ∀ (n2 : Nat) (I_R : (Nat → Int32)) (A_R : (Nat → Nat → Int32)) (I_U : (Nat → Int32)) (A_C : (Nat → Nat → Int32)) (v2 : Int32), wp_R_readTextAnds_L2 I_T A_T I_C Q X2 n2 I_R A_R I_U A_C v2 → VV p l e ({ frames := 4, cells := 0, slots := 0, locals := 89 } : Room) s m args below meth c 3 D vwCl A 0 0 (QI below args s D vwCl (tyl cA) A (fun (r : Int32) (u : (Nat → Int32) × (Nat → Nat → Int32) × (Nat → Int32) × (Nat → Nat → Int32)) => Q r u.1 u.2.1 u.2.2.1 u.2.2.2) (fun u : (Nat → Int32) × (Nat → Nat → Int32) × (Nat → Int32) × (Nat → Nat → Int32) => kc_R cA a_R a_U a_S u.1 u.2.1 ++ kc_U cA a_U a_T u.2.2.1 ++ kc_T cA a_T I_T A_T ++ kc_S cA a_S I_S A_S ++ kc_C cA a_C I_C u.2.2.2)) (kc_R cA a_R a_U a_S I_R A_R ++ kc_U cA a_U a_T I_U ++ kc_T cA a_T I_T A_T ++ kc_S cA a_S I_S A_S ++ kc_C cA a_C I_C A_C) 2 [(0, .ref (a_R 0)), (1, .ref (a_C 0)), (2, .int v2)] [] := by
  intro n2
  induction n2 with
  | zero =>
    intro I_R A_R I_U A_C v2 hw
    exact absurd hw (fun z => z)
  | succ n2 ih =>
    intro I_R A_R I_U A_C v2 hw
    unfold wp_R_readTextAnds_L2 at hw
    refine vv_iload_n hC d_R_readTextAnds_2 2 rfl rfl ?_
    refine vv_aload_n hC d_R_readTextAnds_3 1 rfl rfl ?_
    refine vv_get hC (v := .int (I_C 4)) hin_C 12 4 tb_169 d_R_readTextAnds_4 rfl rfl (by decide) rfl rfl ?_
    refine vv_icmp_ge hC 135 d_R_readTextAnds_7 (by decide) (fun cd => ?_) (fun cd => ?_)
    · have hw := hw.1 cd
      exact vv_sub [] (by rfl) (hX2 I_R A_R I_U A_C hw)
    · have hw := hw.2 cd
      refine vv_aload_n hC d_R_readTextAnds_10 0 rfl rfl ?_
      refine vv_aload_n hC d_R_readTextAnds_11 1 rfl rfl ?_
      refine vv_callVI (wr := []) hC (c_R_readDefinition l D cA sx a_R a_U a_T a_S a_C I_R A_R I_U I_T A_T I_S A_S I_C A_C _ hw) (cw_R_131 hC) d_R_readTextAnds_12 [] [0, 1, 2, 3, 4, 5, 6, 7, 8, 9, 10, 11, 12, 13, 14, 15, 16, 17, 18, 19, 20, 21, 22, 23, 24] [] [0, 1, 2, 3, 4, 5, 6, 7, 8, 9, 10, 11, 12, 13, 14, 15, 16, 17, 18, 19, 20, 21, 22, 23, 24] (fun u_2 : (Nat → Int32) => kc_R cA a_R a_U a_S I_R A_R ++ kc_U cA a_U a_T u_2 ++ kc_T cA a_T I_T A_T ++ kc_S cA a_S I_S A_S ++ kc_C cA a_C I_C A_C) ⟨Nat.zero_le _, Nat.zero_le _⟩ rfl rfl (fun _ => rfl) rfl rfl rfl rfl rfl rfl rfl rfl (Nat.le_of_ble_eq_true rfl) (fun r_1 u_2 hw => ?_)
      refine vv_if_eq hC 30 d_R_readTextAnds_15 (by decide) (fun cd => ?_) (fun cd => ?_)
      · have hw := hw.1 cd
        refine vv_iconst hC d_R_readTextAnds_30 (v := (0 : Int32)) (by decide) ?_
        exact vv_zret hC d_R_readTextAnds_31 rfl (I_R, A_R, u_2, A_C) hw rfl
      · have hw := hw.2 cd
        refine vv_aload_n hC d_R_readTextAnds_18 0 rfl rfl ?_
        refine vv_get hC (v := .ref (a_U 0)) hin_R 0 0 tb_104 d_R_readTextAnds_19 rfl rfl (by decide) rfl rfl ?_
        refine vv_bipush hC d_R_readTextAnds_22 (v := (32 : Int32)) (by decide) ?_
        refine vv_callVI (wr := kc_R cA a_R a_U a_S I_R A_R ++ kc_S cA a_S I_S A_S ++ kc_C cA a_C I_C A_C) hC (c_U_expect l D cA sx a_U a_T u_2 I_T A_T (32 : Int32) _ hw) (cw_R_84 hC) d_R_readTextAnds_24 [] [3, 4, 5, 6] [0, 1, 2, 7, 8, 9, 10, 11, 12, 13, 14, 15, 16, 17, 18, 19, 20, 21, 22, 23, 24] [0, 1, 2, 21, 22, 23, 24, 3, 4, 5, 6, 7, 8, 9, 10, 11, 12, 13, 14, 15, 16, 17, 18, 19, 20] (fun u_5 : (Nat → Int32) => kc_R cA a_R a_U a_S I_R A_R ++ kc_U cA a_U a_T u_5 ++ kc_T cA a_T I_T A_T ++ kc_S cA a_S I_S A_S ++ kc_C cA a_C I_C A_C) ⟨Nat.zero_le _, Nat.zero_le _⟩ rfl rfl (fun _ => rfl) rfl rfl rfl rfl rfl rfl rfl rfl (Nat.le_of_ble_eq_true rfl) (fun r_4 u_5 hw => ?_)
        refine vv_if_ne hC 32 d_R_readTextAnds_27 (by decide) (fun cd => ?_) (fun cd => ?_)
        · have hw := hw.2 cd
          refine vv_aload_n hC d_R_readTextAnds_32 1 rfl rfl ?_
          refine vv_get hC (v := .ref (a_C 5)) hin_C 12 10 tb_189 d_R_readTextAnds_33 rfl rfl (by decide) rfl rfl ?_
          refine vv_iload_n hC d_R_readTextAnds_36 2 rfl rfl ?_
          refine vv_aload_n hC d_R_readTextAnds_37 0 rfl rfl ?_
          refine vv_get hC (v := .ref (a_U 0)) hin_R 0 0 tb_104 d_R_readTextAnds_38 rfl rfl (by decide) rfl rfl ?_
          refine vv_get hC (v := .int (u_5 2)) hin_U 3 3 tb_86 d_R_readTextAnds_41 rfl rfl (by decide) rfl rfl ?_
          refine vv_iconst hC d_R_readTextAnds_44 (v := (1 : Int32)) (by decide) ?_
          refine vv_ishr hC d_R_readTextAnds_45 ?_
          obtain ⟨hin_7, hw⟩ := hw
          refine vv_iast hC 17 0 d_R_readTextAnds_46 rfl rfl hin_7 (ws2 := kc_R cA a_R a_U a_S I_R A_R ++ kc_U cA a_U a_T u_5 ++ kc_T cA a_T I_T A_T ++ kc_S cA a_S I_S A_S ++ kc_C cA a_C I_C (va_up A_C 4 (upd (A_C 4) (v2).toNatClampNeg ((u_5 2) >>> ((1 : Int32) &&& 31))))) (st_RUTSC_CA4 ..) ?_
          refine vv_aload_n hC d_R_readTextAnds_47 1 rfl rfl ?_
          refine vv_get hC (v := .ref (a_C 9)) hin_C 12 14 tb_202 d_R_readTextAnds_48 rfl rfl (by decide) rfl rfl ?_
          refine vv_aload_n hC d_R_readTextAnds_51 1 rfl rfl ?_
          refine vv_get hC (v := .ref (a_C 5)) hin_C 12 10 tb_189 d_R_readTextAnds_52 rfl rfl (by decide) rfl rfl ?_
          refine vv_iload_n hC d_R_readTextAnds_55 2 rfl rfl ?_
          refine vv_iald hC 17 0 d_R_readTextAnds_56 rfl rfl hin_7 ?_
          refine vv_iconst hC d_R_readTextAnds_57 (v := (1 : Int32)) (by decide) ?_
          obtain ⟨hin_8, hw⟩ := hw
          refine vv_zast hC 21 1 d_R_readTextAnds_58 rfl rfl hin_8 (ws2 := kc_R cA a_R a_U a_S I_R A_R ++ kc_U cA a_U a_T u_5 ++ kc_T cA a_T I_T A_T ++ kc_S cA a_S I_S A_S ++ kc_C cA a_C I_C (va_up (va_up A_C 4 (upd (A_C 4) (v2).toNatClampNeg ((u_5 2) >>> ((1 : Int32) &&& 31)))) 8 (upd (A_C 8) (((upd (A_C 4) (v2).toNatClampNeg ((u_5 2) >>> ((1 : Int32) &&& 31))) (v2).toNatClampNeg)).toNatClampNeg (1 : Int32)))) (st_RUTSC_CA8 ..) ?_
          refine vv_aload_n hC d_R_readTextAnds_59 0 rfl rfl ?_
          refine vv_aload_n hC d_R_readTextAnds_60 1 rfl rfl ?_
          refine vv_callVI (wr := []) hC (c_R_readUse l D cA sx a_R a_U a_T a_S a_C I_R A_R u_5 I_T A_T I_S A_S I_C (va_up (va_up A_C 4 (upd (A_C 4) (v2).toNatClampNeg ((u_5 2) >>> ((1 : Int32) &&& 31)))) 8 (upd (A_C 8) (((upd (A_C 4) (v2).toNatClampNeg ((u_5 2) >>> ((1 : Int32) &&& 31))) (v2).toNatClampNeg)).toNatClampNeg (1 : Int32))) _ hw) (cw_R_141 hC) d_R_readTextAnds_61 [] [0, 1, 2, 3, 4, 5, 6, 7, 8, 9, 10, 11, 12, 13, 14, 15, 16, 17, 18, 19, 20, 21, 22, 23, 24] [] [0, 1, 2, 3, 4, 5, 6, 7, 8, 9, 10, 11, 12, 13, 14, 15, 16, 17, 18, 19, 20, 21, 22, 23, 24] (fun u_10 : (Nat → Int32) × (Nat → Nat → Int32) × (Nat → Int32) => kc_R cA a_R a_U a_S u_10.1 u_10.2.1 ++ kc_U cA a_U a_T u_10.2.2 ++ kc_T cA a_T I_T A_T ++ kc_S cA a_S I_S A_S ++ kc_C cA a_C I_C (va_up (va_up A_C 4 (upd (A_C 4) (v2).toNatClampNeg ((u_5 2) >>> ((1 : Int32) &&& 31)))) 8 (upd (A_C 8) (((upd (A_C 4) (v2).toNatClampNeg ((u_5 2) >>> ((1 : Int32) &&& 31))) (v2).toNatClampNeg)).toNatClampNeg (1 : Int32)))) ⟨Nat.zero_le _, Nat.zero_le _⟩ rfl rfl (fun _ => rfl) rfl rfl rfl rfl rfl rfl rfl rfl (Nat.le_of_ble_eq_true rfl) (fun r_9 u_10 hw => ?_)
          refine vv_if_eq hC 79 d_R_readTextAnds_64 (by decide) (fun cd => ?_) (fun cd => ?_)
          · have hw := hw.1 cd
            refine vv_iconst hC d_R_readTextAnds_79 (v := (0 : Int32)) (by decide) ?_
            exact vv_zret hC d_R_readTextAnds_80 rfl (u_10.1, u_10.2.1, u_10.2.2, (va_up (va_up A_C 4 (upd (A_C 4) (v2).toNatClampNeg ((u_5 2) >>> ((1 : Int32) &&& 31)))) 8 (upd (A_C 8) (((upd (A_C 4) (v2).toNatClampNeg ((u_5 2) >>> ((1 : Int32) &&& 31))) (v2).toNatClampNeg)).toNatClampNeg (1 : Int32)))) hw rfl
          · have hw := hw.2 cd
            refine vv_aload_n hC d_R_readTextAnds_67 0 rfl rfl ?_
            refine vv_get hC (v := .ref (a_U 0)) hin_R 0 0 tb_104 d_R_readTextAnds_68 rfl rfl (by decide) rfl rfl ?_
            refine vv_bipush hC d_R_readTextAnds_71 (v := (32 : Int32)) (by decide) ?_
            refine vv_callVI (wr := kc_R cA a_R a_U a_S u_10.1 u_10.2.1 ++ kc_S cA a_S I_S A_S ++ kc_C cA a_C I_C (va_up (va_up A_C 4 (upd (A_C 4) (v2).toNatClampNeg ((u_5 2) >>> ((1 : Int32) &&& 31)))) 8 (upd (A_C 8) (((upd (A_C 4) (v2).toNatClampNeg ((u_5 2) >>> ((1 : Int32) &&& 31))) (v2).toNatClampNeg)).toNatClampNeg (1 : Int32)))) hC (c_U_expect l D cA sx a_U a_T u_10.2.2 I_T A_T (32 : Int32) _ hw) (cw_R_84 hC) d_R_readTextAnds_73 [] [3, 4, 5, 6] [0, 1, 2, 7, 8, 9, 10, 11, 12, 13, 14, 15, 16, 17, 18, 19, 20, 21, 22, 23, 24] [0, 1, 2, 21, 22, 23, 24, 3, 4, 5, 6, 7, 8, 9, 10, 11, 12, 13, 14, 15, 16, 17, 18, 19, 20] (fun u_15 : (Nat → Int32) => kc_R cA a_R a_U a_S u_10.1 u_10.2.1 ++ kc_U cA a_U a_T u_15 ++ kc_T cA a_T I_T A_T ++ kc_S cA a_S I_S A_S ++ kc_C cA a_C I_C (va_up (va_up A_C 4 (upd (A_C 4) (v2).toNatClampNeg ((u_5 2) >>> ((1 : Int32) &&& 31)))) 8 (upd (A_C 8) (((upd (A_C 4) (v2).toNatClampNeg ((u_5 2) >>> ((1 : Int32) &&& 31))) (v2).toNatClampNeg)).toNatClampNeg (1 : Int32)))) ⟨Nat.zero_le _, Nat.zero_le _⟩ rfl rfl (fun _ => rfl) rfl rfl rfl rfl rfl rfl rfl rfl (Nat.le_of_ble_eq_true rfl) (fun r_14 u_15 hw => ?_)
            refine vv_if_ne hC 81 d_R_readTextAnds_76 (by decide) (fun cd => ?_) (fun cd => ?_)
            · have hw := hw.2 cd
              refine vv_aload_n hC d_R_readTextAnds_81 1 rfl rfl ?_
              refine vv_get hC (v := .ref (a_C 6)) hin_C 12 11 tb_193 d_R_readTextAnds_82 rfl rfl (by decide) rfl rfl ?_
              refine vv_iload_n hC d_R_readTextAnds_85 2 rfl rfl ?_
              refine vv_aload_n hC d_R_readTextAnds_86 0 rfl rfl ?_
              refine vv_get hC (v := .ref (a_U 0)) hin_R 0 0 tb_104 d_R_readTextAnds_87 rfl rfl (by decide) rfl rfl ?_
              refine vv_get hC (v := .int (u_15 2)) hin_U 3 3 tb_86 d_R_readTextAnds_90 rfl rfl (by decide) rfl rfl ?_
              refine vv_iast hC 18 0 d_R_readTextAnds_93 rfl rfl hin_7 (ws2 := kc_R cA a_R a_U a_S u_10.1 u_10.2.1 ++ kc_U cA a_U a_T u_15 ++ kc_T cA a_T I_T A_T ++ kc_S cA a_S I_S A_S ++ kc_C cA a_C I_C (va_up (va_up (va_up A_C 4 (upd (A_C 4) (v2).toNatClampNeg ((u_5 2) >>> ((1 : Int32) &&& 31)))) 8 (upd (A_C 8) (((upd (A_C 4) (v2).toNatClampNeg ((u_5 2) >>> ((1 : Int32) &&& 31))) (v2).toNatClampNeg)).toNatClampNeg (1 : Int32))) 5 (upd (A_C 5) (v2).toNatClampNeg (u_15 2)))) (st_RUTSC_CA5 ..) ?_
              refine vv_aload_n hC d_R_readTextAnds_94 0 rfl rfl ?_
              refine vv_aload_n hC d_R_readTextAnds_95 1 rfl rfl ?_
              refine vv_callVI (wr := []) hC (c_R_readUse l D cA sx a_R a_U a_T a_S a_C u_10.1 u_10.2.1 u_15 I_T A_T I_S A_S I_C (va_up (va_up (va_up A_C 4 (upd (A_C 4) (v2).toNatClampNeg ((u_5 2) >>> ((1 : Int32) &&& 31)))) 8 (upd (A_C 8) (((upd (A_C 4) (v2).toNatClampNeg ((u_5 2) >>> ((1 : Int32) &&& 31))) (v2).toNatClampNeg)).toNatClampNeg (1 : Int32))) 5 (upd (A_C 5) (v2).toNatClampNeg (u_15 2))) _ hw) (cw_R_141 hC) d_R_readTextAnds_96 [] [0, 1, 2, 3, 4, 5, 6, 7, 8, 9, 10, 11, 12, 13, 14, 15, 16, 17, 18, 19, 20, 21, 22, 23, 24] [] [0, 1, 2, 3, 4, 5, 6, 7, 8, 9, 10, 11, 12, 13, 14, 15, 16, 17, 18, 19, 20, 21, 22, 23, 24] (fun u_18 : (Nat → Int32) × (Nat → Nat → Int32) × (Nat → Int32) => kc_R cA a_R a_U a_S u_18.1 u_18.2.1 ++ kc_U cA a_U a_T u_18.2.2 ++ kc_T cA a_T I_T A_T ++ kc_S cA a_S I_S A_S ++ kc_C cA a_C I_C (va_up (va_up (va_up A_C 4 (upd (A_C 4) (v2).toNatClampNeg ((u_5 2) >>> ((1 : Int32) &&& 31)))) 8 (upd (A_C 8) (((upd (A_C 4) (v2).toNatClampNeg ((u_5 2) >>> ((1 : Int32) &&& 31))) (v2).toNatClampNeg)).toNatClampNeg (1 : Int32))) 5 (upd (A_C 5) (v2).toNatClampNeg (u_15 2)))) ⟨Nat.zero_le _, Nat.zero_le _⟩ rfl rfl (fun _ => rfl) rfl rfl rfl rfl rfl rfl rfl rfl (Nat.le_of_ble_eq_true rfl) (fun r_17 u_18 hw => ?_)
              refine vv_if_eq hC 114 d_R_readTextAnds_99 (by decide) (fun cd => ?_) (fun cd => ?_)
              · have hw := hw.1 cd
                refine vv_iconst hC d_R_readTextAnds_114 (v := (0 : Int32)) (by decide) ?_
                exact vv_zret hC d_R_readTextAnds_115 rfl (u_18.1, u_18.2.1, u_18.2.2, (va_up (va_up (va_up A_C 4 (upd (A_C 4) (v2).toNatClampNeg ((u_5 2) >>> ((1 : Int32) &&& 31)))) 8 (upd (A_C 8) (((upd (A_C 4) (v2).toNatClampNeg ((u_5 2) >>> ((1 : Int32) &&& 31))) (v2).toNatClampNeg)).toNatClampNeg (1 : Int32))) 5 (upd (A_C 5) (v2).toNatClampNeg (u_15 2)))) hw rfl
              · have hw := hw.2 cd
                refine vv_aload_n hC d_R_readTextAnds_102 0 rfl rfl ?_
                refine vv_get hC (v := .ref (a_U 0)) hin_R 0 0 tb_104 d_R_readTextAnds_103 rfl rfl (by decide) rfl rfl ?_
                refine vv_bipush hC d_R_readTextAnds_106 (v := (10 : Int32)) (by decide) ?_
                refine vv_callVI (wr := kc_R cA a_R a_U a_S u_18.1 u_18.2.1 ++ kc_S cA a_S I_S A_S ++ kc_C cA a_C I_C (va_up (va_up (va_up A_C 4 (upd (A_C 4) (v2).toNatClampNeg ((u_5 2) >>> ((1 : Int32) &&& 31)))) 8 (upd (A_C 8) (((upd (A_C 4) (v2).toNatClampNeg ((u_5 2) >>> ((1 : Int32) &&& 31))) (v2).toNatClampNeg)).toNatClampNeg (1 : Int32))) 5 (upd (A_C 5) (v2).toNatClampNeg (u_15 2)))) hC (c_U_expect l D cA sx a_U a_T u_18.2.2 I_T A_T (10 : Int32) _ hw) (cw_R_84 hC) d_R_readTextAnds_108 [] [3, 4, 5, 6] [0, 1, 2, 7, 8, 9, 10, 11, 12, 13, 14, 15, 16, 17, 18, 19, 20, 21, 22, 23, 24] [0, 1, 2, 21, 22, 23, 24, 3, 4, 5, 6, 7, 8, 9, 10, 11, 12, 13, 14, 15, 16, 17, 18, 19, 20] (fun u_23 : (Nat → Int32) => kc_R cA a_R a_U a_S u_18.1 u_18.2.1 ++ kc_U cA a_U a_T u_23 ++ kc_T cA a_T I_T A_T ++ kc_S cA a_S I_S A_S ++ kc_C cA a_C I_C (va_up (va_up (va_up A_C 4 (upd (A_C 4) (v2).toNatClampNeg ((u_5 2) >>> ((1 : Int32) &&& 31)))) 8 (upd (A_C 8) (((upd (A_C 4) (v2).toNatClampNeg ((u_5 2) >>> ((1 : Int32) &&& 31))) (v2).toNatClampNeg)).toNatClampNeg (1 : Int32))) 5 (upd (A_C 5) (v2).toNatClampNeg (u_15 2)))) ⟨Nat.zero_le _, Nat.zero_le _⟩ rfl rfl (fun _ => rfl) rfl rfl rfl rfl rfl rfl rfl rfl (Nat.le_of_ble_eq_true rfl) (fun r_22 u_23 hw => ?_)
                refine vv_if_ne hC 116 d_R_readTextAnds_111 (by decide) (fun cd => ?_) (fun cd => ?_)
                · have hw := hw.2 cd
                  refine vv_aload_n hC d_R_readTextAnds_116 1 rfl rfl ?_
                  refine vv_get hC (v := .ref (a_C 7)) hin_C 12 12 tb_197 d_R_readTextAnds_117 rfl rfl (by decide) rfl rfl ?_
                  refine vv_iload_n hC d_R_readTextAnds_120 2 rfl rfl ?_
                  refine vv_aload_n hC d_R_readTextAnds_121 0 rfl rfl ?_
                  refine vv_get hC (v := .ref (a_U 0)) hin_R 0 0 tb_104 d_R_readTextAnds_122 rfl rfl (by decide) rfl rfl ?_
                  refine vv_get hC (v := .int (u_23 2)) hin_U 3 3 tb_86 d_R_readTextAnds_125 rfl rfl (by decide) rfl rfl ?_
                  refine vv_iast hC 19 0 d_R_readTextAnds_128 rfl rfl hin_7 (ws2 := kc_R cA a_R a_U a_S u_18.1 u_18.2.1 ++ kc_U cA a_U a_T u_23 ++ kc_T cA a_T I_T A_T ++ kc_S cA a_S I_S A_S ++ kc_C cA a_C I_C (va_up (va_up (va_up (va_up A_C 4 (upd (A_C 4) (v2).toNatClampNeg ((u_5 2) >>> ((1 : Int32) &&& 31)))) 8 (upd (A_C 8) (((upd (A_C 4) (v2).toNatClampNeg ((u_5 2) >>> ((1 : Int32) &&& 31))) (v2).toNatClampNeg)).toNatClampNeg (1 : Int32))) 5 (upd (A_C 5) (v2).toNatClampNeg (u_15 2))) 6 (upd (A_C 6) (v2).toNatClampNeg (u_23 2)))) (st_RUTSC_CA6 ..) ?_
                  refine vv_iinc hC d_R_readTextAnds_129 2 rfl (v := (v2 + (1 : Int32))) rfl (by decide) [1, 2, 0] (L2 := [(0, .ref (a_R 0)), (1, .ref (a_C 0)), (2, .int (v2 + (1 : Int32)))]) rfl ?_
                  refine vv_goto hC 2 d_R_readTextAnds_132 (by decide) ?_
                  exact vv_sub [0, 1, 2] (by rfl) (ih u_18.1 u_18.2.1 u_23 (va_up (va_up (va_up (va_up A_C 4 (upd (A_C 4) (v2).toNatClampNeg ((u_5 2) >>> ((1 : Int32) &&& 31)))) 8 (upd (A_C 8) (((upd (A_C 4) (v2).toNatClampNeg ((u_5 2) >>> ((1 : Int32) &&& 31))) (v2).toNatClampNeg)).toNatClampNeg (1 : Int32))) 5 (upd (A_C 5) (v2).toNatClampNeg (u_15 2))) 6 (upd (A_C 6) (v2).toNatClampNeg (u_23 2))) (v2 + (1 : Int32)) hw)
                · have hw := hw.1 cd
                  refine vv_iconst hC d_R_readTextAnds_114 (v := (0 : Int32)) (by decide) ?_
                  exact vv_zret hC d_R_readTextAnds_115 rfl (u_18.1, u_18.2.1, u_23, (va_up (va_up (va_up A_C 4 (upd (A_C 4) (v2).toNatClampNeg ((u_5 2) >>> ((1 : Int32) &&& 31)))) 8 (upd (A_C 8) (((upd (A_C 4) (v2).toNatClampNeg ((u_5 2) >>> ((1 : Int32) &&& 31))) (v2).toNatClampNeg)).toNatClampNeg (1 : Int32))) 5 (upd (A_C 5) (v2).toNatClampNeg (u_15 2)))) hw rfl
            · have hw := hw.1 cd
              refine vv_iconst hC d_R_readTextAnds_79 (v := (0 : Int32)) (by decide) ?_
              exact vv_zret hC d_R_readTextAnds_80 rfl (u_10.1, u_10.2.1, u_15, (va_up (va_up A_C 4 (upd (A_C 4) (v2).toNatClampNeg ((u_5 2) >>> ((1 : Int32) &&& 31)))) 8 (upd (A_C 8) (((upd (A_C 4) (v2).toNatClampNeg ((u_5 2) >>> ((1 : Int32) &&& 31))) (v2).toNatClampNeg)).toNatClampNeg (1 : Int32)))) hw rfl
        · have hw := hw.1 cd
          refine vv_iconst hC d_R_readTextAnds_30 (v := (0 : Int32)) (by decide) ?_
          exact vv_zret hC d_R_readTextAnds_31 rfl (I_R, A_R, u_5, A_C) hw rfl
set_option maxHeartbeats 4000000 in
set_option maxRecDepth 100000 in
theorem c_R_readTextAnds (l : Launch) (D : va_G) (cA : Nat → ClassId) (sx : Nat → Nat) (a_R a_U a_T a_S a_C : Nat → Nat) (I_R : (Nat → Int32)) (A_R : (Nat → Nat → Int32)) (I_U : (Nat → Int32)) (I_T : (Nat → Int32)) (A_T : (Nat → Nat → Int32)) (I_S : (Nat → Int32)) (A_S : (Nat → Nat → Int32)) (I_C : (Nat → Int32)) (A_C : (Nat → Nat → Int32)) (Q : Int32 → (Nat → Int32) → (Nat → Nat → Int32) → (Nat → Int32) → (Nat → Nat → Int32) → Prop) (hw : wp_R_readTextAnds I_R A_R I_U I_T A_T I_C A_C Q) : MetI l y_R_readTextAnds (Cond.code y_R_readTextAnds b_R_readTextAnds 3 (some .boolean) :: TB) ({ frames := 4, cells := 0, slots := 0, locals := 89 } : Room) D vwCl (tyl cA) (SPl sx) [.ref (a_R 0), .ref (a_C 0)] (kc_R cA a_R a_U a_S I_R A_R ++ kc_U cA a_U a_T I_U ++ kc_T cA a_T I_T A_T ++ kc_S cA a_S I_S A_S ++ kc_C cA a_C I_C A_C) (fun (r : Int32) (u : (Nat → Int32) × (Nat → Nat → Int32) × (Nat → Int32) × (Nat → Nat → Int32)) => Q r u.1 u.2.1 u.2.2.1 u.2.2.2) (fun u : (Nat → Int32) × (Nat → Nat → Int32) × (Nat → Int32) × (Nat → Nat → Int32) => kc_R cA a_R a_U a_S u.1 u.2.1 ++ kc_U cA a_U a_T u.2.2.1 ++ kc_T cA a_T I_T A_T ++ kc_S cA a_S I_S A_S ++ kc_C cA a_C I_C u.2.2.2) := by
  refine vv_entryI (cc := b_R_readTextAnds) (own := R_R) (L := [(0, .ref (a_R 0)), (1, .ref (a_C 0))]) (by decide) rfl rfl (Nat.le_of_ble_eq_true rfl) rfl (fun p e s m args below meth c A hC => ?_)
  unfold wp_R_readTextAnds at hw
  refine vv_iconst hC d_R_readTextAnds_0 (v := (0 : Int32)) (by decide) ?_
  refine vv_istore_n hC d_R_readTextAnds_1 rfl (by decide) [1, 2, 0] (L2 := [(0, .ref (a_R 0)), (1, .ref (a_C 0)), (2, .int (0 : Int32))]) rfl ?_
  obtain ⟨m2, hw⟩ := hw
  refine vv_sub [0, 1, 2] (by rfl) (l_R_readTextAnds_L2 a_R a_U a_T a_S a_C I_T A_T I_S A_S I_C Q _ hC (fun I_R_25 A_R_26 I_U_27 A_C_28 hw => ?_) m2 I_R A_R I_U A_C (0 : Int32) hw)
  refine vv_iconst hC d_R_readTextAnds_135 (v := (1 : Int32)) (by decide) ?_
  exact vv_zret hC d_R_readTextAnds_136 rfl (I_R_25, A_R_26, I_U_27, A_C_28) hw rfl
set_option maxHeartbeats 4000000 in
set_option maxRecDepth 100000 in
theorem l_R_kindOf_L2 {p : Program} {l : Launch} {e : Env} {s : State} {m : MethodId} {args : Array Value} {below : List Frame} {meth : Method} {c : Code} {D : va_G} {cA : Nat → ClassId} {sx : Nat → Nat} {A : Nat → Prop} (Q : Int32 → Prop) (X2 : Prop) (hC : CX p s m args meth c b_R_kindOf R_R TB 2 D vwCl (tyl cA) A (SPl sx) (some .int)) (hX2 : X2 → VV p l e ({ frames := 4, cells := 0, slots := 0, locals := 85 } : Room) s m args below meth c 2 D vwCl A 0 0 (QI below args s D vwCl (tyl cA) A (fun (r : Int32) (u : Unit) => Q r) (fun u : Unit => [])) ([]) 25 [] []) : ∀ (n2 : Nat) (v0 : Int32) (v1 : Int32), wp_R_kindOf_L2 Q X2 n2 v0 v1 → VV p l e ({ frames := 4, cells := 0, slots := 0, locals := 85 } : Room) s m args below meth c 2 D vwCl A 0 0 (QI below args s D vwCl (tyl cA) A (fun (r : Int32) (u : Unit) => Q r) (fun u : Unit => [])) ([]) 2 [(0, .int v0), (1, .int v1)] [] := by
  intro n2
  induction n2 with
  | zero =>
    intro v0 v1 hw
    exact absurd hw (fun z => z)
  | succ n2 ih =>
    intro v0 v1 hw
    unfold wp_R_kindOf_L2 at hw
    refine vv_iload_n hC d_R_kindOf_2 1 rfl rfl ?_
    refine vv_iconst hC d_R_kindOf_3 (v := (3 : Int32)) (by decide) ?_
    refine vv_icmp_ge hC 25 d_R_kindOf_4 (by decide) (fun cd => ?_) (fun cd => ?_)
    · have hw := hw.1 cd
      exact vv_sub [] (by rfl) (hX2 hw)
    · have hw := hw.2 cd
      refine vv_ldcS hC hC.2.2.2.2.2.2.2.1.2.2.1.2.1 d_R_kindOf_7 ?_
      refine vv_iload_n hC d_R_kindOf_9 1 rfl rfl ?_
      obtain ⟨hin_1, hw⟩ := hw
      refine vv_charAt hC tb_549 d_R_kindOf_10 hin_1 (Nat.le_of_ble_eq_true rfl) ⟨Nat.zero_le _, Nat.zero_le _⟩ ⟨Nat.le_of_ble_eq_true rfl, Nat.le_of_ble_eq_true rfl⟩ ?_
      refine vv_iload_n hC d_R_kindOf_13 0 rfl rfl ?_
      refine vv_icmp_ne hC 19 d_R_kindOf_14 (by decide) (fun cd => ?_) (fun cd => ?_)
      · have hw := hw.2 cd
        refine vv_iinc hC d_R_kindOf_19 1 rfl (v := (v1 + (1 : Int32))) rfl (by decide) [1, 0] (L2 := [(0, .int v0), (1, .int (v1 + (1 : Int32)))]) rfl ?_
        refine vv_goto hC 2 d_R_kindOf_22 (by decide) ?_
        exact vv_sub [0, 1] (by rfl) (ih v0 (v1 + (1 : Int32)) hw)
      · have hw := hw.1 cd
        refine vv_iload_n hC d_R_kindOf_17 1 rfl rfl ?_
        exact vv_iret hC d_R_kindOf_18 () hw rfl
set_option maxHeartbeats 4000000 in
set_option maxRecDepth 100000 in
theorem c_R_kindOf (l : Launch) (D : va_G) (cA : Nat → ClassId) (sx : Nat → Nat) (x0 : Int32) (Q : Int32 → Prop) (hw : wp_R_kindOf x0 Q) : MetI l y_R_kindOf (Cond.code y_R_kindOf b_R_kindOf 2 (some .int) :: TB) ({ frames := 4, cells := 0, slots := 0, locals := 85 } : Room) D vwCl (tyl cA) (SPl sx) [.int x0] ([]) (fun (r : Int32) (u : Unit) => Q r) (fun u : Unit => []) := by
  refine vv_entryI (cc := b_R_kindOf) (own := R_R) (L := [(0, .int x0)]) (by decide) rfl rfl (Nat.le_of_ble_eq_true rfl) rfl (fun p e s m args below meth c A hC => ?_)
  unfold wp_R_kindOf at hw
  refine vv_iconst hC d_R_kindOf_0 (v := (0 : Int32)) (by decide) ?_
  refine vv_istore_n hC d_R_kindOf_1 rfl (by decide) [1, 0] (L2 := [(0, .int x0), (1, .int (0 : Int32))]) rfl ?_
  obtain ⟨m2, hw⟩ := hw
  refine vv_sub [0, 1] (by rfl) (l_R_kindOf_L2 Q _ hC (fun  hw => ?_) m2 x0 (0 : Int32) hw)
  refine vv_iconst hC d_R_kindOf_25 (v := (-1 : Int32)) (by decide) ?_
  exact vv_iret hC d_R_kindOf_26 () hw rfl
set_option maxHeartbeats 4000000 in
set_option maxRecDepth 100000 in
theorem l_R_readName_L2 {p : Program} {l : Launch} {e : Env} {s : State} {m : MethodId} {args : Array Value} {below : List Frame} {meth : Method} {c : Code} {D : va_G} {cA : Nat → ClassId} {sx : Nat → Nat} {A : Nat → Prop} (a_R a_U a_T a_S a_C : Nat → Nat) (I_R : (Nat → Int32)) (A_R : (Nat → Nat → Int32)) (I_T : (Nat → Int32)) (A_T : (Nat → Nat → Int32)) (I_S : (Nat → Int32)) (A_S : (Nat → Nat → Int32)) (I_C : (Nat → Int32)) (Q : Int32 → (Nat → Int32) → (Nat → Nat → Int32) → Prop) (X2 : (Nat → Int32) → (Nat → Nat → Int32) → Int32 → Prop) (hC : CX p s m args meth c b_R_readName R_R TB 5 D vwCl (tyl cA) A (SPl sx) (some .boolean)) (hX2 : ∀ (I_U : (Nat → Int32)) (A_C : (Nat → Nat → Int32)) (v2 : Int32), X2 I_U A_C v2 → VV p l e ({ frames := 2, cells := 0, slots := 0, locals := 43 } : Room) s m args below meth c 5 D vwCl A 0 0 (QI below args s D vwCl (tyl cA) A (fun (r : Int32) (u : (Nat → Int32) × (Nat → Nat → Int32)) => Q r u.1 u.2) (fun u : (Nat → Int32) × (Nat → Nat → Int32) => kc_R cA a_R a_U a_S I_R A_R ++ kc_U cA a_U a_T u.1 ++ kc_T cA a_T I_T A_T ++ kc_S cA a_S I_S A_S ++ kc_C cA a_C I_C u.2)) (kc_R cA a_R a_U a_S I_R A_R ++ kc_U cA a_U a_T I_U ++ kc_T cA a_T I_T A_T ++ kc_S cA a_S I_S A_S ++ kc_C cA a_C I_C A_C) 74 [(0, .ref (a_R 0)), (1, .ref (a_C 0)), (2, .int v2)] []) : ∀ (n2 : Nat) (I_U : (Nat → Int32)) (A_C : (Nat → Nat → Int32)) (v2 : Int32) (v3 : Int32), wp_R_readName_L2 I_T A_T Q X2 n2 I_U A_C v2 v3 → VV p l e ({ frames := 2, cells := 0, slots := 0, locals := 43 } : Room) s m args below meth c 5 D vwCl A 0 0 (QI below args s D vwCl (tyl cA) A (fun (r : Int32) (u : (Nat → Int32) × (Nat → Nat → Int32)) => Q r u.1 u.2) (fun u : (Nat → Int32) × (Nat → Nat → Int32) => kc_R cA a_R a_U a_S I_R A_R ++ kc_U cA a_U a_T u.1 ++ kc_T cA a_T I_T A_T ++ kc_S cA a_S I_S A_S ++ kc_C cA a_C I_C u.2)) (kc_R cA a_R a_U a_S I_R A_R ++ kc_U cA a_U a_T I_U ++ kc_T cA a_T I_T A_T ++ kc_S cA a_S I_S A_S ++ kc_C cA a_C I_C A_C) 2 [(0, .ref (a_R 0)), (1, .ref (a_C 0)), (2, .int v2), (3, .int v3)] [] := by
  intro n2
  induction n2 with
  | zero =>
    intro I_U A_C v2 v3 hw
    exact absurd hw (fun z => z)
  | succ n2 ih =>
    intro I_U A_C v2 v3 hw
    unfold wp_R_readName_L2 at hw
    refine vv_iload_n hC d_R_readName_2 3 rfl rfl ?_
    refine vv_bipush hC d_R_readName_3 (v := (40 : Int32)) (by decide) ?_
    refine vv_icmp_ge hC 74 d_R_readName_5 (by decide) (fun cd => ?_) (fun cd => ?_)
    · have hw := hw.1 cd
      exact vv_sub [0, 1, 2] (by rfl) (hX2 I_U A_C v2 hw)
    · have hw := hw.2 cd
      refine vv_aload_n hC d_R_readName_8 0 rfl rfl ?_
      refine vv_get hC (v := .ref (a_U 0)) hin_R 0 0 tb_104 d_R_readName_9 rfl rfl (by decide) rfl rfl ?_
      refine vv_callVI (wr := kc_R cA a_R a_U a_S I_R A_R ++ kc_S cA a_S I_S A_S ++ kc_C cA a_C I_C A_C) hC (c_U_peek l D cA sx a_U a_T I_U I_T A_T _ hw) (cw_R_88 hC) d_R_readName_12 [] [3, 4, 5, 6] [0, 1, 2, 7, 8, 9, 10, 11, 12, 13, 14, 15, 16, 17, 18, 19, 20, 21, 22, 23, 24] [0, 1, 2, 21, 22, 23, 24, 3, 4, 5, 6, 7, 8, 9, 10, 11, 12, 13, 14, 15, 16, 17, 18, 19, 20] (fun u_2 : Unit => kc_R cA a_R a_U a_S I_R A_R ++ kc_U cA a_U a_T I_U ++ kc_T cA a_T I_T A_T ++ kc_S cA a_S I_S A_S ++ kc_C cA a_C I_C A_C) ⟨Nat.zero_le _, Nat.zero_le _⟩ rfl rfl (fun _ => rfl) rfl rfl rfl rfl rfl rfl rfl rfl (Nat.le_of_ble_eq_true rfl) (fun r_1 u_2 hw => ?_)
      refine vv_istore hC d_R_readName_15 (by decide) [1, 2, 3, 4, 0] (L2 := [(0, .ref (a_R 0)), (1, .ref (a_C 0)), (2, .int v2), (3, .int v3), (4, .int r_1)]) rfl ?_
      refine vv_iload hC d_R_readName_17 4 rfl ?_
      refine vv_iconst hC d_R_readName_19 (v := (-1 : Int32)) (by decide) ?_
      refine vv_icmp_eq hC 74 d_R_readName_20 (by decide) (fun cd => ?_) (fun cd => ?_)
      · have hw := hw.1 cd
        exact vv_sub [0, 1, 2] (by rfl) (hX2 I_U A_C v2 hw)
      · have hw := hw.2 cd
        refine vv_iload hC d_R_readName_23 4 rfl ?_
        refine vv_bipush hC d_R_readName_25 (v := (10 : Int32)) (by decide) ?_
        refine vv_icmp_ne hC 33 d_R_readName_27 (by decide) (fun cd => ?_) (fun cd => ?_)
        · have hw := hw.2 cd
          refine vv_aload_n hC d_R_readName_33 1 rfl rfl ?_
          refine vv_get hC (v := .ref (a_C 11)) hin_C 12 16 tb_210 d_R_readName_34 rfl rfl (by decide) rfl rfl ?_
          refine vv_iload_n hC d_R_readName_37 2 rfl rfl ?_
          refine vv_bipush hC d_R_readName_38 (v := (40 : Int32)) (by decide) ?_
          refine vv_imul hC d_R_readName_40 ?_
          refine vv_iload_n hC d_R_readName_41 3 rfl rfl ?_
          refine vv_iadd hC d_R_readName_42 ?_
          refine vv_iload hC d_R_readName_43 4 rfl ?_
          obtain ⟨hin_3, hw⟩ := hw
          refine vv_iast hC 23 0 d_R_readName_45 rfl rfl hin_3 (ws2 := kc_R cA a_R a_U a_S I_R A_R ++ kc_U cA a_U a_T I_U ++ kc_T cA a_T I_T A_T ++ kc_S cA a_S I_S A_S ++ kc_C cA a_C I_C (va_up A_C 10 (upd (A_C 10) (((v2 * (40 : Int32)) + v3)).toNatClampNeg r_1))) (st_RUTSC_CA10 ..) ?_
          refine vv_aload_n hC d_R_readName_46 1 rfl rfl ?_
          refine vv_get hC (v := .ref (a_C 10)) hin_C 12 15 tb_206 d_R_readName_47 rfl rfl (by decide) rfl rfl ?_
          refine vv_iload_n hC d_R_readName_50 2 rfl rfl ?_
          refine vv_iload_n hC d_R_readName_51 3 rfl rfl ?_
          refine vv_iconst hC d_R_readName_52 (v := (1 : Int32)) (by decide) ?_
          refine vv_iadd hC d_R_readName_53 ?_
          obtain ⟨hin_4, hw⟩ := hw
          refine vv_iast hC 22 0 d_R_readName_54 rfl rfl hin_4 (ws2 := kc_R cA a_R a_U a_S I_R A_R ++ kc_U cA a_U a_T I_U ++ kc_T cA a_T I_T A_T ++ kc_S cA a_S I_S A_S ++ kc_C cA a_C I_C (va_up (va_up A_C 10 (upd (A_C 10) (((v2 * (40 : Int32)) + v3)).toNatClampNeg r_1)) 9 (upd (A_C 9) (v2).toNatClampNeg (v3 + (1 : Int32))))) (st_RUTSC_CA9 ..) ?_
          refine vv_aload_n hC d_R_readName_55 0 rfl rfl ?_
          refine vv_get hC (v := .ref (a_U 0)) hin_R 0 0 tb_104 d_R_readName_56 rfl rfl (by decide) rfl rfl ?_
          refine vv_dup hC d_R_readName_59 rfl ?_
          refine vv_get hC (v := .int (I_U 0)) hin_U 3 1 tb_82 d_R_readName_60 rfl rfl (by decide) rfl rfl ?_
          refine vv_iconst hC d_R_readName_63 (v := (1 : Int32)) (by decide) ?_
          refine vv_iadd hC d_R_readName_64 ?_
          refine vv_put hC hin_U ty_U tyok_U nmok_U 3 1 tb_82 d_R_readName_65 rfl rfl (by decide) rfl rfl rfl rfl rfl (Nat.le_of_ble_eq_true rfl) (ws2 := kc_R cA a_R a_U a_S I_R A_R ++ kc_U cA a_U a_T (va_up I_U 0 ((I_U 0) + (1 : Int32))) ++ kc_T cA a_T I_T A_T ++ kc_S cA a_S I_S A_S ++ kc_C cA a_C I_C (va_up (va_up A_C 10 (upd (A_C 10) (((v2 * (40 : Int32)) + v3)).toNatClampNeg r_1)) 9 (upd (A_C 9) (v2).toNatClampNeg (v3 + (1 : Int32))))) (st_RUTSC_UI0 ..) ?_
          refine vv_iinc hC d_R_readName_68 3 rfl (v := (v3 + (1 : Int32))) rfl (by decide) [1, 2, 3, 0, 4] (L2 := [(0, .ref (a_R 0)), (1, .ref (a_C 0)), (2, .int v2), (3, .int (v3 + (1 : Int32))), (4, .int r_1)]) rfl ?_
          refine vv_goto hC 2 d_R_readName_71 (by decide) ?_
          exact vv_sub [0, 1, 2, 3] (by rfl) (ih (va_up I_U 0 ((I_U 0) + (1 : Int32))) (va_up (va_up A_C 10 (upd (A_C 10) (((v2 * (40 : Int32)) + v3)).toNatClampNeg r_1)) 9 (upd (A_C 9) (v2).toNatClampNeg (v3 + (1 : Int32)))) v2 (v3 + (1 : Int32)) hw)
        · have hw := hw.1 cd
          refine vv_goto hC 74 d_R_readName_30 (by decide) ?_
          exact vv_sub [0, 1, 2] (by rfl) (hX2 I_U A_C v2 hw)
set_option maxHeartbeats 4000000 in
set_option maxRecDepth 100000 in
theorem c_R_readName (l : Launch) (D : va_G) (cA : Nat → ClassId) (sx : Nat → Nat) (a_R a_U a_T a_S a_C : Nat → Nat) (I_R : (Nat → Int32)) (A_R : (Nat → Nat → Int32)) (I_U : (Nat → Int32)) (I_T : (Nat → Int32)) (A_T : (Nat → Nat → Int32)) (I_S : (Nat → Int32)) (A_S : (Nat → Nat → Int32)) (I_C : (Nat → Int32)) (A_C : (Nat → Nat → Int32)) (x2 : Int32) (Q : Int32 → (Nat → Int32) → (Nat → Nat → Int32) → Prop) (hw : wp_R_readName I_U I_T A_T A_C x2 Q) : MetI l y_R_readName (Cond.code y_R_readName b_R_readName 5 (some .boolean) :: TB) ({ frames := 2, cells := 0, slots := 0, locals := 43 } : Room) D vwCl (tyl cA) (SPl sx) [.ref (a_R 0), .ref (a_C 0), .int x2] (kc_R cA a_R a_U a_S I_R A_R ++ kc_U cA a_U a_T I_U ++ kc_T cA a_T I_T A_T ++ kc_S cA a_S I_S A_S ++ kc_C cA a_C I_C A_C) (fun (r : Int32) (u : (Nat → Int32) × (Nat → Nat → Int32)) => Q r u.1 u.2) (fun u : (Nat → Int32) × (Nat → Nat → Int32) => kc_R cA a_R a_U a_S I_R A_R ++ kc_U cA a_U a_T u.1 ++ kc_T cA a_T I_T A_T ++ kc_S cA a_S I_S A_S ++ kc_C cA a_C I_C u.2) := by
  refine vv_entryI (cc := b_R_readName) (own := R_R) (L := [(0, .ref (a_R 0)), (1, .ref (a_C 0)), (2, .int x2)]) (by decide) rfl rfl (Nat.le_of_ble_eq_true rfl) rfl (fun p e s m args below meth c A hC => ?_)
  unfold wp_R_readName at hw
  refine vv_iconst hC d_R_readName_0 (v := (0 : Int32)) (by decide) ?_
  refine vv_istore_n hC d_R_readName_1 rfl (by decide) [1, 2, 3, 0] (L2 := [(0, .ref (a_R 0)), (1, .ref (a_C 0)), (2, .int x2), (3, .int (0 : Int32))]) rfl ?_
  obtain ⟨m2, hw⟩ := hw
  refine vv_sub [0, 1, 2, 3] (by rfl) (l_R_readName_L2 a_R a_U a_T a_S a_C I_R A_R I_T A_T I_S A_S I_C Q _ hC (fun I_U_5 A_C_6 v2_7 hw => ?_) m2 I_U A_C x2 (0 : Int32) hw)
  refine vv_aload_n hC d_R_readName_74 1 rfl rfl ?_
  refine vv_get hC (v := .ref (a_C 10)) hin_C 12 15 tb_206 d_R_readName_75 rfl rfl (by decide) rfl rfl ?_
  refine vv_iload_n hC d_R_readName_78 2 rfl rfl ?_
  obtain ⟨hin_8, hw⟩ := hw
  refine vv_iald hC 22 0 d_R_readName_79 rfl rfl hin_8 ?_
  refine vv_if_le hC 95 d_R_readName_80 (by decide) (fun cd => ?_) (fun cd => ?_)
  · have hw := hw.1 cd
    refine vv_aload_n hC d_R_readName_95 0 rfl rfl ?_
    refine vv_get hC (v := .ref (a_U 0)) hin_R 0 0 tb_104 d_R_readName_96 rfl rfl (by decide) rfl rfl ?_
    refine vv_iconst hC d_R_readName_99 (v := (1 : Int32)) (by decide) ?_
    refine vv_aload_n hC d_R_readName_100 0 rfl rfl ?_
    refine vv_get hC (v := .ref (a_U 0)) hin_R 0 0 tb_104 d_R_readName_101 rfl rfl (by decide) rfl rfl ?_
    refine vv_get hC (v := .int (I_U_5 0)) hin_U 3 1 tb_82 d_R_readName_104 rfl rfl (by decide) rfl rfl ?_
    refine vv_callVI (wr := kc_R cA a_R a_U a_S I_R A_R ++ kc_S cA a_S I_S A_S ++ kc_C cA a_C I_C A_C_6) hC (c_U_fail l D cA sx a_U a_T I_U_5 I_T A_T (1 : Int32) (I_U_5 0) _ hw) (cw_R_121 hC) d_R_readName_107 [] [3, 4, 5, 6] [0, 1, 2, 7, 8, 9, 10, 11, 12, 13, 14, 15, 16, 17, 18, 19, 20, 21, 22, 23, 24] [0, 1, 2, 21, 22, 23, 24, 3, 4, 5, 6, 7, 8, 9, 10, 11, 12, 13, 14, 15, 16, 17, 18, 19, 20] (fun u_10 : (Nat → Int32) => kc_R cA a_R a_U a_S I_R A_R ++ kc_U cA a_U a_T u_10 ++ kc_T cA a_T I_T A_T ++ kc_S cA a_S I_S A_S ++ kc_C cA a_C I_C A_C_6) ⟨Nat.zero_le _, Nat.zero_le _⟩ rfl rfl (fun _ => rfl) rfl rfl rfl rfl rfl rfl rfl rfl (Nat.le_of_ble_eq_true rfl) (fun r_9 u_10 hw => ?_)
    obtain ⟨hnr_12, hw⟩ := hw
    exact vv_zret hC d_R_readName_110 hnr_12 (u_10, A_C_6) hw rfl
  · have hw := hw.2 cd
    refine vv_aload_n hC d_R_readName_83 0 rfl rfl ?_
    refine vv_get hC (v := .ref (a_U 0)) hin_R 0 0 tb_104 d_R_readName_84 rfl rfl (by decide) rfl rfl ?_
    refine vv_bipush hC d_R_readName_87 (v := (10 : Int32)) (by decide) ?_
    refine vv_callVI (wr := kc_R cA a_R a_U a_S I_R A_R ++ kc_S cA a_S I_S A_S ++ kc_C cA a_C I_C A_C_6) hC (c_U_expect l D cA sx a_U a_T I_U_5 I_T A_T (10 : Int32) _ hw) (cw_R_84 hC) d_R_readName_89 [] [3, 4, 5, 6] [0, 1, 2, 7, 8, 9, 10, 11, 12, 13, 14, 15, 16, 17, 18, 19, 20, 21, 22, 23, 24] [0, 1, 2, 21, 22, 23, 24, 3, 4, 5, 6, 7, 8, 9, 10, 11, 12, 13, 14, 15, 16, 17, 18, 19, 20] (fun u_14 : (Nat → Int32) => kc_R cA a_R a_U a_S I_R A_R ++ kc_U cA a_U a_T u_14 ++ kc_T cA a_T I_T A_T ++ kc_S cA a_S I_S A_S ++ kc_C cA a_C I_C A_C_6) ⟨Nat.zero_le _, Nat.zero_le _⟩ rfl rfl (fun _ => rfl) rfl rfl rfl rfl rfl rfl rfl rfl (Nat.le_of_ble_eq_true rfl) (fun r_13 u_14 hw => ?_)
    refine vv_goto hC 110 d_R_readName_92 (by decide) ?_
    obtain ⟨hnr_16, hw⟩ := hw
    exact vv_zret hC d_R_readName_110 hnr_16 (u_14, A_C_6) hw rfl
set_option maxHeartbeats 4000000 in
set_option maxRecDepth 100000 in
theorem l_R_readSymbol_b76 {p : Program} {l : Launch} {e : Env} {s : State} {m : MethodId} {args : Array Value} {below : List Frame} {meth : Method} {c : Code} {D : va_G} {cA : Nat → ClassId} {sx : Nat → Nat} {A : Nat → Prop} (a_R a_U a_T a_S a_C : Nat → Nat) (I_R : (Nat → Int32)) (A_R : (Nat → Nat → Int32)) (I_T : (Nat → Int32)) (A_T : (Nat → Nat → Int32)) (I_S : (Nat → Int32)) (A_S : (Nat → Nat → Int32)) (I_C : (Nat → Int32)) (Q : Int32 → (Nat → Int32) → (Nat → Nat → Int32) → Prop) (hC : CX p s m args meth c b_R_readSymbol R_R TB 4 D vwCl (tyl cA) A (SPl sx) (some .boolean)) : ∀ (I_U : (Nat → Int32)) (A_C : (Nat → Nat → Int32)), wp_R_readSymbol_b76 I_T A_T I_C Q I_U A_C → VV p l e ({ frames := 3, cells := 0, slots := 0, locals := 67 } : Room) s m args below meth c 4 D vwCl A 0 0 (QI below args s D vwCl (tyl cA) A (fun (r : Int32) (u : (Nat → Int32) × (Nat → Nat → Int32)) => Q r u.1 u.2) (fun u : (Nat → Int32) × (Nat → Nat → Int32) => kc_R cA a_R a_U a_S I_R A_R ++ kc_U cA a_U a_T u.1 ++ kc_T cA a_T I_T A_T ++ kc_S cA a_S I_S A_S ++ kc_C cA a_C I_C u.2)) (kc_R cA a_R a_U a_S I_R A_R ++ kc_U cA a_U a_T I_U ++ kc_T cA a_T I_T A_T ++ kc_S cA a_S I_S A_S ++ kc_C cA a_C I_C A_C) 76 [(0, .ref (a_R 0))] [] := by
  intro I_U A_C hw
  unfold wp_R_readSymbol_b76 at hw
  refine vv_aload_n hC d_R_readSymbol_76 0 rfl rfl ?_
  refine vv_get hC (v := .ref (a_U 0)) hin_R 0 0 tb_104 d_R_readSymbol_77 rfl rfl (by decide) rfl rfl ?_
  refine vv_iconst hC d_R_readSymbol_80 (v := (1 : Int32)) (by decide) ?_
  refine vv_aload_n hC d_R_readSymbol_81 0 rfl rfl ?_
  refine vv_get hC (v := .ref (a_U 0)) hin_R 0 0 tb_104 d_R_readSymbol_82 rfl rfl (by decide) rfl rfl ?_
  refine vv_get hC (v := .int (I_U 0)) hin_U 3 1 tb_82 d_R_readSymbol_85 rfl rfl (by decide) rfl rfl ?_
  refine vv_callVI (wr := kc_R cA a_R a_U a_S I_R A_R ++ kc_S cA a_S I_S A_S ++ kc_C cA a_C I_C A_C) hC (c_U_fail l D cA sx a_U a_T I_U I_T A_T (1 : Int32) (I_U 0) _ hw) (cw_R_121 hC) d_R_readSymbol_88 [] [3, 4, 5, 6] [0, 1, 2, 7, 8, 9, 10, 11, 12, 13, 14, 15, 16, 17, 18, 19, 20, 21, 22, 23, 24] [0, 1, 2, 21, 22, 23, 24, 3, 4, 5, 6, 7, 8, 9, 10, 11, 12, 13, 14, 15, 16, 17, 18, 19, 20] (fun u_7 : (Nat → Int32) => kc_R cA a_R a_U a_S I_R A_R ++ kc_U cA a_U a_T u_7 ++ kc_T cA a_T I_T A_T ++ kc_S cA a_S I_S A_S ++ kc_C cA a_C I_C A_C) ⟨Nat.zero_le _, Nat.zero_le _⟩ rfl rfl (fun _ => rfl) rfl rfl rfl rfl rfl rfl rfl rfl (Nat.le_of_ble_eq_true rfl) (fun r_6 u_7 hw => ?_)
  obtain ⟨hnr_9, hw⟩ := hw
  exact vv_zret hC d_R_readSymbol_91 hnr_9 (u_7, A_C) hw rfl
set_option maxHeartbeats 4000000 in
set_option maxRecDepth 100000 in
theorem c_R_readSymbol (l : Launch) (D : va_G) (cA : Nat → ClassId) (sx : Nat → Nat) (a_R a_U a_T a_S a_C : Nat → Nat) (I_R : (Nat → Int32)) (A_R : (Nat → Nat → Int32)) (I_U : (Nat → Int32)) (I_T : (Nat → Int32)) (A_T : (Nat → Nat → Int32)) (I_S : (Nat → Int32)) (A_S : (Nat → Nat → Int32)) (I_C : (Nat → Int32)) (A_C : (Nat → Nat → Int32)) (x2 : Int32) (Q : Int32 → (Nat → Int32) → (Nat → Nat → Int32) → Prop) (hw : wp_R_readSymbol I_U I_T A_T I_C A_C x2 Q) : MetI l y_R_readSymbol (Cond.code y_R_readSymbol b_R_readSymbol 4 (some .boolean) :: TB) ({ frames := 3, cells := 0, slots := 0, locals := 67 } : Room) D vwCl (tyl cA) (SPl sx) [.ref (a_R 0), .ref (a_C 0), .int x2] (kc_R cA a_R a_U a_S I_R A_R ++ kc_U cA a_U a_T I_U ++ kc_T cA a_T I_T A_T ++ kc_S cA a_S I_S A_S ++ kc_C cA a_C I_C A_C) (fun (r : Int32) (u : (Nat → Int32) × (Nat → Nat → Int32)) => Q r u.1 u.2) (fun u : (Nat → Int32) × (Nat → Nat → Int32) => kc_R cA a_R a_U a_S I_R A_R ++ kc_U cA a_U a_T u.1 ++ kc_T cA a_T I_T A_T ++ kc_S cA a_S I_S A_S ++ kc_C cA a_C I_C u.2) := by
  refine vv_entryI (cc := b_R_readSymbol) (own := R_R) (L := [(0, .ref (a_R 0)), (1, .ref (a_C 0)), (2, .int x2)]) (by decide) rfl rfl (Nat.le_of_ble_eq_true rfl) rfl (fun p e s m args below meth c A hC => ?_)
  unfold wp_R_readSymbol at hw
  refine vv_iload_n hC d_R_readSymbol_0 2 rfl rfl ?_
  refine vv_iconst hC d_R_readSymbol_1 (v := (-1 : Int32)) (by decide) ?_
  refine vv_icmp_ne hC 21 d_R_readSymbol_2 (by decide) (fun cd => ?_) (fun cd => ?_)
  · have hw := hw.2 cd
    refine vv_aload_n hC d_R_readSymbol_21 0 rfl rfl ?_
    refine vv_get hC (v := .ref (a_U 0)) hin_R 0 0 tb_104 d_R_readSymbol_22 rfl rfl (by decide) rfl rfl ?_
    refine vv_dup hC d_R_readSymbol_25 rfl ?_
    refine vv_get hC (v := .int (I_U 0)) hin_U 3 1 tb_82 d_R_readSymbol_26 rfl rfl (by decide) rfl rfl ?_
    refine vv_iconst hC d_R_readSymbol_29 (v := (1 : Int32)) (by decide) ?_
    refine vv_iadd hC d_R_readSymbol_30 ?_
    refine vv_put hC hin_U ty_U tyok_U nmok_U 3 1 tb_82 d_R_readSymbol_31 rfl rfl (by decide) rfl rfl rfl rfl rfl (Nat.le_of_ble_eq_true rfl) (ws2 := kc_R cA a_R a_U a_S I_R A_R ++ kc_U cA a_U a_T (va_up I_U 0 ((I_U 0) + (1 : Int32))) ++ kc_T cA a_T I_T A_T ++ kc_S cA a_S I_S A_S ++ kc_C cA a_C I_C A_C) (st_RUTSC_UI0 ..) ?_
    refine vv_aload_n hC d_R_readSymbol_34 0 rfl rfl ?_
    refine vv_get hC (v := .ref (a_U 0)) hin_R 0 0 tb_104 d_R_readSymbol_35 rfl rfl (by decide) rfl rfl ?_
    refine vv_callVI (wr := kc_R cA a_R a_U a_S I_R A_R ++ kc_S cA a_S I_S A_S ++ kc_C cA a_C I_C A_C) hC (c_U_readNumber l D cA sx a_U a_T (va_up I_U 0 ((I_U 0) + (1 : Int32))) I_T A_T _ hw) (cw_R_125 hC) d_R_readSymbol_38 [] [3, 4, 5, 6] [0, 1, 2, 7, 8, 9, 10, 11, 12, 13, 14, 15, 16, 17, 18, 19, 20, 21, 22, 23, 24] [0, 1, 2, 21, 22, 23, 24, 3, 4, 5, 6, 7, 8, 9, 10, 11, 12, 13, 14, 15, 16, 17, 18, 19, 20] (fun u_2 : (Nat → Int32) => kc_R cA a_R a_U a_S I_R A_R ++ kc_U cA a_U a_T u_2 ++ kc_T cA a_T I_T A_T ++ kc_S cA a_S I_S A_S ++ kc_C cA a_C I_C A_C) ⟨Nat.zero_le _, Nat.zero_le _⟩ rfl rfl (fun _ => rfl) rfl rfl rfl rfl rfl rfl rfl rfl (Nat.le_of_ble_eq_true rfl) (fun r_1 u_2 hw => ?_)
    refine vv_if_ne hC 46 d_R_readSymbol_41 (by decide) (fun cd => ?_) (fun cd => ?_)
    · have hw := hw.2 cd
      refine vv_aload_n hC d_R_readSymbol_46 0 rfl rfl ?_
      refine vv_get hC (v := .ref (a_U 0)) hin_R 0 0 tb_104 d_R_readSymbol_47 rfl rfl (by decide) rfl rfl ?_
      refine vv_get hC (v := .int (u_2 2)) hin_U 3 3 tb_86 d_R_readSymbol_50 rfl rfl (by decide) rfl rfl ?_
      refine vv_istore_n hC d_R_readSymbol_53 rfl (by decide) [1, 2, 3, 0] (L2 := [(0, .ref (a_R 0)), (1, .ref (a_C 0)), (2, .int x2), (3, .int (u_2 2))]) rfl ?_
      refine vv_iload_n hC d_R_readSymbol_54 3 rfl rfl ?_
      refine vv_aload_n hC d_R_readSymbol_55 1 rfl rfl ?_
      refine vv_iload_n hC d_R_readSymbol_56 2 rfl rfl ?_
      refine vv_callVI (wr := kc_R cA a_R a_U a_S I_R A_R ++ kc_U cA a_U a_T u_2 ++ kc_T cA a_T I_T A_T ++ kc_S cA a_S I_S A_S) hC (c_C_countOf l D cA sx a_C I_C A_C x2 _ hw) (cw_R_190 hC) d_R_readSymbol_57 [.int (u_2 2)] [12, 13, 14, 15, 16, 17, 18, 19, 20, 21, 22, 23, 24] [0, 1, 2, 3, 4, 5, 6, 7, 8, 9, 10, 11] [0, 1, 2, 3, 4, 5, 6, 7, 8, 9, 10, 11, 12, 13, 14, 15, 16, 17, 18, 19, 20, 21, 22, 23, 24] (fun u_5 : Unit => kc_R cA a_R a_U a_S I_R A_R ++ kc_U cA a_U a_T u_2 ++ kc_T cA a_T I_T A_T ++ kc_S cA a_S I_S A_S ++ kc_C cA a_C I_C A_C) ⟨Nat.zero_le _, Nat.zero_le _⟩ rfl rfl (fun _ => rfl) rfl rfl rfl rfl rfl rfl rfl rfl (Nat.le_of_ble_eq_true rfl) (fun r_4 u_5 hw => ?_)
      refine vv_icmp_ge hC 76 d_R_readSymbol_60 (by decide) (fun cd => ?_) (fun cd => ?_)
      · have hw := hw.1 cd
        exact vv_sub [0] (by rfl) (l_R_readSymbol_b76 a_R a_U a_T a_S a_C I_R A_R I_T A_T I_S A_S I_C Q hC u_2 A_C hw)
      · have hw := hw.2 cd
        refine vv_aload_n hC d_R_readSymbol_63 1 rfl rfl ?_
        refine vv_get hC (v := .ref (a_C 10)) hin_C 12 15 tb_206 d_R_readSymbol_64 rfl rfl (by decide) rfl rfl ?_
        refine vv_iload_n hC d_R_readSymbol_67 2 rfl rfl ?_
        refine vv_iload_n hC d_R_readSymbol_68 3 rfl rfl ?_
        refine vv_callSNI (wr := kc_R cA a_R a_U a_S I_R A_R ++ kc_U cA a_U a_T u_2 ++ kc_T cA a_T I_T A_T ++ kc_S cA a_S I_S A_S ++ kc_C cA a_C I_C A_C) hC (c_F_slotOf l D cA sx x2 (u_2 2) _ hw) (cw_R_196 hC) d_R_readSymbol_69 [.ref (a_C 10)] [] [0, 1, 2, 3, 4, 5, 6, 7, 8, 9, 10, 11, 12, 13, 14, 15, 16, 17, 18, 19, 20, 21, 22, 23, 24] [0, 1, 2, 3, 4, 5, 6, 7, 8, 9, 10, 11, 12, 13, 14, 15, 16, 17, 18, 19, 20, 21, 22, 23, 24] (fun u_11 : Unit => kc_R cA a_R a_U a_S I_R A_R ++ kc_U cA a_U a_T u_2 ++ kc_T cA a_T I_T A_T ++ kc_S cA a_S I_S A_S ++ kc_C cA a_C I_C A_C) ⟨Nat.zero_le _, Nat.zero_le _⟩ rfl rfl (fun _ => rfl) rfl rfl rfl rfl rfl rfl (Nat.le_of_ble_eq_true rfl) (fun r_10 u_11 hw => ?_)
        obtain ⟨hin_12, hw⟩ := hw
        refine vv_iald hC 22 0 d_R_readSymbol_72 rfl rfl hin_12 ?_
        refine vv_if_le hC 92 d_R_readSymbol_73 (by decide) (fun cd => ?_) (fun cd => ?_)
        · have hw := hw.1 cd
          refine vv_aload_n hC d_R_readSymbol_92 0 rfl rfl ?_
          refine vv_get hC (v := .ref (a_U 0)) hin_R 0 0 tb_104 d_R_readSymbol_93 rfl rfl (by decide) rfl rfl ?_
          refine vv_bipush hC d_R_readSymbol_96 (v := (32 : Int32)) (by decide) ?_
          refine vv_callVI (wr := kc_R cA a_R a_U a_S I_R A_R ++ kc_S cA a_S I_S A_S ++ kc_C cA a_C I_C A_C) hC (c_U_expect l D cA sx a_U a_T u_2 I_T A_T (32 : Int32) _ hw) (cw_R_84 hC) d_R_readSymbol_98 [] [3, 4, 5, 6] [0, 1, 2, 7, 8, 9, 10, 11, 12, 13, 14, 15, 16, 17, 18, 19, 20, 21, 22, 23, 24] [0, 1, 2, 21, 22, 23, 24, 3, 4, 5, 6, 7, 8, 9, 10, 11, 12, 13, 14, 15, 16, 17, 18, 19, 20] (fun u_14 : (Nat → Int32) => kc_R cA a_R a_U a_S I_R A_R ++ kc_U cA a_U a_T u_14 ++ kc_T cA a_T I_T A_T ++ kc_S cA a_S I_S A_S ++ kc_C cA a_C I_C A_C) ⟨Nat.zero_le _, Nat.zero_le _⟩ rfl rfl (fun _ => rfl) rfl rfl rfl rfl rfl rfl rfl rfl (Nat.le_of_ble_eq_true rfl) (fun r_13 u_14 hw => ?_)
          refine vv_if_eq hC 121 d_R_readSymbol_101 (by decide) (fun cd => ?_) (fun cd => ?_)
          · have hw := hw.1 cd
            refine vv_iconst hC d_R_readSymbol_121 (v := (0 : Int32)) (by decide) ?_
            exact vv_zret hC d_R_readSymbol_122 rfl (u_14, A_C) hw rfl
          · have hw := hw.2 cd
            refine vv_aload_n hC d_R_readSymbol_104 0 rfl rfl ?_
            refine vv_aload_n hC d_R_readSymbol_105 1 rfl rfl ?_
            refine vv_iload_n hC d_R_readSymbol_106 2 rfl rfl ?_
            refine vv_iload_n hC d_R_readSymbol_107 3 rfl rfl ?_
            refine vv_callSNI (wr := kc_R cA a_R a_U a_S I_R A_R ++ kc_U cA a_U a_T u_14 ++ kc_T cA a_T I_T A_T ++ kc_S cA a_S I_S A_S ++ kc_C cA a_C I_C A_C) hC (c_F_slotOf l D cA sx x2 (u_2 2) _ hw) (cw_R_196 hC) d_R_readSymbol_108 [.ref (a_C 0), .ref (a_R 0)] [] [0, 1, 2, 3, 4, 5, 6, 7, 8, 9, 10, 11, 12, 13, 14, 15, 16, 17, 18, 19, 20, 21, 22, 23, 24] [0, 1, 2, 3, 4, 5, 6, 7, 8, 9, 10, 11, 12, 13, 14, 15, 16, 17, 18, 19, 20, 21, 22, 23, 24] (fun u_17 : Unit => kc_R cA a_R a_U a_S I_R A_R ++ kc_U cA a_U a_T u_14 ++ kc_T cA a_T I_T A_T ++ kc_S cA a_S I_S A_S ++ kc_C cA a_C I_C A_C) ⟨Nat.zero_le _, Nat.zero_le _⟩ rfl rfl (fun _ => rfl) rfl rfl rfl rfl rfl rfl (Nat.le_of_ble_eq_true rfl) (fun r_16 u_17 hw => ?_)
            refine vv_callVI (wr := []) hC (c_R_readName l D cA sx a_R a_U a_T a_S a_C I_R A_R u_14 I_T A_T I_S A_S I_C A_C r_16 _ hw) (cw_R_200 hC) d_R_readSymbol_111 [] [0, 1, 2, 3, 4, 5, 6, 7, 8, 9, 10, 11, 12, 13, 14, 15, 16, 17, 18, 19, 20, 21, 22, 23, 24] [] [0, 1, 2, 3, 4, 5, 6, 7, 8, 9, 10, 11, 12, 13, 14, 15, 16, 17, 18, 19, 20, 21, 22, 23, 24] (fun u_19 : (Nat → Int32) × (Nat → Nat → Int32) => kc_R cA a_R a_U a_S I_R A_R ++ kc_U cA a_U a_T u_19.1 ++ kc_T cA a_T I_T A_T ++ kc_S cA a_S I_S A_S ++ kc_C cA a_C I_C u_19.2) ⟨Nat.zero_le _, Nat.zero_le _⟩ rfl rfl (fun _ => rfl) rfl rfl rfl rfl rfl rfl rfl rfl (Nat.le_of_ble_eq_true rfl) (fun r_18 u_19 hw => ?_)
            refine vv_if_eq hC 121 d_R_readSymbol_114 (by decide) (fun cd => ?_) (fun cd => ?_)
            · have hw := hw.1 cd
              refine vv_iconst hC d_R_readSymbol_121 (v := (0 : Int32)) (by decide) ?_
              exact vv_zret hC d_R_readSymbol_122 rfl (u_19.1, u_19.2) hw rfl
            · have hw := hw.2 cd
              refine vv_iconst hC d_R_readSymbol_117 (v := (1 : Int32)) (by decide) ?_
              refine vv_goto hC 122 d_R_readSymbol_118 (by decide) ?_
              exact vv_zret hC d_R_readSymbol_122 rfl (u_19.1, u_19.2) hw rfl
        · have hw := hw.2 cd
          exact vv_sub [0] (by rfl) (l_R_readSymbol_b76 a_R a_U a_T a_S a_C I_R A_R I_T A_T I_S A_S I_C Q hC u_2 A_C hw)
    · have hw := hw.1 cd
      refine vv_iconst hC d_R_readSymbol_44 (v := (0 : Int32)) (by decide) ?_
      exact vv_zret hC d_R_readSymbol_45 rfl (u_2, A_C) hw rfl
  · have hw := hw.1 cd
    refine vv_aload_n hC d_R_readSymbol_5 0 rfl rfl ?_
    refine vv_get hC (v := .ref (a_U 0)) hin_R 0 0 tb_104 d_R_readSymbol_6 rfl rfl (by decide) rfl rfl ?_
    refine vv_iconst hC d_R_readSymbol_9 (v := (1 : Int32)) (by decide) ?_
    refine vv_aload_n hC d_R_readSymbol_10 0 rfl rfl ?_
    refine vv_get hC (v := .ref (a_U 0)) hin_R 0 0 tb_104 d_R_readSymbol_11 rfl rfl (by decide) rfl rfl ?_
    refine vv_get hC (v := .int (I_U 0)) hin_U 3 1 tb_82 d_R_readSymbol_14 rfl rfl (by decide) rfl rfl ?_
    refine vv_callVI (wr := kc_R cA a_R a_U a_S I_R A_R ++ kc_S cA a_S I_S A_S ++ kc_C cA a_C I_C A_C) hC (c_U_fail l D cA sx a_U a_T I_U I_T A_T (1 : Int32) (I_U 0) _ hw) (cw_R_121 hC) d_R_readSymbol_17 [] [3, 4, 5, 6] [0, 1, 2, 7, 8, 9, 10, 11, 12, 13, 14, 15, 16, 17, 18, 19, 20, 21, 22, 23, 24] [0, 1, 2, 21, 22, 23, 24, 3, 4, 5, 6, 7, 8, 9, 10, 11, 12, 13, 14, 15, 16, 17, 18, 19, 20] (fun u_23 : (Nat → Int32) => kc_R cA a_R a_U a_S I_R A_R ++ kc_U cA a_U a_T u_23 ++ kc_T cA a_T I_T A_T ++ kc_S cA a_S I_S A_S ++ kc_C cA a_C I_C A_C) ⟨Nat.zero_le _, Nat.zero_le _⟩ rfl rfl (fun _ => rfl) rfl rfl rfl rfl rfl rfl rfl rfl (Nat.le_of_ble_eq_true rfl) (fun r_22 u_23 hw => ?_)
    obtain ⟨hnr_25, hw⟩ := hw
    exact vv_zret hC d_R_readSymbol_20 hnr_25 (u_23, A_C) hw rfl
set_option maxHeartbeats 4000000 in
set_option maxRecDepth 100000 in
theorem l_R_readSymbols_L2 {p : Program} {l : Launch} {e : Env} {s : State} {m : MethodId} {args : Array Value} {below : List Frame} {meth : Method} {c : Code} {D : va_G} {cA : Nat → ClassId} {sx : Nat → Nat} {A : Nat → Prop} (a_R a_U a_T a_S a_C : Nat → Nat) (I_R : (Nat → Int32)) (A_R : (Nat → Nat → Int32)) (I_T : (Nat → Int32)) (A_T : (Nat → Nat → Int32)) (I_S : (Nat → Int32)) (A_S : (Nat → Nat → Int32)) (I_C : (Nat → Int32)) (Q : Int32 → (Nat → Int32) → (Nat → Nat → Int32) → Prop) (X2 : (Nat → Int32) → (Nat → Nat → Int32) → Prop) (hC : CX p s m args meth c b_R_readSymbols R_R TB 4 D vwCl (tyl cA) A (SPl sx) (some .boolean)) (hX2 : ∀ (I_U : (Nat → Int32)) (A_C : (Nat → Nat → Int32)), X2 I_U A_C → VV p l e ({ frames := 5, cells := 0, slots := 0, locals := 106 } : Room) s m args below meth c 4 D vwCl A 0 0 (QI below args s D vwCl (tyl cA) A (fun (r : Int32) (u : (Nat → Int32) × (Nat → Nat → Int32)) => Q r u.1 u.2) (fun u : (Nat → Int32) × (Nat → Nat → Int32) => kc_R cA a_R a_U a_S I_R A_R ++ kc_U cA a_U a_T u.1 ++ kc_T cA a_T I_T A_T ++ kc_S cA a_S I_S A_S ++ kc_C cA a_C I_C u.2)) (kc_R cA a_R a_U a_S I_R A_R ++ kc_U cA a_U a_T I_U ++ kc_T cA a_T I_T A_T ++ kc_S cA a_S I_S A_S ++ kc_C cA a_C I_C A_C) 72 [] []) : ∀ (n2 : Nat) (I_U : (Nat → Int32)) (A_C : (Nat → Nat → Int32)) (v2 : Int32), wp_R_readSymbols_L2 I_T A_T I_C Q X2 n2 I_U A_C v2 → VV p l e ({ frames := 5, cells := 0, slots := 0, locals := 106 } : Room) s m args below meth c 4 D vwCl A 0 0 (QI below args s D vwCl (tyl cA) A (fun (r : Int32) (u : (Nat → Int32) × (Nat → Nat → Int32)) => Q r u.1 u.2) (fun u : (Nat → Int32) × (Nat → Nat → Int32) => kc_R cA a_R a_U a_S I_R A_R ++ kc_U cA a_U a_T u.1 ++ kc_T cA a_T I_T A_T ++ kc_S cA a_S I_S A_S ++ kc_C cA a_C I_C u.2)) (kc_R cA a_R a_U a_S I_R A_R ++ kc_U cA a_U a_T I_U ++ kc_T cA a_T I_T A_T ++ kc_S cA a_S I_S A_S ++ kc_C cA a_C I_C A_C) 2 [(0, .ref (a_R 0)), (1, .ref (a_C 0)), (2, .int v2)] [] := by
  intro n2
  induction n2 with
  | zero =>
    intro I_U A_C v2 hw
    exact absurd hw (fun z => z)
  | succ n2 ih =>
    intro I_U A_C v2 hw
    unfold wp_R_readSymbols_L2 at hw
    refine vv_iload_n hC d_R_readSymbols_2 2 rfl rfl ?_
    refine vv_bipush hC d_R_readSymbols_3 (v := (24 : Int32)) (by decide) ?_
    refine vv_icmp_gt hC 72 d_R_readSymbols_5 (by decide) (fun cd => ?_) (fun cd => ?_)
    · have hw := hw.1 cd
      exact vv_sub [] (by rfl) (hX2 I_U A_C hw)
    · have hw := hw.2 cd
      refine vv_aload_n hC d_R_readSymbols_8 0 rfl rfl ?_
      refine vv_get hC (v := .ref (a_U 0)) hin_R 0 0 tb_104 d_R_readSymbols_9 rfl rfl (by decide) rfl rfl ?_
      refine vv_callVI (wr := kc_R cA a_R a_U a_S I_R A_R ++ kc_S cA a_S I_S A_S ++ kc_C cA a_C I_C A_C) hC (c_U_peek l D cA sx a_U a_T I_U I_T A_T _ hw) (cw_R_88 hC) d_R_readSymbols_12 [] [3, 4, 5, 6] [0, 1, 2, 7, 8, 9, 10, 11, 12, 13, 14, 15, 16, 17, 18, 19, 20, 21, 22, 23, 24] [0, 1, 2, 21, 22, 23, 24, 3, 4, 5, 6, 7, 8, 9, 10, 11, 12, 13, 14, 15, 16, 17, 18, 19, 20] (fun u_2 : Unit => kc_R cA a_R a_U a_S I_R A_R ++ kc_U cA a_U a_T I_U ++ kc_T cA a_T I_T A_T ++ kc_S cA a_S I_S A_S ++ kc_C cA a_C I_C A_C) ⟨Nat.zero_le _, Nat.zero_le _⟩ rfl rfl (fun _ => rfl) rfl rfl rfl rfl rfl rfl rfl rfl (Nat.le_of_ble_eq_true rfl) (fun r_1 u_2 hw => ?_)
      refine vv_istore_n hC d_R_readSymbols_15 rfl (by decide) [1, 2, 3, 0] (L2 := [(0, .ref (a_R 0)), (1, .ref (a_C 0)), (2, .int v2), (3, .int r_1)]) rfl ?_
      refine vv_iload_n hC d_R_readSymbols_16 3 rfl rfl ?_
      refine vv_iconst hC d_R_readSymbols_17 (v := (-1 : Int32)) (by decide) ?_
      refine vv_icmp_ne hC 23 d_R_readSymbols_18 (by decide) (fun cd => ?_) (fun cd => ?_)
      · have hw := hw.2 cd
        refine vv_iload_n hC d_R_readSymbols_23 3 rfl rfl ?_
        refine vv_bipush hC d_R_readSymbols_24 (v := (99 : Int32)) (by decide) ?_
        refine vv_icmp_ne hC 52 d_R_readSymbols_26 (by decide) (fun cd => ?_) (fun cd => ?_)
        · have hw := hw.2 cd
          refine vv_aload_n hC d_R_readSymbols_52 0 rfl rfl ?_
          refine vv_aload_n hC d_R_readSymbols_53 1 rfl rfl ?_
          refine vv_iload_n hC d_R_readSymbols_54 3 rfl rfl ?_
          refine vv_callSI (wr := kc_R cA a_R a_U a_S I_R A_R ++ kc_U cA a_U a_T I_U ++ kc_T cA a_T I_T A_T ++ kc_S cA a_S I_S A_S ++ kc_C cA a_C I_C A_C) hC (c_R_kindOf l D cA sx r_1 _ hw) (cw_R_174 hC) d_R_readSymbols_55 [.ref (a_C 0), .ref (a_R 0)] [] [0, 1, 2, 3, 4, 5, 6, 7, 8, 9, 10, 11, 12, 13, 14, 15, 16, 17, 18, 19, 20, 21, 22, 23, 24] [0, 1, 2, 3, 4, 5, 6, 7, 8, 9, 10, 11, 12, 13, 14, 15, 16, 17, 18, 19, 20, 21, 22, 23, 24] (fun u_4 : Unit => kc_R cA a_R a_U a_S I_R A_R ++ kc_U cA a_U a_T I_U ++ kc_T cA a_T I_T A_T ++ kc_S cA a_S I_S A_S ++ kc_C cA a_C I_C A_C) ⟨Nat.zero_le _, Nat.zero_le _⟩ rfl rfl (fun _ => rfl) rfl rfl rfl rfl rfl rfl (Nat.le_of_ble_eq_true rfl) (fun r_3 u_4 hw => ?_)
          refine vv_callVI (wr := []) hC (c_R_readSymbol l D cA sx a_R a_U a_T a_S a_C I_R A_R I_U I_T A_T I_S A_S I_C A_C r_3 _ hw) (cw_R_178 hC) d_R_readSymbols_58 [] [0, 1, 2, 3, 4, 5, 6, 7, 8, 9, 10, 11, 12, 13, 14, 15, 16, 17, 18, 19, 20, 21, 22, 23, 24] [] [0, 1, 2, 3, 4, 5, 6, 7, 8, 9, 10, 11, 12, 13, 14, 15, 16, 17, 18, 19, 20, 21, 22, 23, 24] (fun u_6 : (Nat → Int32) × (Nat → Nat → Int32) => kc_R cA a_R a_U a_S I_R A_R ++ kc_U cA a_U a_T u_6.1 ++ kc_T cA a_T I_T A_T ++ kc_S cA a_S I_S A_S ++ kc_C cA a_C I_C u_6.2) ⟨Nat.zero_le _, Nat.zero_le _⟩ rfl rfl (fun _ => rfl) rfl rfl rfl rfl rfl rfl rfl rfl (Nat.le_of_ble_eq_true rfl) (fun r_5 u_6 hw => ?_)
          refine vv_if_ne hC 66 d_R_readSymbols_61 (by decide) (fun cd => ?_) (fun cd => ?_)
          · have hw := hw.2 cd
            refine vv_iinc hC d_R_readSymbols_66 2 rfl (v := (v2 + (1 : Int32))) rfl (by decide) [1, 2, 0, 3] (L2 := [(0, .ref (a_R 0)), (1, .ref (a_C 0)), (2, .int (v2 + (1 : Int32))), (3, .int r_1)]) rfl ?_
            refine vv_goto hC 2 d_R_readSymbols_69 (by decide) ?_
            exact vv_sub [0, 1, 2] (by rfl) (ih u_6.1 u_6.2 (v2 + (1 : Int32)) hw)
          · have hw := hw.1 cd
            refine vv_iconst hC d_R_readSymbols_64 (v := (0 : Int32)) (by decide) ?_
            exact vv_zret hC d_R_readSymbols_65 rfl (u_6.1, u_6.2) hw rfl
        · have hw := hw.1 cd
          refine vv_aload_n hC d_R_readSymbols_29 0 rfl rfl ?_
          refine vv_get hC (v := .ref (a_U 0)) hin_R 0 0 tb_104 d_R_readSymbols_30 rfl rfl (by decide) rfl rfl ?_
          refine vv_dup hC d_R_readSymbols_33 rfl ?_
          refine vv_get hC (v := .int (I_U 0)) hin_U 3 1 tb_82 d_R_readSymbols_34 rfl rfl (by decide) rfl rfl ?_
          refine vv_iconst hC d_R_readSymbols_37 (v := (1 : Int32)) (by decide) ?_
          refine vv_iadd hC d_R_readSymbols_38 ?_
          refine vv_put hC hin_U ty_U tyok_U nmok_U 3 1 tb_82 d_R_readSymbols_39 rfl rfl (by decide) rfl rfl rfl rfl rfl (Nat.le_of_ble_eq_true rfl) (ws2 := kc_R cA a_R a_U a_S I_R A_R ++ kc_U cA a_U a_T (va_up I_U 0 ((I_U 0) + (1 : Int32))) ++ kc_T cA a_T I_T A_T ++ kc_S cA a_S I_S A_S ++ kc_C cA a_C I_C A_C) (st_RUTSC_UI0 ..) ?_
          refine vv_aload_n hC d_R_readSymbols_42 0 rfl rfl ?_
          refine vv_get hC (v := .ref (a_U 0)) hin_R 0 0 tb_104 d_R_readSymbols_43 rfl rfl (by decide) rfl rfl ?_
          refine vv_bipush hC d_R_readSymbols_46 (v := (10 : Int32)) (by decide) ?_
          refine vv_callVI (wr := kc_R cA a_R a_U a_S I_R A_R ++ kc_S cA a_S I_S A_S ++ kc_C cA a_C I_C A_C) hC (c_U_expect l D cA sx a_U a_T (va_up I_U 0 ((I_U 0) + (1 : Int32))) I_T A_T (10 : Int32) _ hw) (cw_R_84 hC) d_R_readSymbols_48 [] [3, 4, 5, 6] [0, 1, 2, 7, 8, 9, 10, 11, 12, 13, 14, 15, 16, 17, 18, 19, 20, 21, 22, 23, 24] [0, 1, 2, 21, 22, 23, 24, 3, 4, 5, 6, 7, 8, 9, 10, 11, 12, 13, 14, 15, 16, 17, 18, 19, 20] (fun u_10 : (Nat → Int32) => kc_R cA a_R a_U a_S I_R A_R ++ kc_U cA a_U a_T u_10 ++ kc_T cA a_T I_T A_T ++ kc_S cA a_S I_S A_S ++ kc_C cA a_C I_C A_C) ⟨Nat.zero_le _, Nat.zero_le _⟩ rfl rfl (fun _ => rfl) rfl rfl rfl rfl rfl rfl rfl rfl (Nat.le_of_ble_eq_true rfl) (fun r_9 u_10 hw => ?_)
          obtain ⟨hnr_12, hw⟩ := hw
          exact vv_zret hC d_R_readSymbols_51 hnr_12 (u_10, A_C) hw rfl
      · have hw := hw.1 cd
        refine vv_iconst hC d_R_readSymbols_21 (v := (1 : Int32)) (by decide) ?_
        exact vv_zret hC d_R_readSymbols_22 rfl (I_U, A_C) hw rfl
set_option maxHeartbeats 4000000 in
set_option maxRecDepth 100000 in
theorem c_R_readSymbols (l : Launch) (D : va_G) (cA : Nat → ClassId) (sx : Nat → Nat) (a_R a_U a_T a_S a_C : Nat → Nat) (I_R : (Nat → Int32)) (A_R : (Nat → Nat → Int32)) (I_U : (Nat → Int32)) (I_T : (Nat → Int32)) (A_T : (Nat → Nat → Int32)) (I_S : (Nat → Int32)) (A_S : (Nat → Nat → Int32)) (I_C : (Nat → Int32)) (A_C : (Nat → Nat → Int32)) (Q : Int32 → (Nat → Int32) → (Nat → Nat → Int32) → Prop) (hw : wp_R_readSymbols I_U I_T A_T I_C A_C Q) : MetI l y_R_readSymbols (Cond.code y_R_readSymbols b_R_readSymbols 4 (some .boolean) :: TB) ({ frames := 5, cells := 0, slots := 0, locals := 106 } : Room) D vwCl (tyl cA) (SPl sx) [.ref (a_R 0), .ref (a_C 0)] (kc_R cA a_R a_U a_S I_R A_R ++ kc_U cA a_U a_T I_U ++ kc_T cA a_T I_T A_T ++ kc_S cA a_S I_S A_S ++ kc_C cA a_C I_C A_C) (fun (r : Int32) (u : (Nat → Int32) × (Nat → Nat → Int32)) => Q r u.1 u.2) (fun u : (Nat → Int32) × (Nat → Nat → Int32) => kc_R cA a_R a_U a_S I_R A_R ++ kc_U cA a_U a_T u.1 ++ kc_T cA a_T I_T A_T ++ kc_S cA a_S I_S A_S ++ kc_C cA a_C I_C u.2) := by
  refine vv_entryI (cc := b_R_readSymbols) (own := R_R) (L := [(0, .ref (a_R 0)), (1, .ref (a_C 0))]) (by decide) rfl rfl (Nat.le_of_ble_eq_true rfl) rfl (fun p e s m args below meth c A hC => ?_)
  unfold wp_R_readSymbols at hw
  refine vv_iconst hC d_R_readSymbols_0 (v := (0 : Int32)) (by decide) ?_
  refine vv_istore_n hC d_R_readSymbols_1 rfl (by decide) [1, 2, 0] (L2 := [(0, .ref (a_R 0)), (1, .ref (a_C 0)), (2, .int (0 : Int32))]) rfl ?_
  obtain ⟨m2, hw⟩ := hw
  refine vv_sub [0, 1, 2] (by rfl) (l_R_readSymbols_L2 a_R a_U a_T a_S a_C I_R A_R I_T A_T I_S A_S I_C Q _ hC (fun I_U_13 A_C_14 hw => ?_) m2 I_U A_C (0 : Int32) hw)
  refine vv_iconst hC d_R_readSymbols_72 (v := (1 : Int32)) (by decide) ?_
  exact vv_zret hC d_R_readSymbols_73 rfl (I_U_13, A_C_14) hw rfl
set_option maxHeartbeats 4000000 in
set_option maxRecDepth 100000 in
theorem l_R_checkUses_L2 {p : Program} {l : Launch} {e : Env} {s : State} {m : MethodId} {args : Array Value} {below : List Frame} {meth : Method} {c : Code} {D : va_G} {cA : Nat → ClassId} {sx : Nat → Nat} {A : Nat → Prop} (a_R a_U a_T a_S a_C : Nat → Nat) (I_R : (Nat → Int32)) (A_R : (Nat → Nat → Int32)) (I_T : (Nat → Int32)) (A_T : (Nat → Nat → Int32)) (I_S : (Nat → Int32)) (A_S : (Nat → Nat → Int32)) (I_C : (Nat → Int32)) (A_C : (Nat → Nat → Int32)) (Q : Int32 → (Nat → Int32) → Prop) (X2 : (Nat → Int32) → Prop) (hC : CX p s m args meth c b_R_checkUses R_R TB 3 D vwCl (tyl cA) A (SPl sx) (some .boolean)) (hX2 : ∀ (I_U : (Nat → Int32)), X2 I_U → VV p l e ({ frames := 1, cells := 0, slots := 0, locals := 22 } : Room) s m args below meth c 3 D vwCl A 0 0 (QI below args s D vwCl (tyl cA) A (fun (r : Int32) (u : (Nat → Int32)) => Q r u) (fun u : (Nat → Int32) => kc_R cA a_R a_U a_S I_R A_R ++ kc_U cA a_U a_T u ++ kc_T cA a_T I_T A_T ++ kc_S cA a_S I_S A_S ++ kc_C cA a_C I_C A_C)) (kc_R cA a_R a_U a_S I_R A_R ++ kc_U cA a_U a_T I_U ++ kc_T cA a_T I_T A_T ++ kc_S cA a_S I_S A_S ++ kc_C cA a_C I_C A_C) 44 [] []) : ∀ (n2 : Nat) (I_U : (Nat → Int32)) (v2 : Int32), wp_R_checkUses_L2 I_R A_R A_C Q X2 n2 I_U v2 → VV p l e ({ frames := 1, cells := 0, slots := 0, locals := 22 } : Room) s m args below meth c 3 D vwCl A 0 0 (QI below args s D vwCl (tyl cA) A (fun (r : Int32) (u : (Nat → Int32)) => Q r u) (fun u : (Nat → Int32) => kc_R cA a_R a_U a_S I_R A_R ++ kc_U cA a_U a_T u ++ kc_T cA a_T I_T A_T ++ kc_S cA a_S I_S A_S ++ kc_C cA a_C I_C A_C)) (kc_R cA a_R a_U a_S I_R A_R ++ kc_U cA a_U a_T I_U ++ kc_T cA a_T I_T A_T ++ kc_S cA a_S I_S A_S ++ kc_C cA a_C I_C A_C) 2 [(0, .ref (a_R 0)), (1, .ref (a_C 0)), (2, .int v2)] [] := by
  intro n2
  induction n2 with
  | zero =>
    intro I_U v2 hw
    exact absurd hw (fun z => z)
  | succ n2 ih =>
    intro I_U v2 hw
    unfold wp_R_checkUses_L2 at hw
    refine vv_iload_n hC d_R_checkUses_2 2 rfl rfl ?_
    refine vv_aload_n hC d_R_checkUses_3 0 rfl rfl ?_
    refine vv_get hC (v := .int (I_R 0)) hin_R 0 4 tb_108 d_R_checkUses_4 rfl rfl (by decide) rfl rfl ?_
    refine vv_icmp_ge hC 44 d_R_checkUses_7 (by decide) (fun cd => ?_) (fun cd => ?_)
    · have hw := hw.1 cd
      exact vv_sub [] (by rfl) (hX2 I_U hw)
    · have hw := hw.2 cd
      refine vv_aload_n hC d_R_checkUses_10 1 rfl rfl ?_
      refine vv_aload_n hC d_R_checkUses_11 0 rfl rfl ?_
      refine vv_get hC (v := .ref (a_R 1)) hin_R 0 2 tb_106 d_R_checkUses_12 rfl rfl (by decide) rfl rfl ?_
      refine vv_iload_n hC d_R_checkUses_15 2 rfl rfl ?_
      obtain ⟨hin_1, hw⟩ := hw
      refine vv_iald hC 1 0 d_R_checkUses_16 rfl rfl hin_1 ?_
      refine vv_callVI (wr := kc_R cA a_R a_U a_S I_R A_R ++ kc_U cA a_U a_T I_U ++ kc_T cA a_T I_T A_T ++ kc_S cA a_S I_S A_S) hC (c_C_isKnown l D cA sx a_C I_C A_C ((A_R 0) (v2).toNatClampNeg) _ hw) (cw_R_206 hC) d_R_checkUses_17 [] [12, 13, 14, 15, 16, 17, 18, 19, 20, 21, 22, 23, 24] [0, 1, 2, 3, 4, 5, 6, 7, 8, 9, 10, 11] [0, 1, 2, 3, 4, 5, 6, 7, 8, 9, 10, 11, 12, 13, 14, 15, 16, 17, 18, 19, 20, 21, 22, 23, 24] (fun u_3 : Unit => kc_R cA a_R a_U a_S I_R A_R ++ kc_U cA a_U a_T I_U ++ kc_T cA a_T I_T A_T ++ kc_S cA a_S I_S A_S ++ kc_C cA a_C I_C A_C) ⟨Nat.zero_le _, Nat.zero_le _⟩ rfl rfl (fun _ => rfl) rfl rfl rfl rfl rfl rfl rfl rfl (Nat.le_of_ble_eq_true rfl) (fun r_2 u_3 hw => ?_)
      refine vv_if_ne hC 38 d_R_checkUses_20 (by decide) (fun cd => ?_) (fun cd => ?_)
      · have hw := hw.2 cd
        refine vv_iinc hC d_R_checkUses_38 2 rfl (v := (v2 + (1 : Int32))) rfl (by decide) [1, 2, 0] (L2 := [(0, .ref (a_R 0)), (1, .ref (a_C 0)), (2, .int (v2 + (1 : Int32)))]) rfl ?_
        refine vv_goto hC 2 d_R_checkUses_41 (by decide) ?_
        exact vv_sub [0, 1, 2] (by rfl) (ih I_U (v2 + (1 : Int32)) hw)
      · have hw := hw.1 cd
        refine vv_aload_n hC d_R_checkUses_23 0 rfl rfl ?_
        refine vv_get hC (v := .ref (a_U 0)) hin_R 0 0 tb_104 d_R_checkUses_24 rfl rfl (by decide) rfl rfl ?_
        refine vv_iconst hC d_R_checkUses_27 (v := (5 : Int32)) (by decide) ?_
        refine vv_aload_n hC d_R_checkUses_28 0 rfl rfl ?_
        refine vv_get hC (v := .ref (a_R 2)) hin_R 0 3 tb_107 d_R_checkUses_29 rfl rfl (by decide) rfl rfl ?_
        refine vv_iload_n hC d_R_checkUses_32 2 rfl rfl ?_
        refine vv_iald hC 2 0 d_R_checkUses_33 rfl rfl hin_1 ?_
        refine vv_callVI (wr := kc_R cA a_R a_U a_S I_R A_R ++ kc_S cA a_S I_S A_S ++ kc_C cA a_C I_C A_C) hC (c_U_fail l D cA sx a_U a_T I_U I_T A_T (5 : Int32) ((A_R 1) (v2).toNatClampNeg) _ hw) (cw_R_121 hC) d_R_checkUses_34 [] [3, 4, 5, 6] [0, 1, 2, 7, 8, 9, 10, 11, 12, 13, 14, 15, 16, 17, 18, 19, 20, 21, 22, 23, 24] [0, 1, 2, 21, 22, 23, 24, 3, 4, 5, 6, 7, 8, 9, 10, 11, 12, 13, 14, 15, 16, 17, 18, 19, 20] (fun u_5 : (Nat → Int32) => kc_R cA a_R a_U a_S I_R A_R ++ kc_U cA a_U a_T u_5 ++ kc_T cA a_T I_T A_T ++ kc_S cA a_S I_S A_S ++ kc_C cA a_C I_C A_C) ⟨Nat.zero_le _, Nat.zero_le _⟩ rfl rfl (fun _ => rfl) rfl rfl rfl rfl rfl rfl rfl rfl (Nat.le_of_ble_eq_true rfl) (fun r_4 u_5 hw => ?_)
        obtain ⟨hnr_7, hw⟩ := hw
        exact vv_zret hC d_R_checkUses_37 hnr_7 u_5 hw rfl
set_option maxHeartbeats 4000000 in
set_option maxRecDepth 100000 in
theorem c_R_checkUses (l : Launch) (D : va_G) (cA : Nat → ClassId) (sx : Nat → Nat) (a_R a_U a_T a_S a_C : Nat → Nat) (I_R : (Nat → Int32)) (A_R : (Nat → Nat → Int32)) (I_U : (Nat → Int32)) (I_T : (Nat → Int32)) (A_T : (Nat → Nat → Int32)) (I_S : (Nat → Int32)) (A_S : (Nat → Nat → Int32)) (I_C : (Nat → Int32)) (A_C : (Nat → Nat → Int32)) (Q : Int32 → (Nat → Int32) → Prop) (hw : wp_R_checkUses I_R A_R I_U A_C Q) : MetI l y_R_checkUses (Cond.code y_R_checkUses b_R_checkUses 3 (some .boolean) :: TB) ({ frames := 1, cells := 0, slots := 0, locals := 22 } : Room) D vwCl (tyl cA) (SPl sx) [.ref (a_R 0), .ref (a_C 0)] (kc_R cA a_R a_U a_S I_R A_R ++ kc_U cA a_U a_T I_U ++ kc_T cA a_T I_T A_T ++ kc_S cA a_S I_S A_S ++ kc_C cA a_C I_C A_C) (fun (r : Int32) (u : (Nat → Int32)) => Q r u) (fun u : (Nat → Int32) => kc_R cA a_R a_U a_S I_R A_R ++ kc_U cA a_U a_T u ++ kc_T cA a_T I_T A_T ++ kc_S cA a_S I_S A_S ++ kc_C cA a_C I_C A_C) := by
  refine vv_entryI (cc := b_R_checkUses) (own := R_R) (L := [(0, .ref (a_R 0)), (1, .ref (a_C 0))]) (by decide) rfl rfl (Nat.le_of_ble_eq_true rfl) rfl (fun p e s m args below meth c A hC => ?_)
  unfold wp_R_checkUses at hw
  refine vv_iconst hC d_R_checkUses_0 (v := (0 : Int32)) (by decide) ?_
  refine vv_istore_n hC d_R_checkUses_1 rfl (by decide) [1, 2, 0] (L2 := [(0, .ref (a_R 0)), (1, .ref (a_C 0)), (2, .int (0 : Int32))]) rfl ?_
  obtain ⟨m2, hw⟩ := hw
  refine vv_sub [0, 1, 2] (by rfl) (l_R_checkUses_L2 a_R a_U a_T a_S a_C I_R A_R I_T A_T I_S A_S I_C A_C Q _ hC (fun I_U_8 hw => ?_) m2 I_U (0 : Int32) hw)
  refine vv_iconst hC d_R_checkUses_44 (v := (1 : Int32)) (by decide) ?_
  exact vv_zret hC d_R_checkUses_45 rfl I_U_8 hw rfl
set_option maxHeartbeats 4000000 in
set_option maxRecDepth 100000 in
theorem c_R_checkLoops (l : Launch) (D : va_G) (cA : Nat → ClassId) (sx : Nat → Nat) (a_R a_U a_T a_S a_C : Nat → Nat) (I_R : (Nat → Int32)) (A_R : (Nat → Nat → Int32)) (I_U : (Nat → Int32)) (I_T : (Nat → Int32)) (A_T : (Nat → Nat → Int32)) (I_S : (Nat → Int32)) (A_S : (Nat → Nat → Int32)) (I_C : (Nat → Int32)) (A_C : (Nat → Nat → Int32)) (Q : Int32 → (Nat → Int32) → (Nat → Int32) → (Nat → Nat → Int32) → (Nat → Nat → Int32) → Prop) (hw : wp_R_checkLoops I_U I_S A_S I_C A_C Q) : MetI l y_R_checkLoops (Cond.code y_R_checkLoops b_R_checkLoops 2 (some .boolean) :: TB) ({ frames := 3, cells := 0, slots := 0, locals := 67 } : Room) D vwCl (tyl cA) (SPl sx) [.ref (a_R 0), .ref (a_C 0)] (kc_R cA a_R a_U a_S I_R A_R ++ kc_U cA a_U a_T I_U ++ kc_T cA a_T I_T A_T ++ kc_S cA a_S I_S A_S ++ kc_C cA a_C I_C A_C) (fun (r : Int32) (u : (Nat → Int32) × (Nat → Int32) × (Nat → Nat → Int32) × (Nat → Nat → Int32)) => Q r u.1 u.2.1 u.2.2.1 u.2.2.2) (fun u : (Nat → Int32) × (Nat → Int32) × (Nat → Nat → Int32) × (Nat → Nat → Int32) => kc_R cA a_R a_U a_S I_R A_R ++ kc_U cA a_U a_T u.1 ++ kc_T cA a_T I_T A_T ++ kc_S cA a_S u.2.1 u.2.2.1 ++ kc_C cA a_C I_C u.2.2.2) := by
  refine vv_entryI (cc := b_R_checkLoops) (own := R_R) (L := [(0, .ref (a_R 0)), (1, .ref (a_C 0))]) (by decide) rfl rfl (Nat.le_of_ble_eq_true rfl) rfl (fun p e s m args below meth c A hC => ?_)
  unfold wp_R_checkLoops at hw
  refine vv_aload_n hC d_R_checkLoops_0 0 rfl rfl ?_
  refine vv_get hC (v := .ref (a_S 0)) hin_R 0 1 tb_105 d_R_checkLoops_1 rfl rfl (by decide) rfl rfl ?_
  refine vv_aload_n hC d_R_checkLoops_4 1 rfl rfl ?_
  refine vv_callVI (wr := kc_R cA a_R a_U a_S I_R A_R ++ kc_U cA a_U a_T I_U ++ kc_T cA a_T I_T A_T) hC (c_S_putInOrder l D cA sx a_S a_C I_S A_S I_C A_C _ hw) (cw_R_209 hC) d_R_checkLoops_5 [] [7, 8, 9, 10, 11, 12, 13, 14, 15, 16, 17, 18, 19, 20, 21, 22, 23, 24] [0, 1, 2, 3, 4, 5, 6] [0, 1, 2, 3, 4, 5, 6, 7, 8, 9, 10, 11, 12, 13, 14, 15, 16, 17, 18, 19, 20, 21, 22, 23, 24] (fun u_2 : (Nat → Nat → Int32) × (Nat → Nat → Int32) => kc_R cA a_R a_U a_S I_R A_R ++ kc_U cA a_U a_T I_U ++ kc_T cA a_T I_T A_T ++ kc_S cA a_S I_S u_2.1 ++ kc_C cA a_C I_C u_2.2) ⟨Nat.zero_le _, Nat.zero_le _⟩ rfl rfl (fun _ => rfl) rfl rfl rfl rfl rfl rfl rfl rfl (Nat.le_of_ble_eq_true rfl) (fun r_1 u_2 hw => ?_)
  refine vv_if_ne hC 31 d_R_checkLoops_8 (by decide) (fun cd => ?_) (fun cd => ?_)
  · have hw := hw.2 cd
    refine vv_iconst hC d_R_checkLoops_31 (v := (1 : Int32)) (by decide) ?_
    refine vv_goto hC 36 d_R_checkLoops_32 (by decide) ?_
    exact vv_zret hC d_R_checkLoops_36 rfl (I_U, I_S, u_2.1, u_2.2) hw rfl
  · have hw := hw.1 cd
    refine vv_aload_n hC d_R_checkLoops_11 0 rfl rfl ?_
    refine vv_get hC (v := .ref (a_U 0)) hin_R 0 0 tb_104 d_R_checkLoops_12 rfl rfl (by decide) rfl rfl ?_
    refine vv_bipush hC d_R_checkLoops_15 (v := (6 : Int32)) (by decide) ?_
    refine vv_aload_n hC d_R_checkLoops_17 0 rfl rfl ?_
    refine vv_get hC (v := .ref (a_S 0)) hin_R 0 1 tb_105 d_R_checkLoops_18 rfl rfl (by decide) rfl rfl ?_
    refine vv_aload_n hC d_R_checkLoops_21 1 rfl rfl ?_
    refine vv_callVI (wr := kc_R cA a_R a_U a_S I_R A_R ++ kc_U cA a_U a_T I_U ++ kc_T cA a_T I_T A_T) hC (c_S_lowestOnLoop l D cA sx a_S a_C I_S u_2.1 I_C u_2.2 _ hw) (cw_R_212 hC) d_R_checkLoops_22 [.int (6 : Int32), .ref (a_U 0)] [7, 8, 9, 10, 11, 12, 13, 14, 15, 16, 17, 18, 19, 20, 21, 22, 23, 24] [0, 1, 2, 3, 4, 5, 6] [0, 1, 2, 3, 4, 5, 6, 7, 8, 9, 10, 11, 12, 13, 14, 15, 16, 17, 18, 19, 20, 21, 22, 23, 24] (fun u_6 : (Nat → Int32) × (Nat → Nat → Int32) => kc_R cA a_R a_U a_S I_R A_R ++ kc_U cA a_U a_T I_U ++ kc_T cA a_T I_T A_T ++ kc_S cA a_S u_6.1 u_6.2 ++ kc_C cA a_C I_C u_2.2) ⟨Nat.zero_le _, Nat.zero_le _⟩ rfl rfl (fun _ => rfl) rfl rfl rfl rfl rfl rfl rfl rfl (Nat.le_of_ble_eq_true rfl) (fun r_5 u_6 hw => ?_)
    refine vv_callVI (wr := kc_R cA a_R a_U a_S I_R A_R ++ kc_S cA a_S u_6.1 u_6.2 ++ kc_C cA a_C I_C u_2.2) hC (c_U_fail l D cA sx a_U a_T I_U I_T A_T (6 : Int32) r_5 _ hw) (cw_R_121 hC) d_R_checkLoops_25 [] [3, 4, 5, 6] [0, 1, 2, 7, 8, 9, 10, 11, 12, 13, 14, 15, 16, 17, 18, 19, 20, 21, 22, 23, 24] [0, 1, 2, 21, 22, 23, 24, 3, 4, 5, 6, 7, 8, 9, 10, 11, 12, 13, 14, 15, 16, 17, 18, 19, 20] (fun u_10 : (Nat → Int32) => kc_R cA a_R a_U a_S I_R A_R ++ kc_U cA a_U a_T u_10 ++ kc_T cA a_T I_T A_T ++ kc_S cA a_S u_6.1 u_6.2 ++ kc_C cA a_C I_C u_2.2) ⟨Nat.zero_le _, Nat.zero_le _⟩ rfl rfl (fun _ => rfl) rfl rfl rfl rfl rfl rfl rfl rfl (Nat.le_of_ble_eq_true rfl) (fun r_9 u_10 hw => ?_)
    refine vv_if_eq hC 35 d_R_checkLoops_28 (by decide) (fun cd => ?_) (fun cd => ?_)
    · have hw := hw.1 cd
      refine vv_iconst hC d_R_checkLoops_35 (v := (0 : Int32)) (by decide) ?_
      exact vv_zret hC d_R_checkLoops_36 rfl (u_10, u_6.1, u_6.2, u_2.2) hw rfl
    · have hw := hw.2 cd
      refine vv_iconst hC d_R_checkLoops_31 (v := (1 : Int32)) (by decide) ?_
      refine vv_goto hC 36 d_R_checkLoops_32 (by decide) ?_
      exact vv_zret hC d_R_checkLoops_36 rfl (u_10, u_6.1, u_6.2, u_2.2) hw rfl
set_option maxHeartbeats 4000000 in
set_option maxRecDepth 100000 in
theorem l_R_readDelta_b40 {p : Program} {l : Launch} {e : Env} {s : State} {m : MethodId} {args : Array Value} {below : List Frame} {meth : Method} {c : Code} {D : va_G} {cA : Nat → ClassId} {sx : Nat → Nat} {A : Nat → Prop} (a_R a_U a_T a_S : Nat → Nat) (I_R : (Nat → Int32)) (A_R : (Nat → Nat → Int32)) (I_T : (Nat → Int32)) (A_T : (Nat → Nat → Int32)) (I_S : (Nat → Int32)) (A_S : (Nat → Nat → Int32)) (Q : Int32 → (Nat → Int32) → Prop) (hC : CX p s m args meth c b_R_readDelta R_R TB 4 D vwCl (tyl cA) A (SPl sx) (some .boolean)) : ∀ (I_U : (Nat → Int32)) (v3 : Int32), wp_R_readDelta_b40 I_T A_T Q I_U v3 → VV p l e ({ frames := 2, cells := 0, slots := 0, locals := 44 } : Room) s m args below meth c 4 D vwCl A 0 0 (QI below args s D vwCl (tyl cA) A (fun (r : Int32) (u : (Nat → Int32)) => Q r u) (fun u : (Nat → Int32) => kc_R cA a_R a_U a_S I_R A_R ++ kc_U cA a_U a_T u ++ kc_T cA a_T I_T A_T ++ kc_S cA a_S I_S A_S)) (kc_R cA a_R a_U a_S I_R A_R ++ kc_U cA a_U a_T I_U ++ kc_T cA a_T I_T A_T ++ kc_S cA a_S I_S A_S) 40 [(0, .ref (a_R 0)), (3, .int v3)] [] := by
  intro I_U v3 hw
  unfold wp_R_readDelta_b40 at hw
  refine vv_iload_n hC d_R_readDelta_40 1 rfl rfl ?_
  refine vv_if_ne hC 62 d_R_readDelta_41 (by decide) (fun cd => ?_) (fun cd => ?_)
  · have hw := hw.2 cd
    refine vv_iconst hC d_R_readDelta_62 (v := (1 : Int32)) (by decide) ?_
    refine vv_goto hC 67 d_R_readDelta_63 (by decide) ?_
    exact vv_zret hC d_R_readDelta_67 rfl I_U hw rfl
  · have hw := hw.1 cd
    refine vv_aload_n hC d_R_readDelta_44 0 rfl rfl ?_
    refine vv_get hC (v := .ref (a_U 0)) hin_R 0 0 tb_104 d_R_readDelta_45 rfl rfl (by decide) rfl rfl ?_
    refine vv_iconst hC d_R_readDelta_48 (v := (3 : Int32)) (by decide) ?_
    refine vv_aload_n hC d_R_readDelta_49 0 rfl rfl ?_
    refine vv_get hC (v := .ref (a_U 0)) hin_R 0 0 tb_104 d_R_readDelta_50 rfl rfl (by decide) rfl rfl ?_
    refine vv_get hC (v := .int (I_U 1)) hin_U 3 2 tb_84 d_R_readDelta_53 rfl rfl (by decide) rfl rfl ?_
    refine vv_callVI (wr := kc_R cA a_R a_U a_S I_R A_R ++ kc_S cA a_S I_S A_S) hC (c_U_fail l D cA sx a_U a_T I_U I_T A_T (3 : Int32) (I_U 1) _ hw) (cw_R_121 hC) d_R_readDelta_56 [] [3, 4, 5, 6] [0, 1, 2, 7, 8, 9, 10, 11] [0, 1, 2, 8, 9, 10, 11, 3, 4, 5, 6, 7] (fun u_5 : (Nat → Int32) => kc_R cA a_R a_U a_S I_R A_R ++ kc_U cA a_U a_T u_5 ++ kc_T cA a_T I_T A_T ++ kc_S cA a_S I_S A_S) ⟨Nat.zero_le _, Nat.zero_le _⟩ rfl rfl (fun _ => rfl) rfl rfl rfl rfl rfl rfl rfl rfl (Nat.le_of_ble_eq_true rfl) (fun r_4 u_5 hw => ?_)
    refine vv_if_eq hC 66 d_R_readDelta_59 (by decide) (fun cd => ?_) (fun cd => ?_)
    · have hw := hw.1 cd
      refine vv_iconst hC d_R_readDelta_66 (v := (0 : Int32)) (by decide) ?_
      exact vv_zret hC d_R_readDelta_67 rfl u_5 hw rfl
    · have hw := hw.2 cd
      refine vv_iconst hC d_R_readDelta_62 (v := (1 : Int32)) (by decide) ?_
      refine vv_goto hC 67 d_R_readDelta_63 (by decide) ?_
      exact vv_zret hC d_R_readDelta_67 rfl u_5 hw rfl
set_option maxHeartbeats 4000000 in
set_option maxRecDepth 100000 in
theorem l_R_readDelta_b38 {p : Program} {l : Launch} {e : Env} {s : State} {m : MethodId} {args : Array Value} {below : List Frame} {meth : Method} {c : Code} {D : va_G} {cA : Nat → ClassId} {sx : Nat → Nat} {A : Nat → Prop} (a_R a_U a_T a_S : Nat → Nat) (I_R : (Nat → Int32)) (A_R : (Nat → Nat → Int32)) (I_T : (Nat → Int32)) (A_T : (Nat → Nat → Int32)) (I_S : (Nat → Int32)) (A_S : (Nat → Nat → Int32)) (Q : Int32 → (Nat → Int32) → Prop) (hC : CX p s m args meth c b_R_readDelta R_R TB 4 D vwCl (tyl cA) A (SPl sx) (some .boolean)) : ∀ (I_U : (Nat → Int32)), wp_R_readDelta_b38 I_T A_T Q I_U → VV p l e ({ frames := 2, cells := 0, slots := 0, locals := 44 } : Room) s m args below meth c 4 D vwCl A 0 0 (QI below args s D vwCl (tyl cA) A (fun (r : Int32) (u : (Nat → Int32)) => Q r u) (fun u : (Nat → Int32) => kc_R cA a_R a_U a_S I_R A_R ++ kc_U cA a_U a_T u ++ kc_T cA a_T I_T A_T ++ kc_S cA a_S I_S A_S)) (kc_R cA a_R a_U a_S I_R A_R ++ kc_U cA a_U a_T I_U ++ kc_T cA a_T I_T A_T ++ kc_S cA a_S I_S A_S) 38 [(0, .ref (a_R 0))] [] := by
  intro I_U hw
  unfold wp_R_readDelta_b38 at hw
  refine vv_iconst hC d_R_readDelta_38 (v := (0 : Int32)) (by decide) ?_
  refine vv_istore_n hC d_R_readDelta_39 rfl (by decide) [1, 0] (L2 := [(0, .ref (a_R 0)), (3, .int (0 : Int32))]) rfl ?_
  exact vv_sub [0, 1] (by rfl) (l_R_readDelta_b40 a_R a_U a_T a_S I_R A_R I_T A_T I_S A_S Q hC I_U (0 : Int32) hw)
set_option maxHeartbeats 4000000 in
set_option maxRecDepth 100000 in
theorem c_R_readDelta (l : Launch) (D : va_G) (cA : Nat → ClassId) (sx : Nat → Nat) (a_R a_U a_T a_S : Nat → Nat) (I_R : (Nat → Int32)) (A_R : (Nat → Nat → Int32)) (I_U : (Nat → Int32)) (I_T : (Nat → Int32)) (A_T : (Nat → Nat → Int32)) (I_S : (Nat → Int32)) (A_S : (Nat → Nat → Int32)) (x1 x2 : Int32) (Q : Int32 → (Nat → Int32) → Prop) (hw : wp_R_readDelta I_U I_T A_T x1 x2 Q) : MetI l y_R_readDelta (Cond.code y_R_readDelta b_R_readDelta 4 (some .boolean) :: TB) ({ frames := 2, cells := 0, slots := 0, locals := 44 } : Room) D vwCl (tyl cA) (SPl sx) [.ref (a_R 0), .int x1, .int x2] (kc_R cA a_R a_U a_S I_R A_R ++ kc_U cA a_U a_T I_U ++ kc_T cA a_T I_T A_T ++ kc_S cA a_S I_S A_S) (fun (r : Int32) (u : (Nat → Int32)) => Q r u) (fun u : (Nat → Int32) => kc_R cA a_R a_U a_S I_R A_R ++ kc_U cA a_U a_T u ++ kc_T cA a_T I_T A_T ++ kc_S cA a_S I_S A_S) := by
  refine vv_entryI (cc := b_R_readDelta) (own := R_R) (L := [(0, .ref (a_R 0)), (1, .int x1), (2, .int x2)]) (by decide) rfl rfl (Nat.le_of_ble_eq_true rfl) rfl (fun p e s m args below meth c A hC => ?_)
  unfold wp_R_readDelta at hw
  refine vv_aload_n hC d_R_readDelta_0 0 rfl rfl ?_
  refine vv_get hC (v := .ref (a_U 0)) hin_R 0 0 tb_104 d_R_readDelta_1 rfl rfl (by decide) rfl rfl ?_
  refine vv_callVI (wr := kc_R cA a_R a_U a_S I_R A_R ++ kc_S cA a_S I_S A_S) hC (c_U_readSevens l D cA sx a_U a_T I_U I_T A_T _ hw) (cw_R_162 hC) d_R_readDelta_4 [] [3, 4, 5, 6] [0, 1, 2, 7, 8, 9, 10, 11] [0, 1, 2, 8, 9, 10, 11, 3, 4, 5, 6, 7] (fun u_2 : (Nat → Int32) => kc_R cA a_R a_U a_S I_R A_R ++ kc_U cA a_U a_T u_2 ++ kc_T cA a_T I_T A_T ++ kc_S cA a_S I_S A_S) ⟨Nat.zero_le _, Nat.zero_le _⟩ rfl rfl (fun _ => rfl) rfl rfl rfl rfl rfl rfl rfl rfl (Nat.le_of_ble_eq_true rfl) (fun r_1 u_2 hw => ?_)
  refine vv_if_ne hC 12 d_R_readDelta_7 (by decide) (fun cd => ?_) (fun cd => ?_)
  · have hw := hw.2 cd
    refine vv_aload_n hC d_R_readDelta_12 0 rfl rfl ?_
    refine vv_get hC (v := .ref (a_U 0)) hin_R 0 0 tb_104 d_R_readDelta_13 rfl rfl (by decide) rfl rfl ?_
    refine vv_get hC (v := .int (u_2 2)) hin_U 3 3 tb_86 d_R_readDelta_16 rfl rfl (by decide) rfl rfl ?_
    refine vv_iload_n hC d_R_readDelta_19 1 rfl rfl ?_
    refine vv_icmp_lt hC 38 d_R_readDelta_20 (by decide) (fun cd => ?_) (fun cd => ?_)
    · have hw := hw.1 cd
      exact vv_sub [0] (by rfl) (l_R_readDelta_b38 a_R a_U a_T a_S I_R A_R I_T A_T I_S A_S Q hC u_2 hw)
    · have hw := hw.2 cd
      refine vv_aload_n hC d_R_readDelta_23 0 rfl rfl ?_
      refine vv_get hC (v := .ref (a_U 0)) hin_R 0 0 tb_104 d_R_readDelta_24 rfl rfl (by decide) rfl rfl ?_
      refine vv_get hC (v := .int (u_2 2)) hin_U 3 3 tb_86 d_R_readDelta_27 rfl rfl (by decide) rfl rfl ?_
      refine vv_iload_n hC d_R_readDelta_30 2 rfl rfl ?_
      refine vv_icmp_gt hC 38 d_R_readDelta_31 (by decide) (fun cd => ?_) (fun cd => ?_)
      · have hw := hw.1 cd
        exact vv_sub [0] (by rfl) (l_R_readDelta_b38 a_R a_U a_T a_S I_R A_R I_T A_T I_S A_S Q hC u_2 hw)
      · have hw := hw.2 cd
        refine vv_iconst hC d_R_readDelta_34 (v := (1 : Int32)) (by decide) ?_
        refine vv_goto hC 39 d_R_readDelta_35 (by decide) ?_
        refine vv_istore_n hC d_R_readDelta_39 rfl (by decide) [1, 2, 3, 0] (L2 := [(0, .ref (a_R 0)), (1, .int x1), (2, .int x2), (3, .int (1 : Int32))]) rfl ?_
        exact vv_sub [0, 3] (by rfl) (l_R_readDelta_b40 a_R a_U a_T a_S I_R A_R I_T A_T I_S A_S Q hC u_2 (1 : Int32) hw)
  · have hw := hw.1 cd
    refine vv_iconst hC d_R_readDelta_10 (v := (0 : Int32)) (by decide) ?_
    exact vv_zret hC d_R_readDelta_11 rfl u_2 hw rfl
set_option maxHeartbeats 4000000 in
set_option maxRecDepth 100000 in
theorem l_R_readBinaryAnds_L2 {p : Program} {l : Launch} {e : Env} {s : State} {m : MethodId} {args : Array Value} {below : List Frame} {meth : Method} {c : Code} {D : va_G} {cA : Nat → ClassId} {sx : Nat → Nat} {A : Nat → Prop} (a_R a_U a_T a_S a_C : Nat → Nat) (I_R : (Nat → Int32)) (A_R : (Nat → Nat → Int32)) (I_T : (Nat → Int32)) (A_T : (Nat → Nat → Int32)) (I_S : (Nat → Int32)) (A_S : (Nat → Nat → Int32)) (I_C : (Nat → Int32)) (Q : Int32 → (Nat → Int32) → (Nat → Nat → Int32) → Prop) (X2 : (Nat → Int32) → (Nat → Nat → Int32) → Prop) (hC : CX p s m args meth c b_R_readBinaryAnds R_R TB 4 D vwCl (tyl cA) A (SPl sx) (some .boolean)) (hX2 : ∀ (I_U : (Nat → Int32)) (A_C : (Nat → Nat → Int32)), X2 I_U A_C → VV p l e ({ frames := 3, cells := 0, slots := 0, locals := 67 } : Room) s m args below meth c 4 D vwCl A 0 0 (QI below args s D vwCl (tyl cA) A (fun (r : Int32) (u : (Nat → Int32) × (Nat → Nat → Int32)) => Q r u.1 u.2) (fun u : (Nat → Int32) × (Nat → Nat → Int32) => kc_R cA a_R a_U a_S I_R A_R ++ kc_U cA a_U a_T u.1 ++ kc_T cA a_T I_T A_T ++ kc_S cA a_S I_S A_S ++ kc_C cA a_C I_C u.2)) (kc_R cA a_R a_U a_S I_R A_R ++ kc_U cA a_U a_T I_U ++ kc_T cA a_T I_T A_T ++ kc_S cA a_S I_S A_S ++ kc_C cA a_C I_C A_C) 110 [] []) : ∀ (n2 : Nat) (I_U : (Nat → Int32)) (A_C : (Nat → Nat → Int32)) (v2 : Int32), wp_R_readBinaryAnds_L2 I_T A_T I_C Q X2 n2 I_U A_C v2 → VV p l e ({ frames := 3, cells := 0, slots := 0, locals := 67 } : Room) s m args below meth c 4 D vwCl A 0 0 (QI below args s D vwCl (tyl cA) A (fun (r : Int32) (u : (Nat → Int32) × (Nat → Nat → Int32)) => Q r u.1 u.2) (fun u : (Nat → Int32) × (Nat → Nat → Int32) => kc_R cA a_R a_U a_S I_R A_R ++ kc_U cA a_U a_T u.1 ++ kc_T cA a_T I_T A_T ++ kc_S cA a_S I_S A_S ++ kc_C cA a_C I_C u.2)) (kc_R cA a_R a_U a_S I_R A_R ++ kc_U cA a_U a_T I_U ++ kc_T cA a_T I_T A_T ++ kc_S cA a_S I_S A_S ++ kc_C cA a_C I_C A_C) 2 [(0, .ref (a_R 0)), (1, .ref (a_C 0)), (2, .int v2)] [] := by
  intro n2
  induction n2 with
  | zero =>
    intro I_U A_C v2 hw
    exact absurd hw (fun z => z)
  | succ n2 ih =>
    intro I_U A_C v2 hw
    unfold wp_R_readBinaryAnds_L2 at hw
    refine vv_iload_n hC d_R_readBinaryAnds_2 2 rfl rfl ?_
    refine vv_aload_n hC d_R_readBinaryAnds_3 1 rfl rfl ?_
    refine vv_get hC (v := .int (I_C 4)) hin_C 12 4 tb_169 d_R_readBinaryAnds_4 rfl rfl (by decide) rfl rfl ?_
    refine vv_icmp_ge hC 110 d_R_readBinaryAnds_7 (by decide) (fun cd => ?_) (fun cd => ?_)
    · have hw := hw.1 cd
      exact vv_sub [] (by rfl) (hX2 I_U A_C hw)
    · have hw := hw.2 cd
      refine vv_aload_n hC d_R_readBinaryAnds_10 1 rfl rfl ?_
      refine vv_get hC (v := .int (I_C 1)) hin_C 12 1 tb_155 d_R_readBinaryAnds_11 rfl rfl (by decide) rfl rfl ?_
      refine vv_aload_n hC d_R_readBinaryAnds_14 1 rfl rfl ?_
      refine vv_get hC (v := .int (I_C 2)) hin_C 12 2 tb_159 d_R_readBinaryAnds_15 rfl rfl (by decide) rfl rfl ?_
      refine vv_iadd hC d_R_readBinaryAnds_18 ?_
      refine vv_iload_n hC d_R_readBinaryAnds_19 2 rfl rfl ?_
      refine vv_iadd hC d_R_readBinaryAnds_20 ?_
      refine vv_iconst hC d_R_readBinaryAnds_21 (v := (1 : Int32)) (by decide) ?_
      refine vv_iadd hC d_R_readBinaryAnds_22 ?_
      refine vv_istore_n hC d_R_readBinaryAnds_23 rfl (by decide) [1, 2, 3, 0] (L2 := [(0, .ref (a_R 0)), (1, .ref (a_C 0)), (2, .int v2), (3, .int ((((I_C 1) + (I_C 2)) + v2) + (1 : Int32)))]) rfl ?_
      refine vv_aload_n hC d_R_readBinaryAnds_24 1 rfl rfl ?_
      refine vv_get hC (v := .ref (a_C 5)) hin_C 12 10 tb_189 d_R_readBinaryAnds_25 rfl rfl (by decide) rfl rfl ?_
      refine vv_iload_n hC d_R_readBinaryAnds_28 2 rfl rfl ?_
      refine vv_iload_n hC d_R_readBinaryAnds_29 3 rfl rfl ?_
      obtain ⟨hin_1, hw⟩ := hw
      refine vv_iast hC 17 0 d_R_readBinaryAnds_30 rfl rfl hin_1 (ws2 := kc_R cA a_R a_U a_S I_R A_R ++ kc_U cA a_U a_T I_U ++ kc_T cA a_T I_T A_T ++ kc_S cA a_S I_S A_S ++ kc_C cA a_C I_C (va_up A_C 4 (upd (A_C 4) (v2).toNatClampNeg ((((I_C 1) + (I_C 2)) + v2) + (1 : Int32))))) (st_RUTSC_CA4 ..) ?_
      refine vv_aload_n hC d_R_readBinaryAnds_31 1 rfl rfl ?_
      refine vv_get hC (v := .ref (a_C 9)) hin_C 12 14 tb_202 d_R_readBinaryAnds_32 rfl rfl (by decide) rfl rfl ?_
      refine vv_iload_n hC d_R_readBinaryAnds_35 3 rfl rfl ?_
      refine vv_iconst hC d_R_readBinaryAnds_36 (v := (1 : Int32)) (by decide) ?_
      obtain ⟨hin_2, hw⟩ := hw
      refine vv_zast hC 21 1 d_R_readBinaryAnds_37 rfl rfl hin_2 (ws2 := kc_R cA a_R a_U a_S I_R A_R ++ kc_U cA a_U a_T I_U ++ kc_T cA a_T I_T A_T ++ kc_S cA a_S I_S A_S ++ kc_C cA a_C I_C (va_up (va_up A_C 4 (upd (A_C 4) (v2).toNatClampNeg ((((I_C 1) + (I_C 2)) + v2) + (1 : Int32)))) 8 (upd (A_C 8) (((((I_C 1) + (I_C 2)) + v2) + (1 : Int32))).toNatClampNeg (1 : Int32)))) (st_RUTSC_CA8 ..) ?_
      refine vv_aload_n hC d_R_readBinaryAnds_38 0 rfl rfl ?_
      refine vv_iconst hC d_R_readBinaryAnds_39 (v := (1 : Int32)) (by decide) ?_
      refine vv_iconst hC d_R_readBinaryAnds_40 (v := (2 : Int32)) (by decide) ?_
      refine vv_iload_n hC d_R_readBinaryAnds_41 3 rfl rfl ?_
      refine vv_imul hC d_R_readBinaryAnds_42 ?_
      refine vv_callVI (wr := kc_C cA a_C I_C (va_up (va_up A_C 4 (upd (A_C 4) (v2).toNatClampNeg ((((I_C 1) + (I_C 2)) + v2) + (1 : Int32)))) 8 (upd (A_C 8) (((((I_C 1) + (I_C 2)) + v2) + (1 : Int32))).toNatClampNeg (1 : Int32)))) hC (c_R_readDelta l D cA sx a_R a_U a_T a_S I_R A_R I_U I_T A_T I_S A_S (1 : Int32) ((2 : Int32) * ((((I_C 1) + (I_C 2)) + v2) + (1 : Int32))) _ hw) (cw_R_159 hC) d_R_readBinaryAnds_43 [] [0, 1, 2, 3, 4, 5, 6, 7, 8, 9, 10, 11] [12, 13, 14, 15, 16, 17, 18, 19, 20, 21, 22, 23, 24] [13, 14, 15, 16, 17, 18, 19, 20, 21, 22, 23, 24, 0, 1, 2, 3, 4, 5, 6, 7, 8, 9, 10, 11, 12] (fun u_4 : (Nat → Int32) => kc_R cA a_R a_U a_S I_R A_R ++ kc_U cA a_U a_T u_4 ++ kc_T cA a_T I_T A_T ++ kc_S cA a_S I_S A_S ++ kc_C cA a_C I_C (va_up (va_up A_C 4 (upd (A_C 4) (v2).toNatClampNeg ((((I_C 1) + (I_C 2)) + v2) + (1 : Int32)))) 8 (upd (A_C 8) (((((I_C 1) + (I_C 2)) + v2) + (1 : Int32))).toNatClampNeg (1 : Int32)))) ⟨Nat.zero_le _, Nat.zero_le _⟩ rfl rfl (fun _ => rfl) rfl rfl rfl rfl rfl rfl rfl rfl (Nat.le_of_ble_eq_true rfl) (fun r_3 u_4 hw => ?_)
      refine vv_if_ne hC 51 d_R_readBinaryAnds_46 (by decide) (fun cd => ?_) (fun cd => ?_)
      · have hw := hw.2 cd
        refine vv_aload_n hC d_R_readBinaryAnds_51 1 rfl rfl ?_
        refine vv_get hC (v := .ref (a_C 6)) hin_C 12 11 tb_193 d_R_readBinaryAnds_52 rfl rfl (by decide) rfl rfl ?_
        refine vv_iload_n hC d_R_readBinaryAnds_55 2 rfl rfl ?_
        refine vv_iconst hC d_R_readBinaryAnds_56 (v := (2 : Int32)) (by decide) ?_
        refine vv_iload_n hC d_R_readBinaryAnds_57 3 rfl rfl ?_
        refine vv_imul hC d_R_readBinaryAnds_58 ?_
        refine vv_aload_n hC d_R_readBinaryAnds_59 0 rfl rfl ?_
        refine vv_get hC (v := .ref (a_U 0)) hin_R 0 0 tb_104 d_R_readBinaryAnds_60 rfl rfl (by decide) rfl rfl ?_
        refine vv_get hC (v := .int (u_4 2)) hin_U 3 3 tb_86 d_R_readBinaryAnds_63 rfl rfl (by decide) rfl rfl ?_
        refine vv_isub hC d_R_readBinaryAnds_66 ?_
        refine vv_iast hC 18 0 d_R_readBinaryAnds_67 rfl rfl hin_1 (ws2 := kc_R cA a_R a_U a_S I_R A_R ++ kc_U cA a_U a_T u_4 ++ kc_T cA a_T I_T A_T ++ kc_S cA a_S I_S A_S ++ kc_C cA a_C I_C (va_up (va_up (va_up A_C 4 (upd (A_C 4) (v2).toNatClampNeg ((((I_C 1) + (I_C 2)) + v2) + (1 : Int32)))) 8 (upd (A_C 8) (((((I_C 1) + (I_C 2)) + v2) + (1 : Int32))).toNatClampNeg (1 : Int32))) 5 (upd (A_C 5) (v2).toNatClampNeg (((2 : Int32) * ((((I_C 1) + (I_C 2)) + v2) + (1 : Int32))) - (u_4 2))))) (st_RUTSC_CA5 ..) ?_
        refine vv_aload_n hC d_R_readBinaryAnds_68 0 rfl rfl ?_
        refine vv_iconst hC d_R_readBinaryAnds_69 (v := (0 : Int32)) (by decide) ?_
        refine vv_aload_n hC d_R_readBinaryAnds_70 1 rfl rfl ?_
        refine vv_get hC (v := .ref (a_C 6)) hin_C 12 11 tb_193 d_R_readBinaryAnds_71 rfl rfl (by decide) rfl rfl ?_
        refine vv_iload_n hC d_R_readBinaryAnds_74 2 rfl rfl ?_
        refine vv_iald hC 18 0 d_R_readBinaryAnds_75 rfl rfl hin_1 ?_
        refine vv_callVI (wr := kc_C cA a_C I_C (va_up (va_up (va_up A_C 4 (upd (A_C 4) (v2).toNatClampNeg ((((I_C 1) + (I_C 2)) + v2) + (1 : Int32)))) 8 (upd (A_C 8) (((((I_C 1) + (I_C 2)) + v2) + (1 : Int32))).toNatClampNeg (1 : Int32))) 5 (upd (A_C 5) (v2).toNatClampNeg (((2 : Int32) * ((((I_C 1) + (I_C 2)) + v2) + (1 : Int32))) - (u_4 2))))) hC (c_R_readDelta l D cA sx a_R a_U a_T a_S I_R A_R u_4 I_T A_T I_S A_S (0 : Int32) ((upd (A_C 5) (v2).toNatClampNeg (((2 : Int32) * ((((I_C 1) + (I_C 2)) + v2) + (1 : Int32))) - (u_4 2))) (v2).toNatClampNeg) _ hw) (cw_R_159 hC) d_R_readBinaryAnds_76 [] [0, 1, 2, 3, 4, 5, 6, 7, 8, 9, 10, 11] [12, 13, 14, 15, 16, 17, 18, 19, 20, 21, 22, 23, 24] [13, 14, 15, 16, 17, 18, 19, 20, 21, 22, 23, 24, 0, 1, 2, 3, 4, 5, 6, 7, 8, 9, 10, 11, 12] (fun u_7 : (Nat → Int32) => kc_R cA a_R a_U a_S I_R A_R ++ kc_U cA a_U a_T u_7 ++ kc_T cA a_T I_T A_T ++ kc_S cA a_S I_S A_S ++ kc_C cA a_C I_C (va_up (va_up (va_up A_C 4 (upd (A_C 4) (v2).toNatClampNeg ((((I_C 1) + (I_C 2)) + v2) + (1 : Int32)))) 8 (upd (A_C 8) (((((I_C 1) + (I_C 2)) + v2) + (1 : Int32))).toNatClampNeg (1 : Int32))) 5 (upd (A_C 5) (v2).toNatClampNeg (((2 : Int32) * ((((I_C 1) + (I_C 2)) + v2) + (1 : Int32))) - (u_4 2))))) ⟨Nat.zero_le _, Nat.zero_le _⟩ rfl rfl (fun _ => rfl) rfl rfl rfl rfl rfl rfl rfl rfl (Nat.le_of_ble_eq_true rfl) (fun r_6 u_7 hw => ?_)
        refine vv_if_ne hC 84 d_R_readBinaryAnds_79 (by decide) (fun cd => ?_) (fun cd => ?_)
        · have hw := hw.2 cd
          refine vv_aload_n hC d_R_readBinaryAnds_84 1 rfl rfl ?_
          refine vv_get hC (v := .ref (a_C 7)) hin_C 12 12 tb_197 d_R_readBinaryAnds_85 rfl rfl (by decide) rfl rfl ?_
          refine vv_iload_n hC d_R_readBinaryAnds_88 2 rfl rfl ?_
          refine vv_aload_n hC d_R_readBinaryAnds_89 1 rfl rfl ?_
          refine vv_get hC (v := .ref (a_C 6)) hin_C 12 11 tb_193 d_R_readBinaryAnds_90 rfl rfl (by decide) rfl rfl ?_
          refine vv_iload_n hC d_R_readBinaryAnds_93 2 rfl rfl ?_
          refine vv_iald hC 18 0 d_R_readBinaryAnds_94 rfl rfl hin_1 ?_
          refine vv_aload_n hC d_R_readBinaryAnds_95 0 rfl rfl ?_
          refine vv_get hC (v := .ref (a_U 0)) hin_R 0 0 tb_104 d_R_readBinaryAnds_96 rfl rfl (by decide) rfl rfl ?_
          refine vv_get hC (v := .int (u_7 2)) hin_U 3 3 tb_86 d_R_readBinaryAnds_99 rfl rfl (by decide) rfl rfl ?_
          refine vv_isub hC d_R_readBinaryAnds_102 ?_
          refine vv_iast hC 19 0 d_R_readBinaryAnds_103 rfl rfl hin_1 (ws2 := kc_R cA a_R a_U a_S I_R A_R ++ kc_U cA a_U a_T u_7 ++ kc_T cA a_T I_T A_T ++ kc_S cA a_S I_S A_S ++ kc_C cA a_C I_C (va_up (va_up (va_up (va_up A_C 4 (upd (A_C 4) (v2).toNatClampNeg ((((I_C 1) + (I_C 2)) + v2) + (1 : Int32)))) 8 (upd (A_C 8) (((((I_C 1) + (I_C 2)) + v2) + (1 : Int32))).toNatClampNeg (1 : Int32))) 5 (upd (A_C 5) (v2).toNatClampNeg (((2 : Int32) * ((((I_C 1) + (I_C 2)) + v2) + (1 : Int32))) - (u_4 2)))) 6 (upd (A_C 6) (v2).toNatClampNeg (((upd (A_C 5) (v2).toNatClampNeg (((2 : Int32) * ((((I_C 1) + (I_C 2)) + v2) + (1 : Int32))) - (u_4 2))) (v2).toNatClampNeg) - (u_7 2))))) (st_RUTSC_CA6 ..) ?_
          refine vv_iinc hC d_R_readBinaryAnds_104 2 rfl (v := (v2 + (1 : Int32))) rfl (by decide) [1, 2, 0, 3] (L2 := [(0, .ref (a_R 0)), (1, .ref (a_C 0)), (2, .int (v2 + (1 : Int32))), (3, .int ((((I_C 1) + (I_C 2)) + v2) + (1 : Int32)))]) rfl ?_
          refine vv_goto hC 2 d_R_readBinaryAnds_107 (by decide) ?_
          exact vv_sub [0, 1, 2] (by rfl) (ih u_7 (va_up (va_up (va_up (va_up A_C 4 (upd (A_C 4) (v2).toNatClampNeg ((((I_C 1) + (I_C 2)) + v2) + (1 : Int32)))) 8 (upd (A_C 8) (((((I_C 1) + (I_C 2)) + v2) + (1 : Int32))).toNatClampNeg (1 : Int32))) 5 (upd (A_C 5) (v2).toNatClampNeg (((2 : Int32) * ((((I_C 1) + (I_C 2)) + v2) + (1 : Int32))) - (u_4 2)))) 6 (upd (A_C 6) (v2).toNatClampNeg (((upd (A_C 5) (v2).toNatClampNeg (((2 : Int32) * ((((I_C 1) + (I_C 2)) + v2) + (1 : Int32))) - (u_4 2))) (v2).toNatClampNeg) - (u_7 2)))) (v2 + (1 : Int32)) hw)
        · have hw := hw.1 cd
          refine vv_iconst hC d_R_readBinaryAnds_82 (v := (0 : Int32)) (by decide) ?_
          exact vv_zret hC d_R_readBinaryAnds_83 rfl (u_7, (va_up (va_up (va_up A_C 4 (upd (A_C 4) (v2).toNatClampNeg ((((I_C 1) + (I_C 2)) + v2) + (1 : Int32)))) 8 (upd (A_C 8) (((((I_C 1) + (I_C 2)) + v2) + (1 : Int32))).toNatClampNeg (1 : Int32))) 5 (upd (A_C 5) (v2).toNatClampNeg (((2 : Int32) * ((((I_C 1) + (I_C 2)) + v2) + (1 : Int32))) - (u_4 2))))) hw rfl
      · have hw := hw.1 cd
        refine vv_iconst hC d_R_readBinaryAnds_49 (v := (0 : Int32)) (by decide) ?_
        exact vv_zret hC d_R_readBinaryAnds_50 rfl (u_4, (va_up (va_up A_C 4 (upd (A_C 4) (v2).toNatClampNeg ((((I_C 1) + (I_C 2)) + v2) + (1 : Int32)))) 8 (upd (A_C 8) (((((I_C 1) + (I_C 2)) + v2) + (1 : Int32))).toNatClampNeg (1 : Int32)))) hw rfl
set_option maxHeartbeats 4000000 in
set_option maxRecDepth 100000 in
theorem c_R_readBinaryAnds (l : Launch) (D : va_G) (cA : Nat → ClassId) (sx : Nat → Nat) (a_R a_U a_T a_S a_C : Nat → Nat) (I_R : (Nat → Int32)) (A_R : (Nat → Nat → Int32)) (I_U : (Nat → Int32)) (I_T : (Nat → Int32)) (A_T : (Nat → Nat → Int32)) (I_S : (Nat → Int32)) (A_S : (Nat → Nat → Int32)) (I_C : (Nat → Int32)) (A_C : (Nat → Nat → Int32)) (Q : Int32 → (Nat → Int32) → (Nat → Nat → Int32) → Prop) (hw : wp_R_readBinaryAnds I_U I_T A_T I_C A_C Q) : MetI l y_R_readBinaryAnds (Cond.code y_R_readBinaryAnds b_R_readBinaryAnds 4 (some .boolean) :: TB) ({ frames := 3, cells := 0, slots := 0, locals := 67 } : Room) D vwCl (tyl cA) (SPl sx) [.ref (a_R 0), .ref (a_C 0)] (kc_R cA a_R a_U a_S I_R A_R ++ kc_U cA a_U a_T I_U ++ kc_T cA a_T I_T A_T ++ kc_S cA a_S I_S A_S ++ kc_C cA a_C I_C A_C) (fun (r : Int32) (u : (Nat → Int32) × (Nat → Nat → Int32)) => Q r u.1 u.2) (fun u : (Nat → Int32) × (Nat → Nat → Int32) => kc_R cA a_R a_U a_S I_R A_R ++ kc_U cA a_U a_T u.1 ++ kc_T cA a_T I_T A_T ++ kc_S cA a_S I_S A_S ++ kc_C cA a_C I_C u.2) := by
  refine vv_entryI (cc := b_R_readBinaryAnds) (own := R_R) (L := [(0, .ref (a_R 0)), (1, .ref (a_C 0))]) (by decide) rfl rfl (Nat.le_of_ble_eq_true rfl) rfl (fun p e s m args below meth c A hC => ?_)
  unfold wp_R_readBinaryAnds at hw
  refine vv_iconst hC d_R_readBinaryAnds_0 (v := (0 : Int32)) (by decide) ?_
  refine vv_istore_n hC d_R_readBinaryAnds_1 rfl (by decide) [1, 2, 0] (L2 := [(0, .ref (a_R 0)), (1, .ref (a_C 0)), (2, .int (0 : Int32))]) rfl ?_
  obtain ⟨m2, hw⟩ := hw
  refine vv_sub [0, 1, 2] (by rfl) (l_R_readBinaryAnds_L2 a_R a_U a_T a_S a_C I_R A_R I_T A_T I_S A_S I_C Q _ hC (fun I_U_9 A_C_10 hw => ?_) m2 I_U A_C (0 : Int32) hw)
  refine vv_iconst hC d_R_readBinaryAnds_110 (v := (1 : Int32)) (by decide) ?_
  exact vv_zret hC d_R_readBinaryAnds_111 rfl (I_U_9, A_C_10) hw rfl
set_option maxHeartbeats 4000000 in
set_option maxRecDepth 100000 in
theorem l_R_readFile_b74 {p : Program} {l : Launch} {e : Env} {s : State} {m : MethodId} {args : Array Value} {below : List Frame} {meth : Method} {c : Code} {D : va_G} {cA : Nat → ClassId} {sx : Nat → Nat} {A : Nat → Prop} (a_R a_U a_T a_S a_C : Nat → Nat) (I_T : (Nat → Int32)) (A_T : (Nat → Nat → Int32)) (Q : Int32 → (Nat → Int32) → (Nat → Nat → Int32) → (Nat → Int32) → (Nat → Int32) → (Nat → Nat → Int32) → (Nat → Int32) → (Nat → Nat → Int32) → Prop) (hC : CX p s m args meth c b_R_readFile R_R TB 2 D vwCl (tyl cA) A (SPl sx) (some .boolean)) : ∀ (I_R : (Nat → Int32)) (A_R : (Nat → Nat → Int32)) (I_U : (Nat → Int32)) (I_S : (Nat → Int32)) (A_S : (Nat → Nat → Int32)) (I_C : (Nat → Int32)) (A_C : (Nat → Nat → Int32)), wp_R_readFile_b74 I_T A_T Q I_R A_R I_U I_S A_S I_C A_C → VV p l e ({ frames := 6, cells := 0, slots := 0, locals := 129 } : Room) s m args below meth c 2 D vwCl A 0 0 (QI below args s D vwCl (tyl cA) A (fun (r : Int32) (u : (Nat → Int32) × (Nat → Nat → Int32) × (Nat → Int32) × (Nat → Int32) × (Nat → Nat → Int32) × (Nat → Int32) × (Nat → Nat → Int32)) => Q r u.1 u.2.1 u.2.2.1 u.2.2.2.1 u.2.2.2.2.1 u.2.2.2.2.2.1 u.2.2.2.2.2.2) (fun u : (Nat → Int32) × (Nat → Nat → Int32) × (Nat → Int32) × (Nat → Int32) × (Nat → Nat → Int32) × (Nat → Int32) × (Nat → Nat → Int32) => kc_R cA a_R a_U a_S u.1 u.2.1 ++ kc_U cA a_U a_T u.2.2.1 ++ kc_T cA a_T I_T A_T ++ kc_S cA a_S u.2.2.2.1 u.2.2.2.2.1 ++ kc_C cA a_C u.2.2.2.2.2.1 u.2.2.2.2.2.2)) (kc_R cA a_R a_U a_S I_R A_R ++ kc_U cA a_U a_T I_U ++ kc_T cA a_T I_T A_T ++ kc_S cA a_S I_S A_S ++ kc_C cA a_C I_C A_C) 74 [(0, .ref (a_R 0)), (1, .ref (a_C 0))] [] := by
  intro I_R A_R I_U I_S A_S I_C A_C hw
  unfold wp_R_readFile_b74 at hw
  refine vv_aload_n hC d_R_readFile_74 0 rfl rfl ?_
  refine vv_aload_n hC d_R_readFile_75 1 rfl rfl ?_
  refine vv_callVI (wr := []) hC (c_R_readSymbols l D cA sx a_R a_U a_T a_S a_C I_R A_R I_U I_T A_T I_S A_S I_C A_C _ hw) (cw_R_75 hC) d_R_readFile_76 [] [0, 1, 2, 3, 4, 5, 6, 7, 8, 9, 10, 11, 12, 13, 14, 15, 16, 17, 18, 19, 20, 21, 22, 23, 24] [] [0, 1, 2, 3, 4, 5, 6, 7, 8, 9, 10, 11, 12, 13, 14, 15, 16, 17, 18, 19, 20, 21, 22, 23, 24] (fun u_34 : (Nat → Int32) × (Nat → Nat → Int32) => kc_R cA a_R a_U a_S I_R A_R ++ kc_U cA a_U a_T u_34.1 ++ kc_T cA a_T I_T A_T ++ kc_S cA a_S I_S A_S ++ kc_C cA a_C I_C u_34.2) ⟨Nat.zero_le _, Nat.zero_le _⟩ rfl rfl (fun _ => rfl) rfl rfl rfl rfl rfl rfl rfl rfl (Nat.le_of_ble_eq_true rfl) (fun r_33 u_34 hw => ?_)
  refine vv_if_eq hC 102 d_R_readFile_79 (by decide) (fun cd => ?_) (fun cd => ?_)
  · have hw := hw.1 cd
    refine vv_iconst hC d_R_readFile_102 (v := (0 : Int32)) (by decide) ?_
    exact vv_zret hC d_R_readFile_103 rfl (I_R, A_R, u_34.1, I_S, A_S, I_C, u_34.2) hw rfl
  · have hw := hw.2 cd
    refine vv_aload_n hC d_R_readFile_82 0 rfl rfl ?_
    refine vv_aload_n hC d_R_readFile_83 1 rfl rfl ?_
    refine vv_callVI (wr := []) hC (c_R_checkUses l D cA sx a_R a_U a_T a_S a_C I_R A_R u_34.1 I_T A_T I_S A_S I_C u_34.2 _ hw) (cw_R_78 hC) d_R_readFile_84 [] [0, 1, 2, 3, 4, 5, 6, 7, 8, 9, 10, 11, 12, 13, 14, 15, 16, 17, 18, 19, 20, 21, 22, 23, 24] [] [0, 1, 2, 3, 4, 5, 6, 7, 8, 9, 10, 11, 12, 13, 14, 15, 16, 17, 18, 19, 20, 21, 22, 23, 24] (fun u_38 : (Nat → Int32) => kc_R cA a_R a_U a_S I_R A_R ++ kc_U cA a_U a_T u_38 ++ kc_T cA a_T I_T A_T ++ kc_S cA a_S I_S A_S ++ kc_C cA a_C I_C u_34.2) ⟨Nat.zero_le _, Nat.zero_le _⟩ rfl rfl (fun _ => rfl) rfl rfl rfl rfl rfl rfl rfl rfl (Nat.le_of_ble_eq_true rfl) (fun r_37 u_38 hw => ?_)
    refine vv_if_eq hC 102 d_R_readFile_87 (by decide) (fun cd => ?_) (fun cd => ?_)
    · have hw := hw.1 cd
      refine vv_iconst hC d_R_readFile_102 (v := (0 : Int32)) (by decide) ?_
      exact vv_zret hC d_R_readFile_103 rfl (I_R, A_R, u_38, I_S, A_S, I_C, u_34.2) hw rfl
    · have hw := hw.2 cd
      refine vv_aload_n hC d_R_readFile_90 0 rfl rfl ?_
      refine vv_aload_n hC d_R_readFile_91 1 rfl rfl ?_
      refine vv_callVI (wr := []) hC (c_R_checkLoops l D cA sx a_R a_U a_T a_S a_C I_R A_R u_38 I_T A_T I_S A_S I_C u_34.2 _ hw) (cw_R_81 hC) d_R_readFile_92 [] [0, 1, 2, 3, 4, 5, 6, 7, 8, 9, 10, 11, 12, 13, 14, 15, 16, 17, 18, 19, 20, 21, 22, 23, 24] [] [0, 1, 2, 3, 4, 5, 6, 7, 8, 9, 10, 11, 12, 13, 14, 15, 16, 17, 18, 19, 20, 21, 22, 23, 24] (fun u_41 : (Nat → Int32) × (Nat → Int32) × (Nat → Nat → Int32) × (Nat → Nat → Int32) => kc_R cA a_R a_U a_S I_R A_R ++ kc_U cA a_U a_T u_41.1 ++ kc_T cA a_T I_T A_T ++ kc_S cA a_S u_41.2.1 u_41.2.2.1 ++ kc_C cA a_C I_C u_41.2.2.2) ⟨Nat.zero_le _, Nat.zero_le _⟩ rfl rfl (fun _ => rfl) rfl rfl rfl rfl rfl rfl rfl rfl (Nat.le_of_ble_eq_true rfl) (fun r_40 u_41 hw => ?_)
      refine vv_if_eq hC 102 d_R_readFile_95 (by decide) (fun cd => ?_) (fun cd => ?_)
      · have hw := hw.1 cd
        refine vv_iconst hC d_R_readFile_102 (v := (0 : Int32)) (by decide) ?_
        exact vv_zret hC d_R_readFile_103 rfl (I_R, A_R, u_41.1, u_41.2.1, u_41.2.2.1, I_C, u_41.2.2.2) hw rfl
      · have hw := hw.2 cd
        refine vv_iconst hC d_R_readFile_98 (v := (1 : Int32)) (by decide) ?_
        refine vv_goto hC 103 d_R_readFile_99 (by decide) ?_
        exact vv_zret hC d_R_readFile_103 rfl (I_R, A_R, u_41.1, u_41.2.1, u_41.2.2.1, I_C, u_41.2.2.2) hw rfl
set_option maxHeartbeats 4000000 in
set_option maxRecDepth 100000 in
theorem c_R_readFile (l : Launch) (D : va_G) (cA : Nat → ClassId) (sx : Nat → Nat) (a_R a_U a_T a_S a_C : Nat → Nat) (I_R : (Nat → Int32)) (A_R : (Nat → Nat → Int32)) (I_U : (Nat → Int32)) (I_T : (Nat → Int32)) (A_T : (Nat → Nat → Int32)) (I_S : (Nat → Int32)) (A_S : (Nat → Nat → Int32)) (I_C : (Nat → Int32)) (A_C : (Nat → Nat → Int32)) (Q : Int32 → (Nat → Int32) → (Nat → Nat → Int32) → (Nat → Int32) → (Nat → Int32) → (Nat → Nat → Int32) → (Nat → Int32) → (Nat → Nat → Int32) → Prop) (hw : wp_R_readFile I_R A_R I_U I_T A_T I_S A_S I_C A_C Q) : MetI l y_R_readFile (Cond.code y_R_readFile b_R_readFile 2 (some .boolean) :: TB) ({ frames := 6, cells := 0, slots := 0, locals := 129 } : Room) D vwCl (tyl cA) (SPl sx) [.ref (a_R 0), .ref (a_C 0)] (kc_R cA a_R a_U a_S I_R A_R ++ kc_U cA a_U a_T I_U ++ kc_T cA a_T I_T A_T ++ kc_S cA a_S I_S A_S ++ kc_C cA a_C I_C A_C) (fun (r : Int32) (u : (Nat → Int32) × (Nat → Nat → Int32) × (Nat → Int32) × (Nat → Int32) × (Nat → Nat → Int32) × (Nat → Int32) × (Nat → Nat → Int32)) => Q r u.1 u.2.1 u.2.2.1 u.2.2.2.1 u.2.2.2.2.1 u.2.2.2.2.2.1 u.2.2.2.2.2.2) (fun u : (Nat → Int32) × (Nat → Nat → Int32) × (Nat → Int32) × (Nat → Int32) × (Nat → Nat → Int32) × (Nat → Int32) × (Nat → Nat → Int32) => kc_R cA a_R a_U a_S u.1 u.2.1 ++ kc_U cA a_U a_T u.2.2.1 ++ kc_T cA a_T I_T A_T ++ kc_S cA a_S u.2.2.2.1 u.2.2.2.2.1 ++ kc_C cA a_C u.2.2.2.2.2.1 u.2.2.2.2.2.2) := by
  refine vv_entryI (cc := b_R_readFile) (own := R_R) (L := [(0, .ref (a_R 0)), (1, .ref (a_C 0))]) (by decide) rfl rfl (Nat.le_of_ble_eq_true rfl) rfl (fun p e s m args below meth c A hC => ?_)
  unfold wp_R_readFile at hw
  refine vv_aload_n hC d_R_readFile_0 0 rfl rfl ?_
  refine vv_get hC (v := .ref (a_U 0)) hin_R 0 0 tb_104 d_R_readFile_1 rfl rfl (by decide) rfl rfl ?_
  refine vv_callVV (wr := kc_R cA a_R a_U a_S I_R A_R ++ kc_S cA a_S I_S A_S ++ kc_C cA a_C I_C A_C) hC (c_U_restart l D cA sx a_U a_T I_U I_T A_T _ hw) (cw_R_48 hC) d_R_readFile_4 [] [3, 4, 5, 6] [0, 1, 2, 7, 8, 9, 10, 11, 12, 13, 14, 15, 16, 17, 18, 19, 20, 21, 22, 23, 24] [0, 1, 2, 21, 22, 23, 24, 3, 4, 5, 6, 7, 8, 9, 10, 11, 12, 13, 14, 15, 16, 17, 18, 19, 20] (fun u_1 : (Nat → Int32) => kc_R cA a_R a_U a_S I_R A_R ++ kc_U cA a_U a_T u_1 ++ kc_T cA a_T I_T A_T ++ kc_S cA a_S I_S A_S ++ kc_C cA a_C I_C A_C) ⟨Nat.zero_le _, Nat.zero_le _⟩ rfl rfl (fun _ => rfl) rfl rfl rfl rfl rfl rfl rfl rfl (Nat.le_of_ble_eq_true rfl) (fun u_1 hw => ?_)
  refine vv_aload_n hC d_R_readFile_7 0 rfl rfl ?_
  refine vv_iconst hC d_R_readFile_8 (v := (0 : Int32)) (by decide) ?_
  refine vv_put hC hin_R ty_R tyok_R nmok_R 0 4 tb_108 d_R_readFile_9 rfl rfl (by decide) rfl rfl rfl rfl rfl (Nat.le_of_ble_eq_true rfl) (ws2 := kc_R cA a_R a_U a_S (va_up I_R 0 (0 : Int32)) A_R ++ kc_U cA a_U a_T u_1 ++ kc_T cA a_T I_T A_T ++ kc_S cA a_S I_S A_S ++ kc_C cA a_C I_C A_C) (st_RUTSC_RI0 ..) ?_
  refine vv_aload_n hC d_R_readFile_12 1 rfl rfl ?_
  refine vv_callVV (wr := kc_R cA a_R a_U a_S (va_up I_R 0 (0 : Int32)) A_R ++ kc_U cA a_U a_T u_1 ++ kc_T cA a_T I_T A_T ++ kc_S cA a_S I_S A_S) hC (c_C_forget l D cA sx a_C I_C A_C _ hw) (cw_R_51 hC) d_R_readFile_13 [] [12, 13, 14, 15, 16, 17, 18, 19, 20, 21, 22, 23, 24] [0, 1, 2, 3, 4, 5, 6, 7, 8, 9, 10, 11] [0, 1, 2, 3, 4, 5, 6, 7, 8, 9, 10, 11, 12, 13, 14, 15, 16, 17, 18, 19, 20, 21, 22, 23, 24] (fun u_3 : (Nat → Int32) × (Nat → Nat → Int32) => kc_R cA a_R a_U a_S (va_up I_R 0 (0 : Int32)) A_R ++ kc_U cA a_U a_T u_1 ++ kc_T cA a_T I_T A_T ++ kc_S cA a_S I_S A_S ++ kc_C cA a_C u_3.1 u_3.2) ⟨Nat.zero_le _, Nat.zero_le _⟩ rfl rfl (fun _ => rfl) rfl rfl rfl rfl rfl rfl rfl rfl (Nat.le_of_ble_eq_true rfl) (fun u_3 hw => ?_)
  refine vv_aload_n hC d_R_readFile_16 0 rfl rfl ?_
  refine vv_aload_n hC d_R_readFile_17 1 rfl rfl ?_
  refine vv_callVI (wr := []) hC (c_R_readHeader l D cA sx a_R a_U a_T a_S a_C (va_up I_R 0 (0 : Int32)) A_R u_1 I_T A_T I_S A_S u_3.1 u_3.2 _ hw) (cw_R_56 hC) d_R_readFile_18 [] [0, 1, 2, 3, 4, 5, 6, 7, 8, 9, 10, 11, 12, 13, 14, 15, 16, 17, 18, 19, 20, 21, 22, 23, 24] [] [0, 1, 2, 3, 4, 5, 6, 7, 8, 9, 10, 11, 12, 13, 14, 15, 16, 17, 18, 19, 20, 21, 22, 23, 24] (fun u_7 : (Nat → Int32) × (Nat → Int32) × (Nat → Int32) => kc_R cA a_R a_U a_S u_7.1 A_R ++ kc_U cA a_U a_T u_7.2.1 ++ kc_T cA a_T I_T A_T ++ kc_S cA a_S I_S A_S ++ kc_C cA a_C u_7.2.2 u_3.2) ⟨Nat.zero_le _, Nat.zero_le _⟩ rfl rfl (fun _ => rfl) rfl rfl rfl rfl rfl rfl rfl rfl (Nat.le_of_ble_eq_true rfl) (fun r_6 u_7 hw => ?_)
  refine vv_if_eq hC 102 d_R_readFile_21 (by decide) (fun cd => ?_) (fun cd => ?_)
  · have hw := hw.1 cd
    refine vv_iconst hC d_R_readFile_102 (v := (0 : Int32)) (by decide) ?_
    exact vv_zret hC d_R_readFile_103 rfl (u_7.1, A_R, u_7.2.1, I_S, A_S, u_7.2.2, u_3.2) hw rfl
  · have hw := hw.2 cd
    refine vv_aload_n hC d_R_readFile_24 0 rfl rfl ?_
    refine vv_aload_n hC d_R_readFile_25 1 rfl rfl ?_
    refine vv_callVI (wr := []) hC (c_R_readInputs l D cA sx a_R a_U a_T a_S a_C u_7.1 A_R u_7.2.1 I_T A_T I_S A_S u_7.2.2 u_3.2 _ hw) (cw_R_60 hC) d_R_readFile_26 [] [0, 1, 2, 3, 4, 5, 6, 7, 8, 9, 10, 11, 12, 13, 14, 15, 16, 17, 18, 19, 20, 21, 22, 23, 24] [] [0, 1, 2, 3, 4, 5, 6, 7, 8, 9, 10, 11, 12, 13, 14, 15, 16, 17, 18, 19, 20, 21, 22, 23, 24] (fun u_12 : (Nat → Int32) × (Nat → Nat → Int32) => kc_R cA a_R a_U a_S u_7.1 A_R ++ kc_U cA a_U a_T u_12.1 ++ kc_T cA a_T I_T A_T ++ kc_S cA a_S I_S A_S ++ kc_C cA a_C u_7.2.2 u_12.2) ⟨Nat.zero_le _, Nat.zero_le _⟩ rfl rfl (fun _ => rfl) rfl rfl rfl rfl rfl rfl rfl rfl (Nat.le_of_ble_eq_true rfl) (fun r_11 u_12 hw => ?_)
    refine vv_if_eq hC 102 d_R_readFile_29 (by decide) (fun cd => ?_) (fun cd => ?_)
    · have hw := hw.1 cd
      refine vv_iconst hC d_R_readFile_102 (v := (0 : Int32)) (by decide) ?_
      exact vv_zret hC d_R_readFile_103 rfl (u_7.1, A_R, u_12.1, I_S, A_S, u_7.2.2, u_12.2) hw rfl
    · have hw := hw.2 cd
      refine vv_aload_n hC d_R_readFile_32 0 rfl rfl ?_
      refine vv_aload_n hC d_R_readFile_33 1 rfl rfl ?_
      refine vv_callVI (wr := []) hC (c_R_readLatches l D cA sx a_R a_U a_T a_S a_C u_7.1 A_R u_12.1 I_T A_T I_S A_S u_7.2.2 u_12.2 _ hw) (cw_R_63 hC) d_R_readFile_34 [] [0, 1, 2, 3, 4, 5, 6, 7, 8, 9, 10, 11, 12, 13, 14, 15, 16, 17, 18, 19, 20, 21, 22, 23, 24] [] [0, 1, 2, 3, 4, 5, 6, 7, 8, 9, 10, 11, 12, 13, 14, 15, 16, 17, 18, 19, 20, 21, 22, 23, 24] (fun u_16 : (Nat → Int32) × (Nat → Nat → Int32) × (Nat → Int32) × (Nat → Nat → Int32) => kc_R cA a_R a_U a_S u_16.1 u_16.2.1 ++ kc_U cA a_U a_T u_16.2.2.1 ++ kc_T cA a_T I_T A_T ++ kc_S cA a_S I_S A_S ++ kc_C cA a_C u_7.2.2 u_16.2.2.2) ⟨Nat.zero_le _, Nat.zero_le _⟩ rfl rfl (fun _ => rfl) rfl rfl rfl rfl rfl rfl rfl rfl (Nat.le_of_ble_eq_true rfl) (fun r_15 u_16 hw => ?_)
      refine vv_if_eq hC 102 d_R_readFile_37 (by decide) (fun cd => ?_) (fun cd => ?_)
      · have hw := hw.1 cd
        refine vv_iconst hC d_R_readFile_102 (v := (0 : Int32)) (by decide) ?_
        exact vv_zret hC d_R_readFile_103 rfl (u_16.1, u_16.2.1, u_16.2.2.1, I_S, A_S, u_7.2.2, u_16.2.2.2) hw rfl
      · have hw := hw.2 cd
        refine vv_aload_n hC d_R_readFile_40 0 rfl rfl ?_
        refine vv_aload_n hC d_R_readFile_41 1 rfl rfl ?_
        refine vv_callVI (wr := []) hC (c_R_readOutputs l D cA sx a_R a_U a_T a_S a_C u_16.1 u_16.2.1 u_16.2.2.1 I_T A_T I_S A_S u_7.2.2 u_16.2.2.2 _ hw) (cw_R_66 hC) d_R_readFile_42 [] [0, 1, 2, 3, 4, 5, 6, 7, 8, 9, 10, 11, 12, 13, 14, 15, 16, 17, 18, 19, 20, 21, 22, 23, 24] [] [0, 1, 2, 3, 4, 5, 6, 7, 8, 9, 10, 11, 12, 13, 14, 15, 16, 17, 18, 19, 20, 21, 22, 23, 24] (fun u_22 : (Nat → Int32) × (Nat → Nat → Int32) × (Nat → Int32) × (Nat → Nat → Int32) => kc_R cA a_R a_U a_S u_22.1 u_22.2.1 ++ kc_U cA a_U a_T u_22.2.2.1 ++ kc_T cA a_T I_T A_T ++ kc_S cA a_S I_S A_S ++ kc_C cA a_C u_7.2.2 u_22.2.2.2) ⟨Nat.zero_le _, Nat.zero_le _⟩ rfl rfl (fun _ => rfl) rfl rfl rfl rfl rfl rfl rfl rfl (Nat.le_of_ble_eq_true rfl) (fun r_21 u_22 hw => ?_)
        refine vv_if_eq hC 102 d_R_readFile_45 (by decide) (fun cd => ?_) (fun cd => ?_)
        · have hw := hw.1 cd
          refine vv_iconst hC d_R_readFile_102 (v := (0 : Int32)) (by decide) ?_
          exact vv_zret hC d_R_readFile_103 rfl (u_22.1, u_22.2.1, u_22.2.2.1, I_S, A_S, u_7.2.2, u_22.2.2.2) hw rfl
        · have hw := hw.2 cd
          refine vv_aload_n hC d_R_readFile_48 0 rfl rfl ?_
          refine vv_get hC (v := .int (u_22.1 1)) hin_R 0 5 tb_109 d_R_readFile_49 rfl rfl (by decide) rfl rfl ?_
          refine vv_if_eq hC 66 d_R_readFile_52 (by decide) (fun cd => ?_) (fun cd => ?_)
          · have hw := hw.1 cd
            refine vv_aload_n hC d_R_readFile_66 0 rfl rfl ?_
            refine vv_aload_n hC d_R_readFile_67 1 rfl rfl ?_
            refine vv_callVI (wr := []) hC (c_R_readTextAnds l D cA sx a_R a_U a_T a_S a_C u_22.1 u_22.2.1 u_22.2.2.1 I_T A_T I_S A_S u_7.2.2 u_22.2.2.2 _ hw) (cw_R_72 hC) d_R_readFile_68 [] [0, 1, 2, 3, 4, 5, 6, 7, 8, 9, 10, 11, 12, 13, 14, 15, 16, 17, 18, 19, 20, 21, 22, 23, 24] [] [0, 1, 2, 3, 4, 5, 6, 7, 8, 9, 10, 11, 12, 13, 14, 15, 16, 17, 18, 19, 20, 21, 22, 23, 24] (fun u_28 : (Nat → Int32) × (Nat → Nat → Int32) × (Nat → Int32) × (Nat → Nat → Int32) => kc_R cA a_R a_U a_S u_28.1 u_28.2.1 ++ kc_U cA a_U a_T u_28.2.2.1 ++ kc_T cA a_T I_T A_T ++ kc_S cA a_S I_S A_S ++ kc_C cA a_C u_7.2.2 u_28.2.2.2) ⟨Nat.zero_le _, Nat.zero_le _⟩ rfl rfl (fun _ => rfl) rfl rfl rfl rfl rfl rfl rfl rfl (Nat.le_of_ble_eq_true rfl) (fun r_27 u_28 hw => ?_)
            refine vv_if_eq hC 102 d_R_readFile_71 (by decide) (fun cd => ?_) (fun cd => ?_)
            · have hw := hw.1 cd
              refine vv_iconst hC d_R_readFile_102 (v := (0 : Int32)) (by decide) ?_
              exact vv_zret hC d_R_readFile_103 rfl (u_28.1, u_28.2.1, u_28.2.2.1, I_S, A_S, u_7.2.2, u_28.2.2.2) hw rfl
            · have hw := hw.2 cd
              exact vv_sub [0, 1] (by rfl) (l_R_readFile_b74 a_R a_U a_T a_S a_C I_T A_T Q hC u_28.1 u_28.2.1 u_28.2.2.1 I_S A_S u_7.2.2 u_28.2.2.2 hw)
          · have hw := hw.2 cd
            refine vv_aload_n hC d_R_readFile_55 0 rfl rfl ?_
            refine vv_aload_n hC d_R_readFile_56 1 rfl rfl ?_
            refine vv_callVI (wr := []) hC (c_R_readBinaryAnds l D cA sx a_R a_U a_T a_S a_C u_22.1 u_22.2.1 u_22.2.2.1 I_T A_T I_S A_S u_7.2.2 u_22.2.2.2 _ hw) (cw_R_69 hC) d_R_readFile_57 [] [0, 1, 2, 3, 4, 5, 6, 7, 8, 9, 10, 11, 12, 13, 14, 15, 16, 17, 18, 19, 20, 21, 22, 23, 24] [] [0, 1, 2, 3, 4, 5, 6, 7, 8, 9, 10, 11, 12, 13, 14, 15, 16, 17, 18, 19, 20, 21, 22, 23, 24] (fun u_47 : (Nat → Int32) × (Nat → Nat → Int32) => kc_R cA a_R a_U a_S u_22.1 u_22.2.1 ++ kc_U cA a_U a_T u_47.1 ++ kc_T cA a_T I_T A_T ++ kc_S cA a_S I_S A_S ++ kc_C cA a_C u_7.2.2 u_47.2) ⟨Nat.zero_le _, Nat.zero_le _⟩ rfl rfl (fun _ => rfl) rfl rfl rfl rfl rfl rfl rfl rfl (Nat.le_of_ble_eq_true rfl) (fun r_46 u_47 hw => ?_)
            refine vv_if_eq hC 102 d_R_readFile_60 (by decide) (fun cd => ?_) (fun cd => ?_)
            · have hw := hw.1 cd
              refine vv_iconst hC d_R_readFile_102 (v := (0 : Int32)) (by decide) ?_
              exact vv_zret hC d_R_readFile_103 rfl (u_22.1, u_22.2.1, u_47.1, I_S, A_S, u_7.2.2, u_47.2) hw rfl
            · have hw := hw.2 cd
              refine vv_goto hC 74 d_R_readFile_63 (by decide) ?_
              exact vv_sub [0, 1] (by rfl) (l_R_readFile_b74 a_R a_U a_T a_S a_C I_T A_T Q hC u_22.1 u_22.2.1 u_47.1 I_S A_S u_7.2.2 u_47.2 hw)
set_option maxHeartbeats 4000000 in
set_option maxRecDepth 100000 in
theorem c_R_faultKind (l : Launch) (D : va_G) (cA : Nat → ClassId) (sx : Nat → Nat) (a_R a_U a_T a_S : Nat → Nat) (I_R : (Nat → Int32)) (A_R : (Nat → Nat → Int32)) (I_U : (Nat → Int32)) (I_T : (Nat → Int32)) (A_T : (Nat → Nat → Int32)) (I_S : (Nat → Int32)) (A_S : (Nat → Nat → Int32)) (Q : Int32 → Prop) (hw : wp_R_faultKind I_U Q) : MetI l y_R_faultKind (Cond.code y_R_faultKind b_R_faultKind 1 (some .int) :: TB) ({ frames := 0, cells := 0, slots := 0, locals := 0 } : Room) D vwCl (tyl cA) (SPl sx) [.ref (a_R 0)] (kc_R cA a_R a_U a_S I_R A_R ++ kc_U cA a_U a_T I_U ++ kc_T cA a_T I_T A_T ++ kc_S cA a_S I_S A_S) (fun (r : Int32) (u : Unit) => Q r) (fun u : Unit => kc_R cA a_R a_U a_S I_R A_R ++ kc_U cA a_U a_T I_U ++ kc_T cA a_T I_T A_T ++ kc_S cA a_S I_S A_S) := by
  refine vv_entryI (cc := b_R_faultKind) (own := R_R) (L := [(0, .ref (a_R 0))]) (by decide) rfl rfl (Nat.le_of_ble_eq_true rfl) rfl (fun p e s m args below meth c A hC => ?_)
  unfold wp_R_faultKind at hw
  refine vv_aload_n hC d_R_faultKind_0 0 rfl rfl ?_
  refine vv_get hC (v := .ref (a_U 0)) hin_R 0 0 tb_104 d_R_faultKind_1 rfl rfl (by decide) rfl rfl ?_
  refine vv_get hC (v := .int (I_U 3)) hin_U 3 4 tb_88 d_R_faultKind_4 rfl rfl (by decide) rfl rfl ?_
  exact vv_iret hC d_R_faultKind_7 () hw rfl
set_option maxHeartbeats 4000000 in
set_option maxRecDepth 100000 in
theorem c_R_faultPlace (l : Launch) (D : va_G) (cA : Nat → ClassId) (sx : Nat → Nat) (a_R a_U a_T a_S : Nat → Nat) (I_R : (Nat → Int32)) (A_R : (Nat → Nat → Int32)) (I_U : (Nat → Int32)) (I_T : (Nat → Int32)) (A_T : (Nat → Nat → Int32)) (I_S : (Nat → Int32)) (A_S : (Nat → Nat → Int32)) (Q : Int32 → Prop) (hw : wp_R_faultPlace I_U Q) : MetI l y_R_faultPlace (Cond.code y_R_faultPlace b_R_faultPlace 1 (some .int) :: TB) ({ frames := 0, cells := 0, slots := 0, locals := 0 } : Room) D vwCl (tyl cA) (SPl sx) [.ref (a_R 0)] (kc_R cA a_R a_U a_S I_R A_R ++ kc_U cA a_U a_T I_U ++ kc_T cA a_T I_T A_T ++ kc_S cA a_S I_S A_S) (fun (r : Int32) (u : Unit) => Q r) (fun u : Unit => kc_R cA a_R a_U a_S I_R A_R ++ kc_U cA a_U a_T I_U ++ kc_T cA a_T I_T A_T ++ kc_S cA a_S I_S A_S) := by
  refine vv_entryI (cc := b_R_faultPlace) (own := R_R) (L := [(0, .ref (a_R 0))]) (by decide) rfl rfl (Nat.le_of_ble_eq_true rfl) rfl (fun p e s m args below meth c A hC => ?_)
  unfold wp_R_faultPlace at hw
  refine vv_aload_n hC d_R_faultPlace_0 0 rfl rfl ?_
  refine vv_get hC (v := .ref (a_U 0)) hin_R 0 0 tb_104 d_R_faultPlace_1 rfl rfl (by decide) rfl rfl ?_
  refine vv_get hC (v := .int (I_U 4)) hin_U 3 5 tb_90 d_R_faultPlace_4 rfl rfl (by decide) rfl rfl ?_
  exact vv_iret hC d_R_faultPlace_7 () hw rfl
