set_option maxHeartbeats 4000000 in
set_option maxRecDepth 100000 in
theorem l_T_makeReady_L2 {p : Program} {l : Launch} {e : Env} {s : State} {m : MethodId} {args : Array Value} {below : List Frame} {meth : Method} {c : Code} {D : va_G} {cA : Nat → ClassId} {sx : Nat → Nat} {A : Nat → Prop} (a_T : Nat → Nat) (I_T : (Nat → Int32)) (Q : (Nat → Nat → Int32) → Prop) (X2 : (Nat → Nat → Int32) → Prop) (hC : CX p s m args meth c b_T_makeReady R_T TB 4 D vwCl (tyl cA) A (SPl sx) none) (hX2 : ∀ (A_T : (Nat → Nat → Int32)), X2 A_T → VV p l e ({ frames := 0, cells := 0, slots := 0, locals := 0 } : Room) s m args below meth c 4 D vwCl A 0 0 (QV below args s D vwCl (tyl cA) A (fun (u : (Nat → Nat → Int32)) => Q u) (fun u : (Nat → Nat → Int32) => kc_T cA a_T I_T u)) (kc_T cA a_T I_T A_T) 35 [] []) : ∀ (n2 : Nat) (A_T : (Nat → Nat → Int32)) (v1 : Int32) (v2 : Int32) (v3 : Int32), wp_T_makeReady_L2 Q X2 n2 A_T v1 v2 v3 → VV p l e ({ frames := 0, cells := 0, slots := 0, locals := 0 } : Room) s m args below meth c 4 D vwCl A 0 0 (QV below args s D vwCl (tyl cA) A (fun (u : (Nat → Nat → Int32)) => Q u) (fun u : (Nat → Nat → Int32) => kc_T cA a_T I_T u)) (kc_T cA a_T I_T A_T) 2 [(0, .ref (a_T 0)), (1, .int v1), (2, .int v2), (3, .int v3)] [] := by
  intro n2
  induction n2 with
  | zero =>
    intro A_T v1 v2 v3 hw
    exact absurd hw (fun z => z)
  | succ n2 ih =>
    intro A_T v1 v2 v3 hw
    unfold wp_T_makeReady_L2 at hw
    refine vv_iload_n hC d_T_makeReady_2 3 rfl rfl ?_
    refine vv_iconst hC d_T_makeReady_3 (v := (4 : Int32)) (by decide) ?_
    refine vv_icmp_ge hC 35 d_T_makeReady_4 (by decide) (fun cd => ?_) (fun cd => ?_)
    · have hw := hw.1 cd
      exact vv_sub [] (by rfl) (hX2 A_T hw)
    · have hw := hw.2 cd
      refine vv_aload_n hC d_T_makeReady_7 0 rfl rfl ?_
      refine vv_get hC (v := .ref (a_T 1)) hin_T 0 0 tb_32 d_T_makeReady_8 rfl rfl (by decide) rfl rfl ?_
      refine vv_iload_n hC d_T_makeReady_11 1 rfl rfl ?_
      refine vv_iconst hC d_T_makeReady_12 (v := (4 : Int32)) (by decide) ?_
      refine vv_imul hC d_T_makeReady_13 ?_
      refine vv_iload_n hC d_T_makeReady_14 3 rfl rfl ?_
      refine vv_iadd hC d_T_makeReady_15 ?_
      refine vv_iload_n hC d_T_makeReady_16 2 rfl rfl ?_
      refine vv_bipush hC d_T_makeReady_17 (v := (8 : Int32)) (by decide) ?_
      refine vv_iconst hC d_T_makeReady_19 (v := (3 : Int32)) (by decide) ?_
      refine vv_iload_n hC d_T_makeReady_20 3 rfl rfl ?_
      refine vv_isub hC d_T_makeReady_21 ?_
      refine vv_imul hC d_T_makeReady_22 ?_
      refine vv_iushr hC d_T_makeReady_23 ?_
      refine vv_sipush hC d_T_makeReady_24 (v := (255 : Int32)) (by decide) ?_
      refine vv_iand hC d_T_makeReady_27 ?_
      obtain ⟨hin_1, hw⟩ := hw
      refine vv_iast hC 1 0 d_T_makeReady_28 rfl rfl hin_1 (ws2 := kc_T cA a_T I_T (va_up A_T 0 (upd (A_T 0) (((v1 * (4 : Int32)) + v3)).toNatClampNeg (((v2).toUInt32 >>> ((((8 : Int32) * ((3 : Int32) - v3))).toUInt32 &&& Int32.toUInt32 31)).toInt32 &&& (255 : Int32))))) (st_T_TA0 ..) ?_
      refine vv_iinc hC d_T_makeReady_29 3 rfl (v := (v3 + (1 : Int32))) rfl (by decide) [1, 2, 3, 0] (L2 := [(0, .ref (a_T 0)), (1, .int v1), (2, .int v2), (3, .int (v3 + (1 : Int32)))]) rfl ?_
      refine vv_goto hC 2 d_T_makeReady_32 (by decide) ?_
      exact vv_sub [0, 1, 2, 3] (by rfl) (ih (va_up A_T 0 (upd (A_T 0) (((v1 * (4 : Int32)) + v3)).toNatClampNeg (((v2).toUInt32 >>> ((((8 : Int32) * ((3 : Int32) - v3))).toUInt32 &&& Int32.toUInt32 31)).toInt32 &&& (255 : Int32)))) v1 v2 (v3 + (1 : Int32)) hw)
set_option maxHeartbeats 4000000 in
set_option maxRecDepth 100000 in
theorem c_T_makeReady (l : Launch) (D : va_G) (cA : Nat → ClassId) (sx : Nat → Nat) (a_T : Nat → Nat) (I_T : (Nat → Int32)) (A_T : (Nat → Nat → Int32)) (x1 x2 : Int32) (Q : (Nat → Nat → Int32) → Prop) (hw : wp_T_makeReady A_T x1 x2 Q) : MetV l y_T_makeReady (Cond.code y_T_makeReady b_T_makeReady 4 none :: TB) ({ frames := 0, cells := 0, slots := 0, locals := 0 } : Room) D vwCl (tyl cA) (SPl sx) [.ref (a_T 0), .int x1, .int x2] (kc_T cA a_T I_T A_T) (fun (u : (Nat → Nat → Int32)) => Q u) (fun u : (Nat → Nat → Int32) => kc_T cA a_T I_T u) := by
  refine vv_entryV (cc := b_T_makeReady) (own := R_T) (L := [(0, .ref (a_T 0)), (1, .int x1), (2, .int x2)]) (by decide) rfl rfl (Nat.le_of_ble_eq_true rfl) rfl (fun p e s m args below meth c A hC => ?_)
  unfold wp_T_makeReady at hw
  refine vv_iconst hC d_T_makeReady_0 (v := (0 : Int32)) (by decide) ?_
  refine vv_istore_n hC d_T_makeReady_1 rfl (by decide) [1, 2, 3, 0] (L2 := [(0, .ref (a_T 0)), (1, .int x1), (2, .int x2), (3, .int (0 : Int32))]) rfl ?_
  obtain ⟨m2, hw⟩ := hw
  refine vv_sub [0, 1, 2, 3] (by rfl) (l_T_makeReady_L2 a_T I_T Q _ hC (fun A_T_2 hw => ?_) m2 A_T x1 x2 (0 : Int32) hw)
  exact vv_vret hC d_T_makeReady_35 A_T_2 hw rfl
set_option maxHeartbeats 4000000 in
set_option maxRecDepth 100000 in
theorem l_T_take_L26 {p : Program} {l : Launch} {e : Env} {s : State} {m : MethodId} {args : Array Value} {below : List Frame} {meth : Method} {c : Code} {D : va_G} {cA : Nat → ClassId} {sx : Nat → Nat} {A : Nat → Prop} (a_T : Nat → Nat) (Q : Int32 → (Nat → Int32) → (Nat → Nat → Int32) → Prop) (X26 : (Nat → Int32) → (Nat → Nat → Int32) → Int32 → Prop) (hC : CX p s m args meth c b_T_take R_T TB 3 D vwCl (tyl cA) A (SPl sx) (some .int)) (hX26 : ∀ (I_T : (Nat → Int32)) (A_T : (Nat → Nat → Int32)) (v1 : Int32), X26 I_T A_T v1 → VV p l e ({ frames := 0, cells := 0, slots := 0, locals := 0 } : Room) s m args below meth c 3 D vwCl A 0 0 (QI below args s D vwCl (tyl cA) A (fun (r : Int32) (u : (Nat → Int32) × (Nat → Nat → Int32)) => Q r u.1 u.2) (fun u : (Nat → Int32) × (Nat → Nat → Int32) => kc_T cA a_T u.1 u.2)) (kc_T cA a_T I_T A_T) 54 [(0, .ref (a_T 0)), (1, .int v1)] []) : ∀ (n26 : Nat) (I_T : (Nat → Int32)) (A_T : (Nat → Nat → Int32)) (v1 : Int32) (v2 : Int32), wp_T_take_L26 Q X26 n26 I_T A_T v1 v2 → VV p l e ({ frames := 0, cells := 0, slots := 0, locals := 0 } : Room) s m args below meth c 3 D vwCl A 0 0 (QI below args s D vwCl (tyl cA) A (fun (r : Int32) (u : (Nat → Int32) × (Nat → Nat → Int32)) => Q r u.1 u.2) (fun u : (Nat → Int32) × (Nat → Nat → Int32) => kc_T cA a_T u.1 u.2)) (kc_T cA a_T I_T A_T) 26 [(0, .ref (a_T 0)), (1, .int v1), (2, .int v2)] [] := by
  intro n26
  induction n26 with
  | zero =>
    intro I_T A_T v1 v2 hw
    exact absurd hw (fun z => z)
  | succ n26 ih =>
    intro I_T A_T v1 v2 hw
    unfold wp_T_take_L26 at hw
    refine vv_iload_n hC d_T_take_26 2 rfl rfl ?_
    refine vv_iload_n hC d_T_take_27 1 rfl rfl ?_
    refine vv_icmp_ge hC 54 d_T_take_28 (by decide) (fun cd => ?_) (fun cd => ?_)
    · have hw := hw.1 cd
      exact vv_sub [0, 1] (by rfl) (hX26 I_T A_T v1 hw)
    · have hw := hw.2 cd
      refine vv_aload_n hC d_T_take_31 0 rfl rfl ?_
      refine vv_get hC (v := .ref (a_T 2)) hin_T 0 1 tb_33 d_T_take_32 rfl rfl (by decide) rfl rfl ?_
      refine vv_aload_n hC d_T_take_35 0 rfl rfl ?_
      refine vv_get hC (v := .int (I_T 0)) hin_T 0 2 tb_35 d_T_take_36 rfl rfl (by decide) rfl rfl ?_
      refine vv_iload_n hC d_T_take_39 2 rfl rfl ?_
      refine vv_iadd hC d_T_take_40 ?_
      refine vv_aload_n hC d_T_take_41 0 rfl rfl ?_
      refine vv_get hC (v := .ref (a_T 1)) hin_T 0 0 tb_32 d_T_take_42 rfl rfl (by decide) rfl rfl ?_
      refine vv_iload_n hC d_T_take_45 2 rfl rfl ?_
      obtain ⟨hin_1, hw⟩ := hw
      refine vv_iald hC 1 0 d_T_take_46 rfl rfl hin_1 ?_
      obtain ⟨hin_2, hw⟩ := hw
      refine vv_iast hC 2 0 d_T_take_47 rfl rfl hin_2 (ws2 := kc_T cA a_T I_T (va_up A_T 1 (upd (A_T 1) (((I_T 0) + v2)).toNatClampNeg ((A_T 0) (v2).toNatClampNeg)))) (st_T_TA1 ..) ?_
      refine vv_iinc hC d_T_take_48 2 rfl (v := (v2 + (1 : Int32))) rfl (by decide) [1, 2, 0] (L2 := [(0, .ref (a_T 0)), (1, .int v1), (2, .int (v2 + (1 : Int32)))]) rfl ?_
      refine vv_goto hC 26 d_T_take_51 (by decide) ?_
      exact vv_sub [0, 1, 2] (by rfl) (ih I_T (va_up A_T 1 (upd (A_T 1) (((I_T 0) + v2)).toNatClampNeg ((A_T 0) (v2).toNatClampNeg))) v1 (v2 + (1 : Int32)) hw)
set_option maxHeartbeats 4000000 in
set_option maxRecDepth 100000 in
theorem l_T_take_L56 {p : Program} {l : Launch} {e : Env} {s : State} {m : MethodId} {args : Array Value} {below : List Frame} {meth : Method} {c : Code} {D : va_G} {cA : Nat → ClassId} {sx : Nat → Nat} {A : Nat → Prop} (a_T : Nat → Nat) (Q : Int32 → (Nat → Int32) → (Nat → Nat → Int32) → Prop) (X56 : (Nat → Int32) → (Nat → Nat → Int32) → Int32 → Prop) (hC : CX p s m args meth c b_T_take R_T TB 3 D vwCl (tyl cA) A (SPl sx) (some .int)) (hX56 : ∀ (I_T : (Nat → Int32)) (A_T : (Nat → Nat → Int32)) (v1 : Int32), X56 I_T A_T v1 → VV p l e ({ frames := 0, cells := 0, slots := 0, locals := 0 } : Room) s m args below meth c 3 D vwCl A 0 0 (QI below args s D vwCl (tyl cA) A (fun (r : Int32) (u : (Nat → Int32) × (Nat → Nat → Int32)) => Q r u.1 u.2) (fun u : (Nat → Int32) × (Nat → Nat → Int32) => kc_T cA a_T u.1 u.2)) (kc_T cA a_T I_T A_T) 75 [(0, .ref (a_T 0)), (1, .int v1)] []) : ∀ (n56 : Nat) (I_T : (Nat → Int32)) (A_T : (Nat → Nat → Int32)) (v1 : Int32) (v2 : Int32), wp_T_take_L56 Q X56 n56 I_T A_T v1 v2 → VV p l e ({ frames := 0, cells := 0, slots := 0, locals := 0 } : Room) s m args below meth c 3 D vwCl A 0 0 (QI below args s D vwCl (tyl cA) A (fun (r : Int32) (u : (Nat → Int32) × (Nat → Nat → Int32)) => Q r u.1 u.2) (fun u : (Nat → Int32) × (Nat → Nat → Int32) => kc_T cA a_T u.1 u.2)) (kc_T cA a_T I_T A_T) 56 [(0, .ref (a_T 0)), (1, .int v1), (2, .int v2)] [] := by
  intro n56
  induction n56 with
  | zero =>
    intro I_T A_T v1 v2 hw
    exact absurd hw (fun z => z)
  | succ n56 ih =>
    intro I_T A_T v1 v2 hw
    unfold wp_T_take_L56 at hw
    refine vv_iload_n hC d_T_take_56 2 rfl rfl ?_
    refine vv_bipush hC d_T_take_57 (v := (20 : Int32)) (by decide) ?_
    refine vv_icmp_ge hC 75 d_T_take_59 (by decide) (fun cd => ?_) (fun cd => ?_)
    · have hw := hw.1 cd
      exact vv_sub [0, 1] (by rfl) (hX56 I_T A_T v1 hw)
    · have hw := hw.2 cd
      refine vv_aload_n hC d_T_take_62 0 rfl rfl ?_
      refine vv_get hC (v := .ref (a_T 1)) hin_T 0 0 tb_32 d_T_take_63 rfl rfl (by decide) rfl rfl ?_
      refine vv_iload_n hC d_T_take_66 2 rfl rfl ?_
      refine vv_iconst hC d_T_take_67 (v := (0 : Int32)) (by decide) ?_
      obtain ⟨hin_6, hw⟩ := hw
      refine vv_iast hC 1 0 d_T_take_68 rfl rfl hin_6 (ws2 := kc_T cA a_T I_T (va_up A_T 0 (upd (A_T 0) (v2).toNatClampNeg (0 : Int32)))) (st_T_TA0 ..) ?_
      refine vv_iinc hC d_T_take_69 2 rfl (v := (v2 + (1 : Int32))) rfl (by decide) [1, 2, 0] (L2 := [(0, .ref (a_T 0)), (1, .int v1), (2, .int (v2 + (1 : Int32)))]) rfl ?_
      refine vv_goto hC 56 d_T_take_72 (by decide) ?_
      exact vv_sub [0, 1, 2] (by rfl) (ih I_T (va_up A_T 0 (upd (A_T 0) (v2).toNatClampNeg (0 : Int32))) v1 (v2 + (1 : Int32)) hw)
set_option maxHeartbeats 4000000 in
set_option maxRecDepth 100000 in
theorem c_T_take (l : Launch) (D : va_G) (cA : Nat → ClassId) (sx : Nat → Nat) (a_T : Nat → Nat) (I_T : (Nat → Int32)) (A_T : (Nat → Nat → Int32)) (x1 : Int32) (Q : Int32 → (Nat → Int32) → (Nat → Nat → Int32) → Prop) (hw : wp_T_take I_T A_T x1 Q) : MetI l y_T_take (Cond.code y_T_take b_T_take 3 (some .int) :: TB) ({ frames := 0, cells := 0, slots := 0, locals := 0 } : Room) D vwCl (tyl cA) (SPl sx) [.ref (a_T 0), .int x1] (kc_T cA a_T I_T A_T) (fun (r : Int32) (u : (Nat → Int32) × (Nat → Nat → Int32)) => Q r u.1 u.2) (fun u : (Nat → Int32) × (Nat → Nat → Int32) => kc_T cA a_T u.1 u.2) := by
  refine vv_entryI (cc := b_T_take) (own := R_T) (L := [(0, .ref (a_T 0)), (1, .int x1)]) (by decide) rfl rfl (Nat.le_of_ble_eq_true rfl) rfl (fun p e s m args below meth c A hC => ?_)
  unfold wp_T_take at hw
  refine vv_iload_n hC d_T_take_0 1 rfl rfl ?_
  refine vv_if_lt hC 22 d_T_take_1 (by decide) (fun cd => ?_) (fun cd => ?_)
  · have hw := hw.1 cd
    refine vv_iconst hC d_T_take_22 (v := (-1 : Int32)) (by decide) ?_
    exact vv_iret hC d_T_take_23 (I_T, A_T) hw rfl
  · have hw := hw.2 cd
    refine vv_iload_n hC d_T_take_4 1 rfl rfl ?_
    refine vv_bipush hC d_T_take_5 (v := (20 : Int32)) (by decide) ?_
    refine vv_icmp_gt hC 22 d_T_take_7 (by decide) (fun cd => ?_) (fun cd => ?_)
    · have hw := hw.1 cd
      refine vv_iconst hC d_T_take_22 (v := (-1 : Int32)) (by decide) ?_
      exact vv_iret hC d_T_take_23 (I_T, A_T) hw rfl
    · have hw := hw.2 cd
      refine vv_aload_n hC d_T_take_10 0 rfl rfl ?_
      refine vv_get hC (v := .int (I_T 0)) hin_T 0 2 tb_35 d_T_take_11 rfl rfl (by decide) rfl rfl ?_
      refine vv_iload_n hC d_T_take_14 1 rfl rfl ?_
      refine vv_iadd hC d_T_take_15 ?_
      refine vv_sipush hC d_T_take_16 (v := (6000 : Int32)) (by decide) ?_
      refine vv_icmp_le hC 24 d_T_take_19 (by decide) (fun cd => ?_) (fun cd => ?_)
      · have hw := hw.1 cd
        refine vv_iconst hC d_T_take_24 (v := (0 : Int32)) (by decide) ?_
        refine vv_istore_n hC d_T_take_25 rfl (by decide) [1, 2, 0] (L2 := [(0, .ref (a_T 0)), (1, .int x1), (2, .int (0 : Int32))]) rfl ?_
        obtain ⟨m26, hw⟩ := hw
        refine vv_sub [0, 1, 2] (by rfl) (l_T_take_L26 a_T Q _ hC (fun I_T_3 A_T_4 v1_5 hw => ?_) m26 I_T A_T x1 (0 : Int32) hw)
        refine vv_iconst hC d_T_take_54 (v := (0 : Int32)) (by decide) ?_
        refine vv_istore_n hC d_T_take_55 rfl (by decide) [1, 2, 0] (L2 := [(0, .ref (a_T 0)), (1, .int v1_5), (2, .int (0 : Int32))]) rfl ?_
        obtain ⟨m56, hw⟩ := hw
        refine vv_sub [0, 1, 2] (by rfl) (l_T_take_L56 a_T Q _ hC (fun I_T_7 A_T_8 v1_9 hw => ?_) m56 I_T_3 A_T_4 v1_5 (0 : Int32) hw)
        refine vv_aload_n hC d_T_take_75 0 rfl rfl ?_
        refine vv_dup hC d_T_take_76 rfl ?_
        refine vv_get hC (v := .int (I_T_7 0)) hin_T 0 2 tb_35 d_T_take_77 rfl rfl (by decide) rfl rfl ?_
        refine vv_iload_n hC d_T_take_80 1 rfl rfl ?_
        refine vv_iadd hC d_T_take_81 ?_
        refine vv_put hC hin_T ty_T tyok_T nmok_T 0 2 tb_35 d_T_take_82 rfl rfl (by decide) rfl rfl rfl rfl rfl (Nat.le_of_ble_eq_true rfl) (ws2 := kc_T cA a_T (va_up I_T_7 0 ((I_T_7 0) + v1_9)) A_T_8) (st_T_TI0 ..) ?_
        refine vv_aload_n hC d_T_take_85 0 rfl rfl ?_
        refine vv_get hC (v := .int ((I_T_7 0) + v1_9)) hin_T 0 2 tb_35 d_T_take_86 rfl rfl (by decide) rfl rfl ?_
        exact vv_iret hC d_T_take_89 ((va_up I_T_7 0 ((I_T_7 0) + v1_9)), A_T_8) hw rfl
      · have hw := hw.2 cd
        refine vv_iconst hC d_T_take_22 (v := (-1 : Int32)) (by decide) ?_
        exact vv_iret hC d_T_take_23 (I_T, A_T) hw rfl
set_option maxHeartbeats 4000000 in
set_option maxRecDepth 100000 in
theorem c_T_makeEmpty (l : Launch) (D : va_G) (cA : Nat → ClassId) (sx : Nat → Nat) (a_T : Nat → Nat) (I_T : (Nat → Int32)) (A_T : (Nat → Nat → Int32)) (Q : (Nat → Int32) → Prop) (hw : wp_T_makeEmpty I_T Q) : MetV l y_T_makeEmpty (Cond.code y_T_makeEmpty b_T_makeEmpty 1 none :: TB) ({ frames := 0, cells := 0, slots := 0, locals := 0 } : Room) D vwCl (tyl cA) (SPl sx) [.ref (a_T 0)] (kc_T cA a_T I_T A_T) (fun (u : (Nat → Int32)) => Q u) (fun u : (Nat → Int32) => kc_T cA a_T u A_T) := by
  refine vv_entryV (cc := b_T_makeEmpty) (own := R_T) (L := [(0, .ref (a_T 0))]) (by decide) rfl rfl (Nat.le_of_ble_eq_true rfl) rfl (fun p e s m args below meth c A hC => ?_)
  unfold wp_T_makeEmpty at hw
  refine vv_aload_n hC d_T_makeEmpty_0 0 rfl rfl ?_
  refine vv_iconst hC d_T_makeEmpty_1 (v := (0 : Int32)) (by decide) ?_
  refine vv_put hC hin_T ty_T tyok_T nmok_T 0 2 tb_35 d_T_makeEmpty_2 rfl rfl (by decide) rfl rfl rfl rfl rfl (Nat.le_of_ble_eq_true rfl) (ws2 := kc_T cA a_T (va_up I_T 0 (0 : Int32)) A_T) (st_T_TI0 ..) ?_
  exact vv_vret hC d_T_makeEmpty_5 (va_up I_T 0 (0 : Int32)) hw rfl
