set_option maxHeartbeats 4000000 in
set_option maxRecDepth 100000 in
theorem c_M_thrown (l : Launch) (D : va_G) (cA : Nat → ClassId) (sx : Nat → Nat) (a_M : Nat → Nat) (I_M : (Nat → Int32)) (A_M : (Nat → Nat → Int32)) (Q : Int32 → Prop) (hw : wp_M_thrown I_M Q) : MetI l y_M_thrown (Cond.code y_M_thrown b_M_thrown 1 (some .int) :: TB) ({ frames := 0, cells := 0, slots := 0, locals := 0 } : Room) D vwCl (tyl cA) (SPl sx) [.ref (a_M 0)] (kc_M cA a_M I_M A_M) (fun (r : Int32) (u : Unit) => Q r) (fun u : Unit => kc_M cA a_M I_M A_M) := by
  refine vv_entryI (cc := b_M_thrown) (own := R_M) (L := [(0, .ref (a_M 0))]) (by decide) rfl rfl (Nat.le_of_ble_eq_true rfl) rfl (fun p e s m args below meth c A hC => ?_)
  unfold wp_M_thrown at hw
  refine vv_aload_n hC d_M_thrown_0 0 rfl rfl ?_
  refine vv_get hC (v := .int (I_M 0)) hin_M 0 0 tb_672 d_M_thrown_1 rfl rfl (by decide) rfl rfl ?_
  exact vv_iret hC d_M_thrown_4 () hw rfl
set_option maxHeartbeats 4000000 in
set_option maxRecDepth 100000 in
theorem l_M_feed_b63 {p : Program} {l : Launch} {e : Env} {s : State} {m : MethodId} {args : Array Value} {below : List Frame} {meth : Method} {c : Code} {D : va_G} {cA : Nat → ClassId} {sx : Nat → Nat} {A : Nat → Prop} (a_M : Nat → Nat) (Q : (Nat → Int32) → (Nat → Nat → Int32) → Prop) (K8 : (Nat → Int32) → (Nat → Nat → Int32) → Int32 → Int32 → Int32 → Int32 → Int32 → Int32 → Prop) (X8 : (Nat → Int32) → (Nat → Nat → Int32) → Prop) (hC : CX p s m args meth c b_M_feed R_M TB 8 D vwCl (tyl cA) A (SPl sx) none) (hK8 : ∀ (I_M : (Nat → Int32)) (A_M : (Nat → Nat → Int32)) (v1 : Int32) (v2 : Int32) (v3 : Int32) (v4 : Int32) (v5 : Int32) (v6 : Int32), K8 I_M A_M v1 v2 v3 v4 v5 v6 → VV p l e ({ frames := 0, cells := 0, slots := 0, locals := 0 } : Room) s m args below meth c 8 D vwCl A 0 0 (QV below args s D vwCl (tyl cA) A (fun (u : (Nat → Int32) × (Nat → Nat → Int32)) => Q u.1 u.2) (fun u : (Nat → Int32) × (Nat → Nat → Int32) => kc_M cA a_M u.1 u.2)) (kc_M cA a_M I_M A_M) 8 [(0, .ref (a_M 0)), (1, .int v1), (2, .int v2), (3, .int v3), (4, .int v4), (5, .int v5), (6, .int v6)] []) (hX8 : ∀ (I_M : (Nat → Int32)) (A_M : (Nat → Nat → Int32)), X8 I_M A_M → VV p l e ({ frames := 0, cells := 0, slots := 0, locals := 0 } : Room) s m args below meth c 8 D vwCl A 0 0 (QV below args s D vwCl (tyl cA) A (fun (u : (Nat → Int32) × (Nat → Nat → Int32)) => Q u.1 u.2) (fun u : (Nat → Int32) × (Nat → Nat → Int32) => kc_M cA a_M u.1 u.2)) (kc_M cA a_M I_M A_M) 90 [] []) : ∀ (I_M : (Nat → Int32)) (A_M : (Nat → Nat → Int32)) (v1 : Int32) (v2 : Int32) (v3 : Int32) (v4 : Int32) (v5 : Int32) (v6 : Int32) (v7 : Int32), wp_M_feed_b63 Q K8 X8 I_M A_M v1 v2 v3 v4 v5 v6 v7 → VV p l e ({ frames := 0, cells := 0, slots := 0, locals := 0 } : Room) s m args below meth c 8 D vwCl A 0 0 (QV below args s D vwCl (tyl cA) A (fun (u : (Nat → Int32) × (Nat → Nat → Int32)) => Q u.1 u.2) (fun u : (Nat → Int32) × (Nat → Nat → Int32) => kc_M cA a_M u.1 u.2)) (kc_M cA a_M I_M A_M) 63 [(0, .ref (a_M 0)), (1, .int v1), (2, .int v2), (3, .int v3), (4, .int v4), (5, .int v5), (6, .int v6), (7, .int v7)] [] := by
  intro I_M A_M v1 v2 v3 v4 v5 v6 v7 hw
  unfold wp_M_feed_b63 at hw
  refine vv_aload_n hC d_M_feed_63 0 rfl rfl ?_
  refine vv_get hC (v := .ref (a_M 2)) hin_M 0 2 tb_674 d_M_feed_64 rfl rfl (by decide) rfl rfl ?_
  refine vv_iload hC d_M_feed_67 6 rfl ?_
  refine vv_iload hC d_M_feed_69 7 rfl ?_
  refine vv_bipush hC d_M_feed_71 (v := (24 : Int32)) (by decide) ?_
  refine vv_bipush hC d_M_feed_73 (v := (8 : Int32)) (by decide) ?_
  refine vv_iload hC d_M_feed_75 6 rfl ?_
  refine vv_iconst hC d_M_feed_77 (v := (4 : Int32)) (by decide) ?_
  refine vv_irem hC d_M_feed_78 (by decide) ?_
  refine vv_imul hC d_M_feed_79 ?_
  refine vv_isub hC d_M_feed_80 ?_
  refine vv_ishr hC d_M_feed_81 ?_
  refine vv_i2b hC d_M_feed_82 ?_
  obtain ⟨hin_1, hw⟩ := hw
  refine vv_bast hC 2 2 d_M_feed_83 rfl rfl hin_1 (ws2 := kc_M cA a_M I_M (va_up A_M 1 (upd (A_M 1) (v6).toNatClampNeg (vp_nar .byte ((v7 >>> (((24 : Int32) - ((8 : Int32) * (v6 - v6 / (4 : Int32) * (4 : Int32)))) &&& 31))).toInt8.toInt32)))) (st_M_MA1 ..) ?_
  refine vv_iinc hC d_M_feed_84 6 rfl (v := (v6 + (1 : Int32))) rfl (by decide) [1, 2, 3, 4, 5, 6, 0, 7] (L2 := [(0, .ref (a_M 0)), (1, .int v1), (2, .int v2), (3, .int v3), (4, .int v4), (5, .int v5), (6, .int (v6 + (1 : Int32))), (7, .int v7)]) rfl ?_
  refine vv_goto hC 8 d_M_feed_87 (by decide) ?_
  exact vv_sub [0, 1, 2, 3, 4, 5, 6] (by rfl) (hK8 I_M (va_up A_M 1 (upd (A_M 1) (v6).toNatClampNeg (vp_nar .byte ((v7 >>> (((24 : Int32) - ((8 : Int32) * (v6 - v6 / (4 : Int32) * (4 : Int32)))) &&& 31))).toInt8.toInt32))) v1 v2 v3 v4 v5 (v6 + (1 : Int32)) hw)
set_option maxHeartbeats 4000000 in
set_option maxRecDepth 100000 in
theorem l_M_feed_L8 {p : Program} {l : Launch} {e : Env} {s : State} {m : MethodId} {args : Array Value} {below : List Frame} {meth : Method} {c : Code} {D : va_G} {cA : Nat → ClassId} {sx : Nat → Nat} {A : Nat → Prop} (a_M : Nat → Nat) (Q : (Nat → Int32) → (Nat → Nat → Int32) → Prop) (X8 : (Nat → Int32) → (Nat → Nat → Int32) → Prop) (hC : CX p s m args meth c b_M_feed R_M TB 8 D vwCl (tyl cA) A (SPl sx) none) (hX8 : ∀ (I_M : (Nat → Int32)) (A_M : (Nat → Nat → Int32)), X8 I_M A_M → VV p l e ({ frames := 0, cells := 0, slots := 0, locals := 0 } : Room) s m args below meth c 8 D vwCl A 0 0 (QV below args s D vwCl (tyl cA) A (fun (u : (Nat → Int32) × (Nat → Nat → Int32)) => Q u.1 u.2) (fun u : (Nat → Int32) × (Nat → Nat → Int32) => kc_M cA a_M u.1 u.2)) (kc_M cA a_M I_M A_M) 90 [] []) : ∀ (n8 : Nat) (I_M : (Nat → Int32)) (A_M : (Nat → Nat → Int32)) (v1 : Int32) (v2 : Int32) (v3 : Int32) (v4 : Int32) (v5 : Int32) (v6 : Int32), wp_M_feed_L8 Q X8 n8 I_M A_M v1 v2 v3 v4 v5 v6 → VV p l e ({ frames := 0, cells := 0, slots := 0, locals := 0 } : Room) s m args below meth c 8 D vwCl A 0 0 (QV below args s D vwCl (tyl cA) A (fun (u : (Nat → Int32) × (Nat → Nat → Int32)) => Q u.1 u.2) (fun u : (Nat → Int32) × (Nat → Nat → Int32) => kc_M cA a_M u.1 u.2)) (kc_M cA a_M I_M A_M) 8 [(0, .ref (a_M 0)), (1, .int v1), (2, .int v2), (3, .int v3), (4, .int v4), (5, .int v5), (6, .int v6)] [] := by
  intro n8
  induction n8 with
  | zero =>
    intro I_M A_M v1 v2 v3 v4 v5 v6 hw
    exact absurd hw (fun z => z)
  | succ n8 ih =>
    intro I_M A_M v1 v2 v3 v4 v5 v6 hw
    unfold wp_M_feed_L8 at hw
    refine vv_iload hC d_M_feed_8 6 rfl ?_
    refine vv_bipush hC d_M_feed_10 (v := (20 : Int32)) (by decide) ?_
    refine vv_icmp_ge hC 90 d_M_feed_12 (by decide) (fun cd => ?_) (fun cd => ?_)
    · have hw := hw.1 cd
      exact vv_sub [] (by rfl) (hX8 I_M A_M hw)
    · have hw := hw.2 cd
      refine vv_iload hC d_M_feed_15 6 rfl ?_
      refine vv_iconst hC d_M_feed_17 (v := (4 : Int32)) (by decide) ?_
      refine vv_icmp_ge hC 25 d_M_feed_18 (by decide) (fun cd => ?_) (fun cd => ?_)
      · have hw := hw.1 cd
        refine vv_iload hC d_M_feed_25 6 rfl ?_
        refine vv_bipush hC d_M_feed_27 (v := (8 : Int32)) (by decide) ?_
        refine vv_icmp_ge hC 36 d_M_feed_29 (by decide) (fun cd => ?_) (fun cd => ?_)
        · have hw := hw.1 cd
          refine vv_iload hC d_M_feed_36 6 rfl ?_
          refine vv_bipush hC d_M_feed_38 (v := (12 : Int32)) (by decide) ?_
          refine vv_icmp_ge hC 47 d_M_feed_40 (by decide) (fun cd => ?_) (fun cd => ?_)
          · have hw := hw.1 cd
            refine vv_iload hC d_M_feed_47 6 rfl ?_
            refine vv_bipush hC d_M_feed_49 (v := (16 : Int32)) (by decide) ?_
            refine vv_icmp_ge hC 59 d_M_feed_51 (by decide) (fun cd => ?_) (fun cd => ?_)
            · have hw := hw.1 cd
              refine vv_iload hC d_M_feed_59 5 rfl ?_
              refine vv_istore hC d_M_feed_61 (by decide) [1, 2, 3, 4, 5, 6, 7, 0] (L2 := [(0, .ref (a_M 0)), (1, .int v1), (2, .int v2), (3, .int v3), (4, .int v4), (5, .int v5), (6, .int v6), (7, .int v5)]) rfl ?_
              exact vv_sub [0, 1, 2, 3, 4, 5, 6, 7] (by rfl) (l_M_feed_b63 a_M Q (wp_M_feed_L8 Q X8 n8) X8 hC ih hX8 I_M A_M v1 v2 v3 v4 v5 v6 v5 hw)
            · have hw := hw.2 cd
              refine vv_iload hC d_M_feed_54 4 rfl ?_
              refine vv_goto hC 61 d_M_feed_56 (by decide) ?_
              refine vv_istore hC d_M_feed_61 (by decide) [1, 2, 3, 4, 5, 6, 7, 0] (L2 := [(0, .ref (a_M 0)), (1, .int v1), (2, .int v2), (3, .int v3), (4, .int v4), (5, .int v5), (6, .int v6), (7, .int v4)]) rfl ?_
              exact vv_sub [0, 1, 2, 3, 4, 5, 6, 7] (by rfl) (l_M_feed_b63 a_M Q (wp_M_feed_L8 Q X8 n8) X8 hC ih hX8 I_M A_M v1 v2 v3 v4 v5 v6 v4 hw)
          · have hw := hw.2 cd
            refine vv_iload_n hC d_M_feed_43 3 rfl rfl ?_
            refine vv_goto hC 61 d_M_feed_44 (by decide) ?_
            refine vv_istore hC d_M_feed_61 (by decide) [1, 2, 3, 4, 5, 6, 7, 0] (L2 := [(0, .ref (a_M 0)), (1, .int v1), (2, .int v2), (3, .int v3), (4, .int v4), (5, .int v5), (6, .int v6), (7, .int v3)]) rfl ?_
            exact vv_sub [0, 1, 2, 3, 4, 5, 6, 7] (by rfl) (l_M_feed_b63 a_M Q (wp_M_feed_L8 Q X8 n8) X8 hC ih hX8 I_M A_M v1 v2 v3 v4 v5 v6 v3 hw)
        · have hw := hw.2 cd
          refine vv_iload_n hC d_M_feed_32 2 rfl rfl ?_
          refine vv_goto hC 61 d_M_feed_33 (by decide) ?_
          refine vv_istore hC d_M_feed_61 (by decide) [1, 2, 3, 4, 5, 6, 7, 0] (L2 := [(0, .ref (a_M 0)), (1, .int v1), (2, .int v2), (3, .int v3), (4, .int v4), (5, .int v5), (6, .int v6), (7, .int v2)]) rfl ?_
          exact vv_sub [0, 1, 2, 3, 4, 5, 6, 7] (by rfl) (l_M_feed_b63 a_M Q (wp_M_feed_L8 Q X8 n8) X8 hC ih hX8 I_M A_M v1 v2 v3 v4 v5 v6 v2 hw)
      · have hw := hw.2 cd
        refine vv_iload_n hC d_M_feed_21 1 rfl rfl ?_
        refine vv_goto hC 61 d_M_feed_22 (by decide) ?_
        refine vv_istore hC d_M_feed_61 (by decide) [1, 2, 3, 4, 5, 6, 7, 0] (L2 := [(0, .ref (a_M 0)), (1, .int v1), (2, .int v2), (3, .int v3), (4, .int v4), (5, .int v5), (6, .int v6), (7, .int v1)]) rfl ?_
        exact vv_sub [0, 1, 2, 3, 4, 5, 6, 7] (by rfl) (l_M_feed_b63 a_M Q (wp_M_feed_L8 Q X8 n8) X8 hC ih hX8 I_M A_M v1 v2 v3 v4 v5 v6 v1 hw)
set_option maxHeartbeats 4000000 in
set_option maxRecDepth 100000 in
theorem c_M_feed (l : Launch) (D : va_G) (cA : Nat → ClassId) (sx : Nat → Nat) (a_M : Nat → Nat) (I_M : (Nat → Int32)) (A_M : (Nat → Nat → Int32)) (x1 x2 x3 x4 x5 : Int32) (Q : (Nat → Int32) → (Nat → Nat → Int32) → Prop) (hw : wp_M_feed I_M A_M x1 x2 x3 x4 x5 Q) : MetV l y_M_feed (Cond.code y_M_feed b_M_feed 8 none :: TB) ({ frames := 0, cells := 0, slots := 0, locals := 0 } : Room) D vwCl (tyl cA) (SPl sx) [.ref (a_M 0), .int x1, .int x2, .int x3, .int x4, .int x5] (kc_M cA a_M I_M A_M) (fun (u : (Nat → Int32) × (Nat → Nat → Int32)) => Q u.1 u.2) (fun u : (Nat → Int32) × (Nat → Nat → Int32) => kc_M cA a_M u.1 u.2) := by
  refine vv_entryV (cc := b_M_feed) (own := R_M) (L := [(0, .ref (a_M 0)), (1, .int x1), (2, .int x2), (3, .int x3), (4, .int x4), (5, .int x5)]) (by decide) rfl rfl (Nat.le_of_ble_eq_true rfl) rfl (fun p e s m args below meth c A hC => ?_)
  unfold wp_M_feed at hw
  refine vv_aload_n hC d_M_feed_0 0 rfl rfl ?_
  refine vv_iconst hC d_M_feed_1 (v := (0 : Int32)) (by decide) ?_
  refine vv_put hC hin_M ty_M tyok_M nmok_M 0 0 tb_672 d_M_feed_2 rfl rfl (by decide) rfl rfl rfl rfl rfl (Nat.le_of_ble_eq_true rfl) (ws2 := kc_M cA a_M (va_up I_M 0 (0 : Int32)) A_M) (st_M_MI0 ..) ?_
  refine vv_iconst hC d_M_feed_5 (v := (0 : Int32)) (by decide) ?_
  refine vv_istore hC d_M_feed_6 (by decide) [1, 2, 3, 4, 5, 6, 0] (L2 := [(0, .ref (a_M 0)), (1, .int x1), (2, .int x2), (3, .int x3), (4, .int x4), (5, .int x5), (6, .int (0 : Int32))]) rfl ?_
  obtain ⟨m8, hw⟩ := hw
  refine vv_sub [0, 1, 2, 3, 4, 5, 6] (by rfl) (l_M_feed_L8 a_M Q _ hC (fun I_M_2 A_M_3 hw => ?_) m8 (va_up I_M 0 (0 : Int32)) A_M x1 x2 x3 x4 x5 (0 : Int32) hw)
  exact vv_vret hC d_M_feed_90 (I_M_2, A_M_3) hw rfl
set_option maxHeartbeats 4000000 in
set_option maxRecDepth 100000 in
theorem l_M_end_L31 {p : Program} {l : Launch} {e : Env} {s : State} {m : MethodId} {args : Array Value} {below : List Frame} {meth : Method} {c : Code} {D : va_G} {cA : Nat → ClassId} {sx : Nat → Nat} {A : Nat → Prop} (a_M : Nat → Nat) (Q : Int32 → (Nat → Int32) → (Nat → Nat → Int32) → Prop) (X31 : (Nat → Int32) → (Nat → Nat → Int32) → Int32 → Prop) (hC : CX p s m args meth c b_M_end R_M TB 3 D vwCl (tyl cA) A (SPl sx) (some .int)) (hX31 : ∀ (I_M : (Nat → Int32)) (A_M : (Nat → Nat → Int32)) (v1 : Int32), X31 I_M A_M v1 → VV p l e ({ frames := 0, cells := 0, slots := 0, locals := 0 } : Room) s m args below meth c 3 D vwCl A 0 0 (QI below args s D vwCl (tyl cA) A (fun (r : Int32) (u : (Nat → Int32) × (Nat → Nat → Int32)) => Q r u.1 u.2) (fun u : (Nat → Int32) × (Nat → Nat → Int32) => kc_M cA a_M u.1 u.2)) (kc_M cA a_M I_M A_M) 59 [(0, .ref (a_M 0)), (1, .int v1)] []) : ∀ (n31 : Nat) (I_M : (Nat → Int32)) (A_M : (Nat → Nat → Int32)) (v1 : Int32) (v2 : Int32), wp_M_end_L31 Q X31 n31 I_M A_M v1 v2 → VV p l e ({ frames := 0, cells := 0, slots := 0, locals := 0 } : Room) s m args below meth c 3 D vwCl A 0 0 (QI below args s D vwCl (tyl cA) A (fun (r : Int32) (u : (Nat → Int32) × (Nat → Nat → Int32)) => Q r u.1 u.2) (fun u : (Nat → Int32) × (Nat → Nat → Int32) => kc_M cA a_M u.1 u.2)) (kc_M cA a_M I_M A_M) 31 [(0, .ref (a_M 0)), (1, .int v1), (2, .int v2)] [] := by
  intro n31
  induction n31 with
  | zero =>
    intro I_M A_M v1 v2 hw
    exact absurd hw (fun z => z)
  | succ n31 ih =>
    intro I_M A_M v1 v2 hw
    unfold wp_M_end_L31 at hw
    refine vv_iload_n hC d_M_end_31 2 rfl rfl ?_
    refine vv_iload_n hC d_M_end_32 1 rfl rfl ?_
    refine vv_icmp_ge hC 59 d_M_end_33 (by decide) (fun cd => ?_) (fun cd => ?_)
    · have hw := hw.1 cd
      exact vv_sub [0, 1] (by rfl) (hX31 I_M A_M v1 hw)
    · have hw := hw.2 cd
      refine vv_aload_n hC d_M_end_36 0 rfl rfl ?_
      refine vv_get hC (v := .ref (a_M 1)) hin_M 0 1 tb_673 d_M_end_37 rfl rfl (by decide) rfl rfl ?_
      refine vv_aload_n hC d_M_end_40 0 rfl rfl ?_
      refine vv_get hC (v := .int (I_M 1)) hin_M 0 3 tb_675 d_M_end_41 rfl rfl (by decide) rfl rfl ?_
      refine vv_iload_n hC d_M_end_44 2 rfl rfl ?_
      refine vv_iadd hC d_M_end_45 ?_
      refine vv_aload_n hC d_M_end_46 0 rfl rfl ?_
      refine vv_get hC (v := .ref (a_M 2)) hin_M 0 2 tb_674 d_M_end_47 rfl rfl (by decide) rfl rfl ?_
      refine vv_iload_n hC d_M_end_50 2 rfl rfl ?_
      obtain ⟨hin_1, hw⟩ := hw
      refine vv_bald hC 2 2 d_M_end_51 rfl rfl hin_1 ?_
      obtain ⟨hin_2, hw⟩ := hw
      refine vv_bast hC 1 2 d_M_end_52 rfl rfl hin_2 (ws2 := kc_M cA a_M I_M (va_up A_M 0 (upd (A_M 0) (((I_M 1) + v2)).toNatClampNeg (vp_nar .byte ((A_M 1) (v2).toNatClampNeg))))) (st_M_MA0 ..) ?_
      refine vv_iinc hC d_M_end_53 2 rfl (v := (v2 + (1 : Int32))) rfl (by decide) [1, 2, 0] (L2 := [(0, .ref (a_M 0)), (1, .int v1), (2, .int (v2 + (1 : Int32)))]) rfl ?_
      refine vv_goto hC 31 d_M_end_56 (by decide) ?_
      exact vv_sub [0, 1, 2] (by rfl) (ih I_M (va_up A_M 0 (upd (A_M 0) (((I_M 1) + v2)).toNatClampNeg (vp_nar .byte ((A_M 1) (v2).toNatClampNeg)))) v1 (v2 + (1 : Int32)) hw)
set_option maxHeartbeats 4000000 in
set_option maxRecDepth 100000 in
theorem l_M_end_L61 {p : Program} {l : Launch} {e : Env} {s : State} {m : MethodId} {args : Array Value} {below : List Frame} {meth : Method} {c : Code} {D : va_G} {cA : Nat → ClassId} {sx : Nat → Nat} {A : Nat → Prop} (a_M : Nat → Nat) (Q : Int32 → (Nat → Int32) → (Nat → Nat → Int32) → Prop) (X61 : (Nat → Int32) → (Nat → Nat → Int32) → Int32 → Prop) (hC : CX p s m args meth c b_M_end R_M TB 3 D vwCl (tyl cA) A (SPl sx) (some .int)) (hX61 : ∀ (I_M : (Nat → Int32)) (A_M : (Nat → Nat → Int32)) (v1 : Int32), X61 I_M A_M v1 → VV p l e ({ frames := 0, cells := 0, slots := 0, locals := 0 } : Room) s m args below meth c 3 D vwCl A 0 0 (QI below args s D vwCl (tyl cA) A (fun (r : Int32) (u : (Nat → Int32) × (Nat → Nat → Int32)) => Q r u.1 u.2) (fun u : (Nat → Int32) × (Nat → Nat → Int32) => kc_M cA a_M u.1 u.2)) (kc_M cA a_M I_M A_M) 80 [(0, .ref (a_M 0)), (1, .int v1)] []) : ∀ (n61 : Nat) (I_M : (Nat → Int32)) (A_M : (Nat → Nat → Int32)) (v1 : Int32) (v2 : Int32), wp_M_end_L61 Q X61 n61 I_M A_M v1 v2 → VV p l e ({ frames := 0, cells := 0, slots := 0, locals := 0 } : Room) s m args below meth c 3 D vwCl A 0 0 (QI below args s D vwCl (tyl cA) A (fun (r : Int32) (u : (Nat → Int32) × (Nat → Nat → Int32)) => Q r u.1 u.2) (fun u : (Nat → Int32) × (Nat → Nat → Int32) => kc_M cA a_M u.1 u.2)) (kc_M cA a_M I_M A_M) 61 [(0, .ref (a_M 0)), (1, .int v1), (2, .int v2)] [] := by
  intro n61
  induction n61 with
  | zero =>
    intro I_M A_M v1 v2 hw
    exact absurd hw (fun z => z)
  | succ n61 ih =>
    intro I_M A_M v1 v2 hw
    unfold wp_M_end_L61 at hw
    refine vv_iload_n hC d_M_end_61 2 rfl rfl ?_
    refine vv_bipush hC d_M_end_62 (v := (20 : Int32)) (by decide) ?_
    refine vv_icmp_ge hC 80 d_M_end_64 (by decide) (fun cd => ?_) (fun cd => ?_)
    · have hw := hw.1 cd
      exact vv_sub [0, 1] (by rfl) (hX61 I_M A_M v1 hw)
    · have hw := hw.2 cd
      refine vv_aload_n hC d_M_end_67 0 rfl rfl ?_
      refine vv_get hC (v := .ref (a_M 2)) hin_M 0 2 tb_674 d_M_end_68 rfl rfl (by decide) rfl rfl ?_
      refine vv_iload_n hC d_M_end_71 2 rfl rfl ?_
      refine vv_iconst hC d_M_end_72 (v := (0 : Int32)) (by decide) ?_
      obtain ⟨hin_6, hw⟩ := hw
      refine vv_bast hC 2 2 d_M_end_73 rfl rfl hin_6 (ws2 := kc_M cA a_M I_M (va_up A_M 1 (upd (A_M 1) (v2).toNatClampNeg (vp_nar .byte (0 : Int32))))) (st_M_MA1 ..) ?_
      refine vv_iinc hC d_M_end_74 2 rfl (v := (v2 + (1 : Int32))) rfl (by decide) [1, 2, 0] (L2 := [(0, .ref (a_M 0)), (1, .int v1), (2, .int (v2 + (1 : Int32)))]) rfl ?_
      refine vv_goto hC 61 d_M_end_77 (by decide) ?_
      exact vv_sub [0, 1, 2] (by rfl) (ih I_M (va_up A_M 1 (upd (A_M 1) (v2).toNatClampNeg (vp_nar .byte (0 : Int32)))) v1 (v2 + (1 : Int32)) hw)
set_option maxHeartbeats 4000000 in
set_option maxRecDepth 100000 in
theorem c_M_end (l : Launch) (D : va_G) (cA : Nat → ClassId) (sx : Nat → Nat) (a_M : Nat → Nat) (I_M : (Nat → Int32)) (A_M : (Nat → Nat → Int32)) (x1 : Int32) (Q : Int32 → (Nat → Int32) → (Nat → Nat → Int32) → Prop) (hw : wp_M_end I_M A_M x1 Q) : MetI l y_M_end (Cond.code y_M_end b_M_end 3 (some .int) :: TB) ({ frames := 0, cells := 0, slots := 0, locals := 0 } : Room) D vwCl (tyl cA) (SPl sx) [.ref (a_M 0), .int x1] (kc_M cA a_M I_M A_M) (fun (r : Int32) (u : (Nat → Int32) × (Nat → Nat → Int32)) => Q r u.1 u.2) (fun u : (Nat → Int32) × (Nat → Nat → Int32) => kc_M cA a_M u.1 u.2) := by
  refine vv_entryI (cc := b_M_end) (own := R_M) (L := [(0, .ref (a_M 0)), (1, .int x1)]) (by decide) rfl rfl (Nat.le_of_ble_eq_true rfl) rfl (fun p e s m args below meth c A hC => ?_)
  unfold wp_M_end at hw
  refine vv_aload_n hC d_M_end_0 0 rfl rfl ?_
  refine vv_iconst hC d_M_end_1 (v := (0 : Int32)) (by decide) ?_
  refine vv_put hC hin_M ty_M tyok_M nmok_M 0 0 tb_672 d_M_end_2 rfl rfl (by decide) rfl rfl rfl rfl rfl (Nat.le_of_ble_eq_true rfl) (ws2 := kc_M cA a_M (va_up I_M 0 (0 : Int32)) A_M) (st_M_MI0 ..) ?_
  refine vv_iload_n hC d_M_end_5 1 rfl rfl ?_
  refine vv_if_lt hC 27 d_M_end_6 (by decide) (fun cd => ?_) (fun cd => ?_)
  · have hw := hw.1 cd
    refine vv_iconst hC d_M_end_27 (v := (-1 : Int32)) (by decide) ?_
    exact vv_iret hC d_M_end_28 ((va_up I_M 0 (0 : Int32)), A_M) hw rfl
  · have hw := hw.2 cd
    refine vv_iload_n hC d_M_end_9 1 rfl rfl ?_
    refine vv_bipush hC d_M_end_10 (v := (20 : Int32)) (by decide) ?_
    refine vv_icmp_gt hC 27 d_M_end_12 (by decide) (fun cd => ?_) (fun cd => ?_)
    · have hw := hw.1 cd
      refine vv_iconst hC d_M_end_27 (v := (-1 : Int32)) (by decide) ?_
      exact vv_iret hC d_M_end_28 ((va_up I_M 0 (0 : Int32)), A_M) hw rfl
    · have hw := hw.2 cd
      refine vv_aload_n hC d_M_end_15 0 rfl rfl ?_
      refine vv_get hC (v := .int (I_M 1)) hin_M 0 3 tb_675 d_M_end_16 rfl rfl (by decide) rfl rfl ?_
      refine vv_iload_n hC d_M_end_19 1 rfl rfl ?_
      refine vv_iadd hC d_M_end_20 ?_
      refine vv_sipush hC d_M_end_21 (v := (6000 : Int32)) (by decide) ?_
      refine vv_icmp_le hC 29 d_M_end_24 (by decide) (fun cd => ?_) (fun cd => ?_)
      · have hw := hw.1 cd
        refine vv_iconst hC d_M_end_29 (v := (0 : Int32)) (by decide) ?_
        refine vv_istore_n hC d_M_end_30 rfl (by decide) [1, 2, 0] (L2 := [(0, .ref (a_M 0)), (1, .int x1), (2, .int (0 : Int32))]) rfl ?_
        obtain ⟨m31, hw⟩ := hw
        refine vv_sub [0, 1, 2] (by rfl) (l_M_end_L31 a_M Q _ hC (fun I_M_3 A_M_4 v1_5 hw => ?_) m31 (va_up I_M 0 (0 : Int32)) A_M x1 (0 : Int32) hw)
        refine vv_iconst hC d_M_end_59 (v := (0 : Int32)) (by decide) ?_
        refine vv_istore_n hC d_M_end_60 rfl (by decide) [1, 2, 0] (L2 := [(0, .ref (a_M 0)), (1, .int v1_5), (2, .int (0 : Int32))]) rfl ?_
        obtain ⟨m61, hw⟩ := hw
        refine vv_sub [0, 1, 2] (by rfl) (l_M_end_L61 a_M Q _ hC (fun I_M_7 A_M_8 v1_9 hw => ?_) m61 I_M_3 A_M_4 v1_5 (0 : Int32) hw)
        refine vv_aload_n hC d_M_end_80 0 rfl rfl ?_
        refine vv_dup hC d_M_end_81 rfl ?_
        refine vv_get hC (v := .int (I_M_7 1)) hin_M 0 3 tb_675 d_M_end_82 rfl rfl (by decide) rfl rfl ?_
        refine vv_iload_n hC d_M_end_85 1 rfl rfl ?_
        refine vv_iadd hC d_M_end_86 ?_
        refine vv_put hC hin_M ty_M tyok_M nmok_M 0 3 tb_675 d_M_end_87 rfl rfl (by decide) rfl rfl rfl rfl rfl (Nat.le_of_ble_eq_true rfl) (ws2 := kc_M cA a_M (va_up I_M_7 1 ((I_M_7 1) + v1_9)) A_M_8) (st_M_MI1 ..) ?_
        refine vv_aload_n hC d_M_end_90 0 rfl rfl ?_
        refine vv_get hC (v := .int ((I_M_7 1) + v1_9)) hin_M 0 3 tb_675 d_M_end_91 rfl rfl (by decide) rfl rfl ?_
        exact vv_iret hC d_M_end_94 ((va_up I_M_7 1 ((I_M_7 1) + v1_9)), A_M_8) hw rfl
      · have hw := hw.2 cd
        refine vv_iconst hC d_M_end_27 (v := (-1 : Int32)) (by decide) ?_
        exact vv_iret hC d_M_end_28 ((va_up I_M 0 (0 : Int32)), A_M) hw rfl
set_option maxHeartbeats 4000000 in
set_option maxRecDepth 100000 in
theorem c_M_here (l : Launch) (D : va_G) (cA : Nat → ClassId) (sx : Nat → Nat) (a_M : Nat → Nat) (I_M : (Nat → Int32)) (A_M : (Nat → Nat → Int32)) (Q : Int32 → Prop) (hw : wp_M_here I_M A_M Q) : MetI l y_M_here (Cond.code y_M_here b_M_here 1 (some .int) :: TB) ({ frames := 0, cells := 0, slots := 0, locals := 0 } : Room) D vwCl (tyl cA) (SPl sx) [.ref (a_M 0)] (kc_M cA a_M I_M A_M) (fun (r : Int32) (u : Unit) => Q r) (fun u : Unit => kc_M cA a_M I_M A_M) := by
  refine vv_entryI (cc := b_M_here) (own := R_M) (L := [(0, .ref (a_M 0))]) (by decide) rfl rfl (Nat.le_of_ble_eq_true rfl) rfl (fun p e s m args below meth c A hC => ?_)
  unfold wp_M_here at hw
  refine vv_aload_n hC d_M_here_0 0 rfl rfl ?_
  refine vv_get hC (v := .int (I_M 4)) hin_M 0 6 tb_678 d_M_here_1 rfl rfl (by decide) rfl rfl ?_
  refine vv_aload_n hC d_M_here_4 0 rfl rfl ?_
  refine vv_get hC (v := .int (I_M 1)) hin_M 0 3 tb_675 d_M_here_5 rfl rfl (by decide) rfl rfl ?_
  refine vv_icmp_ge hC 27 d_M_here_8 (by decide) (fun cd => ?_) (fun cd => ?_)
  · have hw := hw.1 cd
    refine vv_iconst hC d_M_here_27 (v := (-1 : Int32)) (by decide) ?_
    exact vv_iret hC d_M_here_28 () hw rfl
  · have hw := hw.2 cd
    refine vv_aload_n hC d_M_here_11 0 rfl rfl ?_
    refine vv_get hC (v := .ref (a_M 1)) hin_M 0 1 tb_673 d_M_here_12 rfl rfl (by decide) rfl rfl ?_
    refine vv_aload_n hC d_M_here_15 0 rfl rfl ?_
    refine vv_get hC (v := .int (I_M 4)) hin_M 0 6 tb_678 d_M_here_16 rfl rfl (by decide) rfl rfl ?_
    obtain ⟨hin_1, hw⟩ := hw
    refine vv_bald hC 1 2 d_M_here_19 rfl rfl hin_1 ?_
    refine vv_sipush hC d_M_here_20 (v := (255 : Int32)) (by decide) ?_
    refine vv_iand hC d_M_here_23 ?_
    refine vv_goto hC 28 d_M_here_24 (by decide) ?_
    exact vv_iret hC d_M_here_28 () hw rfl
set_option maxHeartbeats 4000000 in
set_option maxRecDepth 100000 in
theorem c_M_wrong (l : Launch) (D : va_G) (cA : Nat → ClassId) (sx : Nat → Nat) (a_M : Nat → Nat) (I_M : (Nat → Int32)) (A_M : (Nat → Nat → Int32)) (x1 x2 : Int32) (Q : (Nat → Int32) → Prop) (hw : wp_M_wrong I_M x1 x2 Q) : MetV l y_M_wrong (Cond.code y_M_wrong b_M_wrong 3 none :: TB) ({ frames := 0, cells := 0, slots := 0, locals := 0 } : Room) D vwCl (tyl cA) (SPl sx) [.ref (a_M 0), .int x1, .int x2] (kc_M cA a_M I_M A_M) (fun (u : (Nat → Int32)) => Q u) (fun u : (Nat → Int32) => kc_M cA a_M u A_M) := by
  refine vv_entryV (cc := b_M_wrong) (own := R_M) (L := [(0, .ref (a_M 0)), (1, .int x1), (2, .int x2)]) (by decide) rfl rfl (Nat.le_of_ble_eq_true rfl) rfl (fun p e s m args below meth c A hC => ?_)
  unfold wp_M_wrong at hw
  refine vv_aload_n hC d_M_wrong_0 0 rfl rfl ?_
  refine vv_get hC (v := .int (I_M 5)) hin_M 0 7 tb_679 d_M_wrong_1 rfl rfl (by decide) rfl rfl ?_
  refine vv_if_le hC 8 d_M_wrong_4 (by decide) (fun cd => ?_) (fun cd => ?_)
  · have hw := hw.1 cd
    refine vv_aload_n hC d_M_wrong_8 0 rfl rfl ?_
    refine vv_iload_n hC d_M_wrong_9 1 rfl rfl ?_
    refine vv_put hC hin_M ty_M tyok_M nmok_M 0 7 tb_679 d_M_wrong_10 rfl rfl (by decide) rfl rfl rfl rfl rfl (Nat.le_of_ble_eq_true rfl) (ws2 := kc_M cA a_M (va_up I_M 5 x1) A_M) (st_M_MI5 ..) ?_
    refine vv_aload_n hC d_M_wrong_13 0 rfl rfl ?_
    refine vv_iload_n hC d_M_wrong_14 2 rfl rfl ?_
    refine vv_put hC hin_M ty_M tyok_M nmok_M 0 8 tb_680 d_M_wrong_15 rfl rfl (by decide) rfl rfl rfl rfl rfl (Nat.le_of_ble_eq_true rfl) (ws2 := kc_M cA a_M (va_up (va_up I_M 5 x1) 6 x2) A_M) (st_M_MI6 ..) ?_
    exact vv_vret hC d_M_wrong_18 (va_up (va_up I_M 5 x1) 6 x2) hw rfl
  · have hw := hw.2 cd
    exact vv_vret hC d_M_wrong_7 I_M hw rfl
set_option maxHeartbeats 4000000 in
set_option maxRecDepth 100000 in
theorem c_M_take (l : Launch) (D : va_G) (cA : Nat → ClassId) (sx : Nat → Nat) (a_M : Nat → Nat) (I_M : (Nat → Int32)) (A_M : (Nat → Nat → Int32)) (x1 : Int32) (Q : (Nat → Int32) → Prop) (hw : wp_M_take I_M A_M x1 Q) : MetV l y_M_take (Cond.code y_M_take b_M_take 2 none :: TB) ({ frames := 1, cells := 0, slots := 0, locals := 22 } : Room) D vwCl (tyl cA) (SPl sx) [.ref (a_M 0), .int x1] (kc_M cA a_M I_M A_M) (fun (u : (Nat → Int32)) => Q u) (fun u : (Nat → Int32) => kc_M cA a_M u A_M) := by
  refine vv_entryV (cc := b_M_take) (own := R_M) (L := [(0, .ref (a_M 0)), (1, .int x1)]) (by decide) rfl rfl (Nat.le_of_ble_eq_true rfl) rfl (fun p e s m args below meth c A hC => ?_)
  unfold wp_M_take at hw
  refine vv_aload_n hC d_M_take_0 0 rfl rfl ?_
  refine vv_get hC (v := .int (I_M 5)) hin_M 0 7 tb_679 d_M_take_1 rfl rfl (by decide) rfl rfl ?_
  refine vv_if_le hC 8 d_M_take_4 (by decide) (fun cd => ?_) (fun cd => ?_)
  · have hw := hw.1 cd
    refine vv_aload_n hC d_M_take_8 0 rfl rfl ?_
    refine vv_callVI (wr := []) hC (c_M_here l D cA sx a_M I_M A_M _ hw) (cw_M_100 hC) d_M_take_9 [] [0, 1, 2, 3, 4, 5, 6, 7, 8, 9, 10, 11, 12, 13, 14, 15, 16, 17, 18, 19, 20, 21, 22, 23] [] [0, 1, 2, 3, 4, 5, 6, 7, 8, 9, 10, 11, 12, 13, 14, 15, 16, 17, 18, 19, 20, 21, 22, 23] (fun u_2 : Unit => kc_M cA a_M I_M A_M) ⟨Nat.zero_le _, Nat.zero_le _⟩ rfl rfl (fun _ => rfl) rfl rfl rfl rfl rfl rfl rfl rfl (Nat.le_of_ble_eq_true rfl) (fun r_1 u_2 hw => ?_)
    refine vv_iload_n hC d_M_take_12 1 rfl rfl ?_
    refine vv_icmp_ne hC 29 d_M_take_13 (by decide) (fun cd => ?_) (fun cd => ?_)
    · have hw := hw.2 cd
      refine vv_aload_n hC d_M_take_29 0 rfl rfl ?_
      refine vv_iconst hC d_M_take_30 (v := (1 : Int32)) (by decide) ?_
      refine vv_aload_n hC d_M_take_31 0 rfl rfl ?_
      refine vv_get hC (v := .int (I_M 4)) hin_M 0 6 tb_678 d_M_take_32 rfl rfl (by decide) rfl rfl ?_
      refine vv_callVV (wr := []) hC (c_M_wrong l D cA sx a_M I_M A_M (1 : Int32) (I_M 4) _ hw) (cw_M_104 hC) d_M_take_35 [] [0, 1, 2, 3, 4, 5, 6, 7, 8, 9, 10, 11, 12, 13, 14, 15, 16, 17, 18, 19, 20, 21, 22, 23] [] [0, 1, 2, 3, 4, 5, 6, 7, 8, 9, 10, 11, 12, 13, 14, 15, 16, 17, 18, 19, 20, 21, 22, 23] (fun u_3 : (Nat → Int32) => kc_M cA a_M u_3 A_M) ⟨Nat.zero_le _, Nat.zero_le _⟩ rfl rfl (fun _ => rfl) rfl rfl rfl rfl rfl rfl rfl rfl (Nat.le_of_ble_eq_true rfl) (fun u_3 hw => ?_)
      exact vv_vret hC d_M_take_38 u_3 hw rfl
    · have hw := hw.1 cd
      refine vv_aload_n hC d_M_take_16 0 rfl rfl ?_
      refine vv_dup hC d_M_take_17 rfl ?_
      refine vv_get hC (v := .int (I_M 4)) hin_M 0 6 tb_678 d_M_take_18 rfl rfl (by decide) rfl rfl ?_
      refine vv_iconst hC d_M_take_21 (v := (1 : Int32)) (by decide) ?_
      refine vv_iadd hC d_M_take_22 ?_
      refine vv_put hC hin_M ty_M tyok_M nmok_M 0 6 tb_678 d_M_take_23 rfl rfl (by decide) rfl rfl rfl rfl rfl (Nat.le_of_ble_eq_true rfl) (ws2 := kc_M cA a_M (va_up I_M 4 ((I_M 4) + (1 : Int32))) A_M) (st_M_MI4 ..) ?_
      refine vv_goto hC 38 d_M_take_26 (by decide) ?_
      exact vv_vret hC d_M_take_38 (va_up I_M 4 ((I_M 4) + (1 : Int32))) hw rfl
  · have hw := hw.2 cd
    exact vv_vret hC d_M_take_7 I_M hw rfl
set_option maxHeartbeats 4000000 in
set_option maxRecDepth 100000 in
theorem c_M_isDigit (l : Launch) (D : va_G) (cA : Nat → ClassId) (sx : Nat → Nat) (a_M : Nat → Nat) (I_M : (Nat → Int32)) (A_M : (Nat → Nat → Int32)) (Q : Int32 → Prop) (hw : wp_M_isDigit I_M A_M Q) : MetI l y_M_isDigit (Cond.code y_M_isDigit b_M_isDigit 1 (some .boolean) :: TB) ({ frames := 1, cells := 0, slots := 0, locals := 20 } : Room) D vwCl (tyl cA) (SPl sx) [.ref (a_M 0)] (kc_M cA a_M I_M A_M) (fun (r : Int32) (u : Unit) => Q r) (fun u : Unit => kc_M cA a_M I_M A_M) := by
  refine vv_entryI (cc := b_M_isDigit) (own := R_M) (L := [(0, .ref (a_M 0))]) (by decide) rfl rfl (Nat.le_of_ble_eq_true rfl) rfl (fun p e s m args below meth c A hC => ?_)
  unfold wp_M_isDigit at hw
  refine vv_aload_n hC d_M_isDigit_0 0 rfl rfl ?_
  refine vv_callVI (wr := []) hC (c_M_here l D cA sx a_M I_M A_M _ hw) (cw_M_100 hC) d_M_isDigit_1 [] [0, 1, 2, 3, 4, 5, 6, 7, 8, 9, 10, 11, 12, 13, 14, 15, 16, 17, 18, 19, 20, 21, 22, 23] [] [0, 1, 2, 3, 4, 5, 6, 7, 8, 9, 10, 11, 12, 13, 14, 15, 16, 17, 18, 19, 20, 21, 22, 23] (fun u_2 : Unit => kc_M cA a_M I_M A_M) ⟨Nat.zero_le _, Nat.zero_le _⟩ rfl rfl (fun _ => rfl) rfl rfl rfl rfl rfl rfl rfl rfl (Nat.le_of_ble_eq_true rfl) (fun r_1 u_2 hw => ?_)
  refine vv_bipush hC d_M_isDigit_4 (v := (48 : Int32)) (by decide) ?_
  refine vv_icmp_lt hC 22 d_M_isDigit_6 (by decide) (fun cd => ?_) (fun cd => ?_)
  · have hw := hw.1 cd
    refine vv_iconst hC d_M_isDigit_22 (v := (0 : Int32)) (by decide) ?_
    exact vv_zret hC d_M_isDigit_23 rfl () hw rfl
  · have hw := hw.2 cd
    refine vv_aload_n hC d_M_isDigit_9 0 rfl rfl ?_
    refine vv_callVI (wr := []) hC (c_M_here l D cA sx a_M I_M A_M _ hw) (cw_M_100 hC) d_M_isDigit_10 [] [0, 1, 2, 3, 4, 5, 6, 7, 8, 9, 10, 11, 12, 13, 14, 15, 16, 17, 18, 19, 20, 21, 22, 23] [] [0, 1, 2, 3, 4, 5, 6, 7, 8, 9, 10, 11, 12, 13, 14, 15, 16, 17, 18, 19, 20, 21, 22, 23] (fun u_4 : Unit => kc_M cA a_M I_M A_M) ⟨Nat.zero_le _, Nat.zero_le _⟩ rfl rfl (fun _ => rfl) rfl rfl rfl rfl rfl rfl rfl rfl (Nat.le_of_ble_eq_true rfl) (fun r_3 u_4 hw => ?_)
    refine vv_bipush hC d_M_isDigit_13 (v := (57 : Int32)) (by decide) ?_
    refine vv_icmp_gt hC 22 d_M_isDigit_15 (by decide) (fun cd => ?_) (fun cd => ?_)
    · have hw := hw.1 cd
      refine vv_iconst hC d_M_isDigit_22 (v := (0 : Int32)) (by decide) ?_
      exact vv_zret hC d_M_isDigit_23 rfl () hw rfl
    · have hw := hw.2 cd
      refine vv_iconst hC d_M_isDigit_18 (v := (1 : Int32)) (by decide) ?_
      refine vv_goto hC 23 d_M_isDigit_19 (by decide) ?_
      exact vv_zret hC d_M_isDigit_23 rfl () hw rfl
set_option maxHeartbeats 4000000 in
set_option maxRecDepth 100000 in
theorem l_M_takeNumber_b62 {p : Program} {l : Launch} {e : Env} {s : State} {m : MethodId} {args : Array Value} {below : List Frame} {meth : Method} {c : Code} {D : va_G} {cA : Nat → ClassId} {sx : Nat → Nat} {A : Nat → Prop} (a_M : Nat → Nat) (A_M : (Nat → Nat → Int32)) (Q : (Nat → Int32) → Prop) (K31 : (Nat → Int32) → Int32 → Prop) (X31 : (Nat → Int32) → Prop) (hC : CX p s m args meth c b_M_takeNumber R_M TB 2 D vwCl (tyl cA) A (SPl sx) none) (hK31 : ∀ (I_M : (Nat → Int32)) (v1 : Int32), K31 I_M v1 → VV p l e ({ frames := 2, cells := 0, slots := 0, locals := 40 } : Room) s m args below meth c 2 D vwCl A 0 0 (QV below args s D vwCl (tyl cA) A (fun (u : (Nat → Int32)) => Q u) (fun u : (Nat → Int32) => kc_M cA a_M u A_M)) (kc_M cA a_M I_M A_M) 31 [(0, .ref (a_M 0)), (1, .int v1)] []) (hX31 : ∀ (I_M : (Nat → Int32)), X31 I_M → VV p l e ({ frames := 2, cells := 0, slots := 0, locals := 40 } : Room) s m args below meth c 2 D vwCl A 0 0 (QV below args s D vwCl (tyl cA) A (fun (u : (Nat → Int32)) => Q u) (fun u : (Nat → Int32) => kc_M cA a_M u A_M)) (kc_M cA a_M I_M A_M) 109 [] []) : ∀ (I_M : (Nat → Int32)) (v1 : Int32), wp_M_takeNumber_b62 A_M Q K31 X31 I_M v1 → VV p l e ({ frames := 2, cells := 0, slots := 0, locals := 40 } : Room) s m args below meth c 2 D vwCl A 0 0 (QV below args s D vwCl (tyl cA) A (fun (u : (Nat → Int32)) => Q u) (fun u : (Nat → Int32) => kc_M cA a_M u A_M)) (kc_M cA a_M I_M A_M) 62 [(0, .ref (a_M 0)), (1, .int v1)] [] := by
  intro I_M v1 hw
  unfold wp_M_takeNumber_b62 at hw
  refine vv_aload_n hC d_M_takeNumber_62 0 rfl rfl ?_
  refine vv_iconst hC d_M_takeNumber_63 (v := (1 : Int32)) (by decide) ?_
  refine vv_aload_n hC d_M_takeNumber_64 0 rfl rfl ?_
  refine vv_get hC (v := .int (I_M 4)) hin_M 0 6 tb_678 d_M_takeNumber_65 rfl rfl (by decide) rfl rfl ?_
  refine vv_callVV (wr := []) hC (c_M_wrong l D cA sx a_M I_M A_M (1 : Int32) (I_M 4) _ hw) (cw_M_104 hC) d_M_takeNumber_68 [] [0, 1, 2, 3, 4, 5, 6, 7, 8, 9, 10, 11, 12, 13, 14, 15, 16, 17, 18, 19, 20, 21, 22, 23] [] [0, 1, 2, 3, 4, 5, 6, 7, 8, 9, 10, 11, 12, 13, 14, 15, 16, 17, 18, 19, 20, 21, 22, 23] (fun u_5 : (Nat → Int32) => kc_M cA a_M u_5 A_M) ⟨Nat.zero_le _, Nat.zero_le _⟩ rfl rfl (fun _ => rfl) rfl rfl rfl rfl rfl rfl rfl rfl (Nat.le_of_ble_eq_true rfl) (fun u_5 hw => ?_)
  refine vv_goto hC 31 d_M_takeNumber_71 (by decide) ?_
  exact vv_sub [0, 1] (by rfl) (hK31 u_5 v1 hw)
set_option maxHeartbeats 4000000 in
set_option maxRecDepth 100000 in
theorem l_M_takeNumber_b74 {p : Program} {l : Launch} {e : Env} {s : State} {m : MethodId} {args : Array Value} {below : List Frame} {meth : Method} {c : Code} {D : va_G} {cA : Nat → ClassId} {sx : Nat → Nat} {A : Nat → Prop} (a_M : Nat → Nat) (A_M : (Nat → Nat → Int32)) (Q : (Nat → Int32) → Prop) (K31 : (Nat → Int32) → Int32 → Prop) (X31 : (Nat → Int32) → Prop) (hC : CX p s m args meth c b_M_takeNumber R_M TB 2 D vwCl (tyl cA) A (SPl sx) none) (hK31 : ∀ (I_M : (Nat → Int32)) (v1 : Int32), K31 I_M v1 → VV p l e ({ frames := 2, cells := 0, slots := 0, locals := 40 } : Room) s m args below meth c 2 D vwCl A 0 0 (QV below args s D vwCl (tyl cA) A (fun (u : (Nat → Int32)) => Q u) (fun u : (Nat → Int32) => kc_M cA a_M u A_M)) (kc_M cA a_M I_M A_M) 31 [(0, .ref (a_M 0)), (1, .int v1)] []) (hX31 : ∀ (I_M : (Nat → Int32)), X31 I_M → VV p l e ({ frames := 2, cells := 0, slots := 0, locals := 40 } : Room) s m args below meth c 2 D vwCl A 0 0 (QV below args s D vwCl (tyl cA) A (fun (u : (Nat → Int32)) => Q u) (fun u : (Nat → Int32) => kc_M cA a_M u A_M)) (kc_M cA a_M I_M A_M) 109 [] []) : ∀ (I_M : (Nat → Int32)) (v1 : Int32), wp_M_takeNumber_b74 A_M Q K31 X31 I_M v1 → VV p l e ({ frames := 2, cells := 0, slots := 0, locals := 40 } : Room) s m args below meth c 2 D vwCl A 0 0 (QV below args s D vwCl (tyl cA) A (fun (u : (Nat → Int32)) => Q u) (fun u : (Nat → Int32) => kc_M cA a_M u A_M)) (kc_M cA a_M I_M A_M) 74 [(0, .ref (a_M 0)), (1, .int v1)] [] := by
  intro I_M v1 hw
  unfold wp_M_takeNumber_b74 at hw
  refine vv_aload_n hC d_M_takeNumber_74 0 rfl rfl ?_
  refine vv_bipush hC d_M_takeNumber_75 (v := (10 : Int32)) (by decide) ?_
  refine vv_aload_n hC d_M_takeNumber_77 0 rfl rfl ?_
  refine vv_get hC (v := .int (I_M 7)) hin_M 0 9 tb_681 d_M_takeNumber_78 rfl rfl (by decide) rfl rfl ?_
  refine vv_imul hC d_M_takeNumber_81 ?_
  refine vv_aload_n hC d_M_takeNumber_82 0 rfl rfl ?_
  refine vv_callVI (wr := []) hC (c_M_here l D cA sx a_M I_M A_M _ hw) (cw_M_100 hC) d_M_takeNumber_83 [.int ((10 : Int32) * (I_M 7)), .ref (a_M 0)] [0, 1, 2, 3, 4, 5, 6, 7, 8, 9, 10, 11, 12, 13, 14, 15, 16, 17, 18, 19, 20, 21, 22, 23] [] [0, 1, 2, 3, 4, 5, 6, 7, 8, 9, 10, 11, 12, 13, 14, 15, 16, 17, 18, 19, 20, 21, 22, 23] (fun u_8 : Unit => kc_M cA a_M I_M A_M) ⟨Nat.zero_le _, Nat.zero_le _⟩ rfl rfl (fun _ => rfl) rfl rfl rfl rfl rfl rfl rfl rfl (Nat.le_of_ble_eq_true rfl) (fun r_7 u_8 hw => ?_)
  refine vv_iadd hC d_M_takeNumber_86 ?_
  refine vv_bipush hC d_M_takeNumber_87 (v := (48 : Int32)) (by decide) ?_
  refine vv_isub hC d_M_takeNumber_89 ?_
  refine vv_put hC hin_M ty_M tyok_M nmok_M 0 9 tb_681 d_M_takeNumber_90 rfl rfl (by decide) rfl rfl rfl rfl rfl (Nat.le_of_ble_eq_true rfl) (ws2 := kc_M cA a_M (va_up I_M 7 ((((10 : Int32) * (I_M 7)) + r_7) - (48 : Int32))) A_M) (st_M_MI7 ..) ?_
  refine vv_iinc hC d_M_takeNumber_93 1 rfl (v := (v1 + (1 : Int32))) rfl (by decide) [1, 0] (L2 := [(0, .ref (a_M 0)), (1, .int (v1 + (1 : Int32)))]) rfl ?_
  refine vv_aload_n hC d_M_takeNumber_96 0 rfl rfl ?_
  refine vv_dup hC d_M_takeNumber_97 rfl ?_
  refine vv_get hC (v := .int (I_M 4)) hin_M 0 6 tb_678 d_M_takeNumber_98 rfl rfl (by decide) rfl rfl ?_
  refine vv_iconst hC d_M_takeNumber_101 (v := (1 : Int32)) (by decide) ?_
  refine vv_iadd hC d_M_takeNumber_102 ?_
  refine vv_put hC hin_M ty_M tyok_M nmok_M 0 6 tb_678 d_M_takeNumber_103 rfl rfl (by decide) rfl rfl rfl rfl rfl (Nat.le_of_ble_eq_true rfl) (ws2 := kc_M cA a_M (va_up (va_up I_M 7 ((((10 : Int32) * (I_M 7)) + r_7) - (48 : Int32))) 4 ((I_M 4) + (1 : Int32))) A_M) (st_M_MI4 ..) ?_
  refine vv_goto hC 31 d_M_takeNumber_106 (by decide) ?_
  exact vv_sub [0, 1] (by rfl) (hK31 (va_up (va_up I_M 7 ((((10 : Int32) * (I_M 7)) + r_7) - (48 : Int32))) 4 ((I_M 4) + (1 : Int32))) (v1 + (1 : Int32)) hw)
set_option maxHeartbeats 4000000 in
set_option maxRecDepth 100000 in
theorem l_M_takeNumber_L31 {p : Program} {l : Launch} {e : Env} {s : State} {m : MethodId} {args : Array Value} {below : List Frame} {meth : Method} {c : Code} {D : va_G} {cA : Nat → ClassId} {sx : Nat → Nat} {A : Nat → Prop} (a_M : Nat → Nat) (A_M : (Nat → Nat → Int32)) (Q : (Nat → Int32) → Prop) (X31 : (Nat → Int32) → Prop) (hC : CX p s m args meth c b_M_takeNumber R_M TB 2 D vwCl (tyl cA) A (SPl sx) none) (hX31 : ∀ (I_M : (Nat → Int32)), X31 I_M → VV p l e ({ frames := 2, cells := 0, slots := 0, locals := 40 } : Room) s m args below meth c 2 D vwCl A 0 0 (QV below args s D vwCl (tyl cA) A (fun (u : (Nat → Int32)) => Q u) (fun u : (Nat → Int32) => kc_M cA a_M u A_M)) (kc_M cA a_M I_M A_M) 109 [] []) : ∀ (n31 : Nat) (I_M : (Nat → Int32)) (v1 : Int32), wp_M_takeNumber_L31 A_M Q X31 n31 I_M v1 → VV p l e ({ frames := 2, cells := 0, slots := 0, locals := 40 } : Room) s m args below meth c 2 D vwCl A 0 0 (QV below args s D vwCl (tyl cA) A (fun (u : (Nat → Int32)) => Q u) (fun u : (Nat → Int32) => kc_M cA a_M u A_M)) (kc_M cA a_M I_M A_M) 31 [(0, .ref (a_M 0)), (1, .int v1)] [] := by
  intro n31
  induction n31 with
  | zero =>
    intro I_M v1 hw
    exact absurd hw (fun z => z)
  | succ n31 ih =>
    intro I_M v1 hw
    unfold wp_M_takeNumber_L31 at hw
    refine vv_aload_n hC d_M_takeNumber_31 0 rfl rfl ?_
    refine vv_callVI (wr := []) hC (c_M_isDigit l D cA sx a_M I_M A_M _ hw) (cw_M_111 hC) d_M_takeNumber_32 [] [0, 1, 2, 3, 4, 5, 6, 7, 8, 9, 10, 11, 12, 13, 14, 15, 16, 17, 18, 19, 20, 21, 22, 23] [] [0, 1, 2, 3, 4, 5, 6, 7, 8, 9, 10, 11, 12, 13, 14, 15, 16, 17, 18, 19, 20, 21, 22, 23] (fun u_4 : Unit => kc_M cA a_M I_M A_M) ⟨Nat.zero_le _, Nat.zero_le _⟩ rfl rfl (fun _ => rfl) rfl rfl rfl rfl rfl rfl rfl rfl (Nat.le_of_ble_eq_true rfl) (fun r_3 u_4 hw => ?_)
    refine vv_if_eq hC 109 d_M_takeNumber_35 (by decide) (fun cd => ?_) (fun cd => ?_)
    · have hw := hw.1 cd
      exact vv_sub [] (by rfl) (hX31 I_M hw)
    · have hw := hw.2 cd
      refine vv_aload_n hC d_M_takeNumber_38 0 rfl rfl ?_
      refine vv_get hC (v := .int (I_M 5)) hin_M 0 7 tb_679 d_M_takeNumber_39 rfl rfl (by decide) rfl rfl ?_
      refine vv_if_ne hC 109 d_M_takeNumber_42 (by decide) (fun cd => ?_) (fun cd => ?_)
      · have hw := hw.2 cd
        exact vv_sub [] (by rfl) (hX31 I_M hw)
      · have hw := hw.1 cd
        refine vv_iload_n hC d_M_takeNumber_45 1 rfl rfl ?_
        refine vv_iconst hC d_M_takeNumber_46 (v := (4 : Int32)) (by decide) ?_
        refine vv_icmp_eq hC 62 d_M_takeNumber_47 (by decide) (fun cd => ?_) (fun cd => ?_)
        · have hw := hw.1 cd
          exact vv_sub [0, 1] (by rfl) (l_M_takeNumber_b62 a_M A_M Q (wp_M_takeNumber_L31 A_M Q X31 n31) X31 hC ih hX31 I_M v1 hw)
        · have hw := hw.2 cd
          refine vv_iload_n hC d_M_takeNumber_50 1 rfl rfl ?_
          refine vv_iconst hC d_M_takeNumber_51 (v := (1 : Int32)) (by decide) ?_
          refine vv_icmp_ne hC 74 d_M_takeNumber_52 (by decide) (fun cd => ?_) (fun cd => ?_)
          · have hw := hw.2 cd
            exact vv_sub [0, 1] (by rfl) (l_M_takeNumber_b74 a_M A_M Q (wp_M_takeNumber_L31 A_M Q X31 n31) X31 hC ih hX31 I_M v1 hw)
          · have hw := hw.1 cd
            refine vv_aload_n hC d_M_takeNumber_55 0 rfl rfl ?_
            refine vv_get hC (v := .int (I_M 7)) hin_M 0 9 tb_681 d_M_takeNumber_56 rfl rfl (by decide) rfl rfl ?_
            refine vv_if_ne hC 74 d_M_takeNumber_59 (by decide) (fun cd => ?_) (fun cd => ?_)
            · have hw := hw.2 cd
              exact vv_sub [0, 1] (by rfl) (l_M_takeNumber_b74 a_M A_M Q (wp_M_takeNumber_L31 A_M Q X31 n31) X31 hC ih hX31 I_M v1 hw)
            · have hw := hw.1 cd
              exact vv_sub [0, 1] (by rfl) (l_M_takeNumber_b62 a_M A_M Q (wp_M_takeNumber_L31 A_M Q X31 n31) X31 hC ih hX31 I_M v1 hw)
set_option maxHeartbeats 4000000 in
set_option maxRecDepth 100000 in
theorem c_M_takeNumber (l : Launch) (D : va_G) (cA : Nat → ClassId) (sx : Nat → Nat) (a_M : Nat → Nat) (I_M : (Nat → Int32)) (A_M : (Nat → Nat → Int32)) (Q : (Nat → Int32) → Prop) (hw : wp_M_takeNumber I_M A_M Q) : MetV l y_M_takeNumber (Cond.code y_M_takeNumber b_M_takeNumber 2 none :: TB) ({ frames := 2, cells := 0, slots := 0, locals := 40 } : Room) D vwCl (tyl cA) (SPl sx) [.ref (a_M 0)] (kc_M cA a_M I_M A_M) (fun (u : (Nat → Int32)) => Q u) (fun u : (Nat → Int32) => kc_M cA a_M u A_M) := by
  refine vv_entryV (cc := b_M_takeNumber) (own := R_M) (L := [(0, .ref (a_M 0))]) (by decide) rfl rfl (Nat.le_of_ble_eq_true rfl) rfl (fun p e s m args below meth c A hC => ?_)
  unfold wp_M_takeNumber at hw
  refine vv_aload_n hC d_M_takeNumber_0 0 rfl rfl ?_
  refine vv_get hC (v := .int (I_M 5)) hin_M 0 7 tb_679 d_M_takeNumber_1 rfl rfl (by decide) rfl rfl ?_
  refine vv_if_le hC 8 d_M_takeNumber_4 (by decide) (fun cd => ?_) (fun cd => ?_)
  · have hw := hw.1 cd
    refine vv_iconst hC d_M_takeNumber_8 (v := (0 : Int32)) (by decide) ?_
    refine vv_istore_n hC d_M_takeNumber_9 rfl (by decide) [1, 0] (L2 := [(0, .ref (a_M 0)), (1, .int (0 : Int32))]) rfl ?_
    refine vv_aload_n hC d_M_takeNumber_10 0 rfl rfl ?_
    refine vv_iconst hC d_M_takeNumber_11 (v := (0 : Int32)) (by decide) ?_
    refine vv_put hC hin_M ty_M tyok_M nmok_M 0 9 tb_681 d_M_takeNumber_12 rfl rfl (by decide) rfl rfl rfl rfl rfl (Nat.le_of_ble_eq_true rfl) (ws2 := kc_M cA a_M (va_up I_M 7 (0 : Int32)) A_M) (st_M_MI7 ..) ?_
    refine vv_aload_n hC d_M_takeNumber_15 0 rfl rfl ?_
    refine vv_callVI (wr := []) hC (c_M_isDigit l D cA sx a_M (va_up I_M 7 (0 : Int32)) A_M _ hw) (cw_M_111 hC) d_M_takeNumber_16 [] [0, 1, 2, 3, 4, 5, 6, 7, 8, 9, 10, 11, 12, 13, 14, 15, 16, 17, 18, 19, 20, 21, 22, 23] [] [0, 1, 2, 3, 4, 5, 6, 7, 8, 9, 10, 11, 12, 13, 14, 15, 16, 17, 18, 19, 20, 21, 22, 23] (fun u_2 : Unit => kc_M cA a_M (va_up I_M 7 (0 : Int32)) A_M) ⟨Nat.zero_le _, Nat.zero_le _⟩ rfl rfl (fun _ => rfl) rfl rfl rfl rfl rfl rfl rfl rfl (Nat.le_of_ble_eq_true rfl) (fun r_1 u_2 hw => ?_)
    refine vv_if_ne hC 31 d_M_takeNumber_19 (by decide) (fun cd => ?_) (fun cd => ?_)
    · have hw := hw.2 cd
      obtain ⟨m31, hw⟩ := hw
      refine vv_sub [0, 1] (by rfl) (l_M_takeNumber_L31 a_M A_M Q _ hC (fun I_M_9 hw => ?_) m31 (va_up I_M 7 (0 : Int32)) (0 : Int32) hw)
      exact vv_vret hC d_M_takeNumber_109 I_M_9 hw rfl
    · have hw := hw.1 cd
      refine vv_aload_n hC d_M_takeNumber_22 0 rfl rfl ?_
      refine vv_iconst hC d_M_takeNumber_23 (v := (1 : Int32)) (by decide) ?_
      refine vv_aload_n hC d_M_takeNumber_24 0 rfl rfl ?_
      refine vv_get hC (v := .int (I_M 4)) hin_M 0 6 tb_678 d_M_takeNumber_25 rfl rfl (by decide) rfl rfl ?_
      refine vv_callVV (wr := []) hC (c_M_wrong l D cA sx a_M (va_up I_M 7 (0 : Int32)) A_M (1 : Int32) (I_M 4) _ hw) (cw_M_104 hC) d_M_takeNumber_28 [] [0, 1, 2, 3, 4, 5, 6, 7, 8, 9, 10, 11, 12, 13, 14, 15, 16, 17, 18, 19, 20, 21, 22, 23] [] [0, 1, 2, 3, 4, 5, 6, 7, 8, 9, 10, 11, 12, 13, 14, 15, 16, 17, 18, 19, 20, 21, 22, 23] (fun u_10 : (Nat → Int32) => kc_M cA a_M u_10 A_M) ⟨Nat.zero_le _, Nat.zero_le _⟩ rfl rfl (fun _ => rfl) rfl rfl rfl rfl rfl rfl rfl rfl (Nat.le_of_ble_eq_true rfl) (fun u_10 hw => ?_)
      obtain ⟨m31, hw⟩ := hw
      refine vv_sub [0, 1] (by rfl) (l_M_takeNumber_L31 a_M A_M Q _ hC (fun I_M_12 hw => ?_) m31 u_10 (0 : Int32) hw)
      exact vv_vret hC d_M_takeNumber_109 I_M_12 hw rfl
  · have hw := hw.2 cd
    exact vv_vret hC d_M_takeNumber_7 I_M hw rfl
set_option maxHeartbeats 4000000 in
set_option maxRecDepth 100000 in
theorem c_M_literal (l : Launch) (D : va_G) (cA : Nat → ClassId) (sx : Nat → Nat) (a_M : Nat → Nat) (I_M : (Nat → Int32)) (A_M : (Nat → Nat → Int32)) (Q : Int32 → (Nat → Int32) → Prop) (hw : wp_M_literal I_M A_M Q) : MetI l y_M_literal (Cond.code y_M_literal b_M_literal 2 (some .int) :: TB) ({ frames := 3, cells := 0, slots := 0, locals := 61 } : Room) D vwCl (tyl cA) (SPl sx) [.ref (a_M 0)] (kc_M cA a_M I_M A_M) (fun (r : Int32) (u : (Nat → Int32)) => Q r u) (fun u : (Nat → Int32) => kc_M cA a_M u A_M) := by
  refine vv_entryI (cc := b_M_literal) (own := R_M) (L := [(0, .ref (a_M 0))]) (by decide) rfl rfl (Nat.le_of_ble_eq_true rfl) rfl (fun p e s m args below meth c A hC => ?_)
  unfold wp_M_literal at hw
  refine vv_aload_n hC d_M_literal_0 0 rfl rfl ?_
  refine vv_get hC (v := .int (I_M 4)) hin_M 0 6 tb_678 d_M_literal_1 rfl rfl (by decide) rfl rfl ?_
  refine vv_istore_n hC d_M_literal_4 rfl (by decide) [1, 0] (L2 := [(0, .ref (a_M 0)), (1, .int (I_M 4))]) rfl ?_
  refine vv_aload_n hC d_M_literal_5 0 rfl rfl ?_
  refine vv_callVV (wr := []) hC (c_M_takeNumber l D cA sx a_M I_M A_M _ hw) (cw_M_115 hC) d_M_literal_6 [] [0, 1, 2, 3, 4, 5, 6, 7, 8, 9, 10, 11, 12, 13, 14, 15, 16, 17, 18, 19, 20, 21, 22, 23] [] [0, 1, 2, 3, 4, 5, 6, 7, 8, 9, 10, 11, 12, 13, 14, 15, 16, 17, 18, 19, 20, 21, 22, 23] (fun u_1 : (Nat → Int32) => kc_M cA a_M u_1 A_M) ⟨Nat.zero_le _, Nat.zero_le _⟩ rfl rfl (fun _ => rfl) rfl rfl rfl rfl rfl rfl rfl rfl (Nat.le_of_ble_eq_true rfl) (fun u_1 hw => ?_)
  refine vv_aload_n hC d_M_literal_9 0 rfl rfl ?_
  refine vv_get hC (v := .int (u_1 5)) hin_M 0 7 tb_679 d_M_literal_10 rfl rfl (by decide) rfl rfl ?_
  refine vv_if_ne hC 39 d_M_literal_13 (by decide) (fun cd => ?_) (fun cd => ?_)
  · have hw := hw.2 cd
    refine vv_aload_n hC d_M_literal_39 0 rfl rfl ?_
    refine vv_get hC (v := .int (u_1 7)) hin_M 0 9 tb_681 d_M_literal_40 rfl rfl (by decide) rfl rfl ?_
    exact vv_iret hC d_M_literal_43 u_1 hw rfl
  · have hw := hw.1 cd
    refine vv_aload_n hC d_M_literal_16 0 rfl rfl ?_
    refine vv_get hC (v := .int (u_1 7)) hin_M 0 9 tb_681 d_M_literal_17 rfl rfl (by decide) rfl rfl ?_
    refine vv_iconst hC d_M_literal_20 (v := (2 : Int32)) (by decide) ?_
    refine vv_aload_n hC d_M_literal_21 0 rfl rfl ?_
    refine vv_get hC (v := .ref (a_M 3)) hin_M 0 10 tb_682 d_M_literal_22 rfl rfl (by decide) rfl rfl ?_
    refine vv_iconst hC d_M_literal_25 (v := (5 : Int32)) (by decide) ?_
    refine vv_iald hC 3 0 d_M_literal_26 rfl rfl (vin_c (by decide)) ?_
    refine vv_imul hC d_M_literal_27 ?_
    refine vv_iconst hC d_M_literal_28 (v := (1 : Int32)) (by decide) ?_
    refine vv_iadd hC d_M_literal_29 ?_
    refine vv_icmp_le hC 39 d_M_literal_30 (by decide) (fun cd => ?_) (fun cd => ?_)
    · have hw := hw.1 cd
      refine vv_aload_n hC d_M_literal_39 0 rfl rfl ?_
      refine vv_get hC (v := .int (u_1 7)) hin_M 0 9 tb_681 d_M_literal_40 rfl rfl (by decide) rfl rfl ?_
      exact vv_iret hC d_M_literal_43 u_1 hw rfl
    · have hw := hw.2 cd
      refine vv_aload_n hC d_M_literal_33 0 rfl rfl ?_
      refine vv_iconst hC d_M_literal_34 (v := (3 : Int32)) (by decide) ?_
      refine vv_iload_n hC d_M_literal_35 1 rfl rfl ?_
      refine vv_callVV (wr := []) hC (c_M_wrong l D cA sx a_M u_1 A_M (3 : Int32) (I_M 4) _ hw) (cw_M_104 hC) d_M_literal_36 [] [0, 1, 2, 3, 4, 5, 6, 7, 8, 9, 10, 11, 12, 13, 14, 15, 16, 17, 18, 19, 20, 21, 22, 23] [] [0, 1, 2, 3, 4, 5, 6, 7, 8, 9, 10, 11, 12, 13, 14, 15, 16, 17, 18, 19, 20, 21, 22, 23] (fun u_3 : (Nat → Int32) => kc_M cA a_M u_3 A_M) ⟨Nat.zero_le _, Nat.zero_le _⟩ rfl rfl (fun _ => rfl) rfl rfl rfl rfl rfl rfl rfl rfl (Nat.le_of_ble_eq_true rfl) (fun u_3 hw => ?_)
      refine vv_aload_n hC d_M_literal_39 0 rfl rfl ?_
      refine vv_get hC (v := .int (u_3 7)) hin_M 0 9 tb_681 d_M_literal_40 rfl rfl (by decide) rfl rfl ?_
      exact vv_iret hC d_M_literal_43 u_3 hw rfl
set_option maxHeartbeats 4000000 in
set_option maxRecDepth 100000 in
theorem c_M_define (l : Launch) (D : va_G) (cA : Nat → ClassId) (sx : Nat → Nat) (a_M : Nat → Nat) (I_M : (Nat → Int32)) (A_M : (Nat → Nat → Int32)) (x1 x2 x3 : Int32) (Q : (Nat → Nat → Int32) → Prop) (hw : wp_M_define A_M x1 x2 x3 Q) : MetV l y_M_define (Cond.code y_M_define b_M_define 4 none :: TB) ({ frames := 0, cells := 0, slots := 0, locals := 0 } : Room) D vwCl (tyl cA) (SPl sx) [.ref (a_M 0), .int x1, .int x2, .int x3] (kc_M cA a_M I_M A_M) (fun (u : (Nat → Nat → Int32)) => Q u) (fun u : (Nat → Nat → Int32) => kc_M cA a_M I_M u) := by
  refine vv_entryV (cc := b_M_define) (own := R_M) (L := [(0, .ref (a_M 0)), (1, .int x1), (2, .int x2), (3, .int x3)]) (by decide) rfl rfl (Nat.le_of_ble_eq_true rfl) rfl (fun p e s m args below meth c A hC => ?_)
  unfold wp_M_define at hw
  refine vv_aload_n hC d_M_define_0 0 rfl rfl ?_
  refine vv_get hC (v := .ref (a_M 11)) hin_M 0 18 tb_690 d_M_define_1 rfl rfl (by decide) rfl rfl ?_
  refine vv_sipush hC d_M_define_4 (v := (401 : Int32)) (by decide) ?_
  refine vv_iload_n hC d_M_define_7 1 rfl rfl ?_
  refine vv_iadd hC d_M_define_8 ?_
  refine vv_iload_n hC d_M_define_9 2 rfl rfl ?_
  obtain ⟨hin_1, hw⟩ := hw
  refine vv_iast hC 11 0 d_M_define_10 rfl rfl hin_1 (ws2 := kc_M cA a_M I_M (va_up A_M 10 (upd (A_M 10) (((401 : Int32) + x1)).toNatClampNeg x2))) (st_M_MA10 ..) ?_
  refine vv_aload_n hC d_M_define_11 0 rfl rfl ?_
  refine vv_get hC (v := .ref (a_M 12)) hin_M 0 19 tb_691 d_M_define_12 rfl rfl (by decide) rfl rfl ?_
  refine vv_sipush hC d_M_define_15 (v := (401 : Int32)) (by decide) ?_
  refine vv_iload_n hC d_M_define_18 1 rfl rfl ?_
  refine vv_iadd hC d_M_define_19 ?_
  refine vv_iload_n hC d_M_define_20 3 rfl rfl ?_
  refine vv_iast hC 12 0 d_M_define_21 rfl rfl hin_1 (ws2 := kc_M cA a_M I_M (va_up (va_up A_M 10 (upd (A_M 10) (((401 : Int32) + x1)).toNatClampNeg x2)) 11 (upd (A_M 11) (((401 : Int32) + x1)).toNatClampNeg x3))) (st_M_MA11 ..) ?_
  exact vv_vret hC d_M_define_22 (va_up (va_up A_M 10 (upd (A_M 10) (((401 : Int32) + x1)).toNatClampNeg x2)) 11 (upd (A_M 11) (((401 : Int32) + x1)).toNatClampNeg x3)) hw rfl
set_option maxHeartbeats 4000000 in
set_option maxRecDepth 100000 in
theorem l_M_defines_b54 {p : Program} {l : Launch} {e : Env} {s : State} {m : MethodId} {args : Array Value} {below : List Frame} {meth : Method} {c : Code} {D : va_G} {cA : Nat → ClassId} {sx : Nat → Nat} {A : Nat → Prop} (a_M : Nat → Nat) (Q : Int32 → (Nat → Int32) → (Nat → Nat → Int32) → Prop) (hC : CX p s m args meth c b_M_defines R_M TB 5 D vwCl (tyl cA) A (SPl sx) (some .int)) : ∀ (I_M : (Nat → Int32)) (A_M : (Nat → Nat → Int32)) (v1 : Int32) (v2 : Int32) (v4 : Int32), wp_M_defines_b54 Q I_M A_M v1 v2 v4 → VV p l e ({ frames := 4, cells := 0, slots := 0, locals := 82 } : Room) s m args below meth c 5 D vwCl A 0 0 (QI below args s D vwCl (tyl cA) A (fun (r : Int32) (u : (Nat → Int32) × (Nat → Nat → Int32)) => Q r u.1 u.2) (fun u : (Nat → Int32) × (Nat → Nat → Int32) => kc_M cA a_M u.1 u.2)) (kc_M cA a_M I_M A_M) 54 [(0, .ref (a_M 0)), (1, .int v1), (2, .int v2), (4, .int v4)] [] := by
  intro I_M A_M v1 v2 v4 hw
  unfold wp_M_defines_b54 at hw
  refine vv_aload_n hC d_M_defines_54 0 rfl rfl ?_
  refine vv_get hC (v := .int (I_M 5)) hin_M 0 7 tb_679 d_M_defines_55 rfl rfl (by decide) rfl rfl ?_
  refine vv_if_ne hC 71 d_M_defines_58 (by decide) (fun cd => ?_) (fun cd => ?_)
  · have hw := hw.2 cd
    refine vv_iload hC d_M_defines_71 3 rfl ?_
    exact vv_iret hC d_M_defines_73 (I_M, A_M) hw rfl
  · have hw := hw.1 cd
    refine vv_aload_n hC d_M_defines_61 0 rfl rfl ?_
    refine vv_iload hC d_M_defines_62 3 rfl ?_
    refine vv_iconst hC d_M_defines_64 (v := (2 : Int32)) (by decide) ?_
    refine vv_idiv hC d_M_defines_65 (by decide) ?_
    refine vv_iload_n hC d_M_defines_66 1 rfl rfl ?_
    refine vv_iload_n hC d_M_defines_67 2 rfl rfl ?_
    refine vv_callVV (wr := []) hC (c_M_define l D cA sx a_M I_M A_M (v4 / (2 : Int32)) v1 v2 _ hw) (cw_M_121 hC) d_M_defines_68 [] [0, 1, 2, 3, 4, 5, 6, 7, 8, 9, 10, 11, 12, 13, 14, 15, 16, 17, 18, 19, 20, 21, 22, 23] [] [0, 1, 2, 3, 4, 5, 6, 7, 8, 9, 10, 11, 12, 13, 14, 15, 16, 17, 18, 19, 20, 21, 22, 23] (fun u_4 : (Nat → Nat → Int32) => kc_M cA a_M I_M u_4) ⟨Nat.zero_le _, Nat.zero_le _⟩ rfl rfl (fun _ => rfl) rfl rfl rfl rfl rfl rfl rfl rfl (Nat.le_of_ble_eq_true rfl) (fun u_4 hw => ?_)
    refine vv_iload hC d_M_defines_71 3 rfl ?_
    exact vv_iret hC d_M_defines_73 (I_M, u_4) hw rfl
set_option maxHeartbeats 4000000 in
set_option maxRecDepth 100000 in
theorem l_M_defines_b48 {p : Program} {l : Launch} {e : Env} {s : State} {m : MethodId} {args : Array Value} {below : List Frame} {meth : Method} {c : Code} {D : va_G} {cA : Nat → ClassId} {sx : Nat → Nat} {A : Nat → Prop} (a_M : Nat → Nat) (Q : Int32 → (Nat → Int32) → (Nat → Nat → Int32) → Prop) (hC : CX p s m args meth c b_M_defines R_M TB 5 D vwCl (tyl cA) A (SPl sx) (some .int)) : ∀ (I_M : (Nat → Int32)) (A_M : (Nat → Nat → Int32)) (v1 : Int32) (v2 : Int32) (v3 : Int32) (v4 : Int32), wp_M_defines_b48 Q I_M A_M v1 v2 v3 v4 → VV p l e ({ frames := 4, cells := 0, slots := 0, locals := 82 } : Room) s m args below meth c 5 D vwCl A 0 0 (QI below args s D vwCl (tyl cA) A (fun (r : Int32) (u : (Nat → Int32) × (Nat → Nat → Int32)) => Q r u.1 u.2) (fun u : (Nat → Int32) × (Nat → Nat → Int32) => kc_M cA a_M u.1 u.2)) (kc_M cA a_M I_M A_M) 48 [(0, .ref (a_M 0)), (1, .int v1), (2, .int v2), (3, .int v3), (4, .int v4)] [] := by
  intro I_M A_M v1 v2 v3 v4 hw
  unfold wp_M_defines_b48 at hw
  refine vv_aload_n hC d_M_defines_48 0 rfl rfl ?_
  refine vv_iconst hC d_M_defines_49 (v := (4 : Int32)) (by decide) ?_
  refine vv_iload_n hC d_M_defines_50 3 rfl rfl ?_
  refine vv_callVV (wr := []) hC (c_M_wrong l D cA sx a_M I_M A_M (4 : Int32) v3 _ hw) (cw_M_104 hC) d_M_defines_51 [] [0, 1, 2, 3, 4, 5, 6, 7, 8, 9, 10, 11, 12, 13, 14, 15, 16, 17, 18, 19, 20, 21, 22, 23] [] [0, 1, 2, 3, 4, 5, 6, 7, 8, 9, 10, 11, 12, 13, 14, 15, 16, 17, 18, 19, 20, 21, 22, 23] (fun u_6 : (Nat → Int32) => kc_M cA a_M u_6 A_M) ⟨Nat.zero_le _, Nat.zero_le _⟩ rfl rfl (fun _ => rfl) rfl rfl rfl rfl rfl rfl rfl rfl (Nat.le_of_ble_eq_true rfl) (fun u_6 hw => ?_)
  exact vv_sub [0, 1, 2, 4] (by rfl) (l_M_defines_b54 a_M Q hC u_6 A_M v1 v2 v4 hw)
set_option maxHeartbeats 4000000 in
set_option maxRecDepth 100000 in
theorem c_M_defines (l : Launch) (D : va_G) (cA : Nat → ClassId) (sx : Nat → Nat) (a_M : Nat → Nat) (I_M : (Nat → Int32)) (A_M : (Nat → Nat → Int32)) (x1 x2 : Int32) (Q : Int32 → (Nat → Int32) → (Nat → Nat → Int32) → Prop) (hw : wp_M_defines I_M A_M x1 x2 Q) : MetI l y_M_defines (Cond.code y_M_defines b_M_defines 5 (some .int) :: TB) ({ frames := 4, cells := 0, slots := 0, locals := 82 } : Room) D vwCl (tyl cA) (SPl sx) [.ref (a_M 0), .int x1, .int x2] (kc_M cA a_M I_M A_M) (fun (r : Int32) (u : (Nat → Int32) × (Nat → Nat → Int32)) => Q r u.1 u.2) (fun u : (Nat → Int32) × (Nat → Nat → Int32) => kc_M cA a_M u.1 u.2) := by
  refine vv_entryI (cc := b_M_defines) (own := R_M) (L := [(0, .ref (a_M 0)), (1, .int x1), (2, .int x2)]) (by decide) rfl rfl (Nat.le_of_ble_eq_true rfl) rfl (fun p e s m args below meth c A hC => ?_)
  unfold wp_M_defines at hw
  refine vv_aload_n hC d_M_defines_0 0 rfl rfl ?_
  refine vv_get hC (v := .int (I_M 4)) hin_M 0 6 tb_678 d_M_defines_1 rfl rfl (by decide) rfl rfl ?_
  refine vv_istore_n hC d_M_defines_4 rfl (by decide) [1, 2, 3, 0] (L2 := [(0, .ref (a_M 0)), (1, .int x1), (2, .int x2), (3, .int (I_M 4))]) rfl ?_
  refine vv_aload_n hC d_M_defines_5 0 rfl rfl ?_
  refine vv_callVI (wr := []) hC (c_M_literal l D cA sx a_M I_M A_M _ hw) (cw_M_118 hC) d_M_defines_6 [] [0, 1, 2, 3, 4, 5, 6, 7, 8, 9, 10, 11, 12, 13, 14, 15, 16, 17, 18, 19, 20, 21, 22, 23] [] [0, 1, 2, 3, 4, 5, 6, 7, 8, 9, 10, 11, 12, 13, 14, 15, 16, 17, 18, 19, 20, 21, 22, 23] (fun u_2 : (Nat → Int32) => kc_M cA a_M u_2 A_M) ⟨Nat.zero_le _, Nat.zero_le _⟩ rfl rfl (fun _ => rfl) rfl rfl rfl rfl rfl rfl rfl rfl (Nat.le_of_ble_eq_true rfl) (fun r_1 u_2 hw => ?_)
  refine vv_istore hC d_M_defines_9 (by decide) [1, 2, 3, 4, 0] (L2 := [(0, .ref (a_M 0)), (1, .int x1), (2, .int x2), (3, .int (I_M 4)), (4, .int r_1)]) rfl ?_
  refine vv_aload_n hC d_M_defines_11 0 rfl rfl ?_
  refine vv_get hC (v := .int (u_2 5)) hin_M 0 7 tb_679 d_M_defines_12 rfl rfl (by decide) rfl rfl ?_
  refine vv_if_ne hC 54 d_M_defines_15 (by decide) (fun cd => ?_) (fun cd => ?_)
  · have hw := hw.2 cd
    exact vv_sub [0, 1, 2, 4] (by rfl) (l_M_defines_b54 a_M Q hC u_2 A_M x1 x2 r_1 hw)
  · have hw := hw.1 cd
    refine vv_iload hC d_M_defines_18 4 rfl ?_
    refine vv_iconst hC d_M_defines_20 (v := (2 : Int32)) (by decide) ?_
    refine vv_icmp_lt hC 48 d_M_defines_21 (by decide) (fun cd => ?_) (fun cd => ?_)
    · have hw := hw.1 cd
      exact vv_sub [0, 1, 2, 3, 4] (by rfl) (l_M_defines_b48 a_M Q hC u_2 A_M x1 x2 (I_M 4) r_1 hw)
    · have hw := hw.2 cd
      refine vv_iload hC d_M_defines_24 4 rfl ?_
      refine vv_iconst hC d_M_defines_26 (v := (2 : Int32)) (by decide) ?_
      refine vv_irem hC d_M_defines_27 (by decide) ?_
      refine vv_iconst hC d_M_defines_28 (v := (1 : Int32)) (by decide) ?_
      refine vv_icmp_eq hC 48 d_M_defines_29 (by decide) (fun cd => ?_) (fun cd => ?_)
      · have hw := hw.1 cd
        exact vv_sub [0, 1, 2, 3, 4] (by rfl) (l_M_defines_b48 a_M Q hC u_2 A_M x1 x2 (I_M 4) r_1 hw)
      · have hw := hw.2 cd
        refine vv_aload_n hC d_M_defines_32 0 rfl rfl ?_
        refine vv_get hC (v := .ref (a_M 11)) hin_M 0 18 tb_690 d_M_defines_33 rfl rfl (by decide) rfl rfl ?_
        refine vv_sipush hC d_M_defines_36 (v := (401 : Int32)) (by decide) ?_
        refine vv_iload hC d_M_defines_39 4 rfl ?_
        refine vv_iconst hC d_M_defines_41 (v := (2 : Int32)) (by decide) ?_
        refine vv_idiv hC d_M_defines_42 (by decide) ?_
        refine vv_iadd hC d_M_defines_43 ?_
        obtain ⟨hin_8, hw⟩ := hw
        refine vv_iald hC 11 0 d_M_defines_44 rfl rfl hin_8 ?_
        refine vv_if_eq hC 54 d_M_defines_45 (by decide) (fun cd => ?_) (fun cd => ?_)
        · have hw := hw.1 cd
          exact vv_sub [0, 1, 2, 4] (by rfl) (l_M_defines_b54 a_M Q hC u_2 A_M x1 x2 r_1 hw)
        · have hw := hw.2 cd
          exact vv_sub [0, 1, 2, 3, 4] (by rfl) (l_M_defines_b48 a_M Q hC u_2 A_M x1 x2 (I_M 4) r_1 hw)
set_option maxHeartbeats 4000000 in
set_option maxRecDepth 100000 in
theorem l_M_takeHead_L44 {p : Program} {l : Launch} {e : Env} {s : State} {m : MethodId} {args : Array Value} {below : List Frame} {meth : Method} {c : Code} {D : va_G} {cA : Nat → ClassId} {sx : Nat → Nat} {A : Nat → Prop} (a_M : Nat → Nat) (Q : Int32 → (Nat → Int32) → (Nat → Nat → Int32) → Prop) (X44 : (Nat → Int32) → (Nat → Nat → Int32) → Int32 → Prop) (hC : CX p s m args meth c b_M_takeHead R_M TB 4 D vwCl (tyl cA) A (SPl sx) (some .boolean)) (hX44 : ∀ (I_M : (Nat → Int32)) (A_M : (Nat → Nat → Int32)) (v1 : Int32), X44 I_M A_M v1 → VV p l e ({ frames := 3, cells := 0, slots := 0, locals := 61 } : Room) s m args below meth c 4 D vwCl A 0 0 (QI below args s D vwCl (tyl cA) A (fun (r : Int32) (u : (Nat → Int32) × (Nat → Nat → Int32)) => Q r u.1 u.2) (fun u : (Nat → Int32) × (Nat → Nat → Int32) => kc_M cA a_M u.1 u.2)) (kc_M cA a_M I_M A_M) 77 [(0, .ref (a_M 0)), (1, .int v1)] []) : ∀ (n44 : Nat) (I_M : (Nat → Int32)) (A_M : (Nat → Nat → Int32)) (v1 : Int32) (v2 : Int32), wp_M_takeHead_L44 Q X44 n44 I_M A_M v1 v2 → VV p l e ({ frames := 3, cells := 0, slots := 0, locals := 61 } : Room) s m args below meth c 4 D vwCl A 0 0 (QI below args s D vwCl (tyl cA) A (fun (r : Int32) (u : (Nat → Int32) × (Nat → Nat → Int32)) => Q r u.1 u.2) (fun u : (Nat → Int32) × (Nat → Nat → Int32) => kc_M cA a_M u.1 u.2)) (kc_M cA a_M I_M A_M) 44 [(0, .ref (a_M 0)), (1, .int v1), (2, .int v2)] [] := by
  intro n44
  induction n44 with
  | zero =>
    intro I_M A_M v1 v2 hw
    exact absurd hw (fun z => z)
  | succ n44 ih =>
    intro I_M A_M v1 v2 hw
    unfold wp_M_takeHead_L44 at hw
    refine vv_iload_n hC d_M_takeHead_44 2 rfl rfl ?_
    refine vv_iconst hC d_M_takeHead_45 (v := (5 : Int32)) (by decide) ?_
    refine vv_icmp_ge hC 77 d_M_takeHead_46 (by decide) (fun cd => ?_) (fun cd => ?_)
    · have hw := hw.1 cd
      exact vv_sub [0, 1] (by rfl) (hX44 I_M A_M v1 hw)
    · have hw := hw.2 cd
      refine vv_aload_n hC d_M_takeHead_49 0 rfl rfl ?_
      refine vv_bipush hC d_M_takeHead_50 (v := (32 : Int32)) (by decide) ?_
      refine vv_callVV (wr := []) hC (c_M_take l D cA sx a_M I_M A_M (32 : Int32) _ hw) (cw_M_125 hC) d_M_takeHead_52 [] [0, 1, 2, 3, 4, 5, 6, 7, 8, 9, 10, 11, 12, 13, 14, 15, 16, 17, 18, 19, 20, 21, 22, 23] [] [0, 1, 2, 3, 4, 5, 6, 7, 8, 9, 10, 11, 12, 13, 14, 15, 16, 17, 18, 19, 20, 21, 22, 23] (fun u_9 : (Nat → Int32) => kc_M cA a_M u_9 A_M) ⟨Nat.zero_le _, Nat.zero_le _⟩ rfl rfl (fun _ => rfl) rfl rfl rfl rfl rfl rfl rfl rfl (Nat.le_of_ble_eq_true rfl) (fun u_9 hw => ?_)
      refine vv_aload_n hC d_M_takeHead_55 0 rfl rfl ?_
      refine vv_callVV (wr := []) hC (c_M_takeNumber l D cA sx a_M u_9 A_M _ hw) (cw_M_115 hC) d_M_takeHead_56 [] [0, 1, 2, 3, 4, 5, 6, 7, 8, 9, 10, 11, 12, 13, 14, 15, 16, 17, 18, 19, 20, 21, 22, 23] [] [0, 1, 2, 3, 4, 5, 6, 7, 8, 9, 10, 11, 12, 13, 14, 15, 16, 17, 18, 19, 20, 21, 22, 23] (fun u_11 : (Nat → Int32) => kc_M cA a_M u_11 A_M) ⟨Nat.zero_le _, Nat.zero_le _⟩ rfl rfl (fun _ => rfl) rfl rfl rfl rfl rfl rfl rfl rfl (Nat.le_of_ble_eq_true rfl) (fun u_11 hw => ?_)
      refine vv_aload_n hC d_M_takeHead_59 0 rfl rfl ?_
      refine vv_get hC (v := .ref (a_M 3)) hin_M 0 10 tb_682 d_M_takeHead_60 rfl rfl (by decide) rfl rfl ?_
      refine vv_iconst hC d_M_takeHead_63 (v := (5 : Int32)) (by decide) ?_
      refine vv_iload_n hC d_M_takeHead_64 2 rfl rfl ?_
      refine vv_iadd hC d_M_takeHead_65 ?_
      refine vv_aload_n hC d_M_takeHead_66 0 rfl rfl ?_
      refine vv_get hC (v := .int (u_11 7)) hin_M 0 9 tb_681 d_M_takeHead_67 rfl rfl (by decide) rfl rfl ?_
      obtain ⟨hin_13, hw⟩ := hw
      refine vv_iast hC 3 0 d_M_takeHead_70 rfl rfl hin_13 (ws2 := kc_M cA a_M u_11 (va_up A_M 2 (upd (A_M 2) (((5 : Int32) + v2)).toNatClampNeg (u_11 7)))) (st_M_MA2 ..) ?_
      refine vv_iinc hC d_M_takeHead_71 2 rfl (v := (v2 + (1 : Int32))) rfl (by decide) [1, 2, 0] (L2 := [(0, .ref (a_M 0)), (1, .int v1), (2, .int (v2 + (1 : Int32)))]) rfl ?_
      refine vv_goto hC 44 d_M_takeHead_74 (by decide) ?_
      exact vv_sub [0, 1, 2] (by rfl) (ih u_11 (va_up A_M 2 (upd (A_M 2) (((5 : Int32) + v2)).toNatClampNeg (u_11 7))) v1 (v2 + (1 : Int32)) hw)
set_option maxHeartbeats 4000000 in
set_option maxRecDepth 100000 in
theorem l_M_takeHead_b201 {p : Program} {l : Launch} {e : Env} {s : State} {m : MethodId} {args : Array Value} {below : List Frame} {meth : Method} {c : Code} {D : va_G} {cA : Nat → ClassId} {sx : Nat → Nat} {A : Nat → Prop} (a_M : Nat → Nat) (Q : Int32 → (Nat → Int32) → (Nat → Nat → Int32) → Prop) (hC : CX p s m args meth c b_M_takeHead R_M TB 4 D vwCl (tyl cA) A (SPl sx) (some .boolean)) : ∀ (I_M : (Nat → Int32)) (A_M : (Nat → Nat → Int32)) (v1 : Int32) (v3 : Int32), wp_M_takeHead_b201 Q I_M A_M v1 v3 → VV p l e ({ frames := 3, cells := 0, slots := 0, locals := 61 } : Room) s m args below meth c 4 D vwCl A 0 0 (QI below args s D vwCl (tyl cA) A (fun (r : Int32) (u : (Nat → Int32) × (Nat → Nat → Int32)) => Q r u.1 u.2) (fun u : (Nat → Int32) × (Nat → Nat → Int32) => kc_M cA a_M u.1 u.2)) (kc_M cA a_M I_M A_M) 201 [(0, .ref (a_M 0)), (1, .int v1), (3, .int v3)] [] := by
  intro I_M A_M v1 v3 hw
  unfold wp_M_takeHead_b201 at hw
  refine vv_aload_n hC d_M_takeHead_201 0 rfl rfl ?_
  refine vv_get hC (v := .int (I_M 5)) hin_M 0 7 tb_679 d_M_takeHead_202 rfl rfl (by decide) rfl rfl ?_
  refine vv_if_ne hC 221 d_M_takeHead_205 (by decide) (fun cd => ?_) (fun cd => ?_)
  · have hw := hw.2 cd
    refine vv_iload_n hC d_M_takeHead_221 1 rfl rfl ?_
    obtain ⟨hnr_19, hw⟩ := hw
    exact vv_zret hC d_M_takeHead_222 hnr_19 (I_M, A_M) hw rfl
  · have hw := hw.1 cd
    refine vv_iload_n hC d_M_takeHead_208 2 rfl rfl ?_
    refine vv_if_ne hC 221 d_M_takeHead_209 (by decide) (fun cd => ?_) (fun cd => ?_)
    · have hw := hw.2 cd
      refine vv_iload_n hC d_M_takeHead_221 1 rfl rfl ?_
      obtain ⟨hnr_20, hw⟩ := hw
      exact vv_zret hC d_M_takeHead_222 hnr_20 (I_M, A_M) hw rfl
    · have hw := hw.1 cd
      refine vv_aload_n hC d_M_takeHead_212 0 rfl rfl ?_
      refine vv_iconst hC d_M_takeHead_213 (v := (2 : Int32)) (by decide) ?_
      refine vv_aload_n hC d_M_takeHead_214 0 rfl rfl ?_
      refine vv_get hC (v := .int (I_M 4)) hin_M 0 6 tb_678 d_M_takeHead_215 rfl rfl (by decide) rfl rfl ?_
      refine vv_callVV (wr := []) hC (c_M_wrong l D cA sx a_M I_M A_M (2 : Int32) (I_M 4) _ hw) (cw_M_104 hC) d_M_takeHead_218 [] [0, 1, 2, 3, 4, 5, 6, 7, 8, 9, 10, 11, 12, 13, 14, 15, 16, 17, 18, 19, 20, 21, 22, 23] [] [0, 1, 2, 3, 4, 5, 6, 7, 8, 9, 10, 11, 12, 13, 14, 15, 16, 17, 18, 19, 20, 21, 22, 23] (fun u_21 : (Nat → Int32) => kc_M cA a_M u_21 A_M) ⟨Nat.zero_le _, Nat.zero_le _⟩ rfl rfl (fun _ => rfl) rfl rfl rfl rfl rfl rfl rfl rfl (Nat.le_of_ble_eq_true rfl) (fun u_21 hw => ?_)
      refine vv_iload_n hC d_M_takeHead_221 1 rfl rfl ?_
      obtain ⟨hnr_23, hw⟩ := hw
      exact vv_zret hC d_M_takeHead_222 hnr_23 (u_21, A_M) hw rfl
set_option maxHeartbeats 4000000 in
set_option maxRecDepth 100000 in
theorem l_M_takeHead_b199 {p : Program} {l : Launch} {e : Env} {s : State} {m : MethodId} {args : Array Value} {below : List Frame} {meth : Method} {c : Code} {D : va_G} {cA : Nat → ClassId} {sx : Nat → Nat} {A : Nat → Prop} (a_M : Nat → Nat) (Q : Int32 → (Nat → Int32) → (Nat → Nat → Int32) → Prop) (hC : CX p s m args meth c b_M_takeHead R_M TB 4 D vwCl (tyl cA) A (SPl sx) (some .boolean)) : ∀ (I_M : (Nat → Int32)) (A_M : (Nat → Nat → Int32)) (v1 : Int32), wp_M_takeHead_b199 Q I_M A_M v1 → VV p l e ({ frames := 3, cells := 0, slots := 0, locals := 61 } : Room) s m args below meth c 4 D vwCl A 0 0 (QI below args s D vwCl (tyl cA) A (fun (r : Int32) (u : (Nat → Int32) × (Nat → Nat → Int32)) => Q r u.1 u.2) (fun u : (Nat → Int32) × (Nat → Nat → Int32) => kc_M cA a_M u.1 u.2)) (kc_M cA a_M I_M A_M) 199 [(0, .ref (a_M 0)), (1, .int v1)] [] := by
  intro I_M A_M v1 hw
  unfold wp_M_takeHead_b199 at hw
  refine vv_iconst hC d_M_takeHead_199 (v := (0 : Int32)) (by decide) ?_
  refine vv_istore_n hC d_M_takeHead_200 rfl (by decide) [1, 2, 0] (L2 := [(0, .ref (a_M 0)), (1, .int v1), (3, .int (0 : Int32))]) rfl ?_
  exact vv_sub [0, 1, 2] (by rfl) (l_M_takeHead_b201 a_M Q hC I_M A_M v1 (0 : Int32) hw)
set_option maxHeartbeats 4000000 in
set_option maxRecDepth 100000 in
theorem l_M_takeHead_b195 {p : Program} {l : Launch} {e : Env} {s : State} {m : MethodId} {args : Array Value} {below : List Frame} {meth : Method} {c : Code} {D : va_G} {cA : Nat → ClassId} {sx : Nat → Nat} {A : Nat → Prop} (a_M : Nat → Nat) (Q : Int32 → (Nat → Int32) → (Nat → Nat → Int32) → Prop) (hC : CX p s m args meth c b_M_takeHead R_M TB 4 D vwCl (tyl cA) A (SPl sx) (some .boolean)) : ∀ (I_M : (Nat → Int32)) (A_M : (Nat → Nat → Int32)) (v1 : Int32), wp_M_takeHead_b195 Q I_M A_M v1 → VV p l e ({ frames := 3, cells := 0, slots := 0, locals := 61 } : Room) s m args below meth c 4 D vwCl A 0 0 (QI below args s D vwCl (tyl cA) A (fun (r : Int32) (u : (Nat → Int32) × (Nat → Nat → Int32)) => Q r u.1 u.2) (fun u : (Nat → Int32) × (Nat → Nat → Int32) => kc_M cA a_M u.1 u.2)) (kc_M cA a_M I_M A_M) 195 [(0, .ref (a_M 0)), (1, .int v1)] [] := by
  intro I_M A_M v1 hw
  unfold wp_M_takeHead_b195 at hw
  refine vv_iconst hC d_M_takeHead_195 (v := (1 : Int32)) (by decide) ?_
  refine vv_goto hC 200 d_M_takeHead_196 (by decide) ?_
  refine vv_istore_n hC d_M_takeHead_200 rfl (by decide) [1, 2, 0] (L2 := [(0, .ref (a_M 0)), (1, .int v1), (3, .int (1 : Int32))]) rfl ?_
  exact vv_sub [0, 1, 2] (by rfl) (l_M_takeHead_b201 a_M Q hC I_M A_M v1 (1 : Int32) hw)
set_option maxHeartbeats 4000000 in
set_option maxRecDepth 100000 in
theorem l_M_takeHead_b36 {p : Program} {l : Launch} {e : Env} {s : State} {m : MethodId} {args : Array Value} {below : List Frame} {meth : Method} {c : Code} {D : va_G} {cA : Nat → ClassId} {sx : Nat → Nat} {A : Nat → Prop} (a_M : Nat → Nat) (Q : Int32 → (Nat → Int32) → (Nat → Nat → Int32) → Prop) (hC : CX p s m args meth c b_M_takeHead R_M TB 4 D vwCl (tyl cA) A (SPl sx) (some .boolean)) : ∀ (I_M : (Nat → Int32)) (A_M : (Nat → Nat → Int32)) (v1 : Int32), wp_M_takeHead_b36 Q I_M A_M v1 → VV p l e ({ frames := 3, cells := 0, slots := 0, locals := 61 } : Room) s m args below meth c 4 D vwCl A 0 0 (QI below args s D vwCl (tyl cA) A (fun (r : Int32) (u : (Nat → Int32) × (Nat → Nat → Int32)) => Q r u.1 u.2) (fun u : (Nat → Int32) × (Nat → Nat → Int32) => kc_M cA a_M u.1 u.2)) (kc_M cA a_M I_M A_M) 36 [(0, .ref (a_M 0)), (1, .int v1)] [] := by
  intro I_M A_M v1 hw
  unfold wp_M_takeHead_b36 at hw
  refine vv_aload_n hC d_M_takeHead_36 0 rfl rfl ?_
  refine vv_bipush hC d_M_takeHead_37 (v := (103 : Int32)) (by decide) ?_
  refine vv_callVV (wr := []) hC (c_M_take l D cA sx a_M I_M A_M (103 : Int32) _ hw) (cw_M_125 hC) d_M_takeHead_39 [] [0, 1, 2, 3, 4, 5, 6, 7, 8, 9, 10, 11, 12, 13, 14, 15, 16, 17, 18, 19, 20, 21, 22, 23] [] [0, 1, 2, 3, 4, 5, 6, 7, 8, 9, 10, 11, 12, 13, 14, 15, 16, 17, 18, 19, 20, 21, 22, 23] (fun u_7 : (Nat → Int32) => kc_M cA a_M u_7 A_M) ⟨Nat.zero_le _, Nat.zero_le _⟩ rfl rfl (fun _ => rfl) rfl rfl rfl rfl rfl rfl rfl rfl (Nat.le_of_ble_eq_true rfl) (fun u_7 hw => ?_)
  refine vv_iconst hC d_M_takeHead_42 (v := (0 : Int32)) (by decide) ?_
  refine vv_istore_n hC d_M_takeHead_43 rfl (by decide) [1, 2, 0] (L2 := [(0, .ref (a_M 0)), (1, .int v1), (2, .int (0 : Int32))]) rfl ?_
  obtain ⟨m44, hw⟩ := hw
  refine vv_sub [0, 1, 2] (by rfl) (l_M_takeHead_L44 a_M Q _ hC (fun I_M_14 A_M_15 v1_16 hw => ?_) m44 u_7 A_M v1 (0 : Int32) hw)
  refine vv_aload_n hC d_M_takeHead_77 0 rfl rfl ?_
  refine vv_bipush hC d_M_takeHead_78 (v := (10 : Int32)) (by decide) ?_
  refine vv_callVV (wr := []) hC (c_M_take l D cA sx a_M I_M_14 A_M_15 (10 : Int32) _ hw) (cw_M_125 hC) d_M_takeHead_80 [] [0, 1, 2, 3, 4, 5, 6, 7, 8, 9, 10, 11, 12, 13, 14, 15, 16, 17, 18, 19, 20, 21, 22, 23] [] [0, 1, 2, 3, 4, 5, 6, 7, 8, 9, 10, 11, 12, 13, 14, 15, 16, 17, 18, 19, 20, 21, 22, 23] (fun u_17 : (Nat → Int32) => kc_M cA a_M u_17 A_M_15) ⟨Nat.zero_le _, Nat.zero_le _⟩ rfl rfl (fun _ => rfl) rfl rfl rfl rfl rfl rfl rfl rfl (Nat.le_of_ble_eq_true rfl) (fun u_17 hw => ?_)
  refine vv_aload_n hC d_M_takeHead_83 0 rfl rfl ?_
  refine vv_get hC (v := .ref (a_M 3)) hin_M 0 10 tb_682 d_M_takeHead_84 rfl rfl (by decide) rfl rfl ?_
  refine vv_bipush hC d_M_takeHead_87 (v := (6 : Int32)) (by decide) ?_
  refine vv_iald hC 3 0 d_M_takeHead_89 rfl rfl (vin_c (by decide)) ?_
  refine vv_aload_n hC d_M_takeHead_90 0 rfl rfl ?_
  refine vv_get hC (v := .ref (a_M 3)) hin_M 0 10 tb_682 d_M_takeHead_91 rfl rfl (by decide) rfl rfl ?_
  refine vv_bipush hC d_M_takeHead_94 (v := (7 : Int32)) (by decide) ?_
  refine vv_iald hC 3 0 d_M_takeHead_96 rfl rfl (vin_c (by decide)) ?_
  refine vv_iadd hC d_M_takeHead_97 ?_
  refine vv_aload_n hC d_M_takeHead_98 0 rfl rfl ?_
  refine vv_get hC (v := .ref (a_M 3)) hin_M 0 10 tb_682 d_M_takeHead_99 rfl rfl (by decide) rfl rfl ?_
  refine vv_bipush hC d_M_takeHead_102 (v := (9 : Int32)) (by decide) ?_
  refine vv_iald hC 3 0 d_M_takeHead_104 rfl rfl (vin_c (by decide)) ?_
  refine vv_iadd hC d_M_takeHead_105 ?_
  refine vv_istore_n hC d_M_takeHead_106 rfl (by decide) [1, 2, 0] (L2 := [(0, .ref (a_M 0)), (1, .int v1_16), (2, .int ((((A_M_15 2) ((6 : Int32)).toNatClampNeg) + ((A_M_15 2) ((7 : Int32)).toNatClampNeg)) + ((A_M_15 2) ((9 : Int32)).toNatClampNeg)))]) rfl ?_
  refine vv_aload_n hC d_M_takeHead_107 0 rfl rfl ?_
  refine vv_get hC (v := .ref (a_M 3)) hin_M 0 10 tb_682 d_M_takeHead_108 rfl rfl (by decide) rfl rfl ?_
  refine vv_iconst hC d_M_takeHead_111 (v := (5 : Int32)) (by decide) ?_
  refine vv_iald hC 3 0 d_M_takeHead_112 rfl rfl (vin_c (by decide)) ?_
  refine vv_sipush hC d_M_takeHead_113 (v := (400 : Int32)) (by decide) ?_
  refine vv_icmp_gt hC 199 d_M_takeHead_116 (by decide) (fun cd => ?_) (fun cd => ?_)
  · have hw := hw.1 cd
    exact vv_sub [0, 1] (by rfl) (l_M_takeHead_b199 a_M Q hC u_17 A_M_15 v1_16 hw)
  · have hw := hw.2 cd
    refine vv_aload_n hC d_M_takeHead_119 0 rfl rfl ?_
    refine vv_get hC (v := .ref (a_M 3)) hin_M 0 10 tb_682 d_M_takeHead_120 rfl rfl (by decide) rfl rfl ?_
    refine vv_bipush hC d_M_takeHead_123 (v := (6 : Int32)) (by decide) ?_
    refine vv_iald hC 3 0 d_M_takeHead_125 rfl rfl (vin_c (by decide)) ?_
    refine vv_bipush hC d_M_takeHead_126 (v := (6 : Int32)) (by decide) ?_
    refine vv_icmp_gt hC 199 d_M_takeHead_128 (by decide) (fun cd => ?_) (fun cd => ?_)
    · have hw := hw.1 cd
      exact vv_sub [0, 1] (by rfl) (l_M_takeHead_b199 a_M Q hC u_17 A_M_15 v1_16 hw)
    · have hw := hw.2 cd
      refine vv_aload_n hC d_M_takeHead_131 0 rfl rfl ?_
      refine vv_get hC (v := .ref (a_M 3)) hin_M 0 10 tb_682 d_M_takeHead_132 rfl rfl (by decide) rfl rfl ?_
      refine vv_bipush hC d_M_takeHead_135 (v := (7 : Int32)) (by decide) ?_
      refine vv_iald hC 3 0 d_M_takeHead_137 rfl rfl (vin_c (by decide)) ?_
      refine vv_bipush hC d_M_takeHead_138 (v := (7 : Int32)) (by decide) ?_
      refine vv_icmp_gt hC 199 d_M_takeHead_140 (by decide) (fun cd => ?_) (fun cd => ?_)
      · have hw := hw.1 cd
        exact vv_sub [0, 1] (by rfl) (l_M_takeHead_b199 a_M Q hC u_17 A_M_15 v1_16 hw)
      · have hw := hw.2 cd
        refine vv_aload_n hC d_M_takeHead_143 0 rfl rfl ?_
        refine vv_get hC (v := .ref (a_M 3)) hin_M 0 10 tb_682 d_M_takeHead_144 rfl rfl (by decide) rfl rfl ?_
        refine vv_bipush hC d_M_takeHead_147 (v := (8 : Int32)) (by decide) ?_
        refine vv_iald hC 3 0 d_M_takeHead_149 rfl rfl (vin_c (by decide)) ?_
        refine vv_bipush hC d_M_takeHead_150 (v := (8 : Int32)) (by decide) ?_
        refine vv_icmp_gt hC 199 d_M_takeHead_152 (by decide) (fun cd => ?_) (fun cd => ?_)
        · have hw := hw.1 cd
          exact vv_sub [0, 1] (by rfl) (l_M_takeHead_b199 a_M Q hC u_17 A_M_15 v1_16 hw)
        · have hw := hw.2 cd
          refine vv_aload_n hC d_M_takeHead_155 0 rfl rfl ?_
          refine vv_get hC (v := .ref (a_M 3)) hin_M 0 10 tb_682 d_M_takeHead_156 rfl rfl (by decide) rfl rfl ?_
          refine vv_bipush hC d_M_takeHead_159 (v := (9 : Int32)) (by decide) ?_
          refine vv_iald hC 3 0 d_M_takeHead_161 rfl rfl (vin_c (by decide)) ?_
          refine vv_sipush hC d_M_takeHead_162 (v := (300 : Int32)) (by decide) ?_
          refine vv_icmp_gt hC 199 d_M_takeHead_165 (by decide) (fun cd => ?_) (fun cd => ?_)
          · have hw := hw.1 cd
            exact vv_sub [0, 1] (by rfl) (l_M_takeHead_b199 a_M Q hC u_17 A_M_15 v1_16 hw)
          · have hw := hw.2 cd
            refine vv_iload_n hC d_M_takeHead_168 1 rfl rfl ?_
            refine vv_if_eq hC 185 d_M_takeHead_169 (by decide) (fun cd => ?_) (fun cd => ?_)
            · have hw := hw.1 cd
              refine vv_aload_n hC d_M_takeHead_185 0 rfl rfl ?_
              refine vv_get hC (v := .ref (a_M 3)) hin_M 0 10 tb_682 d_M_takeHead_186 rfl rfl (by decide) rfl rfl ?_
              refine vv_iconst hC d_M_takeHead_189 (v := (5 : Int32)) (by decide) ?_
              refine vv_iald hC 3 0 d_M_takeHead_190 rfl rfl (vin_c (by decide)) ?_
              refine vv_iload_n hC d_M_takeHead_191 2 rfl rfl ?_
              refine vv_icmp_lt hC 199 d_M_takeHead_192 (by decide) (fun cd => ?_) (fun cd => ?_)
              · have hw := hw.1 cd
                exact vv_sub [0, 1] (by rfl) (l_M_takeHead_b199 a_M Q hC u_17 A_M_15 v1_16 hw)
              · have hw := hw.2 cd
                exact vv_sub [0, 1] (by rfl) (l_M_takeHead_b195 a_M Q hC u_17 A_M_15 v1_16 hw)
            · have hw := hw.2 cd
              refine vv_aload_n hC d_M_takeHead_172 0 rfl rfl ?_
              refine vv_get hC (v := .ref (a_M 3)) hin_M 0 10 tb_682 d_M_takeHead_173 rfl rfl (by decide) rfl rfl ?_
              refine vv_iconst hC d_M_takeHead_176 (v := (5 : Int32)) (by decide) ?_
              refine vv_iald hC 3 0 d_M_takeHead_177 rfl rfl (vin_c (by decide)) ?_
              refine vv_iload_n hC d_M_takeHead_178 2 rfl rfl ?_
              refine vv_icmp_ne hC 199 d_M_takeHead_179 (by decide) (fun cd => ?_) (fun cd => ?_)
              · have hw := hw.2 cd
                exact vv_sub [0, 1] (by rfl) (l_M_takeHead_b199 a_M Q hC u_17 A_M_15 v1_16 hw)
              · have hw := hw.1 cd
                refine vv_goto hC 195 d_M_takeHead_182 (by decide) ?_
                exact vv_sub [0, 1] (by rfl) (l_M_takeHead_b195 a_M Q hC u_17 A_M_15 v1_16 hw)
set_option maxHeartbeats 4000000 in
set_option maxRecDepth 100000 in
theorem l_M_takeHead_b21 {p : Program} {l : Launch} {e : Env} {s : State} {m : MethodId} {args : Array Value} {below : List Frame} {meth : Method} {c : Code} {D : va_G} {cA : Nat → ClassId} {sx : Nat → Nat} {A : Nat → Prop} (a_M : Nat → Nat) (Q : Int32 → (Nat → Int32) → (Nat → Nat → Int32) → Prop) (hC : CX p s m args meth c b_M_takeHead R_M TB 4 D vwCl (tyl cA) A (SPl sx) (some .boolean)) : ∀ (I_M : (Nat → Int32)) (A_M : (Nat → Nat → Int32)) (v1 : Int32), wp_M_takeHead_b21 Q I_M A_M v1 → VV p l e ({ frames := 3, cells := 0, slots := 0, locals := 61 } : Room) s m args below meth c 4 D vwCl A 0 0 (QI below args s D vwCl (tyl cA) A (fun (r : Int32) (u : (Nat → Int32) × (Nat → Nat → Int32)) => Q r u.1 u.2) (fun u : (Nat → Int32) × (Nat → Nat → Int32) => kc_M cA a_M u.1 u.2)) (kc_M cA a_M I_M A_M) 21 [(0, .ref (a_M 0)), (1, .int v1)] [] := by
  intro I_M A_M v1 hw
  unfold wp_M_takeHead_b21 at hw
  refine vv_aload_n hC d_M_takeHead_21 0 rfl rfl ?_
  refine vv_iload_n hC d_M_takeHead_22 1 rfl rfl ?_
  refine vv_if_eq hC 31 d_M_takeHead_23 (by decide) (fun cd => ?_) (fun cd => ?_)
  · have hw := hw.1 cd
    refine vv_bipush hC d_M_takeHead_31 (v := (97 : Int32)) (by decide) ?_
    refine vv_callVV (wr := []) hC (c_M_take l D cA sx a_M I_M A_M (97 : Int32) _ hw) (cw_M_125 hC) d_M_takeHead_33 [] [0, 1, 2, 3, 4, 5, 6, 7, 8, 9, 10, 11, 12, 13, 14, 15, 16, 17, 18, 19, 20, 21, 22, 23] [] [0, 1, 2, 3, 4, 5, 6, 7, 8, 9, 10, 11, 12, 13, 14, 15, 16, 17, 18, 19, 20, 21, 22, 23] (fun u_5 : (Nat → Int32) => kc_M cA a_M u_5 A_M) ⟨Nat.zero_le _, Nat.zero_le _⟩ rfl rfl (fun _ => rfl) rfl rfl rfl rfl rfl rfl rfl rfl (Nat.le_of_ble_eq_true rfl) (fun u_5 hw => ?_)
    exact vv_sub [0, 1] (by rfl) (l_M_takeHead_b36 a_M Q hC u_5 A_M v1 hw)
  · have hw := hw.2 cd
    refine vv_bipush hC d_M_takeHead_26 (v := (105 : Int32)) (by decide) ?_
    refine vv_goto hC 33 d_M_takeHead_28 (by decide) ?_
    refine vv_callVV (wr := []) hC (c_M_take l D cA sx a_M I_M A_M (105 : Int32) _ hw) (cw_M_125 hC) d_M_takeHead_33 [] [0, 1, 2, 3, 4, 5, 6, 7, 8, 9, 10, 11, 12, 13, 14, 15, 16, 17, 18, 19, 20, 21, 22, 23] [] [0, 1, 2, 3, 4, 5, 6, 7, 8, 9, 10, 11, 12, 13, 14, 15, 16, 17, 18, 19, 20, 21, 22, 23] (fun u_24 : (Nat → Int32) => kc_M cA a_M u_24 A_M) ⟨Nat.zero_le _, Nat.zero_le _⟩ rfl rfl (fun _ => rfl) rfl rfl rfl rfl rfl rfl rfl rfl (Nat.le_of_ble_eq_true rfl) (fun u_24 hw => ?_)
    exact vv_sub [0, 1] (by rfl) (l_M_takeHead_b36 a_M Q hC u_24 A_M v1 hw)
set_option maxHeartbeats 4000000 in
set_option maxRecDepth 100000 in
theorem c_M_takeHead (l : Launch) (D : va_G) (cA : Nat → ClassId) (sx : Nat → Nat) (a_M : Nat → Nat) (I_M : (Nat → Int32)) (A_M : (Nat → Nat → Int32)) (Q : Int32 → (Nat → Int32) → (Nat → Nat → Int32) → Prop) (hw : wp_M_takeHead I_M A_M Q) : MetI l y_M_takeHead (Cond.code y_M_takeHead b_M_takeHead 4 (some .boolean) :: TB) ({ frames := 3, cells := 0, slots := 0, locals := 61 } : Room) D vwCl (tyl cA) (SPl sx) [.ref (a_M 0)] (kc_M cA a_M I_M A_M) (fun (r : Int32) (u : (Nat → Int32) × (Nat → Nat → Int32)) => Q r u.1 u.2) (fun u : (Nat → Int32) × (Nat → Nat → Int32) => kc_M cA a_M u.1 u.2) := by
  refine vv_entryI (cc := b_M_takeHead) (own := R_M) (L := [(0, .ref (a_M 0))]) (by decide) rfl rfl (Nat.le_of_ble_eq_true rfl) rfl (fun p e s m args below meth c A hC => ?_)
  unfold wp_M_takeHead at hw
  refine vv_aload_n hC d_M_takeHead_0 0 rfl rfl ?_
  refine vv_bipush hC d_M_takeHead_1 (v := (97 : Int32)) (by decide) ?_
  refine vv_callVV (wr := []) hC (c_M_take l D cA sx a_M I_M A_M (97 : Int32) _ hw) (cw_M_125 hC) d_M_takeHead_3 [] [0, 1, 2, 3, 4, 5, 6, 7, 8, 9, 10, 11, 12, 13, 14, 15, 16, 17, 18, 19, 20, 21, 22, 23] [] [0, 1, 2, 3, 4, 5, 6, 7, 8, 9, 10, 11, 12, 13, 14, 15, 16, 17, 18, 19, 20, 21, 22, 23] (fun u_1 : (Nat → Int32) => kc_M cA a_M u_1 A_M) ⟨Nat.zero_le _, Nat.zero_le _⟩ rfl rfl (fun _ => rfl) rfl rfl rfl rfl rfl rfl rfl rfl (Nat.le_of_ble_eq_true rfl) (fun u_1 hw => ?_)
  refine vv_aload_n hC d_M_takeHead_6 0 rfl rfl ?_
  refine vv_callVI (wr := []) hC (c_M_here l D cA sx a_M u_1 A_M _ hw) (cw_M_100 hC) d_M_takeHead_7 [] [0, 1, 2, 3, 4, 5, 6, 7, 8, 9, 10, 11, 12, 13, 14, 15, 16, 17, 18, 19, 20, 21, 22, 23] [] [0, 1, 2, 3, 4, 5, 6, 7, 8, 9, 10, 11, 12, 13, 14, 15, 16, 17, 18, 19, 20, 21, 22, 23] (fun u_4 : Unit => kc_M cA a_M u_1 A_M) ⟨Nat.zero_le _, Nat.zero_le _⟩ rfl rfl (fun _ => rfl) rfl rfl rfl rfl rfl rfl rfl rfl (Nat.le_of_ble_eq_true rfl) (fun r_3 u_4 hw => ?_)
  refine vv_bipush hC d_M_takeHead_10 (v := (105 : Int32)) (by decide) ?_
  refine vv_icmp_ne hC 19 d_M_takeHead_12 (by decide) (fun cd => ?_) (fun cd => ?_)
  · have hw := hw.2 cd
    refine vv_iconst hC d_M_takeHead_19 (v := (0 : Int32)) (by decide) ?_
    refine vv_istore_n hC d_M_takeHead_20 rfl (by decide) [1, 0] (L2 := [(0, .ref (a_M 0)), (1, .int (0 : Int32))]) rfl ?_
    exact vv_sub [0, 1] (by rfl) (l_M_takeHead_b21 a_M Q hC u_1 A_M (0 : Int32) hw)
  · have hw := hw.1 cd
    refine vv_iconst hC d_M_takeHead_15 (v := (1 : Int32)) (by decide) ?_
    refine vv_goto hC 20 d_M_takeHead_16 (by decide) ?_
    refine vv_istore_n hC d_M_takeHead_20 rfl (by decide) [1, 0] (L2 := [(0, .ref (a_M 0)), (1, .int (1 : Int32))]) rfl ?_
    exact vv_sub [0, 1] (by rfl) (l_M_takeHead_b21 a_M Q hC u_1 A_M (1 : Int32) hw)
set_option maxHeartbeats 4000000 in
set_option maxRecDepth 100000 in
theorem c_M_takeNext (l : Launch) (D : va_G) (cA : Nat → ClassId) (sx : Nat → Nat) (a_M : Nat → Nat) (I_M : (Nat → Int32)) (A_M : (Nat → Nat → Int32)) (x1 : Int32) (Q : (Nat → Int32) → (Nat → Nat → Int32) → Prop) (hw : wp_M_takeNext I_M A_M x1 Q) : MetV l y_M_takeNext (Cond.code y_M_takeNext b_M_takeNext 2 none :: TB) ({ frames := 4, cells := 0, slots := 0, locals := 82 } : Room) D vwCl (tyl cA) (SPl sx) [.ref (a_M 0), .int x1] (kc_M cA a_M I_M A_M) (fun (u : (Nat → Int32) × (Nat → Nat → Int32)) => Q u.1 u.2) (fun u : (Nat → Int32) × (Nat → Nat → Int32) => kc_M cA a_M u.1 u.2) := by
  refine vv_entryV (cc := b_M_takeNext) (own := R_M) (L := [(0, .ref (a_M 0)), (1, .int x1)]) (by decide) rfl rfl (Nat.le_of_ble_eq_true rfl) rfl (fun p e s m args below meth c A hC => ?_)
  unfold wp_M_takeNext at hw
  refine vv_aload_n hC d_M_takeNext_0 0 rfl rfl ?_
  refine vv_get hC (v := .ref (a_M 13)) hin_M 0 20 tb_692 d_M_takeNext_1 rfl rfl (by decide) rfl rfl ?_
  refine vv_iload_n hC d_M_takeNext_4 1 rfl rfl ?_
  refine vv_aload_n hC d_M_takeNext_5 0 rfl rfl ?_
  refine vv_get hC (v := .int (I_M 4)) hin_M 0 6 tb_678 d_M_takeNext_6 rfl rfl (by decide) rfl rfl ?_
  obtain ⟨hin_1, hw⟩ := hw
  refine vv_iast hC 13 0 d_M_takeNext_9 rfl rfl hin_1 (ws2 := kc_M cA a_M I_M (va_up A_M 12 (upd (A_M 12) (x1).toNatClampNeg (I_M 4)))) (st_M_MA12 ..) ?_
  refine vv_aload_n hC d_M_takeNext_10 0 rfl rfl ?_
  refine vv_get hC (v := .ref (a_M 6)) hin_M 0 13 tb_685 d_M_takeNext_11 rfl rfl (by decide) rfl rfl ?_
  refine vv_bipush hC d_M_takeNext_14 (v := (8 : Int32)) (by decide) ?_
  refine vv_iload_n hC d_M_takeNext_16 1 rfl rfl ?_
  refine vv_iadd hC d_M_takeNext_17 ?_
  refine vv_aload_n hC d_M_takeNext_18 0 rfl rfl ?_
  refine vv_callVI (wr := []) hC (c_M_literal l D cA sx a_M I_M (va_up A_M 12 (upd (A_M 12) (x1).toNatClampNeg (I_M 4))) _ hw) (cw_M_118 hC) d_M_takeNext_19 [.int ((8 : Int32) + x1), .ref (a_M 6)] [0, 1, 2, 3, 4, 5, 6, 7, 8, 9, 10, 11, 12, 13, 14, 15, 16, 17, 18, 19, 20, 21, 22, 23] [] [0, 1, 2, 3, 4, 5, 6, 7, 8, 9, 10, 11, 12, 13, 14, 15, 16, 17, 18, 19, 20, 21, 22, 23] (fun u_3 : (Nat → Int32) => kc_M cA a_M u_3 (va_up A_M 12 (upd (A_M 12) (x1).toNatClampNeg (I_M 4)))) ⟨Nat.zero_le _, Nat.zero_le _⟩ rfl rfl (fun _ => rfl) rfl rfl rfl rfl rfl rfl rfl rfl (Nat.le_of_ble_eq_true rfl) (fun r_2 u_3 hw => ?_)
  obtain ⟨hin_5, hw⟩ := hw
  refine vv_iast hC 6 0 d_M_takeNext_22 rfl rfl hin_5 (ws2 := kc_M cA a_M u_3 (va_up (va_up A_M 12 (upd (A_M 12) (x1).toNatClampNeg (I_M 4))) 5 (upd (A_M 5) (((8 : Int32) + x1)).toNatClampNeg r_2))) (st_M_MA5 ..) ?_
  refine vv_aload_n hC d_M_takeNext_23 0 rfl rfl ?_
  refine vv_bipush hC d_M_takeNext_24 (v := (10 : Int32)) (by decide) ?_
  refine vv_callVV (wr := []) hC (c_M_take l D cA sx a_M u_3 (va_up (va_up A_M 12 (upd (A_M 12) (x1).toNatClampNeg (I_M 4))) 5 (upd (A_M 5) (((8 : Int32) + x1)).toNatClampNeg r_2)) (10 : Int32) _ hw) (cw_M_125 hC) d_M_takeNext_26 [] [0, 1, 2, 3, 4, 5, 6, 7, 8, 9, 10, 11, 12, 13, 14, 15, 16, 17, 18, 19, 20, 21, 22, 23] [] [0, 1, 2, 3, 4, 5, 6, 7, 8, 9, 10, 11, 12, 13, 14, 15, 16, 17, 18, 19, 20, 21, 22, 23] (fun u_6 : (Nat → Int32) => kc_M cA a_M u_6 (va_up (va_up A_M 12 (upd (A_M 12) (x1).toNatClampNeg (I_M 4))) 5 (upd (A_M 5) (((8 : Int32) + x1)).toNatClampNeg r_2))) ⟨Nat.zero_le _, Nat.zero_le _⟩ rfl rfl (fun _ => rfl) rfl rfl rfl rfl rfl rfl rfl rfl (Nat.le_of_ble_eq_true rfl) (fun u_6 hw => ?_)
  exact vv_vret hC d_M_takeNext_29 (u_6, (va_up (va_up A_M 12 (upd (A_M 12) (x1).toNatClampNeg (I_M 4))) 5 (upd (A_M 5) (((8 : Int32) + x1)).toNatClampNeg r_2))) hw rfl
set_option maxHeartbeats 4000000 in
set_option maxRecDepth 100000 in
theorem l_M_takeOutputs_L2 {p : Program} {l : Launch} {e : Env} {s : State} {m : MethodId} {args : Array Value} {below : List Frame} {meth : Method} {c : Code} {D : va_G} {cA : Nat → ClassId} {sx : Nat → Nat} {A : Nat → Prop} (a_M : Nat → Nat) (Q : (Nat → Int32) → (Nat → Nat → Int32) → Prop) (X2 : (Nat → Int32) → (Nat → Nat → Int32) → Prop) (hC : CX p s m args meth c b_M_takeOutputs R_M TB 2 D vwCl (tyl cA) A (SPl sx) none) (hX2 : ∀ (I_M : (Nat → Int32)) (A_M : (Nat → Nat → Int32)), X2 I_M A_M → VV p l e ({ frames := 4, cells := 0, slots := 0, locals := 82 } : Room) s m args below meth c 2 D vwCl A 0 0 (QV below args s D vwCl (tyl cA) A (fun (u : (Nat → Int32) × (Nat → Nat → Int32)) => Q u.1 u.2) (fun u : (Nat → Int32) × (Nat → Nat → Int32) => kc_M cA a_M u.1 u.2)) (kc_M cA a_M I_M A_M) 55 [] []) : ∀ (n2 : Nat) (I_M : (Nat → Int32)) (A_M : (Nat → Nat → Int32)) (v1 : Int32), wp_M_takeOutputs_L2 Q X2 n2 I_M A_M v1 → VV p l e ({ frames := 4, cells := 0, slots := 0, locals := 82 } : Room) s m args below meth c 2 D vwCl A 0 0 (QV below args s D vwCl (tyl cA) A (fun (u : (Nat → Int32) × (Nat → Nat → Int32)) => Q u.1 u.2) (fun u : (Nat → Int32) × (Nat → Nat → Int32) => kc_M cA a_M u.1 u.2)) (kc_M cA a_M I_M A_M) 2 [(0, .ref (a_M 0)), (1, .int v1)] [] := by
  intro n2
  induction n2 with
  | zero =>
    intro I_M A_M v1 hw
    exact absurd hw (fun z => z)
  | succ n2 ih =>
    intro I_M A_M v1 hw
    unfold wp_M_takeOutputs_L2 at hw
    refine vv_iload_n hC d_M_takeOutputs_2 1 rfl rfl ?_
    refine vv_aload_n hC d_M_takeOutputs_3 0 rfl rfl ?_
    refine vv_get hC (v := .ref (a_M 3)) hin_M 0 10 tb_682 d_M_takeOutputs_4 rfl rfl (by decide) rfl rfl ?_
    refine vv_bipush hC d_M_takeOutputs_7 (v := (8 : Int32)) (by decide) ?_
    refine vv_iald hC 3 0 d_M_takeOutputs_9 rfl rfl (vin_c (by decide)) ?_
    refine vv_icmp_ge hC 55 d_M_takeOutputs_10 (by decide) (fun cd => ?_) (fun cd => ?_)
    · have hw := hw.1 cd
      exact vv_sub [] (by rfl) (hX2 I_M A_M hw)
    · have hw := hw.2 cd
      refine vv_aload_n hC d_M_takeOutputs_13 0 rfl rfl ?_
      refine vv_get hC (v := .int (I_M 5)) hin_M 0 7 tb_679 d_M_takeOutputs_14 rfl rfl (by decide) rfl rfl ?_
      refine vv_if_ne hC 55 d_M_takeOutputs_17 (by decide) (fun cd => ?_) (fun cd => ?_)
      · have hw := hw.2 cd
        exact vv_sub [] (by rfl) (hX2 I_M A_M hw)
      · have hw := hw.1 cd
        refine vv_aload_n hC d_M_takeOutputs_20 0 rfl rfl ?_
        refine vv_get hC (v := .ref (a_M 14)) hin_M 0 21 tb_693 d_M_takeOutputs_21 rfl rfl (by decide) rfl rfl ?_
        refine vv_iload_n hC d_M_takeOutputs_24 1 rfl rfl ?_
        refine vv_aload_n hC d_M_takeOutputs_25 0 rfl rfl ?_
        refine vv_get hC (v := .int (I_M 4)) hin_M 0 6 tb_678 d_M_takeOutputs_26 rfl rfl (by decide) rfl rfl ?_
        obtain ⟨hin_1, hw⟩ := hw
        refine vv_iast hC 14 0 d_M_takeOutputs_29 rfl rfl hin_1 (ws2 := kc_M cA a_M I_M (va_up A_M 13 (upd (A_M 13) (v1).toNatClampNeg (I_M 4)))) (st_M_MA13 ..) ?_
        refine vv_aload_n hC d_M_takeOutputs_30 0 rfl rfl ?_
        refine vv_get hC (v := .ref (a_M 7)) hin_M 0 14 tb_686 d_M_takeOutputs_31 rfl rfl (by decide) rfl rfl ?_
        refine vv_bipush hC d_M_takeOutputs_34 (v := (8 : Int32)) (by decide) ?_
        refine vv_iload_n hC d_M_takeOutputs_36 1 rfl rfl ?_
        refine vv_iadd hC d_M_takeOutputs_37 ?_
        refine vv_aload_n hC d_M_takeOutputs_38 0 rfl rfl ?_
        refine vv_callVI (wr := []) hC (c_M_literal l D cA sx a_M I_M (va_up A_M 13 (upd (A_M 13) (v1).toNatClampNeg (I_M 4))) _ hw) (cw_M_118 hC) d_M_takeOutputs_39 [.int ((8 : Int32) + v1), .ref (a_M 7)] [0, 1, 2, 3, 4, 5, 6, 7, 8, 9, 10, 11, 12, 13, 14, 15, 16, 17, 18, 19, 20, 21, 22, 23] [] [0, 1, 2, 3, 4, 5, 6, 7, 8, 9, 10, 11, 12, 13, 14, 15, 16, 17, 18, 19, 20, 21, 22, 23] (fun u_3 : (Nat → Int32) => kc_M cA a_M u_3 (va_up A_M 13 (upd (A_M 13) (v1).toNatClampNeg (I_M 4)))) ⟨Nat.zero_le _, Nat.zero_le _⟩ rfl rfl (fun _ => rfl) rfl rfl rfl rfl rfl rfl rfl rfl (Nat.le_of_ble_eq_true rfl) (fun r_2 u_3 hw => ?_)
        obtain ⟨hin_5, hw⟩ := hw
        refine vv_iast hC 7 0 d_M_takeOutputs_42 rfl rfl hin_5 (ws2 := kc_M cA a_M u_3 (va_up (va_up A_M 13 (upd (A_M 13) (v1).toNatClampNeg (I_M 4))) 6 (upd (A_M 6) (((8 : Int32) + v1)).toNatClampNeg r_2))) (st_M_MA6 ..) ?_
        refine vv_aload_n hC d_M_takeOutputs_43 0 rfl rfl ?_
        refine vv_bipush hC d_M_takeOutputs_44 (v := (10 : Int32)) (by decide) ?_
        refine vv_callVV (wr := []) hC (c_M_take l D cA sx a_M u_3 (va_up (va_up A_M 13 (upd (A_M 13) (v1).toNatClampNeg (I_M 4))) 6 (upd (A_M 6) (((8 : Int32) + v1)).toNatClampNeg r_2)) (10 : Int32) _ hw) (cw_M_125 hC) d_M_takeOutputs_46 [] [0, 1, 2, 3, 4, 5, 6, 7, 8, 9, 10, 11, 12, 13, 14, 15, 16, 17, 18, 19, 20, 21, 22, 23] [] [0, 1, 2, 3, 4, 5, 6, 7, 8, 9, 10, 11, 12, 13, 14, 15, 16, 17, 18, 19, 20, 21, 22, 23] (fun u_6 : (Nat → Int32) => kc_M cA a_M u_6 (va_up (va_up A_M 13 (upd (A_M 13) (v1).toNatClampNeg (I_M 4))) 6 (upd (A_M 6) (((8 : Int32) + v1)).toNatClampNeg r_2))) ⟨Nat.zero_le _, Nat.zero_le _⟩ rfl rfl (fun _ => rfl) rfl rfl rfl rfl rfl rfl rfl rfl (Nat.le_of_ble_eq_true rfl) (fun u_6 hw => ?_)
        refine vv_iinc hC d_M_takeOutputs_49 1 rfl (v := (v1 + (1 : Int32))) rfl (by decide) [1, 0] (L2 := [(0, .ref (a_M 0)), (1, .int (v1 + (1 : Int32)))]) rfl ?_
        refine vv_goto hC 2 d_M_takeOutputs_52 (by decide) ?_
        exact vv_sub [0, 1] (by rfl) (ih u_6 (va_up (va_up A_M 13 (upd (A_M 13) (v1).toNatClampNeg (I_M 4))) 6 (upd (A_M 6) (((8 : Int32) + v1)).toNatClampNeg r_2)) (v1 + (1 : Int32)) hw)
set_option maxHeartbeats 4000000 in
set_option maxRecDepth 100000 in
theorem c_M_takeOutputs (l : Launch) (D : va_G) (cA : Nat → ClassId) (sx : Nat → Nat) (a_M : Nat → Nat) (I_M : (Nat → Int32)) (A_M : (Nat → Nat → Int32)) (Q : (Nat → Int32) → (Nat → Nat → Int32) → Prop) (hw : wp_M_takeOutputs I_M A_M Q) : MetV l y_M_takeOutputs (Cond.code y_M_takeOutputs b_M_takeOutputs 2 none :: TB) ({ frames := 4, cells := 0, slots := 0, locals := 82 } : Room) D vwCl (tyl cA) (SPl sx) [.ref (a_M 0)] (kc_M cA a_M I_M A_M) (fun (u : (Nat → Int32) × (Nat → Nat → Int32)) => Q u.1 u.2) (fun u : (Nat → Int32) × (Nat → Nat → Int32) => kc_M cA a_M u.1 u.2) := by
  refine vv_entryV (cc := b_M_takeOutputs) (own := R_M) (L := [(0, .ref (a_M 0))]) (by decide) rfl rfl (Nat.le_of_ble_eq_true rfl) rfl (fun p e s m args below meth c A hC => ?_)
  unfold wp_M_takeOutputs at hw
  refine vv_iconst hC d_M_takeOutputs_0 (v := (0 : Int32)) (by decide) ?_
  refine vv_istore_n hC d_M_takeOutputs_1 rfl (by decide) [1, 0] (L2 := [(0, .ref (a_M 0)), (1, .int (0 : Int32))]) rfl ?_
  obtain ⟨m2, hw⟩ := hw
  refine vv_sub [0, 1] (by rfl) (l_M_takeOutputs_L2 a_M Q _ hC (fun I_M_8 A_M_9 hw => ?_) m2 I_M A_M (0 : Int32) hw)
  exact vv_vret hC d_M_takeOutputs_55 (I_M_8, A_M_9) hw rfl
set_option maxHeartbeats 4000000 in
set_option maxRecDepth 100000 in
theorem l_M_takeText_L2 {p : Program} {l : Launch} {e : Env} {s : State} {m : MethodId} {args : Array Value} {below : List Frame} {meth : Method} {c : Code} {D : va_G} {cA : Nat → ClassId} {sx : Nat → Nat} {A : Nat → Prop} (a_M : Nat → Nat) (Q : (Nat → Int32) → (Nat → Nat → Int32) → Prop) (X2 : (Nat → Int32) → (Nat → Nat → Int32) → Prop) (hC : CX p s m args meth c b_M_takeText R_M TB 2 D vwCl (tyl cA) A (SPl sx) none) (hX2 : ∀ (I_M : (Nat → Int32)) (A_M : (Nat → Nat → Int32)), X2 I_M A_M → VV p l e ({ frames := 5, cells := 0, slots := 0, locals := 106 } : Room) s m args below meth c 2 D vwCl A 0 0 (QV below args s D vwCl (tyl cA) A (fun (u : (Nat → Int32) × (Nat → Nat → Int32)) => Q u.1 u.2) (fun u : (Nat → Int32) × (Nat → Nat → Int32) => kc_M cA a_M u.1 u.2)) (kc_M cA a_M I_M A_M) 47 [(0, .ref (a_M 0))] []) : ∀ (n2 : Nat) (I_M : (Nat → Int32)) (A_M : (Nat → Nat → Int32)) (v1 : Int32), wp_M_takeText_L2 Q X2 n2 I_M A_M v1 → VV p l e ({ frames := 5, cells := 0, slots := 0, locals := 106 } : Room) s m args below meth c 2 D vwCl A 0 0 (QV below args s D vwCl (tyl cA) A (fun (u : (Nat → Int32) × (Nat → Nat → Int32)) => Q u.1 u.2) (fun u : (Nat → Int32) × (Nat → Nat → Int32) => kc_M cA a_M u.1 u.2)) (kc_M cA a_M I_M A_M) 2 [(0, .ref (a_M 0)), (1, .int v1)] [] := by
  intro n2
  induction n2 with
  | zero =>
    intro I_M A_M v1 hw
    exact absurd hw (fun z => z)
  | succ n2 ih =>
    intro I_M A_M v1 hw
    unfold wp_M_takeText_L2 at hw
    refine vv_iload_n hC d_M_takeText_2 1 rfl rfl ?_
    refine vv_aload_n hC d_M_takeText_3 0 rfl rfl ?_
    refine vv_get hC (v := .ref (a_M 3)) hin_M 0 10 tb_682 d_M_takeText_4 rfl rfl (by decide) rfl rfl ?_
    refine vv_bipush hC d_M_takeText_7 (v := (6 : Int32)) (by decide) ?_
    refine vv_iald hC 3 0 d_M_takeText_9 rfl rfl (vin_c (by decide)) ?_
    refine vv_icmp_ge hC 47 d_M_takeText_10 (by decide) (fun cd => ?_) (fun cd => ?_)
    · have hw := hw.1 cd
      exact vv_sub [0] (by rfl) (hX2 I_M A_M hw)
    · have hw := hw.2 cd
      refine vv_aload_n hC d_M_takeText_13 0 rfl rfl ?_
      refine vv_get hC (v := .int (I_M 5)) hin_M 0 7 tb_679 d_M_takeText_14 rfl rfl (by decide) rfl rfl ?_
      refine vv_if_ne hC 47 d_M_takeText_17 (by decide) (fun cd => ?_) (fun cd => ?_)
      · have hw := hw.2 cd
        exact vv_sub [0] (by rfl) (hX2 I_M A_M hw)
      · have hw := hw.1 cd
        refine vv_aload_n hC d_M_takeText_20 0 rfl rfl ?_
        refine vv_get hC (v := .ref (a_M 4)) hin_M 0 11 tb_683 d_M_takeText_21 rfl rfl (by decide) rfl rfl ?_
        refine vv_bipush hC d_M_takeText_24 (v := (6 : Int32)) (by decide) ?_
        refine vv_iload_n hC d_M_takeText_26 1 rfl rfl ?_
        refine vv_iadd hC d_M_takeText_27 ?_
        refine vv_aload_n hC d_M_takeText_28 0 rfl rfl ?_
        refine vv_iconst hC d_M_takeText_29 (v := (1 : Int32)) (by decide) ?_
        refine vv_iload_n hC d_M_takeText_30 1 rfl rfl ?_
        refine vv_callVI (wr := []) hC (c_M_defines l D cA sx a_M I_M A_M (1 : Int32) v1 _ hw) (cw_M_129 hC) d_M_takeText_31 [.int ((6 : Int32) + v1), .ref (a_M 4)] [0, 1, 2, 3, 4, 5, 6, 7, 8, 9, 10, 11, 12, 13, 14, 15, 16, 17, 18, 19, 20, 21, 22, 23] [] [0, 1, 2, 3, 4, 5, 6, 7, 8, 9, 10, 11, 12, 13, 14, 15, 16, 17, 18, 19, 20, 21, 22, 23] (fun u_2 : (Nat → Int32) × (Nat → Nat → Int32) => kc_M cA a_M u_2.1 u_2.2) ⟨Nat.zero_le _, Nat.zero_le _⟩ rfl rfl (fun _ => rfl) rfl rfl rfl rfl rfl rfl rfl rfl (Nat.le_of_ble_eq_true rfl) (fun r_1 u_2 hw => ?_)
        obtain ⟨hin_5, hw⟩ := hw
        refine vv_iast hC 4 0 d_M_takeText_34 rfl rfl hin_5 (ws2 := kc_M cA a_M u_2.1 (va_up u_2.2 3 (upd (u_2.2 3) (((6 : Int32) + v1)).toNatClampNeg r_1))) (st_M_MA3 ..) ?_
        refine vv_aload_n hC d_M_takeText_35 0 rfl rfl ?_
        refine vv_bipush hC d_M_takeText_36 (v := (10 : Int32)) (by decide) ?_
        refine vv_callVV (wr := []) hC (c_M_take l D cA sx a_M u_2.1 (va_up u_2.2 3 (upd (u_2.2 3) (((6 : Int32) + v1)).toNatClampNeg r_1)) (10 : Int32) _ hw) (cw_M_125 hC) d_M_takeText_38 [] [0, 1, 2, 3, 4, 5, 6, 7, 8, 9, 10, 11, 12, 13, 14, 15, 16, 17, 18, 19, 20, 21, 22, 23] [] [0, 1, 2, 3, 4, 5, 6, 7, 8, 9, 10, 11, 12, 13, 14, 15, 16, 17, 18, 19, 20, 21, 22, 23] (fun u_6 : (Nat → Int32) => kc_M cA a_M u_6 (va_up u_2.2 3 (upd (u_2.2 3) (((6 : Int32) + v1)).toNatClampNeg r_1))) ⟨Nat.zero_le _, Nat.zero_le _⟩ rfl rfl (fun _ => rfl) rfl rfl rfl rfl rfl rfl rfl rfl (Nat.le_of_ble_eq_true rfl) (fun u_6 hw => ?_)
        refine vv_iinc hC d_M_takeText_41 1 rfl (v := (v1 + (1 : Int32))) rfl (by decide) [1, 0] (L2 := [(0, .ref (a_M 0)), (1, .int (v1 + (1 : Int32)))]) rfl ?_
        refine vv_goto hC 2 d_M_takeText_44 (by decide) ?_
        exact vv_sub [0, 1] (by rfl) (ih u_6 (va_up u_2.2 3 (upd (u_2.2 3) (((6 : Int32) + v1)).toNatClampNeg r_1)) (v1 + (1 : Int32)) hw)
set_option maxHeartbeats 4000000 in
set_option maxRecDepth 100000 in
theorem l_M_takeText_L49 {p : Program} {l : Launch} {e : Env} {s : State} {m : MethodId} {args : Array Value} {below : List Frame} {meth : Method} {c : Code} {D : va_G} {cA : Nat → ClassId} {sx : Nat → Nat} {A : Nat → Prop} (a_M : Nat → Nat) (Q : (Nat → Int32) → (Nat → Nat → Int32) → Prop) (X49 : (Nat → Int32) → (Nat → Nat → Int32) → Prop) (hC : CX p s m args meth c b_M_takeText R_M TB 2 D vwCl (tyl cA) A (SPl sx) none) (hX49 : ∀ (I_M : (Nat → Int32)) (A_M : (Nat → Nat → Int32)), X49 I_M A_M → VV p l e ({ frames := 5, cells := 0, slots := 0, locals := 106 } : Room) s m args below meth c 2 D vwCl A 0 0 (QV below args s D vwCl (tyl cA) A (fun (u : (Nat → Int32) × (Nat → Nat → Int32)) => Q u.1 u.2) (fun u : (Nat → Int32) × (Nat → Nat → Int32) => kc_M cA a_M u.1 u.2)) (kc_M cA a_M I_M A_M) 99 [(0, .ref (a_M 0))] []) : ∀ (n49 : Nat) (I_M : (Nat → Int32)) (A_M : (Nat → Nat → Int32)) (v1 : Int32), wp_M_takeText_L49 Q X49 n49 I_M A_M v1 → VV p l e ({ frames := 5, cells := 0, slots := 0, locals := 106 } : Room) s m args below meth c 2 D vwCl A 0 0 (QV below args s D vwCl (tyl cA) A (fun (u : (Nat → Int32) × (Nat → Nat → Int32)) => Q u.1 u.2) (fun u : (Nat → Int32) × (Nat → Nat → Int32) => kc_M cA a_M u.1 u.2)) (kc_M cA a_M I_M A_M) 49 [(0, .ref (a_M 0)), (1, .int v1)] [] := by
  intro n49
  induction n49 with
  | zero =>
    intro I_M A_M v1 hw
    exact absurd hw (fun z => z)
  | succ n49 ih =>
    intro I_M A_M v1 hw
    unfold wp_M_takeText_L49 at hw
    refine vv_iload_n hC d_M_takeText_49 1 rfl rfl ?_
    refine vv_aload_n hC d_M_takeText_50 0 rfl rfl ?_
    refine vv_get hC (v := .ref (a_M 3)) hin_M 0 10 tb_682 d_M_takeText_51 rfl rfl (by decide) rfl rfl ?_
    refine vv_bipush hC d_M_takeText_54 (v := (7 : Int32)) (by decide) ?_
    refine vv_iald hC 3 0 d_M_takeText_56 rfl rfl (vin_c (by decide)) ?_
    refine vv_icmp_ge hC 99 d_M_takeText_57 (by decide) (fun cd => ?_) (fun cd => ?_)
    · have hw := hw.1 cd
      exact vv_sub [0] (by rfl) (hX49 I_M A_M hw)
    · have hw := hw.2 cd
      refine vv_aload_n hC d_M_takeText_60 0 rfl rfl ?_
      refine vv_get hC (v := .int (I_M 5)) hin_M 0 7 tb_679 d_M_takeText_61 rfl rfl (by decide) rfl rfl ?_
      refine vv_if_ne hC 99 d_M_takeText_64 (by decide) (fun cd => ?_) (fun cd => ?_)
      · have hw := hw.2 cd
        exact vv_sub [0] (by rfl) (hX49 I_M A_M hw)
      · have hw := hw.1 cd
        refine vv_aload_n hC d_M_takeText_67 0 rfl rfl ?_
        refine vv_get hC (v := .ref (a_M 5)) hin_M 0 12 tb_684 d_M_takeText_68 rfl rfl (by decide) rfl rfl ?_
        refine vv_bipush hC d_M_takeText_71 (v := (8 : Int32)) (by decide) ?_
        refine vv_iload_n hC d_M_takeText_73 1 rfl rfl ?_
        refine vv_iadd hC d_M_takeText_74 ?_
        refine vv_aload_n hC d_M_takeText_75 0 rfl rfl ?_
        refine vv_iconst hC d_M_takeText_76 (v := (2 : Int32)) (by decide) ?_
        refine vv_iload_n hC d_M_takeText_77 1 rfl rfl ?_
        refine vv_callVI (wr := []) hC (c_M_defines l D cA sx a_M I_M A_M (2 : Int32) v1 _ hw) (cw_M_129 hC) d_M_takeText_78 [.int ((8 : Int32) + v1), .ref (a_M 5)] [0, 1, 2, 3, 4, 5, 6, 7, 8, 9, 10, 11, 12, 13, 14, 15, 16, 17, 18, 19, 20, 21, 22, 23] [] [0, 1, 2, 3, 4, 5, 6, 7, 8, 9, 10, 11, 12, 13, 14, 15, 16, 17, 18, 19, 20, 21, 22, 23] (fun u_11 : (Nat → Int32) × (Nat → Nat → Int32) => kc_M cA a_M u_11.1 u_11.2) ⟨Nat.zero_le _, Nat.zero_le _⟩ rfl rfl (fun _ => rfl) rfl rfl rfl rfl rfl rfl rfl rfl (Nat.le_of_ble_eq_true rfl) (fun r_10 u_11 hw => ?_)
        obtain ⟨hin_14, hw⟩ := hw
        refine vv_iast hC 5 0 d_M_takeText_81 rfl rfl hin_14 (ws2 := kc_M cA a_M u_11.1 (va_up u_11.2 4 (upd (u_11.2 4) (((8 : Int32) + v1)).toNatClampNeg r_10))) (st_M_MA4 ..) ?_
        refine vv_aload_n hC d_M_takeText_82 0 rfl rfl ?_
        refine vv_bipush hC d_M_takeText_83 (v := (32 : Int32)) (by decide) ?_
        refine vv_callVV (wr := []) hC (c_M_take l D cA sx a_M u_11.1 (va_up u_11.2 4 (upd (u_11.2 4) (((8 : Int32) + v1)).toNatClampNeg r_10)) (32 : Int32) _ hw) (cw_M_125 hC) d_M_takeText_85 [] [0, 1, 2, 3, 4, 5, 6, 7, 8, 9, 10, 11, 12, 13, 14, 15, 16, 17, 18, 19, 20, 21, 22, 23] [] [0, 1, 2, 3, 4, 5, 6, 7, 8, 9, 10, 11, 12, 13, 14, 15, 16, 17, 18, 19, 20, 21, 22, 23] (fun u_15 : (Nat → Int32) => kc_M cA a_M u_15 (va_up u_11.2 4 (upd (u_11.2 4) (((8 : Int32) + v1)).toNatClampNeg r_10))) ⟨Nat.zero_le _, Nat.zero_le _⟩ rfl rfl (fun _ => rfl) rfl rfl rfl rfl rfl rfl rfl rfl (Nat.le_of_ble_eq_true rfl) (fun u_15 hw => ?_)
        refine vv_aload_n hC d_M_takeText_88 0 rfl rfl ?_
        refine vv_iload_n hC d_M_takeText_89 1 rfl rfl ?_
        refine vv_callVV (wr := []) hC (c_M_takeNext l D cA sx a_M u_15 (va_up u_11.2 4 (upd (u_11.2 4) (((8 : Int32) + v1)).toNatClampNeg r_10)) v1 _ hw) (cw_M_133 hC) d_M_takeText_90 [] [0, 1, 2, 3, 4, 5, 6, 7, 8, 9, 10, 11, 12, 13, 14, 15, 16, 17, 18, 19, 20, 21, 22, 23] [] [0, 1, 2, 3, 4, 5, 6, 7, 8, 9, 10, 11, 12, 13, 14, 15, 16, 17, 18, 19, 20, 21, 22, 23] (fun u_17 : (Nat → Int32) × (Nat → Nat → Int32) => kc_M cA a_M u_17.1 u_17.2) ⟨Nat.zero_le _, Nat.zero_le _⟩ rfl rfl (fun _ => rfl) rfl rfl rfl rfl rfl rfl rfl rfl (Nat.le_of_ble_eq_true rfl) (fun u_17 hw => ?_)
        refine vv_iinc hC d_M_takeText_93 1 rfl (v := (v1 + (1 : Int32))) rfl (by decide) [1, 0] (L2 := [(0, .ref (a_M 0)), (1, .int (v1 + (1 : Int32)))]) rfl ?_
        refine vv_goto hC 49 d_M_takeText_96 (by decide) ?_
        exact vv_sub [0, 1] (by rfl) (ih u_17.1 u_17.2 (v1 + (1 : Int32)) hw)
set_option maxHeartbeats 4000000 in
set_option maxRecDepth 100000 in
theorem l_M_takeText_L105 {p : Program} {l : Launch} {e : Env} {s : State} {m : MethodId} {args : Array Value} {below : List Frame} {meth : Method} {c : Code} {D : va_G} {cA : Nat → ClassId} {sx : Nat → Nat} {A : Nat → Prop} (a_M : Nat → Nat) (Q : (Nat → Int32) → (Nat → Nat → Int32) → Prop) (X105 : (Nat → Int32) → (Nat → Nat → Int32) → Prop) (hC : CX p s m args meth c b_M_takeText R_M TB 2 D vwCl (tyl cA) A (SPl sx) none) (hX105 : ∀ (I_M : (Nat → Int32)) (A_M : (Nat → Nat → Int32)), X105 I_M A_M → VV p l e ({ frames := 5, cells := 0, slots := 0, locals := 106 } : Room) s m args below meth c 2 D vwCl A 0 0 (QV below args s D vwCl (tyl cA) A (fun (u : (Nat → Int32) × (Nat → Nat → Int32)) => Q u.1 u.2) (fun u : (Nat → Int32) × (Nat → Nat → Int32) => kc_M cA a_M u.1 u.2)) (kc_M cA a_M I_M A_M) 211 [] []) : ∀ (n105 : Nat) (I_M : (Nat → Int32)) (A_M : (Nat → Nat → Int32)) (v1 : Int32), wp_M_takeText_L105 Q X105 n105 I_M A_M v1 → VV p l e ({ frames := 5, cells := 0, slots := 0, locals := 106 } : Room) s m args below meth c 2 D vwCl A 0 0 (QV below args s D vwCl (tyl cA) A (fun (u : (Nat → Int32) × (Nat → Nat → Int32)) => Q u.1 u.2) (fun u : (Nat → Int32) × (Nat → Nat → Int32) => kc_M cA a_M u.1 u.2)) (kc_M cA a_M I_M A_M) 105 [(0, .ref (a_M 0)), (1, .int v1)] [] := by
  intro n105
  induction n105 with
  | zero =>
    intro I_M A_M v1 hw
    exact absurd hw (fun z => z)
  | succ n105 ih =>
    intro I_M A_M v1 hw
    unfold wp_M_takeText_L105 at hw
    refine vv_iload_n hC d_M_takeText_105 1 rfl rfl ?_
    refine vv_aload_n hC d_M_takeText_106 0 rfl rfl ?_
    refine vv_get hC (v := .ref (a_M 3)) hin_M 0 10 tb_682 d_M_takeText_107 rfl rfl (by decide) rfl rfl ?_
    refine vv_bipush hC d_M_takeText_110 (v := (9 : Int32)) (by decide) ?_
    refine vv_iald hC 3 0 d_M_takeText_112 rfl rfl (vin_c (by decide)) ?_
    refine vv_icmp_ge hC 211 d_M_takeText_113 (by decide) (fun cd => ?_) (fun cd => ?_)
    · have hw := hw.1 cd
      exact vv_sub [] (by rfl) (hX105 I_M A_M hw)
    · have hw := hw.2 cd
      refine vv_aload_n hC d_M_takeText_116 0 rfl rfl ?_
      refine vv_get hC (v := .int (I_M 5)) hin_M 0 7 tb_679 d_M_takeText_117 rfl rfl (by decide) rfl rfl ?_
      refine vv_if_ne hC 211 d_M_takeText_120 (by decide) (fun cd => ?_) (fun cd => ?_)
      · have hw := hw.2 cd
        exact vv_sub [] (by rfl) (hX105 I_M A_M hw)
      · have hw := hw.1 cd
        refine vv_aload_n hC d_M_takeText_123 0 rfl rfl ?_
        refine vv_get hC (v := .ref (a_M 8)) hin_M 0 15 tb_687 d_M_takeText_124 rfl rfl (by decide) rfl rfl ?_
        refine vv_sipush hC d_M_takeText_127 (v := (300 : Int32)) (by decide) ?_
        refine vv_iload_n hC d_M_takeText_130 1 rfl rfl ?_
        refine vv_iadd hC d_M_takeText_131 ?_
        refine vv_aload_n hC d_M_takeText_132 0 rfl rfl ?_
        refine vv_iconst hC d_M_takeText_133 (v := (3 : Int32)) (by decide) ?_
        refine vv_iload_n hC d_M_takeText_134 1 rfl rfl ?_
        refine vv_callVI (wr := []) hC (c_M_defines l D cA sx a_M I_M A_M (3 : Int32) v1 _ hw) (cw_M_129 hC) d_M_takeText_135 [.int ((300 : Int32) + v1), .ref (a_M 8)] [0, 1, 2, 3, 4, 5, 6, 7, 8, 9, 10, 11, 12, 13, 14, 15, 16, 17, 18, 19, 20, 21, 22, 23] [] [0, 1, 2, 3, 4, 5, 6, 7, 8, 9, 10, 11, 12, 13, 14, 15, 16, 17, 18, 19, 20, 21, 22, 23] (fun u_26 : (Nat → Int32) × (Nat → Nat → Int32) => kc_M cA a_M u_26.1 u_26.2) ⟨Nat.zero_le _, Nat.zero_le _⟩ rfl rfl (fun _ => rfl) rfl rfl rfl rfl rfl rfl rfl rfl (Nat.le_of_ble_eq_true rfl) (fun r_25 u_26 hw => ?_)
        obtain ⟨hin_29, hw⟩ := hw
        refine vv_iast hC 8 0 d_M_takeText_138 rfl rfl hin_29 (ws2 := kc_M cA a_M u_26.1 (va_up u_26.2 7 (upd (u_26.2 7) (((300 : Int32) + v1)).toNatClampNeg r_25))) (st_M_MA7 ..) ?_
        refine vv_aload_n hC d_M_takeText_139 0 rfl rfl ?_
        refine vv_bipush hC d_M_takeText_140 (v := (32 : Int32)) (by decide) ?_
        refine vv_callVV (wr := []) hC (c_M_take l D cA sx a_M u_26.1 (va_up u_26.2 7 (upd (u_26.2 7) (((300 : Int32) + v1)).toNatClampNeg r_25)) (32 : Int32) _ hw) (cw_M_125 hC) d_M_takeText_142 [] [0, 1, 2, 3, 4, 5, 6, 7, 8, 9, 10, 11, 12, 13, 14, 15, 16, 17, 18, 19, 20, 21, 22, 23] [] [0, 1, 2, 3, 4, 5, 6, 7, 8, 9, 10, 11, 12, 13, 14, 15, 16, 17, 18, 19, 20, 21, 22, 23] (fun u_30 : (Nat → Int32) => kc_M cA a_M u_30 (va_up u_26.2 7 (upd (u_26.2 7) (((300 : Int32) + v1)).toNatClampNeg r_25))) ⟨Nat.zero_le _, Nat.zero_le _⟩ rfl rfl (fun _ => rfl) rfl rfl rfl rfl rfl rfl rfl rfl (Nat.le_of_ble_eq_true rfl) (fun u_30 hw => ?_)
        refine vv_aload_n hC d_M_takeText_145 0 rfl rfl ?_
        refine vv_get hC (v := .ref (a_M 15)) hin_M 0 22 tb_694 d_M_takeText_146 rfl rfl (by decide) rfl rfl ?_
        refine vv_iload_n hC d_M_takeText_149 1 rfl rfl ?_
        refine vv_aload_n hC d_M_takeText_150 0 rfl rfl ?_
        refine vv_get hC (v := .int (u_30 4)) hin_M 0 6 tb_678 d_M_takeText_151 rfl rfl (by decide) rfl rfl ?_
        obtain ⟨hin_32, hw⟩ := hw
        refine vv_iast hC 15 0 d_M_takeText_154 rfl rfl hin_32 (ws2 := kc_M cA a_M u_30 (va_up (va_up u_26.2 7 (upd (u_26.2 7) (((300 : Int32) + v1)).toNatClampNeg r_25)) 14 (upd (u_26.2 14) (v1).toNatClampNeg (u_30 4)))) (st_M_MA14 ..) ?_
        refine vv_aload_n hC d_M_takeText_155 0 rfl rfl ?_
        refine vv_get hC (v := .ref (a_M 9)) hin_M 0 16 tb_688 d_M_takeText_156 rfl rfl (by decide) rfl rfl ?_
        refine vv_sipush hC d_M_takeText_159 (v := (300 : Int32)) (by decide) ?_
        refine vv_iload_n hC d_M_takeText_162 1 rfl rfl ?_
        refine vv_iadd hC d_M_takeText_163 ?_
        refine vv_aload_n hC d_M_takeText_164 0 rfl rfl ?_
        refine vv_callVI (wr := []) hC (c_M_literal l D cA sx a_M u_30 (va_up (va_up u_26.2 7 (upd (u_26.2 7) (((300 : Int32) + v1)).toNatClampNeg r_25)) 14 (upd (u_26.2 14) (v1).toNatClampNeg (u_30 4))) _ hw) (cw_M_118 hC) d_M_takeText_165 [.int ((300 : Int32) + v1), .ref (a_M 9)] [0, 1, 2, 3, 4, 5, 6, 7, 8, 9, 10, 11, 12, 13, 14, 15, 16, 17, 18, 19, 20, 21, 22, 23] [] [0, 1, 2, 3, 4, 5, 6, 7, 8, 9, 10, 11, 12, 13, 14, 15, 16, 17, 18, 19, 20, 21, 22, 23] (fun u_34 : (Nat → Int32) => kc_M cA a_M u_34 (va_up (va_up u_26.2 7 (upd (u_26.2 7) (((300 : Int32) + v1)).toNatClampNeg r_25)) 14 (upd (u_26.2 14) (v1).toNatClampNeg (u_30 4)))) ⟨Nat.zero_le _, Nat.zero_le _⟩ rfl rfl (fun _ => rfl) rfl rfl rfl rfl rfl rfl rfl rfl (Nat.le_of_ble_eq_true rfl) (fun r_33 u_34 hw => ?_)
        refine vv_iast hC 9 0 d_M_takeText_168 rfl rfl hin_29 (ws2 := kc_M cA a_M u_34 (va_up (va_up (va_up u_26.2 7 (upd (u_26.2 7) (((300 : Int32) + v1)).toNatClampNeg r_25)) 14 (upd (u_26.2 14) (v1).toNatClampNeg (u_30 4))) 8 (upd (u_26.2 8) (((300 : Int32) + v1)).toNatClampNeg r_33))) (st_M_MA8 ..) ?_
        refine vv_aload_n hC d_M_takeText_169 0 rfl rfl ?_
        refine vv_bipush hC d_M_takeText_170 (v := (32 : Int32)) (by decide) ?_
        refine vv_callVV (wr := []) hC (c_M_take l D cA sx a_M u_34 (va_up (va_up (va_up u_26.2 7 (upd (u_26.2 7) (((300 : Int32) + v1)).toNatClampNeg r_25)) 14 (upd (u_26.2 14) (v1).toNatClampNeg (u_30 4))) 8 (upd (u_26.2 8) (((300 : Int32) + v1)).toNatClampNeg r_33)) (32 : Int32) _ hw) (cw_M_125 hC) d_M_takeText_172 [] [0, 1, 2, 3, 4, 5, 6, 7, 8, 9, 10, 11, 12, 13, 14, 15, 16, 17, 18, 19, 20, 21, 22, 23] [] [0, 1, 2, 3, 4, 5, 6, 7, 8, 9, 10, 11, 12, 13, 14, 15, 16, 17, 18, 19, 20, 21, 22, 23] (fun u_36 : (Nat → Int32) => kc_M cA a_M u_36 (va_up (va_up (va_up u_26.2 7 (upd (u_26.2 7) (((300 : Int32) + v1)).toNatClampNeg r_25)) 14 (upd (u_26.2 14) (v1).toNatClampNeg (u_30 4))) 8 (upd (u_26.2 8) (((300 : Int32) + v1)).toNatClampNeg r_33))) ⟨Nat.zero_le _, Nat.zero_le _⟩ rfl rfl (fun _ => rfl) rfl rfl rfl rfl rfl rfl rfl rfl (Nat.le_of_ble_eq_true rfl) (fun u_36 hw => ?_)
        refine vv_aload_n hC d_M_takeText_175 0 rfl rfl ?_
        refine vv_get hC (v := .ref (a_M 16)) hin_M 0 23 tb_695 d_M_takeText_176 rfl rfl (by decide) rfl rfl ?_
        refine vv_iload_n hC d_M_takeText_179 1 rfl rfl ?_
        refine vv_aload_n hC d_M_takeText_180 0 rfl rfl ?_
        refine vv_get hC (v := .int (u_36 4)) hin_M 0 6 tb_678 d_M_takeText_181 rfl rfl (by decide) rfl rfl ?_
        refine vv_iast hC 16 0 d_M_takeText_184 rfl rfl hin_32 (ws2 := kc_M cA a_M u_36 (va_up (va_up (va_up (va_up u_26.2 7 (upd (u_26.2 7) (((300 : Int32) + v1)).toNatClampNeg r_25)) 14 (upd (u_26.2 14) (v1).toNatClampNeg (u_30 4))) 8 (upd (u_26.2 8) (((300 : Int32) + v1)).toNatClampNeg r_33)) 15 (upd (u_26.2 15) (v1).toNatClampNeg (u_36 4)))) (st_M_MA15 ..) ?_
        refine vv_aload_n hC d_M_takeText_185 0 rfl rfl ?_
        refine vv_get hC (v := .ref (a_M 10)) hin_M 0 17 tb_689 d_M_takeText_186 rfl rfl (by decide) rfl rfl ?_
        refine vv_sipush hC d_M_takeText_189 (v := (300 : Int32)) (by decide) ?_
        refine vv_iload_n hC d_M_takeText_192 1 rfl rfl ?_
        refine vv_iadd hC d_M_takeText_193 ?_
        refine vv_aload_n hC d_M_takeText_194 0 rfl rfl ?_
        refine vv_callVI (wr := []) hC (c_M_literal l D cA sx a_M u_36 (va_up (va_up (va_up (va_up u_26.2 7 (upd (u_26.2 7) (((300 : Int32) + v1)).toNatClampNeg r_25)) 14 (upd (u_26.2 14) (v1).toNatClampNeg (u_30 4))) 8 (upd (u_26.2 8) (((300 : Int32) + v1)).toNatClampNeg r_33)) 15 (upd (u_26.2 15) (v1).toNatClampNeg (u_36 4))) _ hw) (cw_M_118 hC) d_M_takeText_195 [.int ((300 : Int32) + v1), .ref (a_M 10)] [0, 1, 2, 3, 4, 5, 6, 7, 8, 9, 10, 11, 12, 13, 14, 15, 16, 17, 18, 19, 20, 21, 22, 23] [] [0, 1, 2, 3, 4, 5, 6, 7, 8, 9, 10, 11, 12, 13, 14, 15, 16, 17, 18, 19, 20, 21, 22, 23] (fun u_39 : (Nat → Int32) => kc_M cA a_M u_39 (va_up (va_up (va_up (va_up u_26.2 7 (upd (u_26.2 7) (((300 : Int32) + v1)).toNatClampNeg r_25)) 14 (upd (u_26.2 14) (v1).toNatClampNeg (u_30 4))) 8 (upd (u_26.2 8) (((300 : Int32) + v1)).toNatClampNeg r_33)) 15 (upd (u_26.2 15) (v1).toNatClampNeg (u_36 4)))) ⟨Nat.zero_le _, Nat.zero_le _⟩ rfl rfl (fun _ => rfl) rfl rfl rfl rfl rfl rfl rfl rfl (Nat.le_of_ble_eq_true rfl) (fun r_38 u_39 hw => ?_)
        refine vv_iast hC 10 0 d_M_takeText_198 rfl rfl hin_29 (ws2 := kc_M cA a_M u_39 (va_up (va_up (va_up (va_up (va_up u_26.2 7 (upd (u_26.2 7) (((300 : Int32) + v1)).toNatClampNeg r_25)) 14 (upd (u_26.2 14) (v1).toNatClampNeg (u_30 4))) 8 (upd (u_26.2 8) (((300 : Int32) + v1)).toNatClampNeg r_33)) 15 (upd (u_26.2 15) (v1).toNatClampNeg (u_36 4))) 9 (upd (u_26.2 9) (((300 : Int32) + v1)).toNatClampNeg r_38))) (st_M_MA9 ..) ?_
        refine vv_aload_n hC d_M_takeText_199 0 rfl rfl ?_
        refine vv_bipush hC d_M_takeText_200 (v := (10 : Int32)) (by decide) ?_
        refine vv_callVV (wr := []) hC (c_M_take l D cA sx a_M u_39 (va_up (va_up (va_up (va_up (va_up u_26.2 7 (upd (u_26.2 7) (((300 : Int32) + v1)).toNatClampNeg r_25)) 14 (upd (u_26.2 14) (v1).toNatClampNeg (u_30 4))) 8 (upd (u_26.2 8) (((300 : Int32) + v1)).toNatClampNeg r_33)) 15 (upd (u_26.2 15) (v1).toNatClampNeg (u_36 4))) 9 (upd (u_26.2 9) (((300 : Int32) + v1)).toNatClampNeg r_38)) (10 : Int32) _ hw) (cw_M_125 hC) d_M_takeText_202 [] [0, 1, 2, 3, 4, 5, 6, 7, 8, 9, 10, 11, 12, 13, 14, 15, 16, 17, 18, 19, 20, 21, 22, 23] [] [0, 1, 2, 3, 4, 5, 6, 7, 8, 9, 10, 11, 12, 13, 14, 15, 16, 17, 18, 19, 20, 21, 22, 23] (fun u_41 : (Nat → Int32) => kc_M cA a_M u_41 (va_up (va_up (va_up (va_up (va_up u_26.2 7 (upd (u_26.2 7) (((300 : Int32) + v1)).toNatClampNeg r_25)) 14 (upd (u_26.2 14) (v1).toNatClampNeg (u_30 4))) 8 (upd (u_26.2 8) (((300 : Int32) + v1)).toNatClampNeg r_33)) 15 (upd (u_26.2 15) (v1).toNatClampNeg (u_36 4))) 9 (upd (u_26.2 9) (((300 : Int32) + v1)).toNatClampNeg r_38))) ⟨Nat.zero_le _, Nat.zero_le _⟩ rfl rfl (fun _ => rfl) rfl rfl rfl rfl rfl rfl rfl rfl (Nat.le_of_ble_eq_true rfl) (fun u_41 hw => ?_)
        refine vv_iinc hC d_M_takeText_205 1 rfl (v := (v1 + (1 : Int32))) rfl (by decide) [1, 0] (L2 := [(0, .ref (a_M 0)), (1, .int (v1 + (1 : Int32)))]) rfl ?_
        refine vv_goto hC 105 d_M_takeText_208 (by decide) ?_
        exact vv_sub [0, 1] (by rfl) (ih u_41 (va_up (va_up (va_up (va_up (va_up u_26.2 7 (upd (u_26.2 7) (((300 : Int32) + v1)).toNatClampNeg r_25)) 14 (upd (u_26.2 14) (v1).toNatClampNeg (u_30 4))) 8 (upd (u_26.2 8) (((300 : Int32) + v1)).toNatClampNeg r_33)) 15 (upd (u_26.2 15) (v1).toNatClampNeg (u_36 4))) 9 (upd (u_26.2 9) (((300 : Int32) + v1)).toNatClampNeg r_38)) (v1 + (1 : Int32)) hw)
set_option maxHeartbeats 4000000 in
set_option maxRecDepth 100000 in
theorem c_M_takeText (l : Launch) (D : va_G) (cA : Nat → ClassId) (sx : Nat → Nat) (a_M : Nat → Nat) (I_M : (Nat → Int32)) (A_M : (Nat → Nat → Int32)) (Q : (Nat → Int32) → (Nat → Nat → Int32) → Prop) (hw : wp_M_takeText I_M A_M Q) : MetV l y_M_takeText (Cond.code y_M_takeText b_M_takeText 2 none :: TB) ({ frames := 5, cells := 0, slots := 0, locals := 106 } : Room) D vwCl (tyl cA) (SPl sx) [.ref (a_M 0)] (kc_M cA a_M I_M A_M) (fun (u : (Nat → Int32) × (Nat → Nat → Int32)) => Q u.1 u.2) (fun u : (Nat → Int32) × (Nat → Nat → Int32) => kc_M cA a_M u.1 u.2) := by
  refine vv_entryV (cc := b_M_takeText) (own := R_M) (L := [(0, .ref (a_M 0))]) (by decide) rfl rfl (Nat.le_of_ble_eq_true rfl) rfl (fun p e s m args below meth c A hC => ?_)
  unfold wp_M_takeText at hw
  refine vv_iconst hC d_M_takeText_0 (v := (0 : Int32)) (by decide) ?_
  refine vv_istore_n hC d_M_takeText_1 rfl (by decide) [1, 0] (L2 := [(0, .ref (a_M 0)), (1, .int (0 : Int32))]) rfl ?_
  obtain ⟨m2, hw⟩ := hw
  refine vv_sub [0, 1] (by rfl) (l_M_takeText_L2 a_M Q _ hC (fun I_M_8 A_M_9 hw => ?_) m2 I_M A_M (0 : Int32) hw)
  refine vv_iconst hC d_M_takeText_47 (v := (0 : Int32)) (by decide) ?_
  refine vv_istore_n hC d_M_takeText_48 rfl (by decide) [1, 0] (L2 := [(0, .ref (a_M 0)), (1, .int (0 : Int32))]) rfl ?_
  obtain ⟨m49, hw⟩ := hw
  refine vv_sub [0, 1] (by rfl) (l_M_takeText_L49 a_M Q _ hC (fun I_M_20 A_M_21 hw => ?_) m49 I_M_8 A_M_9 (0 : Int32) hw)
  refine vv_aload_n hC d_M_takeText_99 0 rfl rfl ?_
  refine vv_callVV (wr := []) hC (c_M_takeOutputs l D cA sx a_M I_M_20 A_M_21 _ hw) (cw_M_136 hC) d_M_takeText_100 [] [0, 1, 2, 3, 4, 5, 6, 7, 8, 9, 10, 11, 12, 13, 14, 15, 16, 17, 18, 19, 20, 21, 22, 23] [] [0, 1, 2, 3, 4, 5, 6, 7, 8, 9, 10, 11, 12, 13, 14, 15, 16, 17, 18, 19, 20, 21, 22, 23] (fun u_22 : (Nat → Int32) × (Nat → Nat → Int32) => kc_M cA a_M u_22.1 u_22.2) ⟨Nat.zero_le _, Nat.zero_le _⟩ rfl rfl (fun _ => rfl) rfl rfl rfl rfl rfl rfl rfl rfl (Nat.le_of_ble_eq_true rfl) (fun u_22 hw => ?_)
  refine vv_iconst hC d_M_takeText_103 (v := (0 : Int32)) (by decide) ?_
  refine vv_istore_n hC d_M_takeText_104 rfl (by decide) [1, 0] (L2 := [(0, .ref (a_M 0)), (1, .int (0 : Int32))]) rfl ?_
  obtain ⟨m105, hw⟩ := hw
  refine vv_sub [0, 1] (by rfl) (l_M_takeText_L105 a_M Q _ hC (fun I_M_43 A_M_44 hw => ?_) m105 u_22.1 u_22.2 (0 : Int32) hw)
  exact vv_vret hC d_M_takeText_211 (I_M_43, A_M_44) hw rfl
set_option maxHeartbeats 4000000 in
set_option maxRecDepth 100000 in
theorem l_M_delta_b82 {p : Program} {l : Launch} {e : Env} {s : State} {m : MethodId} {args : Array Value} {below : List Frame} {meth : Method} {c : Code} {D : va_G} {cA : Nat → ClassId} {sx : Nat → Nat} {A : Nat → Prop} (a_M : Nat → Nat) (A_M : (Nat → Nat → Int32)) (Q : Int32 → (Nat → Int32) → Prop) (K14 : (Nat → Int32) → Int32 → Int32 → Int32 → Int32 → Int32 → Int32 → Prop) (X14 : (Nat → Int32) → Int32 → Int32 → Int32 → Int32 → Int32 → Prop) (hC : CX p s m args meth c b_M_delta R_M TB 8 D vwCl (tyl cA) A (SPl sx) (some .int)) (hK14 : ∀ (I_M : (Nat → Int32)) (v1 : Int32) (v2 : Int32) (v3 : Int32) (v4 : Int32) (v5 : Int32) (v6 : Int32), K14 I_M v1 v2 v3 v4 v5 v6 → VV p l e ({ frames := 1, cells := 0, slots := 0, locals := 22 } : Room) s m args below meth c 8 D vwCl A 0 0 (QI below args s D vwCl (tyl cA) A (fun (r : Int32) (u : (Nat → Int32)) => Q r u) (fun u : (Nat → Int32) => kc_M cA a_M u A_M)) (kc_M cA a_M I_M A_M) 14 [(0, .ref (a_M 0)), (1, .int v1), (2, .int v2), (3, .int v3), (4, .int v4), (5, .int v5), (6, .int v6)] []) (hX14 : ∀ (I_M : (Nat → Int32)) (v1 : Int32) (v2 : Int32) (v3 : Int32) (v4 : Int32) (v5 : Int32), X14 I_M v1 v2 v3 v4 v5 → VV p l e ({ frames := 1, cells := 0, slots := 0, locals := 22 } : Room) s m args below meth c 8 D vwCl A 0 0 (QI below args s D vwCl (tyl cA) A (fun (r : Int32) (u : (Nat → Int32)) => Q r u) (fun u : (Nat → Int32) => kc_M cA a_M u A_M)) (kc_M cA a_M I_M A_M) 105 [(0, .ref (a_M 0)), (1, .int v1), (2, .int v2), (3, .int v3), (4, .int v4), (5, .int v5)] []) : ∀ (I_M : (Nat → Int32)) (v1 : Int32) (v2 : Int32) (v3 : Int32) (v4 : Int32) (v5 : Int32) (v6 : Int32), wp_M_delta_b82 A_M Q K14 X14 I_M v1 v2 v3 v4 v5 v6 → VV p l e ({ frames := 1, cells := 0, slots := 0, locals := 22 } : Room) s m args below meth c 8 D vwCl A 0 0 (QI below args s D vwCl (tyl cA) A (fun (r : Int32) (u : (Nat → Int32)) => Q r u) (fun u : (Nat → Int32) => kc_M cA a_M u A_M)) (kc_M cA a_M I_M A_M) 82 [(0, .ref (a_M 0)), (1, .int v1), (2, .int v2), (3, .int v3), (4, .int v4), (5, .int v5), (6, .int v6)] [] := by
  intro I_M v1 v2 v3 v4 v5 v6 hw
  unfold wp_M_delta_b82 at hw
  refine vv_aload_n hC d_M_delta_82 0 rfl rfl ?_
  refine vv_get hC (v := .int (I_M 5)) hin_M 0 7 tb_679 d_M_delta_83 rfl rfl (by decide) rfl rfl ?_
  refine vv_if_ne hC 99 d_M_delta_86 (by decide) (fun cd => ?_) (fun cd => ?_)
  · have hw := hw.2 cd
    refine vv_iinc hC d_M_delta_99 6 rfl (v := (v6 + (1 : Int32))) rfl (by decide) [1, 2, 3, 4, 5, 6, 0] (L2 := [(0, .ref (a_M 0)), (1, .int v1), (2, .int v2), (3, .int v3), (4, .int v4), (5, .int v5), (6, .int (v6 + (1 : Int32)))]) rfl ?_
    refine vv_goto hC 14 d_M_delta_102 (by decide) ?_
    exact vv_sub [0, 1, 2, 3, 4, 5, 6] (by rfl) (hK14 I_M v1 v2 v3 v4 v5 (v6 + (1 : Int32)) hw)
  · have hw := hw.1 cd
    refine vv_aload_n hC d_M_delta_89 0 rfl rfl ?_
    refine vv_dup hC d_M_delta_90 rfl ?_
    refine vv_get hC (v := .int (I_M 4)) hin_M 0 6 tb_678 d_M_delta_91 rfl rfl (by decide) rfl rfl ?_
    refine vv_iconst hC d_M_delta_94 (v := (1 : Int32)) (by decide) ?_
    refine vv_iadd hC d_M_delta_95 ?_
    refine vv_put hC hin_M ty_M tyok_M nmok_M 0 6 tb_678 d_M_delta_96 rfl rfl (by decide) rfl rfl rfl rfl rfl (Nat.le_of_ble_eq_true rfl) (ws2 := kc_M cA a_M (va_up I_M 4 ((I_M 4) + (1 : Int32))) A_M) (st_M_MI4 ..) ?_
    refine vv_iinc hC d_M_delta_99 6 rfl (v := (v6 + (1 : Int32))) rfl (by decide) [1, 2, 3, 4, 5, 6, 0] (L2 := [(0, .ref (a_M 0)), (1, .int v1), (2, .int v2), (3, .int v3), (4, .int v4), (5, .int v5), (6, .int (v6 + (1 : Int32)))]) rfl ?_
    refine vv_goto hC 14 d_M_delta_102 (by decide) ?_
    exact vv_sub [0, 1, 2, 3, 4, 5, 6] (by rfl) (hK14 (va_up I_M 4 ((I_M 4) + (1 : Int32))) v1 v2 v3 v4 v5 (v6 + (1 : Int32)) hw)
set_option maxHeartbeats 4000000 in
set_option maxRecDepth 100000 in
theorem l_M_delta_b52 {p : Program} {l : Launch} {e : Env} {s : State} {m : MethodId} {args : Array Value} {below : List Frame} {meth : Method} {c : Code} {D : va_G} {cA : Nat → ClassId} {sx : Nat → Nat} {A : Nat → Prop} (a_M : Nat → Nat) (A_M : (Nat → Nat → Int32)) (Q : Int32 → (Nat → Int32) → Prop) (K14 : (Nat → Int32) → Int32 → Int32 → Int32 → Int32 → Int32 → Int32 → Prop) (X14 : (Nat → Int32) → Int32 → Int32 → Int32 → Int32 → Int32 → Prop) (hC : CX p s m args meth c b_M_delta R_M TB 8 D vwCl (tyl cA) A (SPl sx) (some .int)) (hK14 : ∀ (I_M : (Nat → Int32)) (v1 : Int32) (v2 : Int32) (v3 : Int32) (v4 : Int32) (v5 : Int32) (v6 : Int32), K14 I_M v1 v2 v3 v4 v5 v6 → VV p l e ({ frames := 1, cells := 0, slots := 0, locals := 22 } : Room) s m args below meth c 8 D vwCl A 0 0 (QI below args s D vwCl (tyl cA) A (fun (r : Int32) (u : (Nat → Int32)) => Q r u) (fun u : (Nat → Int32) => kc_M cA a_M u A_M)) (kc_M cA a_M I_M A_M) 14 [(0, .ref (a_M 0)), (1, .int v1), (2, .int v2), (3, .int v3), (4, .int v4), (5, .int v5), (6, .int v6)] []) (hX14 : ∀ (I_M : (Nat → Int32)) (v1 : Int32) (v2 : Int32) (v3 : Int32) (v4 : Int32) (v5 : Int32), X14 I_M v1 v2 v3 v4 v5 → VV p l e ({ frames := 1, cells := 0, slots := 0, locals := 22 } : Room) s m args below meth c 8 D vwCl A 0 0 (QI below args s D vwCl (tyl cA) A (fun (r : Int32) (u : (Nat → Int32)) => Q r u) (fun u : (Nat → Int32) => kc_M cA a_M u A_M)) (kc_M cA a_M I_M A_M) 105 [(0, .ref (a_M 0)), (1, .int v1), (2, .int v2), (3, .int v3), (4, .int v4), (5, .int v5)] []) : ∀ (I_M : (Nat → Int32)) (v1 : Int32) (v2 : Int32) (v3 : Int32) (v4 : Int32) (v6 : Int32) (v7 : Int32), wp_M_delta_b52 A_M Q K14 X14 I_M v1 v2 v3 v4 v6 v7 → VV p l e ({ frames := 1, cells := 0, slots := 0, locals := 22 } : Room) s m args below meth c 8 D vwCl A 0 0 (QI below args s D vwCl (tyl cA) A (fun (r : Int32) (u : (Nat → Int32)) => Q r u) (fun u : (Nat → Int32) => kc_M cA a_M u A_M)) (kc_M cA a_M I_M A_M) 52 [(0, .ref (a_M 0)), (1, .int v1), (2, .int v2), (3, .int v3), (4, .int v4), (6, .int v6), (7, .int v7)] [] := by
  intro I_M v1 v2 v3 v4 v6 v7 hw
  unfold wp_M_delta_b52 at hw
  refine vv_iload hC d_M_delta_52 4 rfl ?_
  refine vv_iload hC d_M_delta_54 6 rfl ?_
  refine vv_bipush hC d_M_delta_56 (v := (127 : Int32)) (by decide) ?_
  refine vv_iand hC d_M_delta_58 ?_
  refine vv_bipush hC d_M_delta_59 (v := (7 : Int32)) (by decide) ?_
  refine vv_iload hC d_M_delta_61 5 rfl ?_
  refine vv_imul hC d_M_delta_63 ?_
  refine vv_ishl hC d_M_delta_64 ?_
  refine vv_iadd hC d_M_delta_65 ?_
  refine vv_istore hC d_M_delta_66 (by decide) [1, 2, 3, 4, 0, 5, 6] (L2 := [(0, .ref (a_M 0)), (1, .int v1), (2, .int v2), (3, .int v3), (4, .int (v4 + ((v7 &&& (127 : Int32)) <<< (((7 : Int32) * v6) &&& 31)))), (6, .int v6), (7, .int v7)]) rfl ?_
  refine vv_iload hC d_M_delta_68 6 rfl ?_
  refine vv_bipush hC d_M_delta_70 (v := (127 : Int32)) (by decide) ?_
  refine vv_icmp_le hC 79 d_M_delta_72 (by decide) (fun cd => ?_) (fun cd => ?_)
  · have hw := hw.1 cd
    refine vv_iconst hC d_M_delta_79 (v := (0 : Int32)) (by decide) ?_
    refine vv_istore hC d_M_delta_80 (by decide) [1, 2, 3, 4, 5, 0, 6, 7] (L2 := [(0, .ref (a_M 0)), (1, .int v1), (2, .int v2), (3, .int v3), (4, .int (v4 + ((v7 &&& (127 : Int32)) <<< (((7 : Int32) * v6) &&& 31)))), (5, .int (0 : Int32)), (6, .int v6), (7, .int v7)]) rfl ?_
    exact vv_sub [0, 1, 2, 3, 4, 5, 6] (by rfl) (l_M_delta_b82 a_M A_M Q K14 X14 hC hK14 hX14 I_M v1 v2 v3 (v4 + ((v7 &&& (127 : Int32)) <<< (((7 : Int32) * v6) &&& 31))) (0 : Int32) v6 hw)
  · have hw := hw.2 cd
    refine vv_iconst hC d_M_delta_75 (v := (1 : Int32)) (by decide) ?_
    refine vv_goto hC 80 d_M_delta_76 (by decide) ?_
    refine vv_istore hC d_M_delta_80 (by decide) [1, 2, 3, 4, 5, 0, 6, 7] (L2 := [(0, .ref (a_M 0)), (1, .int v1), (2, .int v2), (3, .int v3), (4, .int (v4 + ((v7 &&& (127 : Int32)) <<< (((7 : Int32) * v6) &&& 31)))), (5, .int (1 : Int32)), (6, .int v6), (7, .int v7)]) rfl ?_
    exact vv_sub [0, 1, 2, 3, 4, 5, 6] (by rfl) (l_M_delta_b82 a_M A_M Q K14 X14 hC hK14 hX14 I_M v1 v2 v3 (v4 + ((v7 &&& (127 : Int32)) <<< (((7 : Int32) * v6) &&& 31))) (1 : Int32) v6 hw)
set_option maxHeartbeats 4000000 in
set_option maxRecDepth 100000 in
theorem l_M_delta_L14 {p : Program} {l : Launch} {e : Env} {s : State} {m : MethodId} {args : Array Value} {below : List Frame} {meth : Method} {c : Code} {D : va_G} {cA : Nat → ClassId} {sx : Nat → Nat} {A : Nat → Prop} (a_M : Nat → Nat) (A_M : (Nat → Nat → Int32)) (Q : Int32 → (Nat → Int32) → Prop) (X14 : (Nat → Int32) → Int32 → Int32 → Int32 → Int32 → Int32 → Prop) (hC : CX p s m args meth c b_M_delta R_M TB 8 D vwCl (tyl cA) A (SPl sx) (some .int)) (hX14 : ∀ (I_M : (Nat → Int32)) (v1 : Int32) (v2 : Int32) (v3 : Int32) (v4 : Int32) (v5 : Int32), X14 I_M v1 v2 v3 v4 v5 → VV p l e ({ frames := 1, cells := 0, slots := 0, locals := 22 } : Room) s m args below meth c 8 D vwCl A 0 0 (QI below args s D vwCl (tyl cA) A (fun (r : Int32) (u : (Nat → Int32)) => Q r u) (fun u : (Nat → Int32) => kc_M cA a_M u A_M)) (kc_M cA a_M I_M A_M) 105 [(0, .ref (a_M 0)), (1, .int v1), (2, .int v2), (3, .int v3), (4, .int v4), (5, .int v5)] []) : ∀ (n14 : Nat) (I_M : (Nat → Int32)) (v1 : Int32) (v2 : Int32) (v3 : Int32) (v4 : Int32) (v5 : Int32) (v6 : Int32), wp_M_delta_L14 A_M Q X14 n14 I_M v1 v2 v3 v4 v5 v6 → VV p l e ({ frames := 1, cells := 0, slots := 0, locals := 22 } : Room) s m args below meth c 8 D vwCl A 0 0 (QI below args s D vwCl (tyl cA) A (fun (r : Int32) (u : (Nat → Int32)) => Q r u) (fun u : (Nat → Int32) => kc_M cA a_M u A_M)) (kc_M cA a_M I_M A_M) 14 [(0, .ref (a_M 0)), (1, .int v1), (2, .int v2), (3, .int v3), (4, .int v4), (5, .int v5), (6, .int v6)] [] := by
  intro n14
  induction n14 with
  | zero =>
    intro I_M v1 v2 v3 v4 v5 v6 hw
    exact absurd hw (fun z => z)
  | succ n14 ih =>
    intro I_M v1 v2 v3 v4 v5 v6 hw
    unfold wp_M_delta_L14 at hw
    refine vv_iload hC d_M_delta_14 6 rfl ?_
    refine vv_iconst hC d_M_delta_16 (v := (3 : Int32)) (by decide) ?_
    refine vv_icmp_ge hC 105 d_M_delta_17 (by decide) (fun cd => ?_) (fun cd => ?_)
    · have hw := hw.1 cd
      exact vv_sub [0, 1, 2, 3, 4, 5] (by rfl) (hX14 I_M v1 v2 v3 v4 v5 hw)
    · have hw := hw.2 cd
      refine vv_iload hC d_M_delta_20 5 rfl ?_
      refine vv_if_eq hC 105 d_M_delta_22 (by decide) (fun cd => ?_) (fun cd => ?_)
      · have hw := hw.1 cd
        exact vv_sub [0, 1, 2, 3, 4, 5] (by rfl) (hX14 I_M v1 v2 v3 v4 v5 hw)
      · have hw := hw.2 cd
        refine vv_aload_n hC d_M_delta_25 0 rfl rfl ?_
        refine vv_get hC (v := .int (I_M 5)) hin_M 0 7 tb_679 d_M_delta_26 rfl rfl (by decide) rfl rfl ?_
        refine vv_if_ne hC 105 d_M_delta_29 (by decide) (fun cd => ?_) (fun cd => ?_)
        · have hw := hw.2 cd
          exact vv_sub [0, 1, 2, 3, 4, 5] (by rfl) (hX14 I_M v1 v2 v3 v4 v5 hw)
        · have hw := hw.1 cd
          refine vv_aload_n hC d_M_delta_32 0 rfl rfl ?_
          refine vv_callVI (wr := []) hC (c_M_here l D cA sx a_M I_M A_M _ hw) (cw_M_100 hC) d_M_delta_33 [] [0, 1, 2, 3, 4, 5, 6, 7, 8, 9, 10, 11, 12, 13, 14, 15, 16, 17, 18, 19, 20, 21, 22, 23] [] [0, 1, 2, 3, 4, 5, 6, 7, 8, 9, 10, 11, 12, 13, 14, 15, 16, 17, 18, 19, 20, 21, 22, 23] (fun u_2 : Unit => kc_M cA a_M I_M A_M) ⟨Nat.zero_le _, Nat.zero_le _⟩ rfl rfl (fun _ => rfl) rfl rfl rfl rfl rfl rfl rfl rfl (Nat.le_of_ble_eq_true rfl) (fun r_1 u_2 hw => ?_)
          refine vv_istore hC d_M_delta_36 (by decide) [1, 2, 3, 4, 5, 6, 7, 0] (L2 := [(0, .ref (a_M 0)), (1, .int v1), (2, .int v2), (3, .int v3), (4, .int v4), (5, .int v5), (6, .int v6), (7, .int r_1)]) rfl ?_
          refine vv_iload hC d_M_delta_38 7 rfl ?_
          refine vv_if_ge hC 52 d_M_delta_40 (by decide) (fun cd => ?_) (fun cd => ?_)
          · have hw := hw.1 cd
            exact vv_sub [0, 1, 2, 3, 4, 6, 7] (by rfl) (l_M_delta_b52 a_M A_M Q (wp_M_delta_L14 A_M Q X14 n14) X14 hC ih hX14 I_M v1 v2 v3 v4 v6 r_1 hw)
          · have hw := hw.2 cd
            refine vv_aload_n hC d_M_delta_43 0 rfl rfl ?_
            refine vv_iconst hC d_M_delta_44 (v := (1 : Int32)) (by decide) ?_
            refine vv_aload_n hC d_M_delta_45 0 rfl rfl ?_
            refine vv_get hC (v := .int (I_M 4)) hin_M 0 6 tb_678 d_M_delta_46 rfl rfl (by decide) rfl rfl ?_
            refine vv_callVV (wr := []) hC (c_M_wrong l D cA sx a_M I_M A_M (1 : Int32) (I_M 4) _ hw) (cw_M_104 hC) d_M_delta_49 [] [0, 1, 2, 3, 4, 5, 6, 7, 8, 9, 10, 11, 12, 13, 14, 15, 16, 17, 18, 19, 20, 21, 22, 23] [] [0, 1, 2, 3, 4, 5, 6, 7, 8, 9, 10, 11, 12, 13, 14, 15, 16, 17, 18, 19, 20, 21, 22, 23] (fun u_3 : (Nat → Int32) => kc_M cA a_M u_3 A_M) ⟨Nat.zero_le _, Nat.zero_le _⟩ rfl rfl (fun _ => rfl) rfl rfl rfl rfl rfl rfl rfl rfl (Nat.le_of_ble_eq_true rfl) (fun u_3 hw => ?_)
            exact vv_sub [0, 1, 2, 3, 4, 6, 7] (by rfl) (l_M_delta_b52 a_M A_M Q (wp_M_delta_L14 A_M Q X14 n14) X14 hC ih hX14 u_3 v1 v2 v3 v4 v6 r_1 hw)
set_option maxHeartbeats 4000000 in
set_option maxRecDepth 100000 in
theorem l_M_delta_b138 {p : Program} {l : Launch} {e : Env} {s : State} {m : MethodId} {args : Array Value} {below : List Frame} {meth : Method} {c : Code} {D : va_G} {cA : Nat → ClassId} {sx : Nat → Nat} {A : Nat → Prop} (a_M : Nat → Nat) (A_M : (Nat → Nat → Int32)) (Q : Int32 → (Nat → Int32) → Prop) (hC : CX p s m args meth c b_M_delta R_M TB 8 D vwCl (tyl cA) A (SPl sx) (some .int)) : ∀ (I_M : (Nat → Int32)) (v1 : Int32) (v3 : Int32) (v4 : Int32), wp_M_delta_b138 A_M Q I_M v1 v3 v4 → VV p l e ({ frames := 1, cells := 0, slots := 0, locals := 22 } : Room) s m args below meth c 8 D vwCl A 0 0 (QI below args s D vwCl (tyl cA) A (fun (r : Int32) (u : (Nat → Int32)) => Q r u) (fun u : (Nat → Int32) => kc_M cA a_M u A_M)) (kc_M cA a_M I_M A_M) 138 [(0, .ref (a_M 0)), (1, .int v1), (3, .int v3), (4, .int v4)] [] := by
  intro I_M v1 v3 v4 hw
  unfold wp_M_delta_b138 at hw
  refine vv_aload_n hC d_M_delta_138 0 rfl rfl ?_
  refine vv_iconst hC d_M_delta_139 (v := (3 : Int32)) (by decide) ?_
  refine vv_iload_n hC d_M_delta_140 2 rfl rfl ?_
  refine vv_callVV (wr := []) hC (c_M_wrong l D cA sx a_M I_M A_M (3 : Int32) v3 _ hw) (cw_M_104 hC) d_M_delta_141 [] [0, 1, 2, 3, 4, 5, 6, 7, 8, 9, 10, 11, 12, 13, 14, 15, 16, 17, 18, 19, 20, 21, 22, 23] [] [0, 1, 2, 3, 4, 5, 6, 7, 8, 9, 10, 11, 12, 13, 14, 15, 16, 17, 18, 19, 20, 21, 22, 23] (fun u_11 : (Nat → Int32) => kc_M cA a_M u_11 A_M) ⟨Nat.zero_le _, Nat.zero_le _⟩ rfl rfl (fun _ => rfl) rfl rfl rfl rfl rfl rfl rfl rfl (Nat.le_of_ble_eq_true rfl) (fun u_11 hw => ?_)
  refine vv_iload_n hC d_M_delta_144 1 rfl rfl ?_
  refine vv_iload hC d_M_delta_145 3 rfl ?_
  refine vv_isub hC d_M_delta_147 ?_
  exact vv_iret hC d_M_delta_148 u_11 hw rfl
set_option maxHeartbeats 4000000 in
set_option maxRecDepth 100000 in
theorem l_M_delta_b119 {p : Program} {l : Launch} {e : Env} {s : State} {m : MethodId} {args : Array Value} {below : List Frame} {meth : Method} {c : Code} {D : va_G} {cA : Nat → ClassId} {sx : Nat → Nat} {A : Nat → Prop} (a_M : Nat → Nat) (A_M : (Nat → Nat → Int32)) (Q : Int32 → (Nat → Int32) → Prop) (hC : CX p s m args meth c b_M_delta R_M TB 8 D vwCl (tyl cA) A (SPl sx) (some .int)) : ∀ (I_M : (Nat → Int32)) (v1 : Int32) (v2 : Int32) (v3 : Int32) (v4 : Int32), wp_M_delta_b119 A_M Q I_M v1 v2 v3 v4 → VV p l e ({ frames := 1, cells := 0, slots := 0, locals := 22 } : Room) s m args below meth c 8 D vwCl A 0 0 (QI below args s D vwCl (tyl cA) A (fun (r : Int32) (u : (Nat → Int32)) => Q r u) (fun u : (Nat → Int32) => kc_M cA a_M u A_M)) (kc_M cA a_M I_M A_M) 119 [(0, .ref (a_M 0)), (1, .int v1), (2, .int v2), (3, .int v3), (4, .int v4)] [] := by
  intro I_M v1 v2 v3 v4 hw
  unfold wp_M_delta_b119 at hw
  refine vv_aload_n hC d_M_delta_119 0 rfl rfl ?_
  refine vv_get hC (v := .int (I_M 5)) hin_M 0 7 tb_679 d_M_delta_120 rfl rfl (by decide) rfl rfl ?_
  refine vv_if_ne hC 144 d_M_delta_123 (by decide) (fun cd => ?_) (fun cd => ?_)
  · have hw := hw.2 cd
    refine vv_iload_n hC d_M_delta_144 1 rfl rfl ?_
    refine vv_iload hC d_M_delta_145 4 rfl ?_
    refine vv_isub hC d_M_delta_147 ?_
    exact vv_iret hC d_M_delta_148 I_M hw rfl
  · have hw := hw.1 cd
    refine vv_iload hC d_M_delta_126 4 rfl ?_
    refine vv_iload_n hC d_M_delta_128 2 rfl rfl ?_
    refine vv_icmp_lt hC 138 d_M_delta_129 (by decide) (fun cd => ?_) (fun cd => ?_)
    · have hw := hw.1 cd
      exact vv_sub [0, 1, 3, 4] (by rfl) (l_M_delta_b138 a_M A_M Q hC I_M v1 v3 v4 hw)
    · have hw := hw.2 cd
      refine vv_iload hC d_M_delta_132 4 rfl ?_
      refine vv_iload_n hC d_M_delta_134 1 rfl rfl ?_
      refine vv_icmp_le hC 144 d_M_delta_135 (by decide) (fun cd => ?_) (fun cd => ?_)
      · have hw := hw.1 cd
        refine vv_iload_n hC d_M_delta_144 1 rfl rfl ?_
        refine vv_iload hC d_M_delta_145 4 rfl ?_
        refine vv_isub hC d_M_delta_147 ?_
        exact vv_iret hC d_M_delta_148 I_M hw rfl
      · have hw := hw.2 cd
        exact vv_sub [0, 1, 3, 4] (by rfl) (l_M_delta_b138 a_M A_M Q hC I_M v1 v3 v4 hw)
set_option maxHeartbeats 4000000 in
set_option maxRecDepth 100000 in
theorem c_M_delta (l : Launch) (D : va_G) (cA : Nat → ClassId) (sx : Nat → Nat) (a_M : Nat → Nat) (I_M : (Nat → Int32)) (A_M : (Nat → Nat → Int32)) (x1 x2 : Int32) (Q : Int32 → (Nat → Int32) → Prop) (hw : wp_M_delta I_M A_M x1 x2 Q) : MetI l y_M_delta (Cond.code y_M_delta b_M_delta 8 (some .int) :: TB) ({ frames := 1, cells := 0, slots := 0, locals := 22 } : Room) D vwCl (tyl cA) (SPl sx) [.ref (a_M 0), .int x1, .int x2] (kc_M cA a_M I_M A_M) (fun (r : Int32) (u : (Nat → Int32)) => Q r u) (fun u : (Nat → Int32) => kc_M cA a_M u A_M) := by
  refine vv_entryI (cc := b_M_delta) (own := R_M) (L := [(0, .ref (a_M 0)), (1, .int x1), (2, .int x2)]) (by decide) rfl rfl (Nat.le_of_ble_eq_true rfl) rfl (fun p e s m args below meth c A hC => ?_)
  unfold wp_M_delta at hw
  refine vv_aload_n hC d_M_delta_0 0 rfl rfl ?_
  refine vv_get hC (v := .int (I_M 4)) hin_M 0 6 tb_678 d_M_delta_1 rfl rfl (by decide) rfl rfl ?_
  refine vv_istore_n hC d_M_delta_4 rfl (by decide) [1, 2, 3, 0] (L2 := [(0, .ref (a_M 0)), (1, .int x1), (2, .int x2), (3, .int (I_M 4))]) rfl ?_
  refine vv_iconst hC d_M_delta_5 (v := (0 : Int32)) (by decide) ?_
  refine vv_istore hC d_M_delta_6 (by decide) [1, 2, 3, 4, 0] (L2 := [(0, .ref (a_M 0)), (1, .int x1), (2, .int x2), (3, .int (I_M 4)), (4, .int (0 : Int32))]) rfl ?_
  refine vv_iconst hC d_M_delta_8 (v := (1 : Int32)) (by decide) ?_
  refine vv_istore hC d_M_delta_9 (by decide) [1, 2, 3, 4, 5, 0] (L2 := [(0, .ref (a_M 0)), (1, .int x1), (2, .int x2), (3, .int (I_M 4)), (4, .int (0 : Int32)), (5, .int (1 : Int32))]) rfl ?_
  refine vv_iconst hC d_M_delta_11 (v := (0 : Int32)) (by decide) ?_
  refine vv_istore hC d_M_delta_12 (by decide) [1, 2, 3, 4, 5, 6, 0] (L2 := [(0, .ref (a_M 0)), (1, .int x1), (2, .int x2), (3, .int (I_M 4)), (4, .int (0 : Int32)), (5, .int (1 : Int32)), (6, .int (0 : Int32))]) rfl ?_
  obtain ⟨m14, hw⟩ := hw
  refine vv_sub [0, 1, 2, 3, 4, 5, 6] (by rfl) (l_M_delta_L14 a_M A_M Q _ hC (fun I_M_5 v1_6 v2_7 v3_8 v4_9 v5_10 hw => ?_) m14 I_M x1 x2 (I_M 4) (0 : Int32) (1 : Int32) (0 : Int32) hw)
  refine vv_iload hC d_M_delta_105 5 rfl ?_
  refine vv_if_eq hC 119 d_M_delta_107 (by decide) (fun cd => ?_) (fun cd => ?_)
  · have hw := hw.1 cd
    exact vv_sub [0, 1, 2, 3, 4] (by rfl) (l_M_delta_b119 a_M A_M Q hC I_M_5 v1_6 v2_7 v3_8 v4_9 hw)
  · have hw := hw.2 cd
    refine vv_aload_n hC d_M_delta_110 0 rfl rfl ?_
    refine vv_iconst hC d_M_delta_111 (v := (1 : Int32)) (by decide) ?_
    refine vv_aload_n hC d_M_delta_112 0 rfl rfl ?_
    refine vv_get hC (v := .int (I_M_5 4)) hin_M 0 6 tb_678 d_M_delta_113 rfl rfl (by decide) rfl rfl ?_
    refine vv_callVV (wr := []) hC (c_M_wrong l D cA sx a_M I_M_5 A_M (1 : Int32) (I_M_5 4) _ hw) (cw_M_104 hC) d_M_delta_116 [] [0, 1, 2, 3, 4, 5, 6, 7, 8, 9, 10, 11, 12, 13, 14, 15, 16, 17, 18, 19, 20, 21, 22, 23] [] [0, 1, 2, 3, 4, 5, 6, 7, 8, 9, 10, 11, 12, 13, 14, 15, 16, 17, 18, 19, 20, 21, 22, 23] (fun u_13 : (Nat → Int32) => kc_M cA a_M u_13 A_M) ⟨Nat.zero_le _, Nat.zero_le _⟩ rfl rfl (fun _ => rfl) rfl rfl rfl rfl rfl rfl rfl rfl (Nat.le_of_ble_eq_true rfl) (fun u_13 hw => ?_)
    exact vv_sub [0, 1, 2, 3, 4] (by rfl) (l_M_delta_b119 a_M A_M Q hC u_13 v1_6 v2_7 v3_8 v4_9 hw)
set_option maxHeartbeats 4000000 in
set_option maxRecDepth 100000 in
theorem l_M_takeBinary_b128 {p : Program} {l : Launch} {e : Env} {s : State} {m : MethodId} {args : Array Value} {below : List Frame} {meth : Method} {c : Code} {D : va_G} {cA : Nat → ClassId} {sx : Nat → Nat} {A : Nat → Prop} (a_M : Nat → Nat) (Q : (Nat → Int32) → (Nat → Nat → Int32) → Prop) (K2 : (Nat → Int32) → (Nat → Nat → Int32) → Int32 → Prop) (X2 : (Nat → Int32) → (Nat → Nat → Int32) → Prop) (hC : CX p s m args meth c b_M_takeBinary R_M TB 5 D vwCl (tyl cA) A (SPl sx) none) (hK2 : ∀ (I_M : (Nat → Int32)) (A_M : (Nat → Nat → Int32)) (v1 : Int32), K2 I_M A_M v1 → VV p l e ({ frames := 5, cells := 0, slots := 0, locals := 103 } : Room) s m args below meth c 5 D vwCl A 0 0 (QV below args s D vwCl (tyl cA) A (fun (u : (Nat → Int32) × (Nat → Nat → Int32)) => Q u.1 u.2) (fun u : (Nat → Int32) × (Nat → Nat → Int32) => kc_M cA a_M u.1 u.2)) (kc_M cA a_M I_M A_M) 2 [(0, .ref (a_M 0)), (1, .int v1)] []) (hX2 : ∀ (I_M : (Nat → Int32)) (A_M : (Nat → Nat → Int32)), X2 I_M A_M → VV p l e ({ frames := 5, cells := 0, slots := 0, locals := 103 } : Room) s m args below meth c 5 D vwCl A 0 0 (QV below args s D vwCl (tyl cA) A (fun (u : (Nat → Int32) × (Nat → Nat → Int32)) => Q u.1 u.2) (fun u : (Nat → Int32) × (Nat → Nat → Int32) => kc_M cA a_M u.1 u.2)) (kc_M cA a_M I_M A_M) 178 [(0, .ref (a_M 0))] []) : ∀ (I_M : (Nat → Int32)) (A_M : (Nat → Nat → Int32)) (v1 : Int32) (v2 : Int32) (v3 : Int32) (v4 : Int32), wp_M_takeBinary_b128 Q K2 X2 I_M A_M v1 v2 v3 v4 → VV p l e ({ frames := 5, cells := 0, slots := 0, locals := 103 } : Room) s m args below meth c 5 D vwCl A 0 0 (QV below args s D vwCl (tyl cA) A (fun (u : (Nat → Int32) × (Nat → Nat → Int32)) => Q u.1 u.2) (fun u : (Nat → Int32) × (Nat → Nat → Int32) => kc_M cA a_M u.1 u.2)) (kc_M cA a_M I_M A_M) 128 [(0, .ref (a_M 0)), (1, .int v1), (2, .int v2), (3, .int v3), (4, .int v4)] [] := by
  intro I_M A_M v1 v2 v3 v4 hw
  unfold wp_M_takeBinary_b128 at hw
  refine vv_iload_n hC d_M_takeBinary_128 3 rfl rfl ?_
  refine vv_if_eq hC 147 d_M_takeBinary_129 (by decide) (fun cd => ?_) (fun cd => ?_)
  · have hw := hw.1 cd
    refine vv_iload hC d_M_takeBinary_147 4 rfl ?_
    refine vv_if_eq hC 172 d_M_takeBinary_149 (by decide) (fun cd => ?_) (fun cd => ?_)
    · have hw := hw.1 cd
      refine vv_iinc hC d_M_takeBinary_172 1 rfl (v := (v1 + (1 : Int32))) rfl (by decide) [1, 0, 2, 3, 4] (L2 := [(0, .ref (a_M 0)), (1, .int (v1 + (1 : Int32))), (2, .int v2), (3, .int v3), (4, .int v4)]) rfl ?_
      refine vv_goto hC 2 d_M_takeBinary_175 (by decide) ?_
      exact vv_sub [0, 1] (by rfl) (hK2 I_M A_M (v1 + (1 : Int32)) hw)
    · have hw := hw.2 cd
      refine vv_aload_n hC d_M_takeBinary_152 0 rfl rfl ?_
      refine vv_get hC (v := .ref (a_M 5)) hin_M 0 12 tb_684 d_M_takeBinary_153 rfl rfl (by decide) rfl rfl ?_
      refine vv_bipush hC d_M_takeBinary_156 (v := (8 : Int32)) (by decide) ?_
      refine vv_iload_n hC d_M_takeBinary_158 2 rfl rfl ?_
      refine vv_iadd hC d_M_takeBinary_159 ?_
      refine vv_aload_n hC d_M_takeBinary_160 0 rfl rfl ?_
      refine vv_get hC (v := .ref (a_M 3)) hin_M 0 10 tb_682 d_M_takeBinary_161 rfl rfl (by decide) rfl rfl ?_
      refine vv_bipush hC d_M_takeBinary_164 (v := (6 : Int32)) (by decide) ?_
      refine vv_iald hC 3 0 d_M_takeBinary_166 rfl rfl (vin_c (by decide)) ?_
      refine vv_isub hC d_M_takeBinary_167 ?_
      refine vv_iconst hC d_M_takeBinary_168 (v := (2 : Int32)) (by decide) ?_
      refine vv_iload_n hC d_M_takeBinary_169 1 rfl rfl ?_
      refine vv_imul hC d_M_takeBinary_170 ?_
      obtain ⟨hin_3, hw⟩ := hw
      refine vv_iast hC 5 0 d_M_takeBinary_171 rfl rfl hin_3 (ws2 := kc_M cA a_M I_M (va_up A_M 4 (upd (A_M 4) ((((8 : Int32) + v2) - ((A_M 2) ((6 : Int32)).toNatClampNeg))).toNatClampNeg ((2 : Int32) * v1)))) (st_M_MA4 ..) ?_
      refine vv_iinc hC d_M_takeBinary_172 1 rfl (v := (v1 + (1 : Int32))) rfl (by decide) [1, 0, 2, 3, 4] (L2 := [(0, .ref (a_M 0)), (1, .int (v1 + (1 : Int32))), (2, .int v2), (3, .int v3), (4, .int v4)]) rfl ?_
      refine vv_goto hC 2 d_M_takeBinary_175 (by decide) ?_
      exact vv_sub [0, 1] (by rfl) (hK2 I_M (va_up A_M 4 (upd (A_M 4) ((((8 : Int32) + v2) - ((A_M 2) ((6 : Int32)).toNatClampNeg))).toNatClampNeg ((2 : Int32) * v1))) (v1 + (1 : Int32)) hw)
  · have hw := hw.2 cd
    refine vv_aload_n hC d_M_takeBinary_132 0 rfl rfl ?_
    refine vv_get hC (v := .ref (a_M 4)) hin_M 0 11 tb_683 d_M_takeBinary_133 rfl rfl (by decide) rfl rfl ?_
    refine vv_bipush hC d_M_takeBinary_136 (v := (6 : Int32)) (by decide) ?_
    refine vv_iload_n hC d_M_takeBinary_138 2 rfl rfl ?_
    refine vv_iadd hC d_M_takeBinary_139 ?_
    refine vv_iconst hC d_M_takeBinary_140 (v := (2 : Int32)) (by decide) ?_
    refine vv_iload_n hC d_M_takeBinary_141 1 rfl rfl ?_
    refine vv_imul hC d_M_takeBinary_142 ?_
    obtain ⟨hin_4, hw⟩ := hw
    refine vv_iast hC 4 0 d_M_takeBinary_143 rfl rfl hin_4 (ws2 := kc_M cA a_M I_M (va_up A_M 3 (upd (A_M 3) (((6 : Int32) + v2)).toNatClampNeg ((2 : Int32) * v1)))) (st_M_MA3 ..) ?_
    refine vv_goto hC 172 d_M_takeBinary_144 (by decide) ?_
    refine vv_iinc hC d_M_takeBinary_172 1 rfl (v := (v1 + (1 : Int32))) rfl (by decide) [1, 0, 2, 3, 4] (L2 := [(0, .ref (a_M 0)), (1, .int (v1 + (1 : Int32))), (2, .int v2), (3, .int v3), (4, .int v4)]) rfl ?_
    refine vv_goto hC 2 d_M_takeBinary_175 (by decide) ?_
    exact vv_sub [0, 1] (by rfl) (hK2 I_M (va_up A_M 3 (upd (A_M 3) (((6 : Int32) + v2)).toNatClampNeg ((2 : Int32) * v1))) (v1 + (1 : Int32)) hw)
set_option maxHeartbeats 4000000 in
set_option maxRecDepth 100000 in
theorem l_M_takeBinary_b63 {p : Program} {l : Launch} {e : Env} {s : State} {m : MethodId} {args : Array Value} {below : List Frame} {meth : Method} {c : Code} {D : va_G} {cA : Nat → ClassId} {sx : Nat → Nat} {A : Nat → Prop} (a_M : Nat → Nat) (Q : (Nat → Int32) → (Nat → Nat → Int32) → Prop) (K2 : (Nat → Int32) → (Nat → Nat → Int32) → Int32 → Prop) (X2 : (Nat → Int32) → (Nat → Nat → Int32) → Prop) (hC : CX p s m args meth c b_M_takeBinary R_M TB 5 D vwCl (tyl cA) A (SPl sx) none) (hK2 : ∀ (I_M : (Nat → Int32)) (A_M : (Nat → Nat → Int32)) (v1 : Int32), K2 I_M A_M v1 → VV p l e ({ frames := 5, cells := 0, slots := 0, locals := 103 } : Room) s m args below meth c 5 D vwCl A 0 0 (QV below args s D vwCl (tyl cA) A (fun (u : (Nat → Int32) × (Nat → Nat → Int32)) => Q u.1 u.2) (fun u : (Nat → Int32) × (Nat → Nat → Int32) => kc_M cA a_M u.1 u.2)) (kc_M cA a_M I_M A_M) 2 [(0, .ref (a_M 0)), (1, .int v1)] []) (hX2 : ∀ (I_M : (Nat → Int32)) (A_M : (Nat → Nat → Int32)), X2 I_M A_M → VV p l e ({ frames := 5, cells := 0, slots := 0, locals := 103 } : Room) s m args below meth c 5 D vwCl A 0 0 (QV below args s D vwCl (tyl cA) A (fun (u : (Nat → Int32) × (Nat → Nat → Int32)) => Q u.1 u.2) (fun u : (Nat → Int32) × (Nat → Nat → Int32) => kc_M cA a_M u.1 u.2)) (kc_M cA a_M I_M A_M) 178 [(0, .ref (a_M 0))] []) : ∀ (I_M : (Nat → Int32)) (A_M : (Nat → Nat → Int32)) (v1 : Int32) (v2 : Int32) (v3 : Int32) (v4 : Int32), wp_M_takeBinary_b63 Q K2 X2 I_M A_M v1 v2 v3 v4 → VV p l e ({ frames := 5, cells := 0, slots := 0, locals := 103 } : Room) s m args below meth c 5 D vwCl A 0 0 (QV below args s D vwCl (tyl cA) A (fun (u : (Nat → Int32) × (Nat → Nat → Int32)) => Q u.1 u.2) (fun u : (Nat → Int32) × (Nat → Nat → Int32) => kc_M cA a_M u.1 u.2)) (kc_M cA a_M I_M A_M) 63 [(0, .ref (a_M 0)), (1, .int v1), (2, .int v2), (3, .int v3), (4, .int v4)] [] := by
  intro I_M A_M v1 v2 v3 v4 hw
  unfold wp_M_takeBinary_b63 at hw
  refine vv_aload_n hC d_M_takeBinary_63 0 rfl rfl ?_
  refine vv_iload_n hC d_M_takeBinary_64 1 rfl rfl ?_
  refine vv_iload_n hC d_M_takeBinary_65 3 rfl rfl ?_
  refine vv_if_eq hC 73 d_M_takeBinary_66 (by decide) (fun cd => ?_) (fun cd => ?_)
  · have hw := hw.1 cd
    refine vv_iload hC d_M_takeBinary_73 4 rfl ?_
    refine vv_if_eq hC 82 d_M_takeBinary_75 (by decide) (fun cd => ?_) (fun cd => ?_)
    · have hw := hw.1 cd
      refine vv_iconst hC d_M_takeBinary_82 (v := (3 : Int32)) (by decide) ?_
      refine vv_iload_n hC d_M_takeBinary_83 3 rfl rfl ?_
      refine vv_if_eq hC 91 d_M_takeBinary_84 (by decide) (fun cd => ?_) (fun cd => ?_)
      · have hw := hw.1 cd
        refine vv_iload hC d_M_takeBinary_91 4 rfl ?_
        refine vv_if_eq hC 108 d_M_takeBinary_93 (by decide) (fun cd => ?_) (fun cd => ?_)
        · have hw := hw.1 cd
          refine vv_iload_n hC d_M_takeBinary_108 2 rfl rfl ?_
          refine vv_aload_n hC d_M_takeBinary_109 0 rfl rfl ?_
          refine vv_get hC (v := .ref (a_M 3)) hin_M 0 10 tb_682 d_M_takeBinary_110 rfl rfl (by decide) rfl rfl ?_
          refine vv_bipush hC d_M_takeBinary_113 (v := (6 : Int32)) (by decide) ?_
          refine vv_iald hC 3 0 d_M_takeBinary_115 rfl rfl (vin_c (by decide)) ?_
          refine vv_isub hC d_M_takeBinary_116 ?_
          refine vv_aload_n hC d_M_takeBinary_117 0 rfl rfl ?_
          refine vv_get hC (v := .ref (a_M 3)) hin_M 0 10 tb_682 d_M_takeBinary_118 rfl rfl (by decide) rfl rfl ?_
          refine vv_bipush hC d_M_takeBinary_121 (v := (7 : Int32)) (by decide) ?_
          refine vv_iald hC 3 0 d_M_takeBinary_123 rfl rfl (vin_c (by decide)) ?_
          refine vv_isub hC d_M_takeBinary_124 ?_
          refine vv_callVV (wr := []) hC (c_M_define l D cA sx a_M I_M A_M v1 (3 : Int32) ((v2 - ((A_M 2) ((6 : Int32)).toNatClampNeg)) - ((A_M 2) ((7 : Int32)).toNatClampNeg)) _ hw) (cw_M_121 hC) d_M_takeBinary_125 [] [0, 1, 2, 3, 4, 5, 6, 7, 8, 9, 10, 11, 12, 13, 14, 15, 16, 17, 18, 19, 20, 21, 22, 23] [] [0, 1, 2, 3, 4, 5, 6, 7, 8, 9, 10, 11, 12, 13, 14, 15, 16, 17, 18, 19, 20, 21, 22, 23] (fun u_1 : (Nat → Nat → Int32) => kc_M cA a_M I_M u_1) ⟨Nat.zero_le _, Nat.zero_le _⟩ rfl rfl (fun _ => rfl) rfl rfl rfl rfl rfl rfl rfl rfl (Nat.le_of_ble_eq_true rfl) (fun u_1 hw => ?_)
          exact vv_sub [0, 1, 2, 3, 4] (by rfl) (l_M_takeBinary_b128 a_M Q K2 X2 hC hK2 hX2 I_M u_1 v1 v2 v3 v4 hw)
        · have hw := hw.2 cd
          refine vv_iload_n hC d_M_takeBinary_96 2 rfl rfl ?_
          refine vv_aload_n hC d_M_takeBinary_97 0 rfl rfl ?_
          refine vv_get hC (v := .ref (a_M 3)) hin_M 0 10 tb_682 d_M_takeBinary_98 rfl rfl (by decide) rfl rfl ?_
          refine vv_bipush hC d_M_takeBinary_101 (v := (6 : Int32)) (by decide) ?_
          refine vv_iald hC 3 0 d_M_takeBinary_103 rfl rfl (vin_c (by decide)) ?_
          refine vv_isub hC d_M_takeBinary_104 ?_
          refine vv_goto hC 125 d_M_takeBinary_105 (by decide) ?_
          refine vv_callVV (wr := []) hC (c_M_define l D cA sx a_M I_M A_M v1 (3 : Int32) (v2 - ((A_M 2) ((6 : Int32)).toNatClampNeg)) _ hw) (cw_M_121 hC) d_M_takeBinary_125 [] [0, 1, 2, 3, 4, 5, 6, 7, 8, 9, 10, 11, 12, 13, 14, 15, 16, 17, 18, 19, 20, 21, 22, 23] [] [0, 1, 2, 3, 4, 5, 6, 7, 8, 9, 10, 11, 12, 13, 14, 15, 16, 17, 18, 19, 20, 21, 22, 23] (fun u_5 : (Nat → Nat → Int32) => kc_M cA a_M I_M u_5) ⟨Nat.zero_le _, Nat.zero_le _⟩ rfl rfl (fun _ => rfl) rfl rfl rfl rfl rfl rfl rfl rfl (Nat.le_of_ble_eq_true rfl) (fun u_5 hw => ?_)
          exact vv_sub [0, 1, 2, 3, 4] (by rfl) (l_M_takeBinary_b128 a_M Q K2 X2 hC hK2 hX2 I_M u_5 v1 v2 v3 v4 hw)
      · have hw := hw.2 cd
        refine vv_iload_n hC d_M_takeBinary_87 2 rfl rfl ?_
        refine vv_goto hC 125 d_M_takeBinary_88 (by decide) ?_
        refine vv_callVV (wr := []) hC (c_M_define l D cA sx a_M I_M A_M v1 (3 : Int32) v2 _ hw) (cw_M_121 hC) d_M_takeBinary_125 [] [0, 1, 2, 3, 4, 5, 6, 7, 8, 9, 10, 11, 12, 13, 14, 15, 16, 17, 18, 19, 20, 21, 22, 23] [] [0, 1, 2, 3, 4, 5, 6, 7, 8, 9, 10, 11, 12, 13, 14, 15, 16, 17, 18, 19, 20, 21, 22, 23] (fun u_7 : (Nat → Nat → Int32) => kc_M cA a_M I_M u_7) ⟨Nat.zero_le _, Nat.zero_le _⟩ rfl rfl (fun _ => rfl) rfl rfl rfl rfl rfl rfl rfl rfl (Nat.le_of_ble_eq_true rfl) (fun u_7 hw => ?_)
        exact vv_sub [0, 1, 2, 3, 4] (by rfl) (l_M_takeBinary_b128 a_M Q K2 X2 hC hK2 hX2 I_M u_7 v1 v2 v3 v4 hw)
    · have hw := hw.2 cd
      refine vv_iconst hC d_M_takeBinary_78 (v := (2 : Int32)) (by decide) ?_
      refine vv_goto hC 83 d_M_takeBinary_79 (by decide) ?_
      refine vv_iload_n hC d_M_takeBinary_83 3 rfl rfl ?_
      refine vv_if_eq hC 91 d_M_takeBinary_84 (by decide) (fun cd => ?_) (fun cd => ?_)
      · have hw := hw.1 cd
        refine vv_iload hC d_M_takeBinary_91 4 rfl ?_
        refine vv_if_eq hC 108 d_M_takeBinary_93 (by decide) (fun cd => ?_) (fun cd => ?_)
        · have hw := hw.1 cd
          refine vv_iload_n hC d_M_takeBinary_108 2 rfl rfl ?_
          refine vv_aload_n hC d_M_takeBinary_109 0 rfl rfl ?_
          refine vv_get hC (v := .ref (a_M 3)) hin_M 0 10 tb_682 d_M_takeBinary_110 rfl rfl (by decide) rfl rfl ?_
          refine vv_bipush hC d_M_takeBinary_113 (v := (6 : Int32)) (by decide) ?_
          refine vv_iald hC 3 0 d_M_takeBinary_115 rfl rfl (vin_c (by decide)) ?_
          refine vv_isub hC d_M_takeBinary_116 ?_
          refine vv_aload_n hC d_M_takeBinary_117 0 rfl rfl ?_
          refine vv_get hC (v := .ref (a_M 3)) hin_M 0 10 tb_682 d_M_takeBinary_118 rfl rfl (by decide) rfl rfl ?_
          refine vv_bipush hC d_M_takeBinary_121 (v := (7 : Int32)) (by decide) ?_
          refine vv_iald hC 3 0 d_M_takeBinary_123 rfl rfl (vin_c (by decide)) ?_
          refine vv_isub hC d_M_takeBinary_124 ?_
          refine vv_callVV (wr := []) hC (c_M_define l D cA sx a_M I_M A_M v1 (2 : Int32) ((v2 - ((A_M 2) ((6 : Int32)).toNatClampNeg)) - ((A_M 2) ((7 : Int32)).toNatClampNeg)) _ hw) (cw_M_121 hC) d_M_takeBinary_125 [] [0, 1, 2, 3, 4, 5, 6, 7, 8, 9, 10, 11, 12, 13, 14, 15, 16, 17, 18, 19, 20, 21, 22, 23] [] [0, 1, 2, 3, 4, 5, 6, 7, 8, 9, 10, 11, 12, 13, 14, 15, 16, 17, 18, 19, 20, 21, 22, 23] (fun u_9 : (Nat → Nat → Int32) => kc_M cA a_M I_M u_9) ⟨Nat.zero_le _, Nat.zero_le _⟩ rfl rfl (fun _ => rfl) rfl rfl rfl rfl rfl rfl rfl rfl (Nat.le_of_ble_eq_true rfl) (fun u_9 hw => ?_)
          exact vv_sub [0, 1, 2, 3, 4] (by rfl) (l_M_takeBinary_b128 a_M Q K2 X2 hC hK2 hX2 I_M u_9 v1 v2 v3 v4 hw)
        · have hw := hw.2 cd
          refine vv_iload_n hC d_M_takeBinary_96 2 rfl rfl ?_
          refine vv_aload_n hC d_M_takeBinary_97 0 rfl rfl ?_
          refine vv_get hC (v := .ref (a_M 3)) hin_M 0 10 tb_682 d_M_takeBinary_98 rfl rfl (by decide) rfl rfl ?_
          refine vv_bipush hC d_M_takeBinary_101 (v := (6 : Int32)) (by decide) ?_
          refine vv_iald hC 3 0 d_M_takeBinary_103 rfl rfl (vin_c (by decide)) ?_
          refine vv_isub hC d_M_takeBinary_104 ?_
          refine vv_goto hC 125 d_M_takeBinary_105 (by decide) ?_
          refine vv_callVV (wr := []) hC (c_M_define l D cA sx a_M I_M A_M v1 (2 : Int32) (v2 - ((A_M 2) ((6 : Int32)).toNatClampNeg)) _ hw) (cw_M_121 hC) d_M_takeBinary_125 [] [0, 1, 2, 3, 4, 5, 6, 7, 8, 9, 10, 11, 12, 13, 14, 15, 16, 17, 18, 19, 20, 21, 22, 23] [] [0, 1, 2, 3, 4, 5, 6, 7, 8, 9, 10, 11, 12, 13, 14, 15, 16, 17, 18, 19, 20, 21, 22, 23] (fun u_11 : (Nat → Nat → Int32) => kc_M cA a_M I_M u_11) ⟨Nat.zero_le _, Nat.zero_le _⟩ rfl rfl (fun _ => rfl) rfl rfl rfl rfl rfl rfl rfl rfl (Nat.le_of_ble_eq_true rfl) (fun u_11 hw => ?_)
          exact vv_sub [0, 1, 2, 3, 4] (by rfl) (l_M_takeBinary_b128 a_M Q K2 X2 hC hK2 hX2 I_M u_11 v1 v2 v3 v4 hw)
      · have hw := hw.2 cd
        refine vv_iload_n hC d_M_takeBinary_87 2 rfl rfl ?_
        refine vv_goto hC 125 d_M_takeBinary_88 (by decide) ?_
        refine vv_callVV (wr := []) hC (c_M_define l D cA sx a_M I_M A_M v1 (2 : Int32) v2 _ hw) (cw_M_121 hC) d_M_takeBinary_125 [] [0, 1, 2, 3, 4, 5, 6, 7, 8, 9, 10, 11, 12, 13, 14, 15, 16, 17, 18, 19, 20, 21, 22, 23] [] [0, 1, 2, 3, 4, 5, 6, 7, 8, 9, 10, 11, 12, 13, 14, 15, 16, 17, 18, 19, 20, 21, 22, 23] (fun u_13 : (Nat → Nat → Int32) => kc_M cA a_M I_M u_13) ⟨Nat.zero_le _, Nat.zero_le _⟩ rfl rfl (fun _ => rfl) rfl rfl rfl rfl rfl rfl rfl rfl (Nat.le_of_ble_eq_true rfl) (fun u_13 hw => ?_)
        exact vv_sub [0, 1, 2, 3, 4] (by rfl) (l_M_takeBinary_b128 a_M Q K2 X2 hC hK2 hX2 I_M u_13 v1 v2 v3 v4 hw)
  · have hw := hw.2 cd
    refine vv_iconst hC d_M_takeBinary_69 (v := (1 : Int32)) (by decide) ?_
    refine vv_goto hC 83 d_M_takeBinary_70 (by decide) ?_
    refine vv_iload_n hC d_M_takeBinary_83 3 rfl rfl ?_
    refine vv_if_eq hC 91 d_M_takeBinary_84 (by decide) (fun cd => ?_) (fun cd => ?_)
    · have hw := hw.1 cd
      refine vv_iload hC d_M_takeBinary_91 4 rfl ?_
      refine vv_if_eq hC 108 d_M_takeBinary_93 (by decide) (fun cd => ?_) (fun cd => ?_)
      · have hw := hw.1 cd
        refine vv_iload_n hC d_M_takeBinary_108 2 rfl rfl ?_
        refine vv_aload_n hC d_M_takeBinary_109 0 rfl rfl ?_
        refine vv_get hC (v := .ref (a_M 3)) hin_M 0 10 tb_682 d_M_takeBinary_110 rfl rfl (by decide) rfl rfl ?_
        refine vv_bipush hC d_M_takeBinary_113 (v := (6 : Int32)) (by decide) ?_
        refine vv_iald hC 3 0 d_M_takeBinary_115 rfl rfl (vin_c (by decide)) ?_
        refine vv_isub hC d_M_takeBinary_116 ?_
        refine vv_aload_n hC d_M_takeBinary_117 0 rfl rfl ?_
        refine vv_get hC (v := .ref (a_M 3)) hin_M 0 10 tb_682 d_M_takeBinary_118 rfl rfl (by decide) rfl rfl ?_
        refine vv_bipush hC d_M_takeBinary_121 (v := (7 : Int32)) (by decide) ?_
        refine vv_iald hC 3 0 d_M_takeBinary_123 rfl rfl (vin_c (by decide)) ?_
        refine vv_isub hC d_M_takeBinary_124 ?_
        refine vv_callVV (wr := []) hC (c_M_define l D cA sx a_M I_M A_M v1 (1 : Int32) ((v2 - ((A_M 2) ((6 : Int32)).toNatClampNeg)) - ((A_M 2) ((7 : Int32)).toNatClampNeg)) _ hw) (cw_M_121 hC) d_M_takeBinary_125 [] [0, 1, 2, 3, 4, 5, 6, 7, 8, 9, 10, 11, 12, 13, 14, 15, 16, 17, 18, 19, 20, 21, 22, 23] [] [0, 1, 2, 3, 4, 5, 6, 7, 8, 9, 10, 11, 12, 13, 14, 15, 16, 17, 18, 19, 20, 21, 22, 23] (fun u_15 : (Nat → Nat → Int32) => kc_M cA a_M I_M u_15) ⟨Nat.zero_le _, Nat.zero_le _⟩ rfl rfl (fun _ => rfl) rfl rfl rfl rfl rfl rfl rfl rfl (Nat.le_of_ble_eq_true rfl) (fun u_15 hw => ?_)
        exact vv_sub [0, 1, 2, 3, 4] (by rfl) (l_M_takeBinary_b128 a_M Q K2 X2 hC hK2 hX2 I_M u_15 v1 v2 v3 v4 hw)
      · have hw := hw.2 cd
        refine vv_iload_n hC d_M_takeBinary_96 2 rfl rfl ?_
        refine vv_aload_n hC d_M_takeBinary_97 0 rfl rfl ?_
        refine vv_get hC (v := .ref (a_M 3)) hin_M 0 10 tb_682 d_M_takeBinary_98 rfl rfl (by decide) rfl rfl ?_
        refine vv_bipush hC d_M_takeBinary_101 (v := (6 : Int32)) (by decide) ?_
        refine vv_iald hC 3 0 d_M_takeBinary_103 rfl rfl (vin_c (by decide)) ?_
        refine vv_isub hC d_M_takeBinary_104 ?_
        refine vv_goto hC 125 d_M_takeBinary_105 (by decide) ?_
        refine vv_callVV (wr := []) hC (c_M_define l D cA sx a_M I_M A_M v1 (1 : Int32) (v2 - ((A_M 2) ((6 : Int32)).toNatClampNeg)) _ hw) (cw_M_121 hC) d_M_takeBinary_125 [] [0, 1, 2, 3, 4, 5, 6, 7, 8, 9, 10, 11, 12, 13, 14, 15, 16, 17, 18, 19, 20, 21, 22, 23] [] [0, 1, 2, 3, 4, 5, 6, 7, 8, 9, 10, 11, 12, 13, 14, 15, 16, 17, 18, 19, 20, 21, 22, 23] (fun u_17 : (Nat → Nat → Int32) => kc_M cA a_M I_M u_17) ⟨Nat.zero_le _, Nat.zero_le _⟩ rfl rfl (fun _ => rfl) rfl rfl rfl rfl rfl rfl rfl rfl (Nat.le_of_ble_eq_true rfl) (fun u_17 hw => ?_)
        exact vv_sub [0, 1, 2, 3, 4] (by rfl) (l_M_takeBinary_b128 a_M Q K2 X2 hC hK2 hX2 I_M u_17 v1 v2 v3 v4 hw)
    · have hw := hw.2 cd
      refine vv_iload_n hC d_M_takeBinary_87 2 rfl rfl ?_
      refine vv_goto hC 125 d_M_takeBinary_88 (by decide) ?_
      refine vv_callVV (wr := []) hC (c_M_define l D cA sx a_M I_M A_M v1 (1 : Int32) v2 _ hw) (cw_M_121 hC) d_M_takeBinary_125 [] [0, 1, 2, 3, 4, 5, 6, 7, 8, 9, 10, 11, 12, 13, 14, 15, 16, 17, 18, 19, 20, 21, 22, 23] [] [0, 1, 2, 3, 4, 5, 6, 7, 8, 9, 10, 11, 12, 13, 14, 15, 16, 17, 18, 19, 20, 21, 22, 23] (fun u_19 : (Nat → Nat → Int32) => kc_M cA a_M I_M u_19) ⟨Nat.zero_le _, Nat.zero_le _⟩ rfl rfl (fun _ => rfl) rfl rfl rfl rfl rfl rfl rfl rfl (Nat.le_of_ble_eq_true rfl) (fun u_19 hw => ?_)
      exact vv_sub [0, 1, 2, 3, 4] (by rfl) (l_M_takeBinary_b128 a_M Q K2 X2 hC hK2 hX2 I_M u_19 v1 v2 v3 v4 hw)
set_option maxHeartbeats 4000000 in
set_option maxRecDepth 100000 in
theorem l_M_takeBinary_b60 {p : Program} {l : Launch} {e : Env} {s : State} {m : MethodId} {args : Array Value} {below : List Frame} {meth : Method} {c : Code} {D : va_G} {cA : Nat → ClassId} {sx : Nat → Nat} {A : Nat → Prop} (a_M : Nat → Nat) (Q : (Nat → Int32) → (Nat → Nat → Int32) → Prop) (K2 : (Nat → Int32) → (Nat → Nat → Int32) → Int32 → Prop) (X2 : (Nat → Int32) → (Nat → Nat → Int32) → Prop) (hC : CX p s m args meth c b_M_takeBinary R_M TB 5 D vwCl (tyl cA) A (SPl sx) none) (hK2 : ∀ (I_M : (Nat → Int32)) (A_M : (Nat → Nat → Int32)) (v1 : Int32), K2 I_M A_M v1 → VV p l e ({ frames := 5, cells := 0, slots := 0, locals := 103 } : Room) s m args below meth c 5 D vwCl A 0 0 (QV below args s D vwCl (tyl cA) A (fun (u : (Nat → Int32) × (Nat → Nat → Int32)) => Q u.1 u.2) (fun u : (Nat → Int32) × (Nat → Nat → Int32) => kc_M cA a_M u.1 u.2)) (kc_M cA a_M I_M A_M) 2 [(0, .ref (a_M 0)), (1, .int v1)] []) (hX2 : ∀ (I_M : (Nat → Int32)) (A_M : (Nat → Nat → Int32)), X2 I_M A_M → VV p l e ({ frames := 5, cells := 0, slots := 0, locals := 103 } : Room) s m args below meth c 5 D vwCl A 0 0 (QV below args s D vwCl (tyl cA) A (fun (u : (Nat → Int32) × (Nat → Nat → Int32)) => Q u.1 u.2) (fun u : (Nat → Int32) × (Nat → Nat → Int32) => kc_M cA a_M u.1 u.2)) (kc_M cA a_M I_M A_M) 178 [(0, .ref (a_M 0))] []) : ∀ (I_M : (Nat → Int32)) (A_M : (Nat → Nat → Int32)) (v1 : Int32) (v2 : Int32) (v3 : Int32), wp_M_takeBinary_b60 Q K2 X2 I_M A_M v1 v2 v3 → VV p l e ({ frames := 5, cells := 0, slots := 0, locals := 103 } : Room) s m args below meth c 5 D vwCl A 0 0 (QV below args s D vwCl (tyl cA) A (fun (u : (Nat → Int32) × (Nat → Nat → Int32)) => Q u.1 u.2) (fun u : (Nat → Int32) × (Nat → Nat → Int32) => kc_M cA a_M u.1 u.2)) (kc_M cA a_M I_M A_M) 60 [(0, .ref (a_M 0)), (1, .int v1), (2, .int v2), (3, .int v3)] [] := by
  intro I_M A_M v1 v2 v3 hw
  unfold wp_M_takeBinary_b60 at hw
  refine vv_iconst hC d_M_takeBinary_60 (v := (0 : Int32)) (by decide) ?_
  refine vv_istore hC d_M_takeBinary_61 (by decide) [1, 2, 3, 4, 0] (L2 := [(0, .ref (a_M 0)), (1, .int v1), (2, .int v2), (3, .int v3), (4, .int (0 : Int32))]) rfl ?_
  exact vv_sub [0, 1, 2, 3, 4] (by rfl) (l_M_takeBinary_b63 a_M Q K2 X2 hC hK2 hX2 I_M A_M v1 v2 v3 (0 : Int32) hw)
set_option maxHeartbeats 4000000 in
set_option maxRecDepth 100000 in
theorem l_M_takeBinary_b33 {p : Program} {l : Launch} {e : Env} {s : State} {m : MethodId} {args : Array Value} {below : List Frame} {meth : Method} {c : Code} {D : va_G} {cA : Nat → ClassId} {sx : Nat → Nat} {A : Nat → Prop} (a_M : Nat → Nat) (Q : (Nat → Int32) → (Nat → Nat → Int32) → Prop) (K2 : (Nat → Int32) → (Nat → Nat → Int32) → Int32 → Prop) (X2 : (Nat → Int32) → (Nat → Nat → Int32) → Prop) (hC : CX p s m args meth c b_M_takeBinary R_M TB 5 D vwCl (tyl cA) A (SPl sx) none) (hK2 : ∀ (I_M : (Nat → Int32)) (A_M : (Nat → Nat → Int32)) (v1 : Int32), K2 I_M A_M v1 → VV p l e ({ frames := 5, cells := 0, slots := 0, locals := 103 } : Room) s m args below meth c 5 D vwCl A 0 0 (QV below args s D vwCl (tyl cA) A (fun (u : (Nat → Int32) × (Nat → Nat → Int32)) => Q u.1 u.2) (fun u : (Nat → Int32) × (Nat → Nat → Int32) => kc_M cA a_M u.1 u.2)) (kc_M cA a_M I_M A_M) 2 [(0, .ref (a_M 0)), (1, .int v1)] []) (hX2 : ∀ (I_M : (Nat → Int32)) (A_M : (Nat → Nat → Int32)), X2 I_M A_M → VV p l e ({ frames := 5, cells := 0, slots := 0, locals := 103 } : Room) s m args below meth c 5 D vwCl A 0 0 (QV below args s D vwCl (tyl cA) A (fun (u : (Nat → Int32) × (Nat → Nat → Int32)) => Q u.1 u.2) (fun u : (Nat → Int32) × (Nat → Nat → Int32) => kc_M cA a_M u.1 u.2)) (kc_M cA a_M I_M A_M) 178 [(0, .ref (a_M 0))] []) : ∀ (I_M : (Nat → Int32)) (A_M : (Nat → Nat → Int32)) (v1 : Int32) (v2 : Int32) (v3 : Int32), wp_M_takeBinary_b33 Q K2 X2 I_M A_M v1 v2 v3 → VV p l e ({ frames := 5, cells := 0, slots := 0, locals := 103 } : Room) s m args below meth c 5 D vwCl A 0 0 (QV below args s D vwCl (tyl cA) A (fun (u : (Nat → Int32) × (Nat → Nat → Int32)) => Q u.1 u.2) (fun u : (Nat → Int32) × (Nat → Nat → Int32) => kc_M cA a_M u.1 u.2)) (kc_M cA a_M I_M A_M) 33 [(0, .ref (a_M 0)), (1, .int v1), (2, .int v2), (3, .int v3)] [] := by
  intro I_M A_M v1 v2 v3 hw
  unfold wp_M_takeBinary_b33 at hw
  refine vv_iload_n hC d_M_takeBinary_33 3 rfl rfl ?_
  refine vv_if_ne hC 60 d_M_takeBinary_34 (by decide) (fun cd => ?_) (fun cd => ?_)
  · have hw := hw.2 cd
    exact vv_sub [0, 1, 2, 3] (by rfl) (l_M_takeBinary_b60 a_M Q K2 X2 hC hK2 hX2 I_M A_M v1 v2 v3 hw)
  · have hw := hw.1 cd
    refine vv_iload_n hC d_M_takeBinary_37 2 rfl rfl ?_
    refine vv_aload_n hC d_M_takeBinary_38 0 rfl rfl ?_
    refine vv_get hC (v := .ref (a_M 3)) hin_M 0 10 tb_682 d_M_takeBinary_39 rfl rfl (by decide) rfl rfl ?_
    refine vv_bipush hC d_M_takeBinary_42 (v := (6 : Int32)) (by decide) ?_
    refine vv_iald hC 3 0 d_M_takeBinary_44 rfl rfl (vin_c (by decide)) ?_
    refine vv_aload_n hC d_M_takeBinary_45 0 rfl rfl ?_
    refine vv_get hC (v := .ref (a_M 3)) hin_M 0 10 tb_682 d_M_takeBinary_46 rfl rfl (by decide) rfl rfl ?_
    refine vv_bipush hC d_M_takeBinary_49 (v := (7 : Int32)) (by decide) ?_
    refine vv_iald hC 3 0 d_M_takeBinary_51 rfl rfl (vin_c (by decide)) ?_
    refine vv_iadd hC d_M_takeBinary_52 ?_
    refine vv_icmp_ge hC 60 d_M_takeBinary_53 (by decide) (fun cd => ?_) (fun cd => ?_)
    · have hw := hw.1 cd
      exact vv_sub [0, 1, 2, 3] (by rfl) (l_M_takeBinary_b60 a_M Q K2 X2 hC hK2 hX2 I_M A_M v1 v2 v3 hw)
    · have hw := hw.2 cd
      refine vv_iconst hC d_M_takeBinary_56 (v := (1 : Int32)) (by decide) ?_
      refine vv_goto hC 61 d_M_takeBinary_57 (by decide) ?_
      refine vv_istore hC d_M_takeBinary_61 (by decide) [1, 2, 3, 4, 0] (L2 := [(0, .ref (a_M 0)), (1, .int v1), (2, .int v2), (3, .int v3), (4, .int (1 : Int32))]) rfl ?_
      exact vv_sub [0, 1, 2, 3, 4] (by rfl) (l_M_takeBinary_b63 a_M Q K2 X2 hC hK2 hX2 I_M A_M v1 v2 v3 (1 : Int32) hw)
set_option maxHeartbeats 4000000 in
set_option maxRecDepth 100000 in
theorem l_M_takeBinary_L2 {p : Program} {l : Launch} {e : Env} {s : State} {m : MethodId} {args : Array Value} {below : List Frame} {meth : Method} {c : Code} {D : va_G} {cA : Nat → ClassId} {sx : Nat → Nat} {A : Nat → Prop} (a_M : Nat → Nat) (Q : (Nat → Int32) → (Nat → Nat → Int32) → Prop) (X2 : (Nat → Int32) → (Nat → Nat → Int32) → Prop) (hC : CX p s m args meth c b_M_takeBinary R_M TB 5 D vwCl (tyl cA) A (SPl sx) none) (hX2 : ∀ (I_M : (Nat → Int32)) (A_M : (Nat → Nat → Int32)), X2 I_M A_M → VV p l e ({ frames := 5, cells := 0, slots := 0, locals := 103 } : Room) s m args below meth c 5 D vwCl A 0 0 (QV below args s D vwCl (tyl cA) A (fun (u : (Nat → Int32) × (Nat → Nat → Int32)) => Q u.1 u.2) (fun u : (Nat → Int32) × (Nat → Nat → Int32) => kc_M cA a_M u.1 u.2)) (kc_M cA a_M I_M A_M) 178 [(0, .ref (a_M 0))] []) : ∀ (n2 : Nat) (I_M : (Nat → Int32)) (A_M : (Nat → Nat → Int32)) (v1 : Int32), wp_M_takeBinary_L2 Q X2 n2 I_M A_M v1 → VV p l e ({ frames := 5, cells := 0, slots := 0, locals := 103 } : Room) s m args below meth c 5 D vwCl A 0 0 (QV below args s D vwCl (tyl cA) A (fun (u : (Nat → Int32) × (Nat → Nat → Int32)) => Q u.1 u.2) (fun u : (Nat → Int32) × (Nat → Nat → Int32) => kc_M cA a_M u.1 u.2)) (kc_M cA a_M I_M A_M) 2 [(0, .ref (a_M 0)), (1, .int v1)] [] := by
  intro n2
  induction n2 with
  | zero =>
    intro I_M A_M v1 hw
    exact absurd hw (fun z => z)
  | succ n2 ih =>
    intro I_M A_M v1 hw
    unfold wp_M_takeBinary_L2 at hw
    refine vv_iload_n hC d_M_takeBinary_2 1 rfl rfl ?_
    refine vv_aload_n hC d_M_takeBinary_3 0 rfl rfl ?_
    refine vv_get hC (v := .ref (a_M 3)) hin_M 0 10 tb_682 d_M_takeBinary_4 rfl rfl (by decide) rfl rfl ?_
    refine vv_iconst hC d_M_takeBinary_7 (v := (5 : Int32)) (by decide) ?_
    refine vv_iald hC 3 0 d_M_takeBinary_8 rfl rfl (vin_c (by decide)) ?_
    refine vv_icmp_gt hC 178 d_M_takeBinary_9 (by decide) (fun cd => ?_) (fun cd => ?_)
    · have hw := hw.1 cd
      exact vv_sub [0] (by rfl) (hX2 I_M A_M hw)
    · have hw := hw.2 cd
      refine vv_iload_n hC d_M_takeBinary_12 1 rfl rfl ?_
      refine vv_iconst hC d_M_takeBinary_13 (v := (1 : Int32)) (by decide) ?_
      refine vv_isub hC d_M_takeBinary_14 ?_
      refine vv_istore_n hC d_M_takeBinary_15 rfl (by decide) [1, 2, 0] (L2 := [(0, .ref (a_M 0)), (1, .int v1), (2, .int (v1 - (1 : Int32)))]) rfl ?_
      refine vv_iload_n hC d_M_takeBinary_16 2 rfl rfl ?_
      refine vv_aload_n hC d_M_takeBinary_17 0 rfl rfl ?_
      refine vv_get hC (v := .ref (a_M 3)) hin_M 0 10 tb_682 d_M_takeBinary_18 rfl rfl (by decide) rfl rfl ?_
      refine vv_bipush hC d_M_takeBinary_21 (v := (6 : Int32)) (by decide) ?_
      refine vv_iald hC 3 0 d_M_takeBinary_23 rfl rfl (vin_c (by decide)) ?_
      refine vv_icmp_ge hC 31 d_M_takeBinary_24 (by decide) (fun cd => ?_) (fun cd => ?_)
      · have hw := hw.1 cd
        refine vv_iconst hC d_M_takeBinary_31 (v := (0 : Int32)) (by decide) ?_
        refine vv_istore_n hC d_M_takeBinary_32 rfl (by decide) [1, 2, 3, 0] (L2 := [(0, .ref (a_M 0)), (1, .int v1), (2, .int (v1 - (1 : Int32))), (3, .int (0 : Int32))]) rfl ?_
        exact vv_sub [0, 1, 2, 3] (by rfl) (l_M_takeBinary_b33 a_M Q (wp_M_takeBinary_L2 Q X2 n2) X2 hC ih hX2 I_M A_M v1 (v1 - (1 : Int32)) (0 : Int32) hw)
      · have hw := hw.2 cd
        refine vv_iconst hC d_M_takeBinary_27 (v := (1 : Int32)) (by decide) ?_
        refine vv_goto hC 32 d_M_takeBinary_28 (by decide) ?_
        refine vv_istore_n hC d_M_takeBinary_32 rfl (by decide) [1, 2, 3, 0] (L2 := [(0, .ref (a_M 0)), (1, .int v1), (2, .int (v1 - (1 : Int32))), (3, .int (1 : Int32))]) rfl ?_
        exact vv_sub [0, 1, 2, 3] (by rfl) (l_M_takeBinary_b33 a_M Q (wp_M_takeBinary_L2 Q X2 n2) X2 hC ih hX2 I_M A_M v1 (v1 - (1 : Int32)) (1 : Int32) hw)
set_option maxHeartbeats 4000000 in
set_option maxRecDepth 100000 in
theorem l_M_takeBinary_L180 {p : Program} {l : Launch} {e : Env} {s : State} {m : MethodId} {args : Array Value} {below : List Frame} {meth : Method} {c : Code} {D : va_G} {cA : Nat → ClassId} {sx : Nat → Nat} {A : Nat → Prop} (a_M : Nat → Nat) (Q : (Nat → Int32) → (Nat → Nat → Int32) → Prop) (X180 : (Nat → Int32) → (Nat → Nat → Int32) → Prop) (hC : CX p s m args meth c b_M_takeBinary R_M TB 5 D vwCl (tyl cA) A (SPl sx) none) (hX180 : ∀ (I_M : (Nat → Int32)) (A_M : (Nat → Nat → Int32)), X180 I_M A_M → VV p l e ({ frames := 5, cells := 0, slots := 0, locals := 103 } : Room) s m args below meth c 5 D vwCl A 0 0 (QV below args s D vwCl (tyl cA) A (fun (u : (Nat → Int32) × (Nat → Nat → Int32)) => Q u.1 u.2) (fun u : (Nat → Int32) × (Nat → Nat → Int32) => kc_M cA a_M u.1 u.2)) (kc_M cA a_M I_M A_M) 209 [(0, .ref (a_M 0))] []) : ∀ (n180 : Nat) (I_M : (Nat → Int32)) (A_M : (Nat → Nat → Int32)) (v1 : Int32), wp_M_takeBinary_L180 Q X180 n180 I_M A_M v1 → VV p l e ({ frames := 5, cells := 0, slots := 0, locals := 103 } : Room) s m args below meth c 5 D vwCl A 0 0 (QV below args s D vwCl (tyl cA) A (fun (u : (Nat → Int32) × (Nat → Nat → Int32)) => Q u.1 u.2) (fun u : (Nat → Int32) × (Nat → Nat → Int32) => kc_M cA a_M u.1 u.2)) (kc_M cA a_M I_M A_M) 180 [(0, .ref (a_M 0)), (1, .int v1)] [] := by
  intro n180
  induction n180 with
  | zero =>
    intro I_M A_M v1 hw
    exact absurd hw (fun z => z)
  | succ n180 ih =>
    intro I_M A_M v1 hw
    unfold wp_M_takeBinary_L180 at hw
    refine vv_iload_n hC d_M_takeBinary_180 1 rfl rfl ?_
    refine vv_aload_n hC d_M_takeBinary_181 0 rfl rfl ?_
    refine vv_get hC (v := .ref (a_M 3)) hin_M 0 10 tb_682 d_M_takeBinary_182 rfl rfl (by decide) rfl rfl ?_
    refine vv_bipush hC d_M_takeBinary_185 (v := (7 : Int32)) (by decide) ?_
    refine vv_iald hC 3 0 d_M_takeBinary_187 rfl rfl (vin_c (by decide)) ?_
    refine vv_icmp_ge hC 209 d_M_takeBinary_188 (by decide) (fun cd => ?_) (fun cd => ?_)
    · have hw := hw.1 cd
      exact vv_sub [0] (by rfl) (hX180 I_M A_M hw)
    · have hw := hw.2 cd
      refine vv_aload_n hC d_M_takeBinary_191 0 rfl rfl ?_
      refine vv_get hC (v := .int (I_M 5)) hin_M 0 7 tb_679 d_M_takeBinary_192 rfl rfl (by decide) rfl rfl ?_
      refine vv_if_ne hC 209 d_M_takeBinary_195 (by decide) (fun cd => ?_) (fun cd => ?_)
      · have hw := hw.2 cd
        exact vv_sub [0] (by rfl) (hX180 I_M A_M hw)
      · have hw := hw.1 cd
        refine vv_aload_n hC d_M_takeBinary_198 0 rfl rfl ?_
        refine vv_iload_n hC d_M_takeBinary_199 1 rfl rfl ?_
        refine vv_callVV (wr := []) hC (c_M_takeNext l D cA sx a_M I_M A_M v1 _ hw) (cw_M_133 hC) d_M_takeBinary_200 [] [0, 1, 2, 3, 4, 5, 6, 7, 8, 9, 10, 11, 12, 13, 14, 15, 16, 17, 18, 19, 20, 21, 22, 23] [] [0, 1, 2, 3, 4, 5, 6, 7, 8, 9, 10, 11, 12, 13, 14, 15, 16, 17, 18, 19, 20, 21, 22, 23] (fun u_23 : (Nat → Int32) × (Nat → Nat → Int32) => kc_M cA a_M u_23.1 u_23.2) ⟨Nat.zero_le _, Nat.zero_le _⟩ rfl rfl (fun _ => rfl) rfl rfl rfl rfl rfl rfl rfl rfl (Nat.le_of_ble_eq_true rfl) (fun u_23 hw => ?_)
        refine vv_iinc hC d_M_takeBinary_203 1 rfl (v := (v1 + (1 : Int32))) rfl (by decide) [1, 0] (L2 := [(0, .ref (a_M 0)), (1, .int (v1 + (1 : Int32)))]) rfl ?_
        refine vv_goto hC 180 d_M_takeBinary_206 (by decide) ?_
        exact vv_sub [0, 1] (by rfl) (ih u_23.1 u_23.2 (v1 + (1 : Int32)) hw)
set_option maxHeartbeats 4000000 in
set_option maxRecDepth 100000 in
theorem l_M_takeBinary_L215 {p : Program} {l : Launch} {e : Env} {s : State} {m : MethodId} {args : Array Value} {below : List Frame} {meth : Method} {c : Code} {D : va_G} {cA : Nat → ClassId} {sx : Nat → Nat} {A : Nat → Prop} (a_M : Nat → Nat) (Q : (Nat → Int32) → (Nat → Nat → Int32) → Prop) (X215 : (Nat → Int32) → (Nat → Nat → Int32) → Prop) (hC : CX p s m args meth c b_M_takeBinary R_M TB 5 D vwCl (tyl cA) A (SPl sx) none) (hX215 : ∀ (I_M : (Nat → Int32)) (A_M : (Nat → Nat → Int32)), X215 I_M A_M → VV p l e ({ frames := 5, cells := 0, slots := 0, locals := 103 } : Room) s m args below meth c 5 D vwCl A 0 0 (QV below args s D vwCl (tyl cA) A (fun (u : (Nat → Int32) × (Nat → Nat → Int32)) => Q u.1 u.2) (fun u : (Nat → Int32) × (Nat → Nat → Int32) => kc_M cA a_M u.1 u.2)) (kc_M cA a_M I_M A_M) 351 [] []) : ∀ (n215 : Nat) (I_M : (Nat → Int32)) (A_M : (Nat → Nat → Int32)) (v1 : Int32), wp_M_takeBinary_L215 Q X215 n215 I_M A_M v1 → VV p l e ({ frames := 5, cells := 0, slots := 0, locals := 103 } : Room) s m args below meth c 5 D vwCl A 0 0 (QV below args s D vwCl (tyl cA) A (fun (u : (Nat → Int32) × (Nat → Nat → Int32)) => Q u.1 u.2) (fun u : (Nat → Int32) × (Nat → Nat → Int32) => kc_M cA a_M u.1 u.2)) (kc_M cA a_M I_M A_M) 215 [(0, .ref (a_M 0)), (1, .int v1)] [] := by
  intro n215
  induction n215 with
  | zero =>
    intro I_M A_M v1 hw
    exact absurd hw (fun z => z)
  | succ n215 ih =>
    intro I_M A_M v1 hw
    unfold wp_M_takeBinary_L215 at hw
    refine vv_iload_n hC d_M_takeBinary_215 1 rfl rfl ?_
    refine vv_aload_n hC d_M_takeBinary_216 0 rfl rfl ?_
    refine vv_get hC (v := .ref (a_M 3)) hin_M 0 10 tb_682 d_M_takeBinary_217 rfl rfl (by decide) rfl rfl ?_
    refine vv_bipush hC d_M_takeBinary_220 (v := (9 : Int32)) (by decide) ?_
    refine vv_iald hC 3 0 d_M_takeBinary_222 rfl rfl (vin_c (by decide)) ?_
    refine vv_icmp_ge hC 351 d_M_takeBinary_223 (by decide) (fun cd => ?_) (fun cd => ?_)
    · have hw := hw.1 cd
      exact vv_sub [] (by rfl) (hX215 I_M A_M hw)
    · have hw := hw.2 cd
      refine vv_aload_n hC d_M_takeBinary_226 0 rfl rfl ?_
      refine vv_get hC (v := .int (I_M 5)) hin_M 0 7 tb_679 d_M_takeBinary_227 rfl rfl (by decide) rfl rfl ?_
      refine vv_if_ne hC 351 d_M_takeBinary_230 (by decide) (fun cd => ?_) (fun cd => ?_)
      · have hw := hw.2 cd
        exact vv_sub [] (by rfl) (hX215 I_M A_M hw)
      · have hw := hw.1 cd
        refine vv_aload_n hC d_M_takeBinary_233 0 rfl rfl ?_
        refine vv_get hC (v := .ref (a_M 8)) hin_M 0 15 tb_687 d_M_takeBinary_234 rfl rfl (by decide) rfl rfl ?_
        refine vv_sipush hC d_M_takeBinary_237 (v := (300 : Int32)) (by decide) ?_
        refine vv_iload_n hC d_M_takeBinary_240 1 rfl rfl ?_
        refine vv_iadd hC d_M_takeBinary_241 ?_
        refine vv_iconst hC d_M_takeBinary_242 (v := (2 : Int32)) (by decide) ?_
        refine vv_aload_n hC d_M_takeBinary_243 0 rfl rfl ?_
        refine vv_get hC (v := .ref (a_M 3)) hin_M 0 10 tb_682 d_M_takeBinary_244 rfl rfl (by decide) rfl rfl ?_
        refine vv_bipush hC d_M_takeBinary_247 (v := (6 : Int32)) (by decide) ?_
        refine vv_iald hC 3 0 d_M_takeBinary_249 rfl rfl (vin_c (by decide)) ?_
        refine vv_aload_n hC d_M_takeBinary_250 0 rfl rfl ?_
        refine vv_get hC (v := .ref (a_M 3)) hin_M 0 10 tb_682 d_M_takeBinary_251 rfl rfl (by decide) rfl rfl ?_
        refine vv_bipush hC d_M_takeBinary_254 (v := (7 : Int32)) (by decide) ?_
        refine vv_iald hC 3 0 d_M_takeBinary_256 rfl rfl (vin_c (by decide)) ?_
        refine vv_iadd hC d_M_takeBinary_257 ?_
        refine vv_iload_n hC d_M_takeBinary_258 1 rfl rfl ?_
        refine vv_iadd hC d_M_takeBinary_259 ?_
        refine vv_iconst hC d_M_takeBinary_260 (v := (1 : Int32)) (by decide) ?_
        refine vv_iadd hC d_M_takeBinary_261 ?_
        refine vv_imul hC d_M_takeBinary_262 ?_
        obtain ⟨hin_31, hw⟩ := hw
        refine vv_iast hC 8 0 d_M_takeBinary_263 rfl rfl hin_31 (ws2 := kc_M cA a_M I_M (va_up A_M 7 (upd (A_M 7) (((300 : Int32) + v1)).toNatClampNeg ((2 : Int32) * (((((A_M 2) ((6 : Int32)).toNatClampNeg) + ((A_M 2) ((7 : Int32)).toNatClampNeg)) + v1) + (1 : Int32)))))) (st_M_MA7 ..) ?_
        refine vv_aload_n hC d_M_takeBinary_264 0 rfl rfl ?_
        refine vv_get hC (v := .ref (a_M 15)) hin_M 0 22 tb_694 d_M_takeBinary_265 rfl rfl (by decide) rfl rfl ?_
        refine vv_iload_n hC d_M_takeBinary_268 1 rfl rfl ?_
        refine vv_aload_n hC d_M_takeBinary_269 0 rfl rfl ?_
        refine vv_get hC (v := .int (I_M 4)) hin_M 0 6 tb_678 d_M_takeBinary_270 rfl rfl (by decide) rfl rfl ?_
        obtain ⟨hin_32, hw⟩ := hw
        refine vv_iast hC 15 0 d_M_takeBinary_273 rfl rfl hin_32 (ws2 := kc_M cA a_M I_M (va_up (va_up A_M 7 (upd (A_M 7) (((300 : Int32) + v1)).toNatClampNeg ((2 : Int32) * (((((A_M 2) ((6 : Int32)).toNatClampNeg) + ((A_M 2) ((7 : Int32)).toNatClampNeg)) + v1) + (1 : Int32))))) 14 (upd (A_M 14) (v1).toNatClampNeg (I_M 4)))) (st_M_MA14 ..) ?_
        refine vv_aload_n hC d_M_takeBinary_274 0 rfl rfl ?_
        refine vv_get hC (v := .ref (a_M 9)) hin_M 0 16 tb_688 d_M_takeBinary_275 rfl rfl (by decide) rfl rfl ?_
        refine vv_sipush hC d_M_takeBinary_278 (v := (300 : Int32)) (by decide) ?_
        refine vv_iload_n hC d_M_takeBinary_281 1 rfl rfl ?_
        refine vv_iadd hC d_M_takeBinary_282 ?_
        refine vv_aload_n hC d_M_takeBinary_283 0 rfl rfl ?_
        refine vv_aload_n hC d_M_takeBinary_284 0 rfl rfl ?_
        refine vv_get hC (v := .ref (a_M 8)) hin_M 0 15 tb_687 d_M_takeBinary_285 rfl rfl (by decide) rfl rfl ?_
        refine vv_sipush hC d_M_takeBinary_288 (v := (300 : Int32)) (by decide) ?_
        refine vv_iload_n hC d_M_takeBinary_291 1 rfl rfl ?_
        refine vv_iadd hC d_M_takeBinary_292 ?_
        refine vv_iald hC 8 0 d_M_takeBinary_293 rfl rfl hin_31 ?_
        refine vv_iconst hC d_M_takeBinary_294 (v := (1 : Int32)) (by decide) ?_
        refine vv_callVI (wr := []) hC (c_M_delta l D cA sx a_M I_M (va_up (va_up A_M 7 (upd (A_M 7) (((300 : Int32) + v1)).toNatClampNeg ((2 : Int32) * (((((A_M 2) ((6 : Int32)).toNatClampNeg) + ((A_M 2) ((7 : Int32)).toNatClampNeg)) + v1) + (1 : Int32))))) 14 (upd (A_M 14) (v1).toNatClampNeg (I_M 4))) ((upd (A_M 7) (((300 : Int32) + v1)).toNatClampNeg ((2 : Int32) * (((((A_M 2) ((6 : Int32)).toNatClampNeg) + ((A_M 2) ((7 : Int32)).toNatClampNeg)) + v1) + (1 : Int32)))) (((300 : Int32) + v1)).toNatClampNeg) (1 : Int32) _ hw) (cw_M_139 hC) d_M_takeBinary_295 [.int ((300 : Int32) + v1), .ref (a_M 9)] [0, 1, 2, 3, 4, 5, 6, 7, 8, 9, 10, 11, 12, 13, 14, 15, 16, 17, 18, 19, 20, 21, 22, 23] [] [0, 1, 2, 3, 4, 5, 6, 7, 8, 9, 10, 11, 12, 13, 14, 15, 16, 17, 18, 19, 20, 21, 22, 23] (fun u_34 : (Nat → Int32) => kc_M cA a_M u_34 (va_up (va_up A_M 7 (upd (A_M 7) (((300 : Int32) + v1)).toNatClampNeg ((2 : Int32) * (((((A_M 2) ((6 : Int32)).toNatClampNeg) + ((A_M 2) ((7 : Int32)).toNatClampNeg)) + v1) + (1 : Int32))))) 14 (upd (A_M 14) (v1).toNatClampNeg (I_M 4)))) ⟨Nat.zero_le _, Nat.zero_le _⟩ rfl rfl (fun _ => rfl) rfl rfl rfl rfl rfl rfl rfl rfl (Nat.le_of_ble_eq_true rfl) (fun r_33 u_34 hw => ?_)
        refine vv_iast hC 9 0 d_M_takeBinary_298 rfl rfl hin_31 (ws2 := kc_M cA a_M u_34 (va_up (va_up (va_up A_M 7 (upd (A_M 7) (((300 : Int32) + v1)).toNatClampNeg ((2 : Int32) * (((((A_M 2) ((6 : Int32)).toNatClampNeg) + ((A_M 2) ((7 : Int32)).toNatClampNeg)) + v1) + (1 : Int32))))) 14 (upd (A_M 14) (v1).toNatClampNeg (I_M 4))) 8 (upd (A_M 8) (((300 : Int32) + v1)).toNatClampNeg r_33))) (st_M_MA8 ..) ?_
        refine vv_aload_n hC d_M_takeBinary_299 0 rfl rfl ?_
        refine vv_get hC (v := .ref (a_M 16)) hin_M 0 23 tb_695 d_M_takeBinary_300 rfl rfl (by decide) rfl rfl ?_
        refine vv_iload_n hC d_M_takeBinary_303 1 rfl rfl ?_
        refine vv_aload_n hC d_M_takeBinary_304 0 rfl rfl ?_
        refine vv_get hC (v := .int (u_34 4)) hin_M 0 6 tb_678 d_M_takeBinary_305 rfl rfl (by decide) rfl rfl ?_
        refine vv_iast hC 16 0 d_M_takeBinary_308 rfl rfl hin_32 (ws2 := kc_M cA a_M u_34 (va_up (va_up (va_up (va_up A_M 7 (upd (A_M 7) (((300 : Int32) + v1)).toNatClampNeg ((2 : Int32) * (((((A_M 2) ((6 : Int32)).toNatClampNeg) + ((A_M 2) ((7 : Int32)).toNatClampNeg)) + v1) + (1 : Int32))))) 14 (upd (A_M 14) (v1).toNatClampNeg (I_M 4))) 8 (upd (A_M 8) (((300 : Int32) + v1)).toNatClampNeg r_33)) 15 (upd (A_M 15) (v1).toNatClampNeg (u_34 4)))) (st_M_MA15 ..) ?_
        refine vv_aload_n hC d_M_takeBinary_309 0 rfl rfl ?_
        refine vv_get hC (v := .ref (a_M 10)) hin_M 0 17 tb_689 d_M_takeBinary_310 rfl rfl (by decide) rfl rfl ?_
        refine vv_sipush hC d_M_takeBinary_313 (v := (300 : Int32)) (by decide) ?_
        refine vv_iload_n hC d_M_takeBinary_316 1 rfl rfl ?_
        refine vv_iadd hC d_M_takeBinary_317 ?_
        refine vv_aload_n hC d_M_takeBinary_318 0 rfl rfl ?_
        refine vv_get hC (v := .int (u_34 5)) hin_M 0 7 tb_679 d_M_takeBinary_319 rfl rfl (by decide) rfl rfl ?_
        refine vv_if_ne hC 343 d_M_takeBinary_322 (by decide) (fun cd => ?_) (fun cd => ?_)
        · have hw := hw.2 cd
          refine vv_iconst hC d_M_takeBinary_343 (v := (0 : Int32)) (by decide) ?_
          refine vv_iast hC 10 0 d_M_takeBinary_344 rfl rfl hin_31 (ws2 := kc_M cA a_M u_34 (va_up (va_up (va_up (va_up (va_up A_M 7 (upd (A_M 7) (((300 : Int32) + v1)).toNatClampNeg ((2 : Int32) * (((((A_M 2) ((6 : Int32)).toNatClampNeg) + ((A_M 2) ((7 : Int32)).toNatClampNeg)) + v1) + (1 : Int32))))) 14 (upd (A_M 14) (v1).toNatClampNeg (I_M 4))) 8 (upd (A_M 8) (((300 : Int32) + v1)).toNatClampNeg r_33)) 15 (upd (A_M 15) (v1).toNatClampNeg (u_34 4))) 9 (upd (A_M 9) (((300 : Int32) + v1)).toNatClampNeg (0 : Int32)))) (st_M_MA9 ..) ?_
          refine vv_iinc hC d_M_takeBinary_345 1 rfl (v := (v1 + (1 : Int32))) rfl (by decide) [1, 0] (L2 := [(0, .ref (a_M 0)), (1, .int (v1 + (1 : Int32)))]) rfl ?_
          refine vv_goto hC 215 d_M_takeBinary_348 (by decide) ?_
          exact vv_sub [0, 1] (by rfl) (ih u_34 (va_up (va_up (va_up (va_up (va_up A_M 7 (upd (A_M 7) (((300 : Int32) + v1)).toNatClampNeg ((2 : Int32) * (((((A_M 2) ((6 : Int32)).toNatClampNeg) + ((A_M 2) ((7 : Int32)).toNatClampNeg)) + v1) + (1 : Int32))))) 14 (upd (A_M 14) (v1).toNatClampNeg (I_M 4))) 8 (upd (A_M 8) (((300 : Int32) + v1)).toNatClampNeg r_33)) 15 (upd (A_M 15) (v1).toNatClampNeg (u_34 4))) 9 (upd (A_M 9) (((300 : Int32) + v1)).toNatClampNeg (0 : Int32))) (v1 + (1 : Int32)) hw)
        · have hw := hw.1 cd
          refine vv_aload_n hC d_M_takeBinary_325 0 rfl rfl ?_
          refine vv_aload_n hC d_M_takeBinary_326 0 rfl rfl ?_
          refine vv_get hC (v := .ref (a_M 9)) hin_M 0 16 tb_688 d_M_takeBinary_327 rfl rfl (by decide) rfl rfl ?_
          refine vv_sipush hC d_M_takeBinary_330 (v := (300 : Int32)) (by decide) ?_
          refine vv_iload_n hC d_M_takeBinary_333 1 rfl rfl ?_
          refine vv_iadd hC d_M_takeBinary_334 ?_
          refine vv_iald hC 9 0 d_M_takeBinary_335 rfl rfl hin_31 ?_
          refine vv_iconst hC d_M_takeBinary_336 (v := (0 : Int32)) (by decide) ?_
          refine vv_callVI (wr := []) hC (c_M_delta l D cA sx a_M u_34 (va_up (va_up (va_up (va_up A_M 7 (upd (A_M 7) (((300 : Int32) + v1)).toNatClampNeg ((2 : Int32) * (((((A_M 2) ((6 : Int32)).toNatClampNeg) + ((A_M 2) ((7 : Int32)).toNatClampNeg)) + v1) + (1 : Int32))))) 14 (upd (A_M 14) (v1).toNatClampNeg (I_M 4))) 8 (upd (A_M 8) (((300 : Int32) + v1)).toNatClampNeg r_33)) 15 (upd (A_M 15) (v1).toNatClampNeg (u_34 4))) ((upd (A_M 8) (((300 : Int32) + v1)).toNatClampNeg r_33) (((300 : Int32) + v1)).toNatClampNeg) (0 : Int32) _ hw) (cw_M_139 hC) d_M_takeBinary_337 [.int ((300 : Int32) + v1), .ref (a_M 10)] [0, 1, 2, 3, 4, 5, 6, 7, 8, 9, 10, 11, 12, 13, 14, 15, 16, 17, 18, 19, 20, 21, 22, 23] [] [0, 1, 2, 3, 4, 5, 6, 7, 8, 9, 10, 11, 12, 13, 14, 15, 16, 17, 18, 19, 20, 21, 22, 23] (fun u_37 : (Nat → Int32) => kc_M cA a_M u_37 (va_up (va_up (va_up (va_up A_M 7 (upd (A_M 7) (((300 : Int32) + v1)).toNatClampNeg ((2 : Int32) * (((((A_M 2) ((6 : Int32)).toNatClampNeg) + ((A_M 2) ((7 : Int32)).toNatClampNeg)) + v1) + (1 : Int32))))) 14 (upd (A_M 14) (v1).toNatClampNeg (I_M 4))) 8 (upd (A_M 8) (((300 : Int32) + v1)).toNatClampNeg r_33)) 15 (upd (A_M 15) (v1).toNatClampNeg (u_34 4)))) ⟨Nat.zero_le _, Nat.zero_le _⟩ rfl rfl (fun _ => rfl) rfl rfl rfl rfl rfl rfl rfl rfl (Nat.le_of_ble_eq_true rfl) (fun r_36 u_37 hw => ?_)
          refine vv_goto hC 344 d_M_takeBinary_340 (by decide) ?_
          refine vv_iast hC 10 0 d_M_takeBinary_344 rfl rfl hin_31 (ws2 := kc_M cA a_M u_37 (va_up (va_up (va_up (va_up (va_up A_M 7 (upd (A_M 7) (((300 : Int32) + v1)).toNatClampNeg ((2 : Int32) * (((((A_M 2) ((6 : Int32)).toNatClampNeg) + ((A_M 2) ((7 : Int32)).toNatClampNeg)) + v1) + (1 : Int32))))) 14 (upd (A_M 14) (v1).toNatClampNeg (I_M 4))) 8 (upd (A_M 8) (((300 : Int32) + v1)).toNatClampNeg r_33)) 15 (upd (A_M 15) (v1).toNatClampNeg (u_34 4))) 9 (upd (A_M 9) (((300 : Int32) + v1)).toNatClampNeg r_36))) (st_M_MA9 ..) ?_
          refine vv_iinc hC d_M_takeBinary_345 1 rfl (v := (v1 + (1 : Int32))) rfl (by decide) [1, 0] (L2 := [(0, .ref (a_M 0)), (1, .int (v1 + (1 : Int32)))]) rfl ?_
          refine vv_goto hC 215 d_M_takeBinary_348 (by decide) ?_
          exact vv_sub [0, 1] (by rfl) (ih u_37 (va_up (va_up (va_up (va_up (va_up A_M 7 (upd (A_M 7) (((300 : Int32) + v1)).toNatClampNeg ((2 : Int32) * (((((A_M 2) ((6 : Int32)).toNatClampNeg) + ((A_M 2) ((7 : Int32)).toNatClampNeg)) + v1) + (1 : Int32))))) 14 (upd (A_M 14) (v1).toNatClampNeg (I_M 4))) 8 (upd (A_M 8) (((300 : Int32) + v1)).toNatClampNeg r_33)) 15 (upd (A_M 15) (v1).toNatClampNeg (u_34 4))) 9 (upd (A_M 9) (((300 : Int32) + v1)).toNatClampNeg r_36)) (v1 + (1 : Int32)) hw)
set_option maxHeartbeats 4000000 in
set_option maxRecDepth 100000 in
theorem c_M_takeBinary (l : Launch) (D : va_G) (cA : Nat → ClassId) (sx : Nat → Nat) (a_M : Nat → Nat) (I_M : (Nat → Int32)) (A_M : (Nat → Nat → Int32)) (Q : (Nat → Int32) → (Nat → Nat → Int32) → Prop) (hw : wp_M_takeBinary I_M A_M Q) : MetV l y_M_takeBinary (Cond.code y_M_takeBinary b_M_takeBinary 5 none :: TB) ({ frames := 5, cells := 0, slots := 0, locals := 103 } : Room) D vwCl (tyl cA) (SPl sx) [.ref (a_M 0)] (kc_M cA a_M I_M A_M) (fun (u : (Nat → Int32) × (Nat → Nat → Int32)) => Q u.1 u.2) (fun u : (Nat → Int32) × (Nat → Nat → Int32) => kc_M cA a_M u.1 u.2) := by
  refine vv_entryV (cc := b_M_takeBinary) (own := R_M) (L := [(0, .ref (a_M 0))]) (by decide) rfl rfl (Nat.le_of_ble_eq_true rfl) rfl (fun p e s m args below meth c A hC => ?_)
  unfold wp_M_takeBinary at hw
  refine vv_iconst hC d_M_takeBinary_0 (v := (1 : Int32)) (by decide) ?_
  refine vv_istore_n hC d_M_takeBinary_1 rfl (by decide) [1, 0] (L2 := [(0, .ref (a_M 0)), (1, .int (1 : Int32))]) rfl ?_
  obtain ⟨m2, hw⟩ := hw
  refine vv_sub [0, 1] (by rfl) (l_M_takeBinary_L2 a_M Q _ hC (fun I_M_21 A_M_22 hw => ?_) m2 I_M A_M (1 : Int32) hw)
  refine vv_iconst hC d_M_takeBinary_178 (v := (0 : Int32)) (by decide) ?_
  refine vv_istore_n hC d_M_takeBinary_179 rfl (by decide) [1, 0] (L2 := [(0, .ref (a_M 0)), (1, .int (0 : Int32))]) rfl ?_
  obtain ⟨m180, hw⟩ := hw
  refine vv_sub [0, 1] (by rfl) (l_M_takeBinary_L180 a_M Q _ hC (fun I_M_26 A_M_27 hw => ?_) m180 I_M_21 A_M_22 (0 : Int32) hw)
  refine vv_aload_n hC d_M_takeBinary_209 0 rfl rfl ?_
  refine vv_callVV (wr := []) hC (c_M_takeOutputs l D cA sx a_M I_M_26 A_M_27 _ hw) (cw_M_136 hC) d_M_takeBinary_210 [] [0, 1, 2, 3, 4, 5, 6, 7, 8, 9, 10, 11, 12, 13, 14, 15, 16, 17, 18, 19, 20, 21, 22, 23] [] [0, 1, 2, 3, 4, 5, 6, 7, 8, 9, 10, 11, 12, 13, 14, 15, 16, 17, 18, 19, 20, 21, 22, 23] (fun u_28 : (Nat → Int32) × (Nat → Nat → Int32) => kc_M cA a_M u_28.1 u_28.2) ⟨Nat.zero_le _, Nat.zero_le _⟩ rfl rfl (fun _ => rfl) rfl rfl rfl rfl rfl rfl rfl rfl (Nat.le_of_ble_eq_true rfl) (fun u_28 hw => ?_)
  refine vv_iconst hC d_M_takeBinary_213 (v := (0 : Int32)) (by decide) ?_
  refine vv_istore_n hC d_M_takeBinary_214 rfl (by decide) [1, 0] (L2 := [(0, .ref (a_M 0)), (1, .int (0 : Int32))]) rfl ?_
  obtain ⟨m215, hw⟩ := hw
  refine vv_sub [0, 1] (by rfl) (l_M_takeBinary_L215 a_M Q _ hC (fun I_M_39 A_M_40 hw => ?_) m215 u_28.1 u_28.2 (0 : Int32) hw)
  exact vv_vret hC d_M_takeBinary_351 (I_M_39, A_M_40) hw rfl
set_option maxHeartbeats 4000000 in
set_option maxRecDepth 100000 in
theorem l_M_takeSymbols_L150 {p : Program} {l : Launch} {e : Env} {s : State} {m : MethodId} {args : Array Value} {below : List Frame} {meth : Method} {c : Code} {D : va_G} {cA : Nat → ClassId} {sx : Nat → Nat} {A : Nat → Prop} (a_M : Nat → Nat) (Q : (Nat → Int32) → (Nat → Nat → Int32) → Prop) (K0 : (Nat → Int32) → (Nat → Nat → Int32) → Prop) (X0 : (Nat → Int32) → (Nat → Nat → Int32) → Prop) (X150 : (Nat → Int32) → (Nat → Nat → Int32) → Int32 → Prop) (hC : CX p s m args meth c b_M_takeSymbols R_M TB 3 D vwCl (tyl cA) A (SPl sx) none) (hK0 : ∀ (I_M : (Nat → Int32)) (A_M : (Nat → Nat → Int32)), K0 I_M A_M → VV p l e ({ frames := 3, cells := 0, slots := 0, locals := 61 } : Room) s m args below meth c 3 D vwCl A 0 0 (QV below args s D vwCl (tyl cA) A (fun (u : (Nat → Int32) × (Nat → Nat → Int32)) => Q u.1 u.2) (fun u : (Nat → Int32) × (Nat → Nat → Int32) => kc_M cA a_M u.1 u.2)) (kc_M cA a_M I_M A_M) 0 [(0, .ref (a_M 0))] []) (hX0 : ∀ (I_M : (Nat → Int32)) (A_M : (Nat → Nat → Int32)), X0 I_M A_M → VV p l e ({ frames := 3, cells := 0, slots := 0, locals := 61 } : Room) s m args below meth c 3 D vwCl A 0 0 (QV below args s D vwCl (tyl cA) A (fun (u : (Nat → Int32) × (Nat → Nat → Int32)) => Q u.1 u.2) (fun u : (Nat → Int32) × (Nat → Nat → Int32) => kc_M cA a_M u.1 u.2)) (kc_M cA a_M I_M A_M) 274 [(0, .ref (a_M 0))] []) (hX150 : ∀ (I_M : (Nat → Int32)) (A_M : (Nat → Nat → Int32)) (v2 : Int32), X150 I_M A_M v2 → VV p l e ({ frames := 3, cells := 0, slots := 0, locals := 61 } : Room) s m args below meth c 3 D vwCl A 0 0 (QV below args s D vwCl (tyl cA) A (fun (u : (Nat → Int32) × (Nat → Nat → Int32)) => Q u.1 u.2) (fun u : (Nat → Int32) × (Nat → Nat → Int32) => kc_M cA a_M u.1 u.2)) (kc_M cA a_M I_M A_M) 240 [(0, .ref (a_M 0)), (2, .int v2)] []) : ∀ (n150 : Nat) (I_M : (Nat → Int32)) (A_M : (Nat → Nat → Int32)) (v2 : Int32), wp_M_takeSymbols_L150 Q K0 X0 X150 n150 I_M A_M v2 → VV p l e ({ frames := 3, cells := 0, slots := 0, locals := 61 } : Room) s m args below meth c 3 D vwCl A 0 0 (QV below args s D vwCl (tyl cA) A (fun (u : (Nat → Int32) × (Nat → Nat → Int32)) => Q u.1 u.2) (fun u : (Nat → Int32) × (Nat → Nat → Int32) => kc_M cA a_M u.1 u.2)) (kc_M cA a_M I_M A_M) 150 [(0, .ref (a_M 0)), (2, .int v2)] [] := by
  intro n150
  induction n150 with
  | zero =>
    intro I_M A_M v2 hw
    exact absurd hw (fun z => z)
  | succ n150 ih =>
    intro I_M A_M v2 hw
    unfold wp_M_takeSymbols_L150 at hw
    refine vv_aload_n hC d_M_takeSymbols_150 0 rfl rfl ?_
    refine vv_get hC (v := .int (I_M 5)) hin_M 0 7 tb_679 d_M_takeSymbols_151 rfl rfl (by decide) rfl rfl ?_
    refine vv_if_ne hC 240 d_M_takeSymbols_154 (by decide) (fun cd => ?_) (fun cd => ?_)
    · have hw := hw.2 cd
      exact vv_sub [0, 1] (by rfl) (hX150 I_M A_M v2 hw)
    · have hw := hw.1 cd
      refine vv_aload_n hC d_M_takeSymbols_157 0 rfl rfl ?_
      refine vv_callVI (wr := []) hC (c_M_here l D cA sx a_M I_M A_M _ hw) (cw_M_100 hC) d_M_takeSymbols_158 [] [0, 1, 2, 3, 4, 5, 6, 7, 8, 9, 10, 11, 12, 13, 14, 15, 16, 17, 18, 19, 20, 21, 22, 23] [] [0, 1, 2, 3, 4, 5, 6, 7, 8, 9, 10, 11, 12, 13, 14, 15, 16, 17, 18, 19, 20, 21, 22, 23] (fun u_12 : Unit => kc_M cA a_M I_M A_M) ⟨Nat.zero_le _, Nat.zero_le _⟩ rfl rfl (fun _ => rfl) rfl rfl rfl rfl rfl rfl rfl rfl (Nat.le_of_ble_eq_true rfl) (fun r_11 u_12 hw => ?_)
      refine vv_if_lt hC 240 d_M_takeSymbols_161 (by decide) (fun cd => ?_) (fun cd => ?_)
      · have hw := hw.1 cd
        exact vv_sub [0, 1] (by rfl) (hX150 I_M A_M v2 hw)
      · have hw := hw.2 cd
        refine vv_aload_n hC d_M_takeSymbols_164 0 rfl rfl ?_
        refine vv_callVI (wr := []) hC (c_M_here l D cA sx a_M I_M A_M _ hw) (cw_M_100 hC) d_M_takeSymbols_165 [] [0, 1, 2, 3, 4, 5, 6, 7, 8, 9, 10, 11, 12, 13, 14, 15, 16, 17, 18, 19, 20, 21, 22, 23] [] [0, 1, 2, 3, 4, 5, 6, 7, 8, 9, 10, 11, 12, 13, 14, 15, 16, 17, 18, 19, 20, 21, 22, 23] (fun u_14 : Unit => kc_M cA a_M I_M A_M) ⟨Nat.zero_le _, Nat.zero_le _⟩ rfl rfl (fun _ => rfl) rfl rfl rfl rfl rfl rfl rfl rfl (Nat.le_of_ble_eq_true rfl) (fun r_13 u_14 hw => ?_)
        refine vv_bipush hC d_M_takeSymbols_168 (v := (10 : Int32)) (by decide) ?_
        refine vv_icmp_eq hC 240 d_M_takeSymbols_170 (by decide) (fun cd => ?_) (fun cd => ?_)
        · have hw := hw.1 cd
          exact vv_sub [0, 1] (by rfl) (hX150 I_M A_M v2 hw)
        · have hw := hw.2 cd
          refine vv_aload_n hC d_M_takeSymbols_173 0 rfl rfl ?_
          refine vv_get hC (v := .ref (a_M 18)) hin_M 0 25 tb_697 d_M_takeSymbols_174 rfl rfl (by decide) rfl rfl ?_
          refine vv_iload_n hC d_M_takeSymbols_177 1 rfl rfl ?_
          obtain ⟨hin_15, hw⟩ := hw
          refine vv_iald hC 18 0 d_M_takeSymbols_178 rfl rfl hin_15 ?_
          refine vv_bipush hC d_M_takeSymbols_179 (v := (40 : Int32)) (by decide) ?_
          refine vv_icmp_ne hC 196 d_M_takeSymbols_181 (by decide) (fun cd => ?_) (fun cd => ?_)
          · have hw := hw.2 cd
            refine vv_aload_n hC d_M_takeSymbols_196 0 rfl rfl ?_
            refine vv_get hC (v := .ref (a_M 17)) hin_M 0 24 tb_696 d_M_takeSymbols_197 rfl rfl (by decide) rfl rfl ?_
            refine vv_bipush hC d_M_takeSymbols_200 (v := (40 : Int32)) (by decide) ?_
            refine vv_iload_n hC d_M_takeSymbols_202 1 rfl rfl ?_
            refine vv_imul hC d_M_takeSymbols_203 ?_
            refine vv_aload_n hC d_M_takeSymbols_204 0 rfl rfl ?_
            refine vv_get hC (v := .ref (a_M 18)) hin_M 0 25 tb_697 d_M_takeSymbols_205 rfl rfl (by decide) rfl rfl ?_
            refine vv_iload_n hC d_M_takeSymbols_208 1 rfl rfl ?_
            refine vv_iald hC 18 0 d_M_takeSymbols_209 rfl rfl hin_15 ?_
            refine vv_iadd hC d_M_takeSymbols_210 ?_
            refine vv_aload_n hC d_M_takeSymbols_211 0 rfl rfl ?_
            refine vv_callVI (wr := []) hC (c_M_here l D cA sx a_M I_M A_M _ hw) (cw_M_100 hC) d_M_takeSymbols_212 [.int (((40 : Int32) * v2) + ((A_M 17) (v2).toNatClampNeg)), .ref (a_M 17)] [0, 1, 2, 3, 4, 5, 6, 7, 8, 9, 10, 11, 12, 13, 14, 15, 16, 17, 18, 19, 20, 21, 22, 23] [] [0, 1, 2, 3, 4, 5, 6, 7, 8, 9, 10, 11, 12, 13, 14, 15, 16, 17, 18, 19, 20, 21, 22, 23] (fun u_17 : Unit => kc_M cA a_M I_M A_M) ⟨Nat.zero_le _, Nat.zero_le _⟩ rfl rfl (fun _ => rfl) rfl rfl rfl rfl rfl rfl rfl rfl (Nat.le_of_ble_eq_true rfl) (fun r_16 u_17 hw => ?_)
            refine vv_i2b hC d_M_takeSymbols_215 ?_
            obtain ⟨hin_18, hw⟩ := hw
            refine vv_bast hC 17 2 d_M_takeSymbols_216 rfl rfl hin_18 (ws2 := kc_M cA a_M I_M (va_up A_M 16 (upd (A_M 16) ((((40 : Int32) * v2) + ((A_M 17) (v2).toNatClampNeg))).toNatClampNeg (vp_nar .byte (r_16).toInt8.toInt32)))) (st_M_MA16 ..) ?_
            refine vv_aload_n hC d_M_takeSymbols_217 0 rfl rfl ?_
            refine vv_get hC (v := .ref (a_M 18)) hin_M 0 25 tb_697 d_M_takeSymbols_218 rfl rfl (by decide) rfl rfl ?_
            refine vv_iload_n hC d_M_takeSymbols_221 1 rfl rfl ?_
            refine vv_dup2 hC d_M_takeSymbols_222 rfl rfl ?_
            refine vv_iald hC 18 0 d_M_takeSymbols_223 rfl rfl hin_15 ?_
            refine vv_iconst hC d_M_takeSymbols_224 (v := (1 : Int32)) (by decide) ?_
            refine vv_iadd hC d_M_takeSymbols_225 ?_
            refine vv_iast hC 18 0 d_M_takeSymbols_226 rfl rfl hin_15 (ws2 := kc_M cA a_M I_M (va_up (va_up A_M 16 (upd (A_M 16) ((((40 : Int32) * v2) + ((A_M 17) (v2).toNatClampNeg))).toNatClampNeg (vp_nar .byte (r_16).toInt8.toInt32))) 17 (upd (A_M 17) (v2).toNatClampNeg (((A_M 17) (v2).toNatClampNeg) + (1 : Int32))))) (st_M_MA17 ..) ?_
            refine vv_aload_n hC d_M_takeSymbols_227 0 rfl rfl ?_
            refine vv_dup hC d_M_takeSymbols_228 rfl ?_
            refine vv_get hC (v := .int (I_M 4)) hin_M 0 6 tb_678 d_M_takeSymbols_229 rfl rfl (by decide) rfl rfl ?_
            refine vv_iconst hC d_M_takeSymbols_232 (v := (1 : Int32)) (by decide) ?_
            refine vv_iadd hC d_M_takeSymbols_233 ?_
            refine vv_put hC hin_M ty_M tyok_M nmok_M 0 6 tb_678 d_M_takeSymbols_234 rfl rfl (by decide) rfl rfl rfl rfl rfl (Nat.le_of_ble_eq_true rfl) (ws2 := kc_M cA a_M (va_up I_M 4 ((I_M 4) + (1 : Int32))) (va_up (va_up A_M 16 (upd (A_M 16) ((((40 : Int32) * v2) + ((A_M 17) (v2).toNatClampNeg))).toNatClampNeg (vp_nar .byte (r_16).toInt8.toInt32))) 17 (upd (A_M 17) (v2).toNatClampNeg (((A_M 17) (v2).toNatClampNeg) + (1 : Int32))))) (st_M_MI4 ..) ?_
            refine vv_goto hC 150 d_M_takeSymbols_237 (by decide) ?_
            exact vv_sub [0, 1] (by rfl) (ih (va_up I_M 4 ((I_M 4) + (1 : Int32))) (va_up (va_up A_M 16 (upd (A_M 16) ((((40 : Int32) * v2) + ((A_M 17) (v2).toNatClampNeg))).toNatClampNeg (vp_nar .byte (r_16).toInt8.toInt32))) 17 (upd (A_M 17) (v2).toNatClampNeg (((A_M 17) (v2).toNatClampNeg) + (1 : Int32)))) v2 hw)
          · have hw := hw.1 cd
            refine vv_aload_n hC d_M_takeSymbols_184 0 rfl rfl ?_
            refine vv_iconst hC d_M_takeSymbols_185 (v := (1 : Int32)) (by decide) ?_
            refine vv_aload_n hC d_M_takeSymbols_186 0 rfl rfl ?_
            refine vv_get hC (v := .int (I_M 4)) hin_M 0 6 tb_678 d_M_takeSymbols_187 rfl rfl (by decide) rfl rfl ?_
            refine vv_callVV (wr := []) hC (c_M_wrong l D cA sx a_M I_M A_M (1 : Int32) (I_M 4) _ hw) (cw_M_104 hC) d_M_takeSymbols_190 [] [0, 1, 2, 3, 4, 5, 6, 7, 8, 9, 10, 11, 12, 13, 14, 15, 16, 17, 18, 19, 20, 21, 22, 23] [] [0, 1, 2, 3, 4, 5, 6, 7, 8, 9, 10, 11, 12, 13, 14, 15, 16, 17, 18, 19, 20, 21, 22, 23] (fun u_19 : (Nat → Int32) => kc_M cA a_M u_19 A_M) ⟨Nat.zero_le _, Nat.zero_le _⟩ rfl rfl (fun _ => rfl) rfl rfl rfl rfl rfl rfl rfl rfl (Nat.le_of_ble_eq_true rfl) (fun u_19 hw => ?_)
            refine vv_goto hC 150 d_M_takeSymbols_193 (by decide) ?_
            exact vv_sub [0, 1] (by rfl) (ih u_19 A_M v2 hw)
set_option maxHeartbeats 4000000 in
set_option maxRecDepth 100000 in
theorem l_M_takeSymbols_b265 {p : Program} {l : Launch} {e : Env} {s : State} {m : MethodId} {args : Array Value} {below : List Frame} {meth : Method} {c : Code} {D : va_G} {cA : Nat → ClassId} {sx : Nat → Nat} {A : Nat → Prop} (a_M : Nat → Nat) (Q : (Nat → Int32) → (Nat → Nat → Int32) → Prop) (K0 : (Nat → Int32) → (Nat → Nat → Int32) → Prop) (X0 : (Nat → Int32) → (Nat → Nat → Int32) → Prop) (hC : CX p s m args meth c b_M_takeSymbols R_M TB 3 D vwCl (tyl cA) A (SPl sx) none) (hK0 : ∀ (I_M : (Nat → Int32)) (A_M : (Nat → Nat → Int32)), K0 I_M A_M → VV p l e ({ frames := 3, cells := 0, slots := 0, locals := 61 } : Room) s m args below meth c 3 D vwCl A 0 0 (QV below args s D vwCl (tyl cA) A (fun (u : (Nat → Int32) × (Nat → Nat → Int32)) => Q u.1 u.2) (fun u : (Nat → Int32) × (Nat → Nat → Int32) => kc_M cA a_M u.1 u.2)) (kc_M cA a_M I_M A_M) 0 [(0, .ref (a_M 0))] []) (hX0 : ∀ (I_M : (Nat → Int32)) (A_M : (Nat → Nat → Int32)), X0 I_M A_M → VV p l e ({ frames := 3, cells := 0, slots := 0, locals := 61 } : Room) s m args below meth c 3 D vwCl A 0 0 (QV below args s D vwCl (tyl cA) A (fun (u : (Nat → Int32) × (Nat → Nat → Int32)) => Q u.1 u.2) (fun u : (Nat → Int32) × (Nat → Nat → Int32) => kc_M cA a_M u.1 u.2)) (kc_M cA a_M I_M A_M) 274 [(0, .ref (a_M 0))] []) : ∀ (I_M : (Nat → Int32)) (A_M : (Nat → Nat → Int32)), wp_M_takeSymbols_b265 Q K0 X0 I_M A_M → VV p l e ({ frames := 3, cells := 0, slots := 0, locals := 61 } : Room) s m args below meth c 3 D vwCl A 0 0 (QV below args s D vwCl (tyl cA) A (fun (u : (Nat → Int32) × (Nat → Nat → Int32)) => Q u.1 u.2) (fun u : (Nat → Int32) × (Nat → Nat → Int32) => kc_M cA a_M u.1 u.2)) (kc_M cA a_M I_M A_M) 265 [(0, .ref (a_M 0))] [] := by
  intro I_M A_M hw
  unfold wp_M_takeSymbols_b265 at hw
  refine vv_aload_n hC d_M_takeSymbols_265 0 rfl rfl ?_
  refine vv_bipush hC d_M_takeSymbols_266 (v := (10 : Int32)) (by decide) ?_
  refine vv_callVV (wr := []) hC (c_M_take l D cA sx a_M I_M A_M (10 : Int32) _ hw) (cw_M_125 hC) d_M_takeSymbols_268 [] [0, 1, 2, 3, 4, 5, 6, 7, 8, 9, 10, 11, 12, 13, 14, 15, 16, 17, 18, 19, 20, 21, 22, 23] [] [0, 1, 2, 3, 4, 5, 6, 7, 8, 9, 10, 11, 12, 13, 14, 15, 16, 17, 18, 19, 20, 21, 22, 23] (fun u_24 : (Nat → Int32) => kc_M cA a_M u_24 A_M) ⟨Nat.zero_le _, Nat.zero_le _⟩ rfl rfl (fun _ => rfl) rfl rfl rfl rfl rfl rfl rfl rfl (Nat.le_of_ble_eq_true rfl) (fun u_24 hw => ?_)
  refine vv_goto hC 0 d_M_takeSymbols_271 (by decide) ?_
  exact vv_sub [0] (by rfl) (hK0 u_24 A_M hw)
set_option maxHeartbeats 4000000 in
set_option maxRecDepth 100000 in
theorem l_M_takeSymbols_b135 {p : Program} {l : Launch} {e : Env} {s : State} {m : MethodId} {args : Array Value} {below : List Frame} {meth : Method} {c : Code} {D : va_G} {cA : Nat → ClassId} {sx : Nat → Nat} {A : Nat → Prop} (a_M : Nat → Nat) (Q : (Nat → Int32) → (Nat → Nat → Int32) → Prop) (K0 : (Nat → Int32) → (Nat → Nat → Int32) → Prop) (X0 : (Nat → Int32) → (Nat → Nat → Int32) → Prop) (hC : CX p s m args meth c b_M_takeSymbols R_M TB 3 D vwCl (tyl cA) A (SPl sx) none) (hK0 : ∀ (I_M : (Nat → Int32)) (A_M : (Nat → Nat → Int32)), K0 I_M A_M → VV p l e ({ frames := 3, cells := 0, slots := 0, locals := 61 } : Room) s m args below meth c 3 D vwCl A 0 0 (QV below args s D vwCl (tyl cA) A (fun (u : (Nat → Int32) × (Nat → Nat → Int32)) => Q u.1 u.2) (fun u : (Nat → Int32) × (Nat → Nat → Int32) => kc_M cA a_M u.1 u.2)) (kc_M cA a_M I_M A_M) 0 [(0, .ref (a_M 0))] []) (hX0 : ∀ (I_M : (Nat → Int32)) (A_M : (Nat → Nat → Int32)), X0 I_M A_M → VV p l e ({ frames := 3, cells := 0, slots := 0, locals := 61 } : Room) s m args below meth c 3 D vwCl A 0 0 (QV below args s D vwCl (tyl cA) A (fun (u : (Nat → Int32) × (Nat → Nat → Int32)) => Q u.1 u.2) (fun u : (Nat → Int32) × (Nat → Nat → Int32) => kc_M cA a_M u.1 u.2)) (kc_M cA a_M I_M A_M) 274 [(0, .ref (a_M 0))] []) : ∀ (I_M : (Nat → Int32)) (A_M : (Nat → Nat → Int32)) (v2 : Int32), wp_M_takeSymbols_b135 Q K0 X0 I_M A_M v2 → VV p l e ({ frames := 3, cells := 0, slots := 0, locals := 61 } : Room) s m args below meth c 3 D vwCl A 0 0 (QV below args s D vwCl (tyl cA) A (fun (u : (Nat → Int32) × (Nat → Nat → Int32)) => Q u.1 u.2) (fun u : (Nat → Int32) × (Nat → Nat → Int32) => kc_M cA a_M u.1 u.2)) (kc_M cA a_M I_M A_M) 135 [(0, .ref (a_M 0)), (2, .int v2)] [] := by
  intro I_M A_M v2 hw
  unfold wp_M_takeSymbols_b135 at hw
  refine vv_aload_n hC d_M_takeSymbols_135 0 rfl rfl ?_
  refine vv_iconst hC d_M_takeSymbols_136 (v := (1 : Int32)) (by decide) ?_
  refine vv_aload_n hC d_M_takeSymbols_137 0 rfl rfl ?_
  refine vv_get hC (v := .int (I_M 4)) hin_M 0 6 tb_678 d_M_takeSymbols_138 rfl rfl (by decide) rfl rfl ?_
  refine vv_callVV (wr := []) hC (c_M_wrong l D cA sx a_M I_M A_M (1 : Int32) (I_M 4) _ hw) (cw_M_104 hC) d_M_takeSymbols_141 [] [0, 1, 2, 3, 4, 5, 6, 7, 8, 9, 10, 11, 12, 13, 14, 15, 16, 17, 18, 19, 20, 21, 22, 23] [] [0, 1, 2, 3, 4, 5, 6, 7, 8, 9, 10, 11, 12, 13, 14, 15, 16, 17, 18, 19, 20, 21, 22, 23] (fun u_30 : (Nat → Int32) => kc_M cA a_M u_30 A_M) ⟨Nat.zero_le _, Nat.zero_le _⟩ rfl rfl (fun _ => rfl) rfl rfl rfl rfl rfl rfl rfl rfl (Nat.le_of_ble_eq_true rfl) (fun u_30 hw => ?_)
  refine vv_aload_n hC d_M_takeSymbols_144 0 rfl rfl ?_
  refine vv_bipush hC d_M_takeSymbols_145 (v := (32 : Int32)) (by decide) ?_
  refine vv_callVV (wr := []) hC (c_M_take l D cA sx a_M u_30 A_M (32 : Int32) _ hw) (cw_M_125 hC) d_M_takeSymbols_147 [] [0, 1, 2, 3, 4, 5, 6, 7, 8, 9, 10, 11, 12, 13, 14, 15, 16, 17, 18, 19, 20, 21, 22, 23] [] [0, 1, 2, 3, 4, 5, 6, 7, 8, 9, 10, 11, 12, 13, 14, 15, 16, 17, 18, 19, 20, 21, 22, 23] (fun u_32 : (Nat → Int32) => kc_M cA a_M u_32 A_M) ⟨Nat.zero_le _, Nat.zero_le _⟩ rfl rfl (fun _ => rfl) rfl rfl rfl rfl rfl rfl rfl rfl (Nat.le_of_ble_eq_true rfl) (fun u_32 hw => ?_)
  obtain ⟨m150, hw⟩ := hw
  refine vv_sub [0, 1] (by rfl) (l_M_takeSymbols_L150 a_M Q K0 X0 _ hC hK0 hX0 (fun I_M_34 A_M_35 v2_36 hw => ?_) m150 u_32 A_M v2 hw)
  refine vv_aload_n hC d_M_takeSymbols_240 0 rfl rfl ?_
  refine vv_get hC (v := .int (I_M_34 5)) hin_M 0 7 tb_679 d_M_takeSymbols_241 rfl rfl (by decide) rfl rfl ?_
  refine vv_if_ne hC 265 d_M_takeSymbols_244 (by decide) (fun cd => ?_) (fun cd => ?_)
  · have hw := hw.2 cd
    exact vv_sub [0] (by rfl) (l_M_takeSymbols_b265 a_M Q K0 X0 hC hK0 hX0 I_M_34 A_M_35 hw)
  · have hw := hw.1 cd
    refine vv_aload_n hC d_M_takeSymbols_247 0 rfl rfl ?_
    refine vv_get hC (v := .ref (a_M 18)) hin_M 0 25 tb_697 d_M_takeSymbols_248 rfl rfl (by decide) rfl rfl ?_
    refine vv_iload_n hC d_M_takeSymbols_251 1 rfl rfl ?_
    obtain ⟨hin_37, hw⟩ := hw
    refine vv_iald hC 18 0 d_M_takeSymbols_252 rfl rfl hin_37 ?_
    refine vv_if_ne hC 265 d_M_takeSymbols_253 (by decide) (fun cd => ?_) (fun cd => ?_)
    · have hw := hw.2 cd
      exact vv_sub [0] (by rfl) (l_M_takeSymbols_b265 a_M Q K0 X0 hC hK0 hX0 I_M_34 A_M_35 hw)
    · have hw := hw.1 cd
      refine vv_aload_n hC d_M_takeSymbols_256 0 rfl rfl ?_
      refine vv_iconst hC d_M_takeSymbols_257 (v := (1 : Int32)) (by decide) ?_
      refine vv_aload_n hC d_M_takeSymbols_258 0 rfl rfl ?_
      refine vv_get hC (v := .int (I_M_34 4)) hin_M 0 6 tb_678 d_M_takeSymbols_259 rfl rfl (by decide) rfl rfl ?_
      refine vv_callVV (wr := []) hC (c_M_wrong l D cA sx a_M I_M_34 A_M_35 (1 : Int32) (I_M_34 4) _ hw) (cw_M_104 hC) d_M_takeSymbols_262 [] [0, 1, 2, 3, 4, 5, 6, 7, 8, 9, 10, 11, 12, 13, 14, 15, 16, 17, 18, 19, 20, 21, 22, 23] [] [0, 1, 2, 3, 4, 5, 6, 7, 8, 9, 10, 11, 12, 13, 14, 15, 16, 17, 18, 19, 20, 21, 22, 23] (fun u_38 : (Nat → Int32) => kc_M cA a_M u_38 A_M_35) ⟨Nat.zero_le _, Nat.zero_le _⟩ rfl rfl (fun _ => rfl) rfl rfl rfl rfl rfl rfl rfl rfl (Nat.le_of_ble_eq_true rfl) (fun u_38 hw => ?_)
      exact vv_sub [0] (by rfl) (l_M_takeSymbols_b265 a_M Q K0 X0 hC hK0 hX0 u_38 A_M_35 hw)
set_option maxHeartbeats 4000000 in
set_option maxRecDepth 100000 in
theorem l_M_takeSymbols_b103 {p : Program} {l : Launch} {e : Env} {s : State} {m : MethodId} {args : Array Value} {below : List Frame} {meth : Method} {c : Code} {D : va_G} {cA : Nat → ClassId} {sx : Nat → Nat} {A : Nat → Prop} (a_M : Nat → Nat) (Q : (Nat → Int32) → (Nat → Nat → Int32) → Prop) (K0 : (Nat → Int32) → (Nat → Nat → Int32) → Prop) (X0 : (Nat → Int32) → (Nat → Nat → Int32) → Prop) (hC : CX p s m args meth c b_M_takeSymbols R_M TB 3 D vwCl (tyl cA) A (SPl sx) none) (hK0 : ∀ (I_M : (Nat → Int32)) (A_M : (Nat → Nat → Int32)), K0 I_M A_M → VV p l e ({ frames := 3, cells := 0, slots := 0, locals := 61 } : Room) s m args below meth c 3 D vwCl A 0 0 (QV below args s D vwCl (tyl cA) A (fun (u : (Nat → Int32) × (Nat → Nat → Int32)) => Q u.1 u.2) (fun u : (Nat → Int32) × (Nat → Nat → Int32) => kc_M cA a_M u.1 u.2)) (kc_M cA a_M I_M A_M) 0 [(0, .ref (a_M 0))] []) (hX0 : ∀ (I_M : (Nat → Int32)) (A_M : (Nat → Nat → Int32)), X0 I_M A_M → VV p l e ({ frames := 3, cells := 0, slots := 0, locals := 61 } : Room) s m args below meth c 3 D vwCl A 0 0 (QV below args s D vwCl (tyl cA) A (fun (u : (Nat → Int32) × (Nat → Nat → Int32)) => Q u.1 u.2) (fun u : (Nat → Int32) × (Nat → Nat → Int32) => kc_M cA a_M u.1 u.2)) (kc_M cA a_M I_M A_M) 274 [(0, .ref (a_M 0))] []) : ∀ (I_M : (Nat → Int32)) (A_M : (Nat → Nat → Int32)) (v1 : Int32) (v2 : Int32), wp_M_takeSymbols_b103 Q K0 X0 I_M A_M v1 v2 → VV p l e ({ frames := 3, cells := 0, slots := 0, locals := 61 } : Room) s m args below meth c 3 D vwCl A 0 0 (QV below args s D vwCl (tyl cA) A (fun (u : (Nat → Int32) × (Nat → Nat → Int32)) => Q u.1 u.2) (fun u : (Nat → Int32) × (Nat → Nat → Int32) => kc_M cA a_M u.1 u.2)) (kc_M cA a_M I_M A_M) 103 [(0, .ref (a_M 0)), (1, .int v1), (2, .int v2)] [] := by
  intro I_M A_M v1 v2 hw
  unfold wp_M_takeSymbols_b103 at hw
  refine vv_aload_n hC d_M_takeSymbols_103 0 rfl rfl ?_
  refine vv_get hC (v := .int (I_M 5)) hin_M 0 7 tb_679 d_M_takeSymbols_104 rfl rfl (by decide) rfl rfl ?_
  refine vv_if_ne hC 144 d_M_takeSymbols_107 (by decide) (fun cd => ?_) (fun cd => ?_)
  · have hw := hw.2 cd
    refine vv_aload_n hC d_M_takeSymbols_144 0 rfl rfl ?_
    refine vv_bipush hC d_M_takeSymbols_145 (v := (32 : Int32)) (by decide) ?_
    refine vv_callVV (wr := []) hC (c_M_take l D cA sx a_M I_M A_M (32 : Int32) _ hw) (cw_M_125 hC) d_M_takeSymbols_147 [] [0, 1, 2, 3, 4, 5, 6, 7, 8, 9, 10, 11, 12, 13, 14, 15, 16, 17, 18, 19, 20, 21, 22, 23] [] [0, 1, 2, 3, 4, 5, 6, 7, 8, 9, 10, 11, 12, 13, 14, 15, 16, 17, 18, 19, 20, 21, 22, 23] (fun u_9 : (Nat → Int32) => kc_M cA a_M u_9 A_M) ⟨Nat.zero_le _, Nat.zero_le _⟩ rfl rfl (fun _ => rfl) rfl rfl rfl rfl rfl rfl rfl rfl (Nat.le_of_ble_eq_true rfl) (fun u_9 hw => ?_)
    obtain ⟨m150, hw⟩ := hw
    refine vv_sub [0, 2] (by rfl) (l_M_takeSymbols_L150 a_M Q K0 X0 _ hC hK0 hX0 (fun I_M_21 A_M_22 v2_23 hw => ?_) m150 u_9 A_M v2 hw)
    refine vv_aload_n hC d_M_takeSymbols_240 0 rfl rfl ?_
    refine vv_get hC (v := .int (I_M_21 5)) hin_M 0 7 tb_679 d_M_takeSymbols_241 rfl rfl (by decide) rfl rfl ?_
    refine vv_if_ne hC 265 d_M_takeSymbols_244 (by decide) (fun cd => ?_) (fun cd => ?_)
    · have hw := hw.2 cd
      exact vv_sub [0] (by rfl) (l_M_takeSymbols_b265 a_M Q K0 X0 hC hK0 hX0 I_M_21 A_M_22 hw)
    · have hw := hw.1 cd
      refine vv_aload_n hC d_M_takeSymbols_247 0 rfl rfl ?_
      refine vv_get hC (v := .ref (a_M 18)) hin_M 0 25 tb_697 d_M_takeSymbols_248 rfl rfl (by decide) rfl rfl ?_
      refine vv_iload_n hC d_M_takeSymbols_251 1 rfl rfl ?_
      obtain ⟨hin_26, hw⟩ := hw
      refine vv_iald hC 18 0 d_M_takeSymbols_252 rfl rfl hin_26 ?_
      refine vv_if_ne hC 265 d_M_takeSymbols_253 (by decide) (fun cd => ?_) (fun cd => ?_)
      · have hw := hw.2 cd
        exact vv_sub [0] (by rfl) (l_M_takeSymbols_b265 a_M Q K0 X0 hC hK0 hX0 I_M_21 A_M_22 hw)
      · have hw := hw.1 cd
        refine vv_aload_n hC d_M_takeSymbols_256 0 rfl rfl ?_
        refine vv_iconst hC d_M_takeSymbols_257 (v := (1 : Int32)) (by decide) ?_
        refine vv_aload_n hC d_M_takeSymbols_258 0 rfl rfl ?_
        refine vv_get hC (v := .int (I_M_21 4)) hin_M 0 6 tb_678 d_M_takeSymbols_259 rfl rfl (by decide) rfl rfl ?_
        refine vv_callVV (wr := []) hC (c_M_wrong l D cA sx a_M I_M_21 A_M_22 (1 : Int32) (I_M_21 4) _ hw) (cw_M_104 hC) d_M_takeSymbols_262 [] [0, 1, 2, 3, 4, 5, 6, 7, 8, 9, 10, 11, 12, 13, 14, 15, 16, 17, 18, 19, 20, 21, 22, 23] [] [0, 1, 2, 3, 4, 5, 6, 7, 8, 9, 10, 11, 12, 13, 14, 15, 16, 17, 18, 19, 20, 21, 22, 23] (fun u_27 : (Nat → Int32) => kc_M cA a_M u_27 A_M_22) ⟨Nat.zero_le _, Nat.zero_le _⟩ rfl rfl (fun _ => rfl) rfl rfl rfl rfl rfl rfl rfl rfl (Nat.le_of_ble_eq_true rfl) (fun u_27 hw => ?_)
        exact vv_sub [0] (by rfl) (l_M_takeSymbols_b265 a_M Q K0 X0 hC hK0 hX0 u_27 A_M_22 hw)
  · have hw := hw.1 cd
    refine vv_aload_n hC d_M_takeSymbols_110 0 rfl rfl ?_
    refine vv_get hC (v := .int (I_M 7)) hin_M 0 9 tb_681 d_M_takeSymbols_111 rfl rfl (by decide) rfl rfl ?_
    refine vv_aload_n hC d_M_takeSymbols_114 0 rfl rfl ?_
    refine vv_get hC (v := .ref (a_M 3)) hin_M 0 10 tb_682 d_M_takeSymbols_115 rfl rfl (by decide) rfl rfl ?_
    refine vv_bipush hC d_M_takeSymbols_118 (v := (6 : Int32)) (by decide) ?_
    refine vv_iload_n hC d_M_takeSymbols_120 1 rfl rfl ?_
    refine vv_iadd hC d_M_takeSymbols_121 ?_
    obtain ⟨hin_29, hw⟩ := hw
    refine vv_iald hC 3 0 d_M_takeSymbols_122 rfl rfl hin_29 ?_
    refine vv_icmp_ge hC 135 d_M_takeSymbols_123 (by decide) (fun cd => ?_) (fun cd => ?_)
    · have hw := hw.1 cd
      exact vv_sub [0, 2] (by rfl) (l_M_takeSymbols_b135 a_M Q K0 X0 hC hK0 hX0 I_M A_M v2 hw)
    · have hw := hw.2 cd
      refine vv_aload_n hC d_M_takeSymbols_126 0 rfl rfl ?_
      refine vv_get hC (v := .ref (a_M 18)) hin_M 0 25 tb_697 d_M_takeSymbols_127 rfl rfl (by decide) rfl rfl ?_
      refine vv_iload_n hC d_M_takeSymbols_130 2 rfl rfl ?_
      obtain ⟨hin_40, hw⟩ := hw
      refine vv_iald hC 18 0 d_M_takeSymbols_131 rfl rfl hin_40 ?_
      refine vv_if_le hC 144 d_M_takeSymbols_132 (by decide) (fun cd => ?_) (fun cd => ?_)
      · have hw := hw.1 cd
        refine vv_aload_n hC d_M_takeSymbols_144 0 rfl rfl ?_
        refine vv_bipush hC d_M_takeSymbols_145 (v := (32 : Int32)) (by decide) ?_
        refine vv_callVV (wr := []) hC (c_M_take l D cA sx a_M I_M A_M (32 : Int32) _ hw) (cw_M_125 hC) d_M_takeSymbols_147 [] [0, 1, 2, 3, 4, 5, 6, 7, 8, 9, 10, 11, 12, 13, 14, 15, 16, 17, 18, 19, 20, 21, 22, 23] [] [0, 1, 2, 3, 4, 5, 6, 7, 8, 9, 10, 11, 12, 13, 14, 15, 16, 17, 18, 19, 20, 21, 22, 23] (fun u_41 : (Nat → Int32) => kc_M cA a_M u_41 A_M) ⟨Nat.zero_le _, Nat.zero_le _⟩ rfl rfl (fun _ => rfl) rfl rfl rfl rfl rfl rfl rfl rfl (Nat.le_of_ble_eq_true rfl) (fun u_41 hw => ?_)
        obtain ⟨m150, hw⟩ := hw
        refine vv_sub [0, 2] (by rfl) (l_M_takeSymbols_L150 a_M Q K0 X0 _ hC hK0 hX0 (fun I_M_43 A_M_44 v2_45 hw => ?_) m150 u_41 A_M v2 hw)
        refine vv_aload_n hC d_M_takeSymbols_240 0 rfl rfl ?_
        refine vv_get hC (v := .int (I_M_43 5)) hin_M 0 7 tb_679 d_M_takeSymbols_241 rfl rfl (by decide) rfl rfl ?_
        refine vv_if_ne hC 265 d_M_takeSymbols_244 (by decide) (fun cd => ?_) (fun cd => ?_)
        · have hw := hw.2 cd
          exact vv_sub [0] (by rfl) (l_M_takeSymbols_b265 a_M Q K0 X0 hC hK0 hX0 I_M_43 A_M_44 hw)
        · have hw := hw.1 cd
          refine vv_aload_n hC d_M_takeSymbols_247 0 rfl rfl ?_
          refine vv_get hC (v := .ref (a_M 18)) hin_M 0 25 tb_697 d_M_takeSymbols_248 rfl rfl (by decide) rfl rfl ?_
          refine vv_iload_n hC d_M_takeSymbols_251 1 rfl rfl ?_
          obtain ⟨hin_46, hw⟩ := hw
          refine vv_iald hC 18 0 d_M_takeSymbols_252 rfl rfl hin_46 ?_
          refine vv_if_ne hC 265 d_M_takeSymbols_253 (by decide) (fun cd => ?_) (fun cd => ?_)
          · have hw := hw.2 cd
            exact vv_sub [0] (by rfl) (l_M_takeSymbols_b265 a_M Q K0 X0 hC hK0 hX0 I_M_43 A_M_44 hw)
          · have hw := hw.1 cd
            refine vv_aload_n hC d_M_takeSymbols_256 0 rfl rfl ?_
            refine vv_iconst hC d_M_takeSymbols_257 (v := (1 : Int32)) (by decide) ?_
            refine vv_aload_n hC d_M_takeSymbols_258 0 rfl rfl ?_
            refine vv_get hC (v := .int (I_M_43 4)) hin_M 0 6 tb_678 d_M_takeSymbols_259 rfl rfl (by decide) rfl rfl ?_
            refine vv_callVV (wr := []) hC (c_M_wrong l D cA sx a_M I_M_43 A_M_44 (1 : Int32) (I_M_43 4) _ hw) (cw_M_104 hC) d_M_takeSymbols_262 [] [0, 1, 2, 3, 4, 5, 6, 7, 8, 9, 10, 11, 12, 13, 14, 15, 16, 17, 18, 19, 20, 21, 22, 23] [] [0, 1, 2, 3, 4, 5, 6, 7, 8, 9, 10, 11, 12, 13, 14, 15, 16, 17, 18, 19, 20, 21, 22, 23] (fun u_47 : (Nat → Int32) => kc_M cA a_M u_47 A_M_44) ⟨Nat.zero_le _, Nat.zero_le _⟩ rfl rfl (fun _ => rfl) rfl rfl rfl rfl rfl rfl rfl rfl (Nat.le_of_ble_eq_true rfl) (fun u_47 hw => ?_)
            exact vv_sub [0] (by rfl) (l_M_takeSymbols_b265 a_M Q K0 X0 hC hK0 hX0 u_47 A_M_44 hw)
      · have hw := hw.2 cd
        exact vv_sub [0, 2] (by rfl) (l_M_takeSymbols_b135 a_M Q K0 X0 hC hK0 hX0 I_M A_M v2 hw)
set_option maxHeartbeats 4000000 in
set_option maxRecDepth 100000 in
theorem l_M_takeSymbols_b62 {p : Program} {l : Launch} {e : Env} {s : State} {m : MethodId} {args : Array Value} {below : List Frame} {meth : Method} {c : Code} {D : va_G} {cA : Nat → ClassId} {sx : Nat → Nat} {A : Nat → Prop} (a_M : Nat → Nat) (Q : (Nat → Int32) → (Nat → Nat → Int32) → Prop) (K0 : (Nat → Int32) → (Nat → Nat → Int32) → Prop) (X0 : (Nat → Int32) → (Nat → Nat → Int32) → Prop) (hC : CX p s m args meth c b_M_takeSymbols R_M TB 3 D vwCl (tyl cA) A (SPl sx) none) (hK0 : ∀ (I_M : (Nat → Int32)) (A_M : (Nat → Nat → Int32)), K0 I_M A_M → VV p l e ({ frames := 3, cells := 0, slots := 0, locals := 61 } : Room) s m args below meth c 3 D vwCl A 0 0 (QV below args s D vwCl (tyl cA) A (fun (u : (Nat → Int32) × (Nat → Nat → Int32)) => Q u.1 u.2) (fun u : (Nat → Int32) × (Nat → Nat → Int32) => kc_M cA a_M u.1 u.2)) (kc_M cA a_M I_M A_M) 0 [(0, .ref (a_M 0))] []) (hX0 : ∀ (I_M : (Nat → Int32)) (A_M : (Nat → Nat → Int32)), X0 I_M A_M → VV p l e ({ frames := 3, cells := 0, slots := 0, locals := 61 } : Room) s m args below meth c 3 D vwCl A 0 0 (QV below args s D vwCl (tyl cA) A (fun (u : (Nat → Int32) × (Nat → Nat → Int32)) => Q u.1 u.2) (fun u : (Nat → Int32) × (Nat → Nat → Int32) => kc_M cA a_M u.1 u.2)) (kc_M cA a_M I_M A_M) 274 [(0, .ref (a_M 0))] []) : ∀ (I_M : (Nat → Int32)) (A_M : (Nat → Nat → Int32)) (v1 : Int32), wp_M_takeSymbols_b62 Q K0 X0 I_M A_M v1 → VV p l e ({ frames := 3, cells := 0, slots := 0, locals := 61 } : Room) s m args below meth c 3 D vwCl A 0 0 (QV below args s D vwCl (tyl cA) A (fun (u : (Nat → Int32) × (Nat → Nat → Int32)) => Q u.1 u.2) (fun u : (Nat → Int32) × (Nat → Nat → Int32) => kc_M cA a_M u.1 u.2)) (kc_M cA a_M I_M A_M) 62 [(0, .ref (a_M 0)), (1, .int v1)] [] := by
  intro I_M A_M v1 hw
  unfold wp_M_takeSymbols_b62 at hw
  refine vv_aload_n hC d_M_takeSymbols_62 0 rfl rfl ?_
  refine vv_dup hC d_M_takeSymbols_63 rfl ?_
  refine vv_get hC (v := .int (I_M 4)) hin_M 0 6 tb_678 d_M_takeSymbols_64 rfl rfl (by decide) rfl rfl ?_
  refine vv_iconst hC d_M_takeSymbols_67 (v := (1 : Int32)) (by decide) ?_
  refine vv_iadd hC d_M_takeSymbols_68 ?_
  refine vv_put hC hin_M ty_M tyok_M nmok_M 0 6 tb_678 d_M_takeSymbols_69 rfl rfl (by decide) rfl rfl rfl rfl rfl (Nat.le_of_ble_eq_true rfl) (ws2 := kc_M cA a_M (va_up I_M 4 ((I_M 4) + (1 : Int32))) A_M) (st_M_MI4 ..) ?_
  refine vv_aload_n hC d_M_takeSymbols_72 0 rfl rfl ?_
  refine vv_callVV (wr := []) hC (c_M_takeNumber l D cA sx a_M (va_up I_M 4 ((I_M 4) + (1 : Int32))) A_M _ hw) (cw_M_115 hC) d_M_takeSymbols_73 [] [0, 1, 2, 3, 4, 5, 6, 7, 8, 9, 10, 11, 12, 13, 14, 15, 16, 17, 18, 19, 20, 21, 22, 23] [] [0, 1, 2, 3, 4, 5, 6, 7, 8, 9, 10, 11, 12, 13, 14, 15, 16, 17, 18, 19, 20, 21, 22, 23] (fun u_7 : (Nat → Int32) => kc_M cA a_M u_7 A_M) ⟨Nat.zero_le _, Nat.zero_le _⟩ rfl rfl (fun _ => rfl) rfl rfl rfl rfl rfl rfl rfl rfl (Nat.le_of_ble_eq_true rfl) (fun u_7 hw => ?_)
  refine vv_iload_n hC d_M_takeSymbols_76 1 rfl rfl ?_
  refine vv_if_ne hC 85 d_M_takeSymbols_77 (by decide) (fun cd => ?_) (fun cd => ?_)
  · have hw := hw.2 cd
    refine vv_iload_n hC d_M_takeSymbols_85 1 rfl rfl ?_
    refine vv_iconst hC d_M_takeSymbols_86 (v := (1 : Int32)) (by decide) ?_
    refine vv_icmp_ne hC 95 d_M_takeSymbols_87 (by decide) (fun cd => ?_) (fun cd => ?_)
    · have hw := hw.2 cd
      refine vv_bipush hC d_M_takeSymbols_95 (v := (36 : Int32)) (by decide) ?_
      refine vv_aload_n hC d_M_takeSymbols_97 0 rfl rfl ?_
      refine vv_get hC (v := .int (u_7 7)) hin_M 0 9 tb_681 d_M_takeSymbols_98 rfl rfl (by decide) rfl rfl ?_
      refine vv_iadd hC d_M_takeSymbols_101 ?_
      refine vv_istore_n hC d_M_takeSymbols_102 rfl (by decide) [1, 2, 0] (L2 := [(0, .ref (a_M 0)), (1, .int v1), (2, .int ((36 : Int32) + (u_7 7)))]) rfl ?_
      exact vv_sub [0, 1, 2] (by rfl) (l_M_takeSymbols_b103 a_M Q K0 X0 hC hK0 hX0 u_7 A_M v1 ((36 : Int32) + (u_7 7)) hw)
    · have hw := hw.1 cd
      refine vv_bipush hC d_M_takeSymbols_90 (v := (28 : Int32)) (by decide) ?_
      refine vv_goto hC 97 d_M_takeSymbols_92 (by decide) ?_
      refine vv_aload_n hC d_M_takeSymbols_97 0 rfl rfl ?_
      refine vv_get hC (v := .int (u_7 7)) hin_M 0 9 tb_681 d_M_takeSymbols_98 rfl rfl (by decide) rfl rfl ?_
      refine vv_iadd hC d_M_takeSymbols_101 ?_
      refine vv_istore_n hC d_M_takeSymbols_102 rfl (by decide) [1, 2, 0] (L2 := [(0, .ref (a_M 0)), (1, .int v1), (2, .int ((28 : Int32) + (u_7 7)))]) rfl ?_
      exact vv_sub [0, 1, 2] (by rfl) (l_M_takeSymbols_b103 a_M Q K0 X0 hC hK0 hX0 u_7 A_M v1 ((28 : Int32) + (u_7 7)) hw)
  · have hw := hw.1 cd
    refine vv_bipush hC d_M_takeSymbols_80 (v := (22 : Int32)) (by decide) ?_
    refine vv_goto hC 97 d_M_takeSymbols_82 (by decide) ?_
    refine vv_aload_n hC d_M_takeSymbols_97 0 rfl rfl ?_
    refine vv_get hC (v := .int (u_7 7)) hin_M 0 9 tb_681 d_M_takeSymbols_98 rfl rfl (by decide) rfl rfl ?_
    refine vv_iadd hC d_M_takeSymbols_101 ?_
    refine vv_istore_n hC d_M_takeSymbols_102 rfl (by decide) [1, 2, 0] (L2 := [(0, .ref (a_M 0)), (1, .int v1), (2, .int ((22 : Int32) + (u_7 7)))]) rfl ?_
    exact vv_sub [0, 1, 2] (by rfl) (l_M_takeSymbols_b103 a_M Q K0 X0 hC hK0 hX0 u_7 A_M v1 ((22 : Int32) + (u_7 7)) hw)
set_option maxHeartbeats 4000000 in
set_option maxRecDepth 100000 in
theorem l_M_takeSymbols_b34 {p : Program} {l : Launch} {e : Env} {s : State} {m : MethodId} {args : Array Value} {below : List Frame} {meth : Method} {c : Code} {D : va_G} {cA : Nat → ClassId} {sx : Nat → Nat} {A : Nat → Prop} (a_M : Nat → Nat) (Q : (Nat → Int32) → (Nat → Nat → Int32) → Prop) (K0 : (Nat → Int32) → (Nat → Nat → Int32) → Prop) (X0 : (Nat → Int32) → (Nat → Nat → Int32) → Prop) (hC : CX p s m args meth c b_M_takeSymbols R_M TB 3 D vwCl (tyl cA) A (SPl sx) none) (hK0 : ∀ (I_M : (Nat → Int32)) (A_M : (Nat → Nat → Int32)), K0 I_M A_M → VV p l e ({ frames := 3, cells := 0, slots := 0, locals := 61 } : Room) s m args below meth c 3 D vwCl A 0 0 (QV below args s D vwCl (tyl cA) A (fun (u : (Nat → Int32) × (Nat → Nat → Int32)) => Q u.1 u.2) (fun u : (Nat → Int32) × (Nat → Nat → Int32) => kc_M cA a_M u.1 u.2)) (kc_M cA a_M I_M A_M) 0 [(0, .ref (a_M 0))] []) (hX0 : ∀ (I_M : (Nat → Int32)) (A_M : (Nat → Nat → Int32)), X0 I_M A_M → VV p l e ({ frames := 3, cells := 0, slots := 0, locals := 61 } : Room) s m args below meth c 3 D vwCl A 0 0 (QV below args s D vwCl (tyl cA) A (fun (u : (Nat → Int32) × (Nat → Nat → Int32)) => Q u.1 u.2) (fun u : (Nat → Int32) × (Nat → Nat → Int32) => kc_M cA a_M u.1 u.2)) (kc_M cA a_M I_M A_M) 274 [(0, .ref (a_M 0))] []) : ∀ (I_M : (Nat → Int32)) (A_M : (Nat → Nat → Int32)), wp_M_takeSymbols_b34 Q K0 X0 I_M A_M → VV p l e ({ frames := 3, cells := 0, slots := 0, locals := 61 } : Room) s m args below meth c 3 D vwCl A 0 0 (QV below args s D vwCl (tyl cA) A (fun (u : (Nat → Int32) × (Nat → Nat → Int32)) => Q u.1 u.2) (fun u : (Nat → Int32) × (Nat → Nat → Int32) => kc_M cA a_M u.1 u.2)) (kc_M cA a_M I_M A_M) 34 [(0, .ref (a_M 0))] [] := by
  intro I_M A_M hw
  unfold wp_M_takeSymbols_b34 at hw
  refine vv_aload_n hC d_M_takeSymbols_34 0 rfl rfl ?_
  refine vv_callVI (wr := []) hC (c_M_here l D cA sx a_M I_M A_M _ hw) (cw_M_100 hC) d_M_takeSymbols_35 [] [0, 1, 2, 3, 4, 5, 6, 7, 8, 9, 10, 11, 12, 13, 14, 15, 16, 17, 18, 19, 20, 21, 22, 23] [] [0, 1, 2, 3, 4, 5, 6, 7, 8, 9, 10, 11, 12, 13, 14, 15, 16, 17, 18, 19, 20, 21, 22, 23] (fun u_4 : Unit => kc_M cA a_M I_M A_M) ⟨Nat.zero_le _, Nat.zero_le _⟩ rfl rfl (fun _ => rfl) rfl rfl rfl rfl rfl rfl rfl rfl (Nat.le_of_ble_eq_true rfl) (fun r_3 u_4 hw => ?_)
  refine vv_bipush hC d_M_takeSymbols_38 (v := (105 : Int32)) (by decide) ?_
  refine vv_icmp_ne hC 47 d_M_takeSymbols_40 (by decide) (fun cd => ?_) (fun cd => ?_)
  · have hw := hw.2 cd
    refine vv_aload_n hC d_M_takeSymbols_47 0 rfl rfl ?_
    refine vv_callVI (wr := []) hC (c_M_here l D cA sx a_M I_M A_M _ hw) (cw_M_100 hC) d_M_takeSymbols_48 [] [0, 1, 2, 3, 4, 5, 6, 7, 8, 9, 10, 11, 12, 13, 14, 15, 16, 17, 18, 19, 20, 21, 22, 23] [] [0, 1, 2, 3, 4, 5, 6, 7, 8, 9, 10, 11, 12, 13, 14, 15, 16, 17, 18, 19, 20, 21, 22, 23] (fun u_6 : Unit => kc_M cA a_M I_M A_M) ⟨Nat.zero_le _, Nat.zero_le _⟩ rfl rfl (fun _ => rfl) rfl rfl rfl rfl rfl rfl rfl rfl (Nat.le_of_ble_eq_true rfl) (fun r_5 u_6 hw => ?_)
    refine vv_bipush hC d_M_takeSymbols_51 (v := (108 : Int32)) (by decide) ?_
    refine vv_icmp_ne hC 60 d_M_takeSymbols_53 (by decide) (fun cd => ?_) (fun cd => ?_)
    · have hw := hw.2 cd
      refine vv_iconst hC d_M_takeSymbols_60 (v := (2 : Int32)) (by decide) ?_
      refine vv_istore_n hC d_M_takeSymbols_61 rfl (by decide) [1, 0] (L2 := [(0, .ref (a_M 0)), (1, .int (2 : Int32))]) rfl ?_
      exact vv_sub [0, 1] (by rfl) (l_M_takeSymbols_b62 a_M Q K0 X0 hC hK0 hX0 I_M A_M (2 : Int32) hw)
    · have hw := hw.1 cd
      refine vv_iconst hC d_M_takeSymbols_56 (v := (1 : Int32)) (by decide) ?_
      refine vv_goto hC 61 d_M_takeSymbols_57 (by decide) ?_
      refine vv_istore_n hC d_M_takeSymbols_61 rfl (by decide) [1, 0] (L2 := [(0, .ref (a_M 0)), (1, .int (1 : Int32))]) rfl ?_
      exact vv_sub [0, 1] (by rfl) (l_M_takeSymbols_b62 a_M Q K0 X0 hC hK0 hX0 I_M A_M (1 : Int32) hw)
  · have hw := hw.1 cd
    refine vv_iconst hC d_M_takeSymbols_43 (v := (0 : Int32)) (by decide) ?_
    refine vv_goto hC 61 d_M_takeSymbols_44 (by decide) ?_
    refine vv_istore_n hC d_M_takeSymbols_61 rfl (by decide) [1, 0] (L2 := [(0, .ref (a_M 0)), (1, .int (0 : Int32))]) rfl ?_
    exact vv_sub [0, 1] (by rfl) (l_M_takeSymbols_b62 a_M Q K0 X0 hC hK0 hX0 I_M A_M (0 : Int32) hw)
set_option maxHeartbeats 4000000 in
set_option maxRecDepth 100000 in
theorem l_M_takeSymbols_L0 {p : Program} {l : Launch} {e : Env} {s : State} {m : MethodId} {args : Array Value} {below : List Frame} {meth : Method} {c : Code} {D : va_G} {cA : Nat → ClassId} {sx : Nat → Nat} {A : Nat → Prop} (a_M : Nat → Nat) (Q : (Nat → Int32) → (Nat → Nat → Int32) → Prop) (X0 : (Nat → Int32) → (Nat → Nat → Int32) → Prop) (hC : CX p s m args meth c b_M_takeSymbols R_M TB 3 D vwCl (tyl cA) A (SPl sx) none) (hX0 : ∀ (I_M : (Nat → Int32)) (A_M : (Nat → Nat → Int32)), X0 I_M A_M → VV p l e ({ frames := 3, cells := 0, slots := 0, locals := 61 } : Room) s m args below meth c 3 D vwCl A 0 0 (QV below args s D vwCl (tyl cA) A (fun (u : (Nat → Int32) × (Nat → Nat → Int32)) => Q u.1 u.2) (fun u : (Nat → Int32) × (Nat → Nat → Int32) => kc_M cA a_M u.1 u.2)) (kc_M cA a_M I_M A_M) 274 [(0, .ref (a_M 0))] []) : ∀ (n0 : Nat) (I_M : (Nat → Int32)) (A_M : (Nat → Nat → Int32)), wp_M_takeSymbols_L0 Q X0 n0 I_M A_M → VV p l e ({ frames := 3, cells := 0, slots := 0, locals := 61 } : Room) s m args below meth c 3 D vwCl A 0 0 (QV below args s D vwCl (tyl cA) A (fun (u : (Nat → Int32) × (Nat → Nat → Int32)) => Q u.1 u.2) (fun u : (Nat → Int32) × (Nat → Nat → Int32) => kc_M cA a_M u.1 u.2)) (kc_M cA a_M I_M A_M) 0 [(0, .ref (a_M 0))] [] := by
  intro n0
  induction n0 with
  | zero =>
    intro I_M A_M hw
    exact absurd hw (fun z => z)
  | succ n0 ih =>
    intro I_M A_M hw
    unfold wp_M_takeSymbols_L0 at hw
    refine vv_aload_n hC d_M_takeSymbols_0 0 rfl rfl ?_
    refine vv_get hC (v := .int (I_M 5)) hin_M 0 7 tb_679 d_M_takeSymbols_1 rfl rfl (by decide) rfl rfl ?_
    refine vv_if_ne hC 274 d_M_takeSymbols_4 (by decide) (fun cd => ?_) (fun cd => ?_)
    · have hw := hw.2 cd
      exact vv_sub [0] (by rfl) (hX0 I_M A_M hw)
    · have hw := hw.1 cd
      refine vv_aload_n hC d_M_takeSymbols_7 0 rfl rfl ?_
      refine vv_callVI (wr := []) hC (c_M_here l D cA sx a_M I_M A_M _ hw) (cw_M_100 hC) d_M_takeSymbols_8 [] [0, 1, 2, 3, 4, 5, 6, 7, 8, 9, 10, 11, 12, 13, 14, 15, 16, 17, 18, 19, 20, 21, 22, 23] [] [0, 1, 2, 3, 4, 5, 6, 7, 8, 9, 10, 11, 12, 13, 14, 15, 16, 17, 18, 19, 20, 21, 22, 23] (fun u_2 : Unit => kc_M cA a_M I_M A_M) ⟨Nat.zero_le _, Nat.zero_le _⟩ rfl rfl (fun _ => rfl) rfl rfl rfl rfl rfl rfl rfl rfl (Nat.le_of_ble_eq_true rfl) (fun r_1 u_2 hw => ?_)
      refine vv_bipush hC d_M_takeSymbols_11 (v := (105 : Int32)) (by decide) ?_
      refine vv_icmp_eq hC 34 d_M_takeSymbols_13 (by decide) (fun cd => ?_) (fun cd => ?_)
      · have hw := hw.1 cd
        exact vv_sub [0] (by rfl) (l_M_takeSymbols_b34 a_M Q (wp_M_takeSymbols_L0 Q X0 n0) X0 hC ih hX0 I_M A_M hw)
      · have hw := hw.2 cd
        refine vv_aload_n hC d_M_takeSymbols_16 0 rfl rfl ?_
        refine vv_callVI (wr := []) hC (c_M_here l D cA sx a_M I_M A_M _ hw) (cw_M_100 hC) d_M_takeSymbols_17 [] [0, 1, 2, 3, 4, 5, 6, 7, 8, 9, 10, 11, 12, 13, 14, 15, 16, 17, 18, 19, 20, 21, 22, 23] [] [0, 1, 2, 3, 4, 5, 6, 7, 8, 9, 10, 11, 12, 13, 14, 15, 16, 17, 18, 19, 20, 21, 22, 23] (fun u_50 : Unit => kc_M cA a_M I_M A_M) ⟨Nat.zero_le _, Nat.zero_le _⟩ rfl rfl (fun _ => rfl) rfl rfl rfl rfl rfl rfl rfl rfl (Nat.le_of_ble_eq_true rfl) (fun r_49 u_50 hw => ?_)
        refine vv_bipush hC d_M_takeSymbols_20 (v := (108 : Int32)) (by decide) ?_
        refine vv_icmp_eq hC 34 d_M_takeSymbols_22 (by decide) (fun cd => ?_) (fun cd => ?_)
        · have hw := hw.1 cd
          exact vv_sub [0] (by rfl) (l_M_takeSymbols_b34 a_M Q (wp_M_takeSymbols_L0 Q X0 n0) X0 hC ih hX0 I_M A_M hw)
        · have hw := hw.2 cd
          refine vv_aload_n hC d_M_takeSymbols_25 0 rfl rfl ?_
          refine vv_callVI (wr := []) hC (c_M_here l D cA sx a_M I_M A_M _ hw) (cw_M_100 hC) d_M_takeSymbols_26 [] [0, 1, 2, 3, 4, 5, 6, 7, 8, 9, 10, 11, 12, 13, 14, 15, 16, 17, 18, 19, 20, 21, 22, 23] [] [0, 1, 2, 3, 4, 5, 6, 7, 8, 9, 10, 11, 12, 13, 14, 15, 16, 17, 18, 19, 20, 21, 22, 23] (fun u_52 : Unit => kc_M cA a_M I_M A_M) ⟨Nat.zero_le _, Nat.zero_le _⟩ rfl rfl (fun _ => rfl) rfl rfl rfl rfl rfl rfl rfl rfl (Nat.le_of_ble_eq_true rfl) (fun r_51 u_52 hw => ?_)
          refine vv_bipush hC d_M_takeSymbols_29 (v := (111 : Int32)) (by decide) ?_
          refine vv_icmp_ne hC 274 d_M_takeSymbols_31 (by decide) (fun cd => ?_) (fun cd => ?_)
          · have hw := hw.2 cd
            exact vv_sub [0] (by rfl) (hX0 I_M A_M hw)
          · have hw := hw.1 cd
            exact vv_sub [0] (by rfl) (l_M_takeSymbols_b34 a_M Q (wp_M_takeSymbols_L0 Q X0 n0) X0 hC ih hX0 I_M A_M hw)
set_option maxHeartbeats 4000000 in
set_option maxRecDepth 100000 in
theorem c_M_takeSymbols (l : Launch) (D : va_G) (cA : Nat → ClassId) (sx : Nat → Nat) (a_M : Nat → Nat) (I_M : (Nat → Int32)) (A_M : (Nat → Nat → Int32)) (Q : (Nat → Int32) → (Nat → Nat → Int32) → Prop) (hw : wp_M_takeSymbols I_M A_M Q) : MetV l y_M_takeSymbols (Cond.code y_M_takeSymbols b_M_takeSymbols 3 none :: TB) ({ frames := 3, cells := 0, slots := 0, locals := 61 } : Room) D vwCl (tyl cA) (SPl sx) [.ref (a_M 0)] (kc_M cA a_M I_M A_M) (fun (u : (Nat → Int32) × (Nat → Nat → Int32)) => Q u.1 u.2) (fun u : (Nat → Int32) × (Nat → Nat → Int32) => kc_M cA a_M u.1 u.2) := by
  refine vv_entryV (cc := b_M_takeSymbols) (own := R_M) (L := [(0, .ref (a_M 0))]) (by decide) rfl rfl (Nat.le_of_ble_eq_true rfl) rfl (fun p e s m args below meth c A hC => ?_)
  unfold wp_M_takeSymbols at hw
  obtain ⟨m0, hw⟩ := hw
  refine vv_sub [0] (by rfl) (l_M_takeSymbols_L0 a_M Q _ hC (fun I_M_53 A_M_54 hw => ?_) m0 I_M A_M hw)
  refine vv_aload_n hC d_M_takeSymbols_274 0 rfl rfl ?_
  refine vv_get hC (v := .int (I_M_53 5)) hin_M 0 7 tb_679 d_M_takeSymbols_275 rfl rfl (by decide) rfl rfl ?_
  refine vv_if_gt hC 289 d_M_takeSymbols_278 (by decide) (fun cd => ?_) (fun cd => ?_)
  · have hw := hw.1 cd
    exact vv_vret hC d_M_takeSymbols_289 (I_M_53, A_M_54) hw rfl
  · have hw := hw.2 cd
    refine vv_aload_n hC d_M_takeSymbols_281 0 rfl rfl ?_
    refine vv_callVI (wr := []) hC (c_M_here l D cA sx a_M I_M_53 A_M_54 _ hw) (cw_M_100 hC) d_M_takeSymbols_282 [] [0, 1, 2, 3, 4, 5, 6, 7, 8, 9, 10, 11, 12, 13, 14, 15, 16, 17, 18, 19, 20, 21, 22, 23] [] [0, 1, 2, 3, 4, 5, 6, 7, 8, 9, 10, 11, 12, 13, 14, 15, 16, 17, 18, 19, 20, 21, 22, 23] (fun u_56 : Unit => kc_M cA a_M I_M_53 A_M_54) ⟨Nat.zero_le _, Nat.zero_le _⟩ rfl rfl (fun _ => rfl) rfl rfl rfl rfl rfl rfl rfl rfl (Nat.le_of_ble_eq_true rfl) (fun r_55 u_56 hw => ?_)
    refine vv_iconst hC d_M_takeSymbols_285 (v := (-1 : Int32)) (by decide) ?_
    refine vv_icmp_ne hC 290 d_M_takeSymbols_286 (by decide) (fun cd => ?_) (fun cd => ?_)
    · have hw := hw.2 cd
      refine vv_aload_n hC d_M_takeSymbols_290 0 rfl rfl ?_
      refine vv_bipush hC d_M_takeSymbols_291 (v := (99 : Int32)) (by decide) ?_
      refine vv_callVV (wr := []) hC (c_M_take l D cA sx a_M I_M_53 A_M_54 (99 : Int32) _ hw) (cw_M_125 hC) d_M_takeSymbols_293 [] [0, 1, 2, 3, 4, 5, 6, 7, 8, 9, 10, 11, 12, 13, 14, 15, 16, 17, 18, 19, 20, 21, 22, 23] [] [0, 1, 2, 3, 4, 5, 6, 7, 8, 9, 10, 11, 12, 13, 14, 15, 16, 17, 18, 19, 20, 21, 22, 23] (fun u_57 : (Nat → Int32) => kc_M cA a_M u_57 A_M_54) ⟨Nat.zero_le _, Nat.zero_le _⟩ rfl rfl (fun _ => rfl) rfl rfl rfl rfl rfl rfl rfl rfl (Nat.le_of_ble_eq_true rfl) (fun u_57 hw => ?_)
      refine vv_aload_n hC d_M_takeSymbols_296 0 rfl rfl ?_
      refine vv_bipush hC d_M_takeSymbols_297 (v := (10 : Int32)) (by decide) ?_
      refine vv_callVV (wr := []) hC (c_M_take l D cA sx a_M u_57 A_M_54 (10 : Int32) _ hw) (cw_M_125 hC) d_M_takeSymbols_299 [] [0, 1, 2, 3, 4, 5, 6, 7, 8, 9, 10, 11, 12, 13, 14, 15, 16, 17, 18, 19, 20, 21, 22, 23] [] [0, 1, 2, 3, 4, 5, 6, 7, 8, 9, 10, 11, 12, 13, 14, 15, 16, 17, 18, 19, 20, 21, 22, 23] (fun u_59 : (Nat → Int32) => kc_M cA a_M u_59 A_M_54) ⟨Nat.zero_le _, Nat.zero_le _⟩ rfl rfl (fun _ => rfl) rfl rfl rfl rfl rfl rfl rfl rfl (Nat.le_of_ble_eq_true rfl) (fun u_59 hw => ?_)
      exact vv_vret hC d_M_takeSymbols_302 (u_59, A_M_54) hw rfl
    · have hw := hw.1 cd
      exact vv_vret hC d_M_takeSymbols_289 (I_M_53, A_M_54) hw rfl
set_option maxHeartbeats 4000000 in
set_option maxRecDepth 100000 in
theorem c_M_isNowhere (l : Launch) (D : va_G) (cA : Nat → ClassId) (sx : Nat → Nat) (a_M : Nat → Nat) (I_M : (Nat → Int32)) (A_M : (Nat → Nat → Int32)) (x1 : Int32) (Q : Int32 → Prop) (hw : wp_M_isNowhere A_M x1 Q) : MetI l y_M_isNowhere (Cond.code y_M_isNowhere b_M_isNowhere 2 (some .boolean) :: TB) ({ frames := 0, cells := 0, slots := 0, locals := 0 } : Room) D vwCl (tyl cA) (SPl sx) [.ref (a_M 0), .int x1] (kc_M cA a_M I_M A_M) (fun (r : Int32) (u : Unit) => Q r) (fun u : Unit => kc_M cA a_M I_M A_M) := by
  refine vv_entryI (cc := b_M_isNowhere) (own := R_M) (L := [(0, .ref (a_M 0)), (1, .int x1)]) (by decide) rfl rfl (Nat.le_of_ble_eq_true rfl) rfl (fun p e s m args below meth c A hC => ?_)
  unfold wp_M_isNowhere at hw
  refine vv_iload_n hC d_M_isNowhere_0 1 rfl rfl ?_
  refine vv_iconst hC d_M_isNowhere_1 (v := (1 : Int32)) (by decide) ?_
  refine vv_icmp_le hC 24 d_M_isNowhere_2 (by decide) (fun cd => ?_) (fun cd => ?_)
  · have hw := hw.1 cd
    refine vv_iconst hC d_M_isNowhere_24 (v := (0 : Int32)) (by decide) ?_
    exact vv_zret hC d_M_isNowhere_25 rfl () hw rfl
  · have hw := hw.2 cd
    refine vv_aload_n hC d_M_isNowhere_5 0 rfl rfl ?_
    refine vv_get hC (v := .ref (a_M 11)) hin_M 0 18 tb_690 d_M_isNowhere_6 rfl rfl (by decide) rfl rfl ?_
    refine vv_sipush hC d_M_isNowhere_9 (v := (401 : Int32)) (by decide) ?_
    refine vv_iload_n hC d_M_isNowhere_12 1 rfl rfl ?_
    refine vv_iconst hC d_M_isNowhere_13 (v := (2 : Int32)) (by decide) ?_
    refine vv_idiv hC d_M_isNowhere_14 (by decide) ?_
    refine vv_iadd hC d_M_isNowhere_15 ?_
    obtain ⟨hin_1, hw⟩ := hw
    refine vv_iald hC 11 0 d_M_isNowhere_16 rfl rfl hin_1 ?_
    refine vv_if_ne hC 24 d_M_isNowhere_17 (by decide) (fun cd => ?_) (fun cd => ?_)
    · have hw := hw.2 cd
      refine vv_iconst hC d_M_isNowhere_24 (v := (0 : Int32)) (by decide) ?_
      exact vv_zret hC d_M_isNowhere_25 rfl () hw rfl
    · have hw := hw.1 cd
      refine vv_iconst hC d_M_isNowhere_20 (v := (1 : Int32)) (by decide) ?_
      refine vv_goto hC 25 d_M_isNowhere_21 (by decide) ?_
      exact vv_zret hC d_M_isNowhere_25 rfl () hw rfl
set_option maxHeartbeats 4000000 in
set_option maxRecDepth 100000 in
theorem l_M_findNowhere_L2 {p : Program} {l : Launch} {e : Env} {s : State} {m : MethodId} {args : Array Value} {below : List Frame} {meth : Method} {c : Code} {D : va_G} {cA : Nat → ClassId} {sx : Nat → Nat} {A : Nat → Prop} (a_M : Nat → Nat) (A_M : (Nat → Nat → Int32)) (Q : (Nat → Int32) → Prop) (X2 : (Nat → Int32) → Prop) (hC : CX p s m args meth c b_M_findNowhere R_M TB 2 D vwCl (tyl cA) A (SPl sx) none) (hX2 : ∀ (I_M : (Nat → Int32)), X2 I_M → VV p l e ({ frames := 1, cells := 0, slots := 0, locals := 22 } : Room) s m args below meth c 2 D vwCl A 0 0 (QV below args s D vwCl (tyl cA) A (fun (u : (Nat → Int32)) => Q u) (fun u : (Nat → Int32) => kc_M cA a_M u A_M)) (kc_M cA a_M I_M A_M) 46 [(0, .ref (a_M 0))] []) : ∀ (n2 : Nat) (I_M : (Nat → Int32)) (v1 : Int32), wp_M_findNowhere_L2 A_M Q X2 n2 I_M v1 → VV p l e ({ frames := 1, cells := 0, slots := 0, locals := 22 } : Room) s m args below meth c 2 D vwCl A 0 0 (QV below args s D vwCl (tyl cA) A (fun (u : (Nat → Int32)) => Q u) (fun u : (Nat → Int32) => kc_M cA a_M u A_M)) (kc_M cA a_M I_M A_M) 2 [(0, .ref (a_M 0)), (1, .int v1)] [] := by
  intro n2
  induction n2 with
  | zero =>
    intro I_M v1 hw
    exact absurd hw (fun z => z)
  | succ n2 ih =>
    intro I_M v1 hw
    unfold wp_M_findNowhere_L2 at hw
    refine vv_iload_n hC d_M_findNowhere_2 1 rfl rfl ?_
    refine vv_aload_n hC d_M_findNowhere_3 0 rfl rfl ?_
    refine vv_get hC (v := .ref (a_M 3)) hin_M 0 10 tb_682 d_M_findNowhere_4 rfl rfl (by decide) rfl rfl ?_
    refine vv_bipush hC d_M_findNowhere_7 (v := (7 : Int32)) (by decide) ?_
    refine vv_iald hC 3 0 d_M_findNowhere_9 rfl rfl (vin_c (by decide)) ?_
    refine vv_icmp_ge hC 46 d_M_findNowhere_10 (by decide) (fun cd => ?_) (fun cd => ?_)
    · have hw := hw.1 cd
      exact vv_sub [0] (by rfl) (hX2 I_M hw)
    · have hw := hw.2 cd
      refine vv_aload_n hC d_M_findNowhere_13 0 rfl rfl ?_
      refine vv_aload_n hC d_M_findNowhere_14 0 rfl rfl ?_
      refine vv_get hC (v := .ref (a_M 6)) hin_M 0 13 tb_685 d_M_findNowhere_15 rfl rfl (by decide) rfl rfl ?_
      refine vv_bipush hC d_M_findNowhere_18 (v := (8 : Int32)) (by decide) ?_
      refine vv_iload_n hC d_M_findNowhere_20 1 rfl rfl ?_
      refine vv_iadd hC d_M_findNowhere_21 ?_
      obtain ⟨hin_1, hw⟩ := hw
      refine vv_iald hC 6 0 d_M_findNowhere_22 rfl rfl hin_1 ?_
      refine vv_callVI (wr := []) hC (c_M_isNowhere l D cA sx a_M I_M A_M ((A_M 5) (((8 : Int32) + v1)).toNatClampNeg) _ hw) (cw_M_142 hC) d_M_findNowhere_23 [] [0, 1, 2, 3, 4, 5, 6, 7, 8, 9, 10, 11, 12, 13, 14, 15, 16, 17, 18, 19, 20, 21, 22, 23] [] [0, 1, 2, 3, 4, 5, 6, 7, 8, 9, 10, 11, 12, 13, 14, 15, 16, 17, 18, 19, 20, 21, 22, 23] (fun u_3 : Unit => kc_M cA a_M I_M A_M) ⟨Nat.zero_le _, Nat.zero_le _⟩ rfl rfl (fun _ => rfl) rfl rfl rfl rfl rfl rfl rfl rfl (Nat.le_of_ble_eq_true rfl) (fun r_2 u_3 hw => ?_)
      refine vv_if_eq hC 40 d_M_findNowhere_26 (by decide) (fun cd => ?_) (fun cd => ?_)
      · have hw := hw.1 cd
        refine vv_iinc hC d_M_findNowhere_40 1 rfl (v := (v1 + (1 : Int32))) rfl (by decide) [1, 0] (L2 := [(0, .ref (a_M 0)), (1, .int (v1 + (1 : Int32)))]) rfl ?_
        refine vv_goto hC 2 d_M_findNowhere_43 (by decide) ?_
        exact vv_sub [0, 1] (by rfl) (ih I_M (v1 + (1 : Int32)) hw)
      · have hw := hw.2 cd
        refine vv_aload_n hC d_M_findNowhere_29 0 rfl rfl ?_
        refine vv_iconst hC d_M_findNowhere_30 (v := (5 : Int32)) (by decide) ?_
        refine vv_aload_n hC d_M_findNowhere_31 0 rfl rfl ?_
        refine vv_get hC (v := .ref (a_M 13)) hin_M 0 20 tb_692 d_M_findNowhere_32 rfl rfl (by decide) rfl rfl ?_
        refine vv_iload_n hC d_M_findNowhere_35 1 rfl rfl ?_
        obtain ⟨hin_4, hw⟩ := hw
        refine vv_iald hC 13 0 d_M_findNowhere_36 rfl rfl hin_4 ?_
        refine vv_callVV (wr := []) hC (c_M_wrong l D cA sx a_M I_M A_M (5 : Int32) ((A_M 12) (v1).toNatClampNeg) _ hw) (cw_M_104 hC) d_M_findNowhere_37 [] [0, 1, 2, 3, 4, 5, 6, 7, 8, 9, 10, 11, 12, 13, 14, 15, 16, 17, 18, 19, 20, 21, 22, 23] [] [0, 1, 2, 3, 4, 5, 6, 7, 8, 9, 10, 11, 12, 13, 14, 15, 16, 17, 18, 19, 20, 21, 22, 23] (fun u_5 : (Nat → Int32) => kc_M cA a_M u_5 A_M) ⟨Nat.zero_le _, Nat.zero_le _⟩ rfl rfl (fun _ => rfl) rfl rfl rfl rfl rfl rfl rfl rfl (Nat.le_of_ble_eq_true rfl) (fun u_5 hw => ?_)
        refine vv_iinc hC d_M_findNowhere_40 1 rfl (v := (v1 + (1 : Int32))) rfl (by decide) [1, 0] (L2 := [(0, .ref (a_M 0)), (1, .int (v1 + (1 : Int32)))]) rfl ?_
        refine vv_goto hC 2 d_M_findNowhere_43 (by decide) ?_
        exact vv_sub [0, 1] (by rfl) (ih u_5 (v1 + (1 : Int32)) hw)
set_option maxHeartbeats 4000000 in
set_option maxRecDepth 100000 in
theorem l_M_findNowhere_L48 {p : Program} {l : Launch} {e : Env} {s : State} {m : MethodId} {args : Array Value} {below : List Frame} {meth : Method} {c : Code} {D : va_G} {cA : Nat → ClassId} {sx : Nat → Nat} {A : Nat → Prop} (a_M : Nat → Nat) (A_M : (Nat → Nat → Int32)) (Q : (Nat → Int32) → Prop) (X48 : (Nat → Int32) → Prop) (hC : CX p s m args meth c b_M_findNowhere R_M TB 2 D vwCl (tyl cA) A (SPl sx) none) (hX48 : ∀ (I_M : (Nat → Int32)), X48 I_M → VV p l e ({ frames := 1, cells := 0, slots := 0, locals := 22 } : Room) s m args below meth c 2 D vwCl A 0 0 (QV below args s D vwCl (tyl cA) A (fun (u : (Nat → Int32)) => Q u) (fun u : (Nat → Int32) => kc_M cA a_M u A_M)) (kc_M cA a_M I_M A_M) 92 [(0, .ref (a_M 0))] []) : ∀ (n48 : Nat) (I_M : (Nat → Int32)) (v1 : Int32), wp_M_findNowhere_L48 A_M Q X48 n48 I_M v1 → VV p l e ({ frames := 1, cells := 0, slots := 0, locals := 22 } : Room) s m args below meth c 2 D vwCl A 0 0 (QV below args s D vwCl (tyl cA) A (fun (u : (Nat → Int32)) => Q u) (fun u : (Nat → Int32) => kc_M cA a_M u A_M)) (kc_M cA a_M I_M A_M) 48 [(0, .ref (a_M 0)), (1, .int v1)] [] := by
  intro n48
  induction n48 with
  | zero =>
    intro I_M v1 hw
    exact absurd hw (fun z => z)
  | succ n48 ih =>
    intro I_M v1 hw
    unfold wp_M_findNowhere_L48 at hw
    refine vv_iload_n hC d_M_findNowhere_48 1 rfl rfl ?_
    refine vv_aload_n hC d_M_findNowhere_49 0 rfl rfl ?_
    refine vv_get hC (v := .ref (a_M 3)) hin_M 0 10 tb_682 d_M_findNowhere_50 rfl rfl (by decide) rfl rfl ?_
    refine vv_bipush hC d_M_findNowhere_53 (v := (8 : Int32)) (by decide) ?_
    refine vv_iald hC 3 0 d_M_findNowhere_55 rfl rfl (vin_c (by decide)) ?_
    refine vv_icmp_ge hC 92 d_M_findNowhere_56 (by decide) (fun cd => ?_) (fun cd => ?_)
    · have hw := hw.1 cd
      exact vv_sub [0] (by rfl) (hX48 I_M hw)
    · have hw := hw.2 cd
      refine vv_aload_n hC d_M_findNowhere_59 0 rfl rfl ?_
      refine vv_aload_n hC d_M_findNowhere_60 0 rfl rfl ?_
      refine vv_get hC (v := .ref (a_M 7)) hin_M 0 14 tb_686 d_M_findNowhere_61 rfl rfl (by decide) rfl rfl ?_
      refine vv_bipush hC d_M_findNowhere_64 (v := (8 : Int32)) (by decide) ?_
      refine vv_iload_n hC d_M_findNowhere_66 1 rfl rfl ?_
      refine vv_iadd hC d_M_findNowhere_67 ?_
      obtain ⟨hin_8, hw⟩ := hw
      refine vv_iald hC 7 0 d_M_findNowhere_68 rfl rfl hin_8 ?_
      refine vv_callVI (wr := []) hC (c_M_isNowhere l D cA sx a_M I_M A_M ((A_M 6) (((8 : Int32) + v1)).toNatClampNeg) _ hw) (cw_M_142 hC) d_M_findNowhere_69 [] [0, 1, 2, 3, 4, 5, 6, 7, 8, 9, 10, 11, 12, 13, 14, 15, 16, 17, 18, 19, 20, 21, 22, 23] [] [0, 1, 2, 3, 4, 5, 6, 7, 8, 9, 10, 11, 12, 13, 14, 15, 16, 17, 18, 19, 20, 21, 22, 23] (fun u_10 : Unit => kc_M cA a_M I_M A_M) ⟨Nat.zero_le _, Nat.zero_le _⟩ rfl rfl (fun _ => rfl) rfl rfl rfl rfl rfl rfl rfl rfl (Nat.le_of_ble_eq_true rfl) (fun r_9 u_10 hw => ?_)
      refine vv_if_eq hC 86 d_M_findNowhere_72 (by decide) (fun cd => ?_) (fun cd => ?_)
      · have hw := hw.1 cd
        refine vv_iinc hC d_M_findNowhere_86 1 rfl (v := (v1 + (1 : Int32))) rfl (by decide) [1, 0] (L2 := [(0, .ref (a_M 0)), (1, .int (v1 + (1 : Int32)))]) rfl ?_
        refine vv_goto hC 48 d_M_findNowhere_89 (by decide) ?_
        exact vv_sub [0, 1] (by rfl) (ih I_M (v1 + (1 : Int32)) hw)
      · have hw := hw.2 cd
        refine vv_aload_n hC d_M_findNowhere_75 0 rfl rfl ?_
        refine vv_iconst hC d_M_findNowhere_76 (v := (5 : Int32)) (by decide) ?_
        refine vv_aload_n hC d_M_findNowhere_77 0 rfl rfl ?_
        refine vv_get hC (v := .ref (a_M 14)) hin_M 0 21 tb_693 d_M_findNowhere_78 rfl rfl (by decide) rfl rfl ?_
        refine vv_iload_n hC d_M_findNowhere_81 1 rfl rfl ?_
        obtain ⟨hin_11, hw⟩ := hw
        refine vv_iald hC 14 0 d_M_findNowhere_82 rfl rfl hin_11 ?_
        refine vv_callVV (wr := []) hC (c_M_wrong l D cA sx a_M I_M A_M (5 : Int32) ((A_M 13) (v1).toNatClampNeg) _ hw) (cw_M_104 hC) d_M_findNowhere_83 [] [0, 1, 2, 3, 4, 5, 6, 7, 8, 9, 10, 11, 12, 13, 14, 15, 16, 17, 18, 19, 20, 21, 22, 23] [] [0, 1, 2, 3, 4, 5, 6, 7, 8, 9, 10, 11, 12, 13, 14, 15, 16, 17, 18, 19, 20, 21, 22, 23] (fun u_12 : (Nat → Int32) => kc_M cA a_M u_12 A_M) ⟨Nat.zero_le _, Nat.zero_le _⟩ rfl rfl (fun _ => rfl) rfl rfl rfl rfl rfl rfl rfl rfl (Nat.le_of_ble_eq_true rfl) (fun u_12 hw => ?_)
        refine vv_iinc hC d_M_findNowhere_86 1 rfl (v := (v1 + (1 : Int32))) rfl (by decide) [1, 0] (L2 := [(0, .ref (a_M 0)), (1, .int (v1 + (1 : Int32)))]) rfl ?_
        refine vv_goto hC 48 d_M_findNowhere_89 (by decide) ?_
        exact vv_sub [0, 1] (by rfl) (ih u_12 (v1 + (1 : Int32)) hw)
set_option maxHeartbeats 4000000 in
set_option maxRecDepth 100000 in
theorem l_M_findNowhere_b133 {p : Program} {l : Launch} {e : Env} {s : State} {m : MethodId} {args : Array Value} {below : List Frame} {meth : Method} {c : Code} {D : va_G} {cA : Nat → ClassId} {sx : Nat → Nat} {A : Nat → Prop} (a_M : Nat → Nat) (A_M : (Nat → Nat → Int32)) (Q : (Nat → Int32) → Prop) (K94 : (Nat → Int32) → Int32 → Prop) (X94 : (Nat → Int32) → Prop) (hC : CX p s m args meth c b_M_findNowhere R_M TB 2 D vwCl (tyl cA) A (SPl sx) none) (hK94 : ∀ (I_M : (Nat → Int32)) (v1 : Int32), K94 I_M v1 → VV p l e ({ frames := 1, cells := 0, slots := 0, locals := 22 } : Room) s m args below meth c 2 D vwCl A 0 0 (QV below args s D vwCl (tyl cA) A (fun (u : (Nat → Int32)) => Q u) (fun u : (Nat → Int32) => kc_M cA a_M u A_M)) (kc_M cA a_M I_M A_M) 94 [(0, .ref (a_M 0)), (1, .int v1)] []) (hX94 : ∀ (I_M : (Nat → Int32)), X94 I_M → VV p l e ({ frames := 1, cells := 0, slots := 0, locals := 22 } : Room) s m args below meth c 2 D vwCl A 0 0 (QV below args s D vwCl (tyl cA) A (fun (u : (Nat → Int32)) => Q u) (fun u : (Nat → Int32) => kc_M cA a_M u A_M)) (kc_M cA a_M I_M A_M) 167 [] []) : ∀ (I_M : (Nat → Int32)) (v1 : Int32), wp_M_findNowhere_b133 A_M Q K94 X94 I_M v1 → VV p l e ({ frames := 1, cells := 0, slots := 0, locals := 22 } : Room) s m args below meth c 2 D vwCl A 0 0 (QV below args s D vwCl (tyl cA) A (fun (u : (Nat → Int32)) => Q u) (fun u : (Nat → Int32) => kc_M cA a_M u A_M)) (kc_M cA a_M I_M A_M) 133 [(0, .ref (a_M 0)), (1, .int v1)] [] := by
  intro I_M v1 hw
  unfold wp_M_findNowhere_b133 at hw
  refine vv_aload_n hC d_M_findNowhere_133 0 rfl rfl ?_
  refine vv_aload_n hC d_M_findNowhere_134 0 rfl rfl ?_
  refine vv_get hC (v := .ref (a_M 10)) hin_M 0 17 tb_689 d_M_findNowhere_135 rfl rfl (by decide) rfl rfl ?_
  refine vv_sipush hC d_M_findNowhere_138 (v := (300 : Int32)) (by decide) ?_
  refine vv_iload_n hC d_M_findNowhere_141 1 rfl rfl ?_
  refine vv_iadd hC d_M_findNowhere_142 ?_
  obtain ⟨hin_18, hw⟩ := hw
  refine vv_iald hC 10 0 d_M_findNowhere_143 rfl rfl hin_18 ?_
  refine vv_callVI (wr := []) hC (c_M_isNowhere l D cA sx a_M I_M A_M ((A_M 9) (((300 : Int32) + v1)).toNatClampNeg) _ hw) (cw_M_142 hC) d_M_findNowhere_144 [] [0, 1, 2, 3, 4, 5, 6, 7, 8, 9, 10, 11, 12, 13, 14, 15, 16, 17, 18, 19, 20, 21, 22, 23] [] [0, 1, 2, 3, 4, 5, 6, 7, 8, 9, 10, 11, 12, 13, 14, 15, 16, 17, 18, 19, 20, 21, 22, 23] (fun u_20 : Unit => kc_M cA a_M I_M A_M) ⟨Nat.zero_le _, Nat.zero_le _⟩ rfl rfl (fun _ => rfl) rfl rfl rfl rfl rfl rfl rfl rfl (Nat.le_of_ble_eq_true rfl) (fun r_19 u_20 hw => ?_)
  refine vv_if_eq hC 161 d_M_findNowhere_147 (by decide) (fun cd => ?_) (fun cd => ?_)
  · have hw := hw.1 cd
    refine vv_iinc hC d_M_findNowhere_161 1 rfl (v := (v1 + (1 : Int32))) rfl (by decide) [1, 0] (L2 := [(0, .ref (a_M 0)), (1, .int (v1 + (1 : Int32)))]) rfl ?_
    refine vv_goto hC 94 d_M_findNowhere_164 (by decide) ?_
    exact vv_sub [0, 1] (by rfl) (hK94 I_M (v1 + (1 : Int32)) hw)
  · have hw := hw.2 cd
    refine vv_aload_n hC d_M_findNowhere_150 0 rfl rfl ?_
    refine vv_iconst hC d_M_findNowhere_151 (v := (5 : Int32)) (by decide) ?_
    refine vv_aload_n hC d_M_findNowhere_152 0 rfl rfl ?_
    refine vv_get hC (v := .ref (a_M 16)) hin_M 0 23 tb_695 d_M_findNowhere_153 rfl rfl (by decide) rfl rfl ?_
    refine vv_iload_n hC d_M_findNowhere_156 1 rfl rfl ?_
    obtain ⟨hin_21, hw⟩ := hw
    refine vv_iald hC 16 0 d_M_findNowhere_157 rfl rfl hin_21 ?_
    refine vv_callVV (wr := []) hC (c_M_wrong l D cA sx a_M I_M A_M (5 : Int32) ((A_M 15) (v1).toNatClampNeg) _ hw) (cw_M_104 hC) d_M_findNowhere_158 [] [0, 1, 2, 3, 4, 5, 6, 7, 8, 9, 10, 11, 12, 13, 14, 15, 16, 17, 18, 19, 20, 21, 22, 23] [] [0, 1, 2, 3, 4, 5, 6, 7, 8, 9, 10, 11, 12, 13, 14, 15, 16, 17, 18, 19, 20, 21, 22, 23] (fun u_22 : (Nat → Int32) => kc_M cA a_M u_22 A_M) ⟨Nat.zero_le _, Nat.zero_le _⟩ rfl rfl (fun _ => rfl) rfl rfl rfl rfl rfl rfl rfl rfl (Nat.le_of_ble_eq_true rfl) (fun u_22 hw => ?_)
    refine vv_iinc hC d_M_findNowhere_161 1 rfl (v := (v1 + (1 : Int32))) rfl (by decide) [1, 0] (L2 := [(0, .ref (a_M 0)), (1, .int (v1 + (1 : Int32)))]) rfl ?_
    refine vv_goto hC 94 d_M_findNowhere_164 (by decide) ?_
    exact vv_sub [0, 1] (by rfl) (hK94 u_22 (v1 + (1 : Int32)) hw)
set_option maxHeartbeats 4000000 in
set_option maxRecDepth 100000 in
theorem l_M_findNowhere_L94 {p : Program} {l : Launch} {e : Env} {s : State} {m : MethodId} {args : Array Value} {below : List Frame} {meth : Method} {c : Code} {D : va_G} {cA : Nat → ClassId} {sx : Nat → Nat} {A : Nat → Prop} (a_M : Nat → Nat) (A_M : (Nat → Nat → Int32)) (Q : (Nat → Int32) → Prop) (X94 : (Nat → Int32) → Prop) (hC : CX p s m args meth c b_M_findNowhere R_M TB 2 D vwCl (tyl cA) A (SPl sx) none) (hX94 : ∀ (I_M : (Nat → Int32)), X94 I_M → VV p l e ({ frames := 1, cells := 0, slots := 0, locals := 22 } : Room) s m args below meth c 2 D vwCl A 0 0 (QV below args s D vwCl (tyl cA) A (fun (u : (Nat → Int32)) => Q u) (fun u : (Nat → Int32) => kc_M cA a_M u A_M)) (kc_M cA a_M I_M A_M) 167 [] []) : ∀ (n94 : Nat) (I_M : (Nat → Int32)) (v1 : Int32), wp_M_findNowhere_L94 A_M Q X94 n94 I_M v1 → VV p l e ({ frames := 1, cells := 0, slots := 0, locals := 22 } : Room) s m args below meth c 2 D vwCl A 0 0 (QV below args s D vwCl (tyl cA) A (fun (u : (Nat → Int32)) => Q u) (fun u : (Nat → Int32) => kc_M cA a_M u A_M)) (kc_M cA a_M I_M A_M) 94 [(0, .ref (a_M 0)), (1, .int v1)] [] := by
  intro n94
  induction n94 with
  | zero =>
    intro I_M v1 hw
    exact absurd hw (fun z => z)
  | succ n94 ih =>
    intro I_M v1 hw
    unfold wp_M_findNowhere_L94 at hw
    refine vv_iload_n hC d_M_findNowhere_94 1 rfl rfl ?_
    refine vv_aload_n hC d_M_findNowhere_95 0 rfl rfl ?_
    refine vv_get hC (v := .ref (a_M 3)) hin_M 0 10 tb_682 d_M_findNowhere_96 rfl rfl (by decide) rfl rfl ?_
    refine vv_bipush hC d_M_findNowhere_99 (v := (9 : Int32)) (by decide) ?_
    refine vv_iald hC 3 0 d_M_findNowhere_101 rfl rfl (vin_c (by decide)) ?_
    refine vv_icmp_ge hC 167 d_M_findNowhere_102 (by decide) (fun cd => ?_) (fun cd => ?_)
    · have hw := hw.1 cd
      exact vv_sub [] (by rfl) (hX94 I_M hw)
    · have hw := hw.2 cd
      refine vv_aload_n hC d_M_findNowhere_105 0 rfl rfl ?_
      refine vv_aload_n hC d_M_findNowhere_106 0 rfl rfl ?_
      refine vv_get hC (v := .ref (a_M 9)) hin_M 0 16 tb_688 d_M_findNowhere_107 rfl rfl (by decide) rfl rfl ?_
      refine vv_sipush hC d_M_findNowhere_110 (v := (300 : Int32)) (by decide) ?_
      refine vv_iload_n hC d_M_findNowhere_113 1 rfl rfl ?_
      refine vv_iadd hC d_M_findNowhere_114 ?_
      obtain ⟨hin_15, hw⟩ := hw
      refine vv_iald hC 9 0 d_M_findNowhere_115 rfl rfl hin_15 ?_
      refine vv_callVI (wr := []) hC (c_M_isNowhere l D cA sx a_M I_M A_M ((A_M 8) (((300 : Int32) + v1)).toNatClampNeg) _ hw) (cw_M_142 hC) d_M_findNowhere_116 [] [0, 1, 2, 3, 4, 5, 6, 7, 8, 9, 10, 11, 12, 13, 14, 15, 16, 17, 18, 19, 20, 21, 22, 23] [] [0, 1, 2, 3, 4, 5, 6, 7, 8, 9, 10, 11, 12, 13, 14, 15, 16, 17, 18, 19, 20, 21, 22, 23] (fun u_17 : Unit => kc_M cA a_M I_M A_M) ⟨Nat.zero_le _, Nat.zero_le _⟩ rfl rfl (fun _ => rfl) rfl rfl rfl rfl rfl rfl rfl rfl (Nat.le_of_ble_eq_true rfl) (fun r_16 u_17 hw => ?_)
      refine vv_if_eq hC 133 d_M_findNowhere_119 (by decide) (fun cd => ?_) (fun cd => ?_)
      · have hw := hw.1 cd
        exact vv_sub [0, 1] (by rfl) (l_M_findNowhere_b133 a_M A_M Q (wp_M_findNowhere_L94 A_M Q X94 n94) X94 hC ih hX94 I_M v1 hw)
      · have hw := hw.2 cd
        refine vv_aload_n hC d_M_findNowhere_122 0 rfl rfl ?_
        refine vv_iconst hC d_M_findNowhere_123 (v := (5 : Int32)) (by decide) ?_
        refine vv_aload_n hC d_M_findNowhere_124 0 rfl rfl ?_
        refine vv_get hC (v := .ref (a_M 15)) hin_M 0 22 tb_694 d_M_findNowhere_125 rfl rfl (by decide) rfl rfl ?_
        refine vv_iload_n hC d_M_findNowhere_128 1 rfl rfl ?_
        obtain ⟨hin_24, hw⟩ := hw
        refine vv_iald hC 15 0 d_M_findNowhere_129 rfl rfl hin_24 ?_
        refine vv_callVV (wr := []) hC (c_M_wrong l D cA sx a_M I_M A_M (5 : Int32) ((A_M 14) (v1).toNatClampNeg) _ hw) (cw_M_104 hC) d_M_findNowhere_130 [] [0, 1, 2, 3, 4, 5, 6, 7, 8, 9, 10, 11, 12, 13, 14, 15, 16, 17, 18, 19, 20, 21, 22, 23] [] [0, 1, 2, 3, 4, 5, 6, 7, 8, 9, 10, 11, 12, 13, 14, 15, 16, 17, 18, 19, 20, 21, 22, 23] (fun u_25 : (Nat → Int32) => kc_M cA a_M u_25 A_M) ⟨Nat.zero_le _, Nat.zero_le _⟩ rfl rfl (fun _ => rfl) rfl rfl rfl rfl rfl rfl rfl rfl (Nat.le_of_ble_eq_true rfl) (fun u_25 hw => ?_)
        exact vv_sub [0, 1] (by rfl) (l_M_findNowhere_b133 a_M A_M Q (wp_M_findNowhere_L94 A_M Q X94 n94) X94 hC ih hX94 u_25 v1 hw)
set_option maxHeartbeats 4000000 in
set_option maxRecDepth 100000 in
theorem c_M_findNowhere (l : Launch) (D : va_G) (cA : Nat → ClassId) (sx : Nat → Nat) (a_M : Nat → Nat) (I_M : (Nat → Int32)) (A_M : (Nat → Nat → Int32)) (Q : (Nat → Int32) → Prop) (hw : wp_M_findNowhere I_M A_M Q) : MetV l y_M_findNowhere (Cond.code y_M_findNowhere b_M_findNowhere 2 none :: TB) ({ frames := 1, cells := 0, slots := 0, locals := 22 } : Room) D vwCl (tyl cA) (SPl sx) [.ref (a_M 0)] (kc_M cA a_M I_M A_M) (fun (u : (Nat → Int32)) => Q u) (fun u : (Nat → Int32) => kc_M cA a_M u A_M) := by
  refine vv_entryV (cc := b_M_findNowhere) (own := R_M) (L := [(0, .ref (a_M 0))]) (by decide) rfl rfl (Nat.le_of_ble_eq_true rfl) rfl (fun p e s m args below meth c A hC => ?_)
  unfold wp_M_findNowhere at hw
  refine vv_iconst hC d_M_findNowhere_0 (v := (0 : Int32)) (by decide) ?_
  refine vv_istore_n hC d_M_findNowhere_1 rfl (by decide) [1, 0] (L2 := [(0, .ref (a_M 0)), (1, .int (0 : Int32))]) rfl ?_
  obtain ⟨m2, hw⟩ := hw
  refine vv_sub [0, 1] (by rfl) (l_M_findNowhere_L2 a_M A_M Q _ hC (fun I_M_7 hw => ?_) m2 I_M (0 : Int32) hw)
  refine vv_iconst hC d_M_findNowhere_46 (v := (0 : Int32)) (by decide) ?_
  refine vv_istore_n hC d_M_findNowhere_47 rfl (by decide) [1, 0] (L2 := [(0, .ref (a_M 0)), (1, .int (0 : Int32))]) rfl ?_
  obtain ⟨m48, hw⟩ := hw
  refine vv_sub [0, 1] (by rfl) (l_M_findNowhere_L48 a_M A_M Q _ hC (fun I_M_14 hw => ?_) m48 I_M_7 (0 : Int32) hw)
  refine vv_iconst hC d_M_findNowhere_92 (v := (0 : Int32)) (by decide) ?_
  refine vv_istore_n hC d_M_findNowhere_93 rfl (by decide) [1, 0] (L2 := [(0, .ref (a_M 0)), (1, .int (0 : Int32))]) rfl ?_
  obtain ⟨m94, hw⟩ := hw
  refine vv_sub [0, 1] (by rfl) (l_M_findNowhere_L94 a_M A_M Q _ hC (fun I_M_27 hw => ?_) m94 I_M_14 (0 : Int32) hw)
  exact vv_vret hC d_M_findNowhere_167 I_M_27 hw rfl
set_option maxHeartbeats 4000000 in
set_option maxRecDepth 100000 in
theorem c_M_hasCome (l : Launch) (D : va_G) (cA : Nat → ClassId) (sx : Nat → Nat) (a_M : Nat → Nat) (I_M : (Nat → Int32)) (A_M : (Nat → Nat → Int32)) (x1 : Int32) (Q : Int32 → Prop) (hw : wp_M_hasCome A_M x1 Q) : MetI l y_M_hasCome (Cond.code y_M_hasCome b_M_hasCome 2 (some .boolean) :: TB) ({ frames := 0, cells := 0, slots := 0, locals := 0 } : Room) D vwCl (tyl cA) (SPl sx) [.ref (a_M 0), .int x1] (kc_M cA a_M I_M A_M) (fun (r : Int32) (u : Unit) => Q r) (fun u : Unit => kc_M cA a_M I_M A_M) := by
  refine vv_entryI (cc := b_M_hasCome) (own := R_M) (L := [(0, .ref (a_M 0)), (1, .int x1)]) (by decide) rfl rfl (Nat.le_of_ble_eq_true rfl) rfl (fun p e s m args below meth c A hC => ?_)
  unfold wp_M_hasCome at hw
  refine vv_iload_n hC d_M_hasCome_0 1 rfl rfl ?_
  refine vv_iconst hC d_M_hasCome_1 (v := (2 : Int32)) (by decide) ?_
  refine vv_icmp_lt hC 16 d_M_hasCome_2 (by decide) (fun cd => ?_) (fun cd => ?_)
  · have hw := hw.1 cd
    refine vv_iconst hC d_M_hasCome_16 (v := (1 : Int32)) (by decide) ?_
    refine vv_goto hC 21 d_M_hasCome_17 (by decide) ?_
    exact vv_zret hC d_M_hasCome_21 rfl () hw rfl
  · have hw := hw.2 cd
    refine vv_aload_n hC d_M_hasCome_5 0 rfl rfl ?_
    refine vv_get hC (v := .ref (a_M 21)) hin_M 0 28 tb_700 d_M_hasCome_6 rfl rfl (by decide) rfl rfl ?_
    refine vv_iload_n hC d_M_hasCome_9 1 rfl rfl ?_
    refine vv_iconst hC d_M_hasCome_10 (v := (2 : Int32)) (by decide) ?_
    refine vv_idiv hC d_M_hasCome_11 (by decide) ?_
    obtain ⟨hin_1, hw⟩ := hw
    refine vv_zald hC 21 1 d_M_hasCome_12 rfl rfl hin_1 ?_
    refine vv_if_eq hC 20 d_M_hasCome_13 (by decide) (fun cd => ?_) (fun cd => ?_)
    · have hw := hw.1 cd
      refine vv_iconst hC d_M_hasCome_20 (v := (0 : Int32)) (by decide) ?_
      exact vv_zret hC d_M_hasCome_21 rfl () hw rfl
    · have hw := hw.2 cd
      refine vv_iconst hC d_M_hasCome_16 (v := (1 : Int32)) (by decide) ?_
      refine vv_goto hC 21 d_M_hasCome_17 (by decide) ?_
      exact vv_zret hC d_M_hasCome_21 rfl () hw rfl
set_option maxHeartbeats 4000000 in
set_option maxRecDepth 100000 in
theorem l_M_sort_b48 {p : Program} {l : Launch} {e : Env} {s : State} {m : MethodId} {args : Array Value} {below : List Frame} {meth : Method} {c : Code} {D : va_G} {cA : Nat → ClassId} {sx : Nat → Nat} {A : Nat → Prop} (a_M : Nat → Nat) (Q : (Nat → Int32) → (Nat → Nat → Int32) → Prop) (K2 : (Nat → Int32) → (Nat → Nat → Int32) → Int32 → Prop) (X2 : (Nat → Int32) → (Nat → Nat → Int32) → Prop) (hC : CX p s m args meth c b_M_sort R_M TB 4 D vwCl (tyl cA) A (SPl sx) none) (hK2 : ∀ (I_M : (Nat → Int32)) (A_M : (Nat → Nat → Int32)) (v1 : Int32), K2 I_M A_M v1 → VV p l e ({ frames := 1, cells := 0, slots := 0, locals := 21 } : Room) s m args below meth c 4 D vwCl A 0 0 (QV below args s D vwCl (tyl cA) A (fun (u : (Nat → Int32) × (Nat → Nat → Int32)) => Q u.1 u.2) (fun u : (Nat → Int32) × (Nat → Nat → Int32) => kc_M cA a_M u.1 u.2)) (kc_M cA a_M I_M A_M) 2 [(0, .ref (a_M 0)), (1, .int v1)] []) (hX2 : ∀ (I_M : (Nat → Int32)) (A_M : (Nat → Nat → Int32)), X2 I_M A_M → VV p l e ({ frames := 1, cells := 0, slots := 0, locals := 21 } : Room) s m args below meth c 4 D vwCl A 0 0 (QV below args s D vwCl (tyl cA) A (fun (u : (Nat → Int32) × (Nat → Nat → Int32)) => Q u.1 u.2) (fun u : (Nat → Int32) × (Nat → Nat → Int32) => kc_M cA a_M u.1 u.2)) (kc_M cA a_M I_M A_M) 61 [(0, .ref (a_M 0))] []) : ∀ (I_M : (Nat → Int32)) (A_M : (Nat → Nat → Int32)) (v1 : Int32), wp_M_sort_b48 Q K2 X2 I_M A_M v1 → VV p l e ({ frames := 1, cells := 0, slots := 0, locals := 21 } : Room) s m args below meth c 4 D vwCl A 0 0 (QV below args s D vwCl (tyl cA) A (fun (u : (Nat → Int32) × (Nat → Nat → Int32)) => Q u.1 u.2) (fun u : (Nat → Int32) × (Nat → Nat → Int32) => kc_M cA a_M u.1 u.2)) (kc_M cA a_M I_M A_M) 48 [(0, .ref (a_M 0)), (1, .int v1)] [] := by
  intro I_M A_M v1 hw
  unfold wp_M_sort_b48 at hw
  refine vv_aload_n hC d_M_sort_48 0 rfl rfl ?_
  refine vv_get hC (v := .ref (a_M 20)) hin_M 0 27 tb_699 d_M_sort_49 rfl rfl (by decide) rfl rfl ?_
  refine vv_iload_n hC d_M_sort_52 1 rfl rfl ?_
  refine vv_iconst hC d_M_sort_53 (v := (0 : Int32)) (by decide) ?_
  obtain ⟨hin_3, hw⟩ := hw
  refine vv_iast hC 20 0 d_M_sort_54 rfl rfl hin_3 (ws2 := kc_M cA a_M I_M (va_up A_M 19 (upd (A_M 19) (v1).toNatClampNeg (0 : Int32)))) (st_M_MA19 ..) ?_
  refine vv_iinc hC d_M_sort_55 1 rfl (v := (v1 + (1 : Int32))) rfl (by decide) [1, 0] (L2 := [(0, .ref (a_M 0)), (1, .int (v1 + (1 : Int32)))]) rfl ?_
  refine vv_goto hC 2 d_M_sort_58 (by decide) ?_
  exact vv_sub [0, 1] (by rfl) (hK2 I_M (va_up A_M 19 (upd (A_M 19) (v1).toNatClampNeg (0 : Int32))) (v1 + (1 : Int32)) hw)
set_option maxHeartbeats 4000000 in
set_option maxRecDepth 100000 in
theorem l_M_sort_L2 {p : Program} {l : Launch} {e : Env} {s : State} {m : MethodId} {args : Array Value} {below : List Frame} {meth : Method} {c : Code} {D : va_G} {cA : Nat → ClassId} {sx : Nat → Nat} {A : Nat → Prop} (a_M : Nat → Nat) (Q : (Nat → Int32) → (Nat → Nat → Int32) → Prop) (X2 : (Nat → Int32) → (Nat → Nat → Int32) → Prop) (hC : CX p s m args meth c b_M_sort R_M TB 4 D vwCl (tyl cA) A (SPl sx) none) (hX2 : ∀ (I_M : (Nat → Int32)) (A_M : (Nat → Nat → Int32)), X2 I_M A_M → VV p l e ({ frames := 1, cells := 0, slots := 0, locals := 21 } : Room) s m args below meth c 4 D vwCl A 0 0 (QV below args s D vwCl (tyl cA) A (fun (u : (Nat → Int32) × (Nat → Nat → Int32)) => Q u.1 u.2) (fun u : (Nat → Int32) × (Nat → Nat → Int32) => kc_M cA a_M u.1 u.2)) (kc_M cA a_M I_M A_M) 61 [(0, .ref (a_M 0))] []) : ∀ (n2 : Nat) (I_M : (Nat → Int32)) (A_M : (Nat → Nat → Int32)) (v1 : Int32), wp_M_sort_L2 Q X2 n2 I_M A_M v1 → VV p l e ({ frames := 1, cells := 0, slots := 0, locals := 21 } : Room) s m args below meth c 4 D vwCl A 0 0 (QV below args s D vwCl (tyl cA) A (fun (u : (Nat → Int32) × (Nat → Nat → Int32)) => Q u.1 u.2) (fun u : (Nat → Int32) × (Nat → Nat → Int32) => kc_M cA a_M u.1 u.2)) (kc_M cA a_M I_M A_M) 2 [(0, .ref (a_M 0)), (1, .int v1)] [] := by
  intro n2
  induction n2 with
  | zero =>
    intro I_M A_M v1 hw
    exact absurd hw (fun z => z)
  | succ n2 ih =>
    intro I_M A_M v1 hw
    unfold wp_M_sort_L2 at hw
    refine vv_iload_n hC d_M_sort_2 1 rfl rfl ?_
    refine vv_sipush hC d_M_sort_3 (v := (401 : Int32)) (by decide) ?_
    refine vv_icmp_ge hC 61 d_M_sort_6 (by decide) (fun cd => ?_) (fun cd => ?_)
    · have hw := hw.1 cd
      exact vv_sub [0] (by rfl) (hX2 I_M A_M hw)
    · have hw := hw.2 cd
      refine vv_aload_n hC d_M_sort_9 0 rfl rfl ?_
      refine vv_get hC (v := .ref (a_M 21)) hin_M 0 28 tb_700 d_M_sort_10 rfl rfl (by decide) rfl rfl ?_
      refine vv_iload_n hC d_M_sort_13 1 rfl rfl ?_
      refine vv_aload_n hC d_M_sort_14 0 rfl rfl ?_
      refine vv_get hC (v := .ref (a_M 11)) hin_M 0 18 tb_690 d_M_sort_15 rfl rfl (by decide) rfl rfl ?_
      refine vv_sipush hC d_M_sort_18 (v := (401 : Int32)) (by decide) ?_
      refine vv_iload_n hC d_M_sort_21 1 rfl rfl ?_
      refine vv_iadd hC d_M_sort_22 ?_
      obtain ⟨hin_1, hw⟩ := hw
      refine vv_iald hC 11 0 d_M_sort_23 rfl rfl hin_1 ?_
      refine vv_iconst hC d_M_sort_24 (v := (1 : Int32)) (by decide) ?_
      refine vv_icmp_eq hC 42 d_M_sort_25 (by decide) (fun cd => ?_) (fun cd => ?_)
      · have hw := hw.1 cd
        refine vv_iconst hC d_M_sort_42 (v := (1 : Int32)) (by decide) ?_
        refine vv_goto hC 47 d_M_sort_43 (by decide) ?_
        obtain ⟨hin_2, hw⟩ := hw
        refine vv_zast hC 21 1 d_M_sort_47 rfl rfl hin_2 (ws2 := kc_M cA a_M I_M (va_up A_M 20 (upd (A_M 20) (v1).toNatClampNeg (1 : Int32)))) (st_M_MA20 ..) ?_
        exact vv_sub [0, 1] (by rfl) (l_M_sort_b48 a_M Q (wp_M_sort_L2 Q X2 n2) X2 hC ih hX2 I_M (va_up A_M 20 (upd (A_M 20) (v1).toNatClampNeg (1 : Int32))) v1 hw)
      · have hw := hw.2 cd
        refine vv_aload_n hC d_M_sort_28 0 rfl rfl ?_
        refine vv_get hC (v := .ref (a_M 11)) hin_M 0 18 tb_690 d_M_sort_29 rfl rfl (by decide) rfl rfl ?_
        refine vv_sipush hC d_M_sort_32 (v := (401 : Int32)) (by decide) ?_
        refine vv_iload_n hC d_M_sort_35 1 rfl rfl ?_
        refine vv_iadd hC d_M_sort_36 ?_
        refine vv_iald hC 11 0 d_M_sort_37 rfl rfl hin_1 ?_
        refine vv_iconst hC d_M_sort_38 (v := (2 : Int32)) (by decide) ?_
        refine vv_icmp_ne hC 46 d_M_sort_39 (by decide) (fun cd => ?_) (fun cd => ?_)
        · have hw := hw.2 cd
          refine vv_iconst hC d_M_sort_46 (v := (0 : Int32)) (by decide) ?_
          obtain ⟨hin_4, hw⟩ := hw
          refine vv_zast hC 21 1 d_M_sort_47 rfl rfl hin_4 (ws2 := kc_M cA a_M I_M (va_up A_M 20 (upd (A_M 20) (v1).toNatClampNeg (0 : Int32)))) (st_M_MA20 ..) ?_
          exact vv_sub [0, 1] (by rfl) (l_M_sort_b48 a_M Q (wp_M_sort_L2 Q X2 n2) X2 hC ih hX2 I_M (va_up A_M 20 (upd (A_M 20) (v1).toNatClampNeg (0 : Int32))) v1 hw)
        · have hw := hw.1 cd
          refine vv_iconst hC d_M_sort_42 (v := (1 : Int32)) (by decide) ?_
          refine vv_goto hC 47 d_M_sort_43 (by decide) ?_
          obtain ⟨hin_5, hw⟩ := hw
          refine vv_zast hC 21 1 d_M_sort_47 rfl rfl hin_5 (ws2 := kc_M cA a_M I_M (va_up A_M 20 (upd (A_M 20) (v1).toNatClampNeg (1 : Int32)))) (st_M_MA20 ..) ?_
          exact vv_sub [0, 1] (by rfl) (l_M_sort_b48 a_M Q (wp_M_sort_L2 Q X2 n2) X2 hC ih hX2 I_M (va_up A_M 20 (upd (A_M 20) (v1).toNatClampNeg (1 : Int32))) v1 hw)
set_option maxHeartbeats 4000000 in
set_option maxRecDepth 100000 in
theorem l_M_sort_L65 {p : Program} {l : Launch} {e : Env} {s : State} {m : MethodId} {args : Array Value} {below : List Frame} {meth : Method} {c : Code} {D : va_G} {cA : Nat → ClassId} {sx : Nat → Nat} {A : Nat → Prop} (a_M : Nat → Nat) (Q : (Nat → Int32) → (Nat → Nat → Int32) → Prop) (X65 : (Nat → Int32) → (Nat → Nat → Int32) → Int32 → Prop) (hC : CX p s m args meth c b_M_sort R_M TB 4 D vwCl (tyl cA) A (SPl sx) none) (hX65 : ∀ (I_M : (Nat → Int32)) (A_M : (Nat → Nat → Int32)) (v1 : Int32), X65 I_M A_M v1 → VV p l e ({ frames := 1, cells := 0, slots := 0, locals := 21 } : Room) s m args below meth c 4 D vwCl A 0 0 (QV below args s D vwCl (tyl cA) A (fun (u : (Nat → Int32) × (Nat → Nat → Int32)) => Q u.1 u.2) (fun u : (Nat → Int32) × (Nat → Nat → Int32) => kc_M cA a_M u.1 u.2)) (kc_M cA a_M I_M A_M) 102 [(0, .ref (a_M 0)), (1, .int v1)] []) : ∀ (n65 : Nat) (I_M : (Nat → Int32)) (A_M : (Nat → Nat → Int32)) (v1 : Int32) (v2 : Int32), wp_M_sort_L65 Q X65 n65 I_M A_M v1 v2 → VV p l e ({ frames := 1, cells := 0, slots := 0, locals := 21 } : Room) s m args below meth c 4 D vwCl A 0 0 (QV below args s D vwCl (tyl cA) A (fun (u : (Nat → Int32) × (Nat → Nat → Int32)) => Q u.1 u.2) (fun u : (Nat → Int32) × (Nat → Nat → Int32) => kc_M cA a_M u.1 u.2)) (kc_M cA a_M I_M A_M) 65 [(0, .ref (a_M 0)), (1, .int v1), (2, .int v2)] [] := by
  intro n65
  induction n65 with
  | zero =>
    intro I_M A_M v1 v2 hw
    exact absurd hw (fun z => z)
  | succ n65 ih =>
    intro I_M A_M v1 v2 hw
    unfold wp_M_sort_L65 at hw
    refine vv_iload_n hC d_M_sort_65 2 rfl rfl ?_
    refine vv_aload_n hC d_M_sort_66 0 rfl rfl ?_
    refine vv_get hC (v := .ref (a_M 3)) hin_M 0 10 tb_682 d_M_sort_67 rfl rfl (by decide) rfl rfl ?_
    refine vv_bipush hC d_M_sort_70 (v := (6 : Int32)) (by decide) ?_
    refine vv_iald hC 3 0 d_M_sort_72 rfl rfl (vin_c (by decide)) ?_
    refine vv_icmp_ge hC 102 d_M_sort_73 (by decide) (fun cd => ?_) (fun cd => ?_)
    · have hw := hw.1 cd
      exact vv_sub [0, 1] (by rfl) (hX65 I_M A_M v1 hw)
    · have hw := hw.2 cd
      refine vv_aload_n hC d_M_sort_76 0 rfl rfl ?_
      refine vv_get hC (v := .ref (a_M 20)) hin_M 0 27 tb_699 d_M_sort_77 rfl rfl (by decide) rfl rfl ?_
      refine vv_aload_n hC d_M_sort_80 0 rfl rfl ?_
      refine vv_get hC (v := .ref (a_M 4)) hin_M 0 11 tb_683 d_M_sort_81 rfl rfl (by decide) rfl rfl ?_
      refine vv_bipush hC d_M_sort_84 (v := (6 : Int32)) (by decide) ?_
      refine vv_iload_n hC d_M_sort_86 2 rfl rfl ?_
      refine vv_iadd hC d_M_sort_87 ?_
      obtain ⟨hin_8, hw⟩ := hw
      refine vv_iald hC 4 0 d_M_sort_88 rfl rfl hin_8 ?_
      refine vv_iconst hC d_M_sort_89 (v := (2 : Int32)) (by decide) ?_
      refine vv_idiv hC d_M_sort_90 (by decide) ?_
      refine vv_iinc hC d_M_sort_91 1 rfl (v := (v1 + (1 : Int32))) rfl (by decide) [1, 0, 2] (L2 := [(0, .ref (a_M 0)), (1, .int (v1 + (1 : Int32))), (2, .int v2)]) rfl ?_
      refine vv_iload_n hC d_M_sort_94 1 rfl rfl ?_
      obtain ⟨hin_9, hw⟩ := hw
      refine vv_iast hC 20 0 d_M_sort_95 rfl rfl hin_9 (ws2 := kc_M cA a_M I_M (va_up A_M 19 (upd (A_M 19) ((((A_M 3) (((6 : Int32) + v2)).toNatClampNeg) / (2 : Int32))).toNatClampNeg (v1 + (1 : Int32))))) (st_M_MA19 ..) ?_
      refine vv_iinc hC d_M_sort_96 2 rfl (v := (v2 + (1 : Int32))) rfl (by decide) [1, 2, 0] (L2 := [(0, .ref (a_M 0)), (1, .int (v1 + (1 : Int32))), (2, .int (v2 + (1 : Int32)))]) rfl ?_
      refine vv_goto hC 65 d_M_sort_99 (by decide) ?_
      exact vv_sub [0, 1, 2] (by rfl) (ih I_M (va_up A_M 19 (upd (A_M 19) ((((A_M 3) (((6 : Int32) + v2)).toNatClampNeg) / (2 : Int32))).toNatClampNeg (v1 + (1 : Int32)))) (v1 + (1 : Int32)) (v2 + (1 : Int32)) hw)
set_option maxHeartbeats 4000000 in
set_option maxRecDepth 100000 in
theorem l_M_sort_L104 {p : Program} {l : Launch} {e : Env} {s : State} {m : MethodId} {args : Array Value} {below : List Frame} {meth : Method} {c : Code} {D : va_G} {cA : Nat → ClassId} {sx : Nat → Nat} {A : Nat → Prop} (a_M : Nat → Nat) (Q : (Nat → Int32) → (Nat → Nat → Int32) → Prop) (X104 : (Nat → Int32) → (Nat → Nat → Int32) → Int32 → Prop) (hC : CX p s m args meth c b_M_sort R_M TB 4 D vwCl (tyl cA) A (SPl sx) none) (hX104 : ∀ (I_M : (Nat → Int32)) (A_M : (Nat → Nat → Int32)) (v1 : Int32), X104 I_M A_M v1 → VV p l e ({ frames := 1, cells := 0, slots := 0, locals := 21 } : Room) s m args below meth c 4 D vwCl A 0 0 (QV below args s D vwCl (tyl cA) A (fun (u : (Nat → Int32) × (Nat → Nat → Int32)) => Q u.1 u.2) (fun u : (Nat → Int32) × (Nat → Nat → Int32) => kc_M cA a_M u.1 u.2)) (kc_M cA a_M I_M A_M) 141 [(0, .ref (a_M 0)), (1, .int v1)] []) : ∀ (n104 : Nat) (I_M : (Nat → Int32)) (A_M : (Nat → Nat → Int32)) (v1 : Int32) (v2 : Int32), wp_M_sort_L104 Q X104 n104 I_M A_M v1 v2 → VV p l e ({ frames := 1, cells := 0, slots := 0, locals := 21 } : Room) s m args below meth c 4 D vwCl A 0 0 (QV below args s D vwCl (tyl cA) A (fun (u : (Nat → Int32) × (Nat → Nat → Int32)) => Q u.1 u.2) (fun u : (Nat → Int32) × (Nat → Nat → Int32) => kc_M cA a_M u.1 u.2)) (kc_M cA a_M I_M A_M) 104 [(0, .ref (a_M 0)), (1, .int v1), (2, .int v2)] [] := by
  intro n104
  induction n104 with
  | zero =>
    intro I_M A_M v1 v2 hw
    exact absurd hw (fun z => z)
  | succ n104 ih =>
    intro I_M A_M v1 v2 hw
    unfold wp_M_sort_L104 at hw
    refine vv_iload_n hC d_M_sort_104 2 rfl rfl ?_
    refine vv_aload_n hC d_M_sort_105 0 rfl rfl ?_
    refine vv_get hC (v := .ref (a_M 3)) hin_M 0 10 tb_682 d_M_sort_106 rfl rfl (by decide) rfl rfl ?_
    refine vv_bipush hC d_M_sort_109 (v := (7 : Int32)) (by decide) ?_
    refine vv_iald hC 3 0 d_M_sort_111 rfl rfl (vin_c (by decide)) ?_
    refine vv_icmp_ge hC 141 d_M_sort_112 (by decide) (fun cd => ?_) (fun cd => ?_)
    · have hw := hw.1 cd
      exact vv_sub [0, 1] (by rfl) (hX104 I_M A_M v1 hw)
    · have hw := hw.2 cd
      refine vv_aload_n hC d_M_sort_115 0 rfl rfl ?_
      refine vv_get hC (v := .ref (a_M 20)) hin_M 0 27 tb_699 d_M_sort_116 rfl rfl (by decide) rfl rfl ?_
      refine vv_aload_n hC d_M_sort_119 0 rfl rfl ?_
      refine vv_get hC (v := .ref (a_M 5)) hin_M 0 12 tb_684 d_M_sort_120 rfl rfl (by decide) rfl rfl ?_
      refine vv_bipush hC d_M_sort_123 (v := (8 : Int32)) (by decide) ?_
      refine vv_iload_n hC d_M_sort_125 2 rfl rfl ?_
      refine vv_iadd hC d_M_sort_126 ?_
      obtain ⟨hin_13, hw⟩ := hw
      refine vv_iald hC 5 0 d_M_sort_127 rfl rfl hin_13 ?_
      refine vv_iconst hC d_M_sort_128 (v := (2 : Int32)) (by decide) ?_
      refine vv_idiv hC d_M_sort_129 (by decide) ?_
      refine vv_iinc hC d_M_sort_130 1 rfl (v := (v1 + (1 : Int32))) rfl (by decide) [1, 0, 2] (L2 := [(0, .ref (a_M 0)), (1, .int (v1 + (1 : Int32))), (2, .int v2)]) rfl ?_
      refine vv_iload_n hC d_M_sort_133 1 rfl rfl ?_
      obtain ⟨hin_14, hw⟩ := hw
      refine vv_iast hC 20 0 d_M_sort_134 rfl rfl hin_14 (ws2 := kc_M cA a_M I_M (va_up A_M 19 (upd (A_M 19) ((((A_M 4) (((8 : Int32) + v2)).toNatClampNeg) / (2 : Int32))).toNatClampNeg (v1 + (1 : Int32))))) (st_M_MA19 ..) ?_
      refine vv_iinc hC d_M_sort_135 2 rfl (v := (v2 + (1 : Int32))) rfl (by decide) [1, 2, 0] (L2 := [(0, .ref (a_M 0)), (1, .int (v1 + (1 : Int32))), (2, .int (v2 + (1 : Int32)))]) rfl ?_
      refine vv_goto hC 104 d_M_sort_138 (by decide) ?_
      exact vv_sub [0, 1, 2] (by rfl) (ih I_M (va_up A_M 19 (upd (A_M 19) ((((A_M 4) (((8 : Int32) + v2)).toNatClampNeg) / (2 : Int32))).toNatClampNeg (v1 + (1 : Int32)))) (v1 + (1 : Int32)) (v2 + (1 : Int32)) hw)
set_option maxHeartbeats 4000000 in
set_option maxRecDepth 100000 in
theorem l_M_sort_L148 {p : Program} {l : Launch} {e : Env} {s : State} {m : MethodId} {args : Array Value} {below : List Frame} {meth : Method} {c : Code} {D : va_G} {cA : Nat → ClassId} {sx : Nat → Nat} {A : Nat → Prop} (a_M : Nat → Nat) (Q : (Nat → Int32) → (Nat → Nat → Int32) → Prop) (X148 : (Nat → Int32) → (Nat → Nat → Int32) → Prop) (hC : CX p s m args meth c b_M_sort R_M TB 4 D vwCl (tyl cA) A (SPl sx) none) (hX148 : ∀ (I_M : (Nat → Int32)) (A_M : (Nat → Nat → Int32)), X148 I_M A_M → VV p l e ({ frames := 1, cells := 0, slots := 0, locals := 21 } : Room) s m args below meth c 4 D vwCl A 0 0 (QV below args s D vwCl (tyl cA) A (fun (u : (Nat → Int32) × (Nat → Nat → Int32)) => Q u.1 u.2) (fun u : (Nat → Int32) × (Nat → Nat → Int32) => kc_M cA a_M u.1 u.2)) (kc_M cA a_M I_M A_M) 263 [] []) : ∀ (n148 : Nat) (I_M : (Nat → Int32)) (A_M : (Nat → Nat → Int32)) (v1 : Int32) (v2 : Int32), wp_M_sort_L148 Q X148 n148 I_M A_M v1 v2 → VV p l e ({ frames := 1, cells := 0, slots := 0, locals := 21 } : Room) s m args below meth c 4 D vwCl A 0 0 (QV below args s D vwCl (tyl cA) A (fun (u : (Nat → Int32) × (Nat → Nat → Int32)) => Q u.1 u.2) (fun u : (Nat → Int32) × (Nat → Nat → Int32) => kc_M cA a_M u.1 u.2)) (kc_M cA a_M I_M A_M) 148 [(0, .ref (a_M 0)), (1, .int v1), (2, .int v2)] [] := by
  intro n148
  induction n148 with
  | zero =>
    intro I_M A_M v1 v2 hw
    exact absurd hw (fun z => z)
  | succ n148 ih =>
    intro I_M A_M v1 v2 hw
    unfold wp_M_sort_L148 at hw
    refine vv_iload_n hC d_M_sort_148 2 rfl rfl ?_
    refine vv_aload_n hC d_M_sort_149 0 rfl rfl ?_
    refine vv_get hC (v := .ref (a_M 3)) hin_M 0 10 tb_682 d_M_sort_150 rfl rfl (by decide) rfl rfl ?_
    refine vv_bipush hC d_M_sort_153 (v := (9 : Int32)) (by decide) ?_
    refine vv_iald hC 3 0 d_M_sort_155 rfl rfl (vin_c (by decide)) ?_
    refine vv_icmp_ge hC 263 d_M_sort_156 (by decide) (fun cd => ?_) (fun cd => ?_)
    · have hw := hw.1 cd
      exact vv_sub [] (by rfl) (hX148 I_M A_M hw)
    · have hw := hw.2 cd
      refine vv_aload_n hC d_M_sort_159 0 rfl rfl ?_
      refine vv_get hC (v := .ref (a_M 8)) hin_M 0 15 tb_687 d_M_sort_160 rfl rfl (by decide) rfl rfl ?_
      refine vv_sipush hC d_M_sort_163 (v := (300 : Int32)) (by decide) ?_
      refine vv_iload_n hC d_M_sort_166 2 rfl rfl ?_
      refine vv_iadd hC d_M_sort_167 ?_
      obtain ⟨hin_18, hw⟩ := hw
      refine vv_iald hC 8 0 d_M_sort_168 rfl rfl hin_18 ?_
      refine vv_iconst hC d_M_sort_169 (v := (2 : Int32)) (by decide) ?_
      refine vv_idiv hC d_M_sort_170 (by decide) ?_
      refine vv_istore_n hC d_M_sort_171 rfl (by decide) [1, 2, 3, 0] (L2 := [(0, .ref (a_M 0)), (1, .int v1), (2, .int v2), (3, .int (((A_M 7) (((300 : Int32) + v2)).toNatClampNeg) / (2 : Int32)))]) rfl ?_
      refine vv_aload_n hC d_M_sort_172 0 rfl rfl ?_
      refine vv_get hC (v := .ref (a_M 21)) hin_M 0 28 tb_700 d_M_sort_173 rfl rfl (by decide) rfl rfl ?_
      refine vv_iload_n hC d_M_sort_176 3 rfl rfl ?_
      obtain ⟨hin_19, hw⟩ := hw
      refine vv_zald hC 21 1 d_M_sort_177 rfl rfl hin_19 ?_
      refine vv_if_ne hC 257 d_M_sort_178 (by decide) (fun cd => ?_) (fun cd => ?_)
      · have hw := hw.2 cd
        refine vv_iinc hC d_M_sort_257 2 rfl (v := (v2 + (1 : Int32))) rfl (by decide) [1, 2, 0, 3] (L2 := [(0, .ref (a_M 0)), (1, .int v1), (2, .int (v2 + (1 : Int32))), (3, .int (((A_M 7) (((300 : Int32) + v2)).toNatClampNeg) / (2 : Int32)))]) rfl ?_
        refine vv_goto hC 148 d_M_sort_260 (by decide) ?_
        exact vv_sub [0, 1, 2] (by rfl) (ih I_M A_M v1 (v2 + (1 : Int32)) hw)
      · have hw := hw.1 cd
        refine vv_aload_n hC d_M_sort_181 0 rfl rfl ?_
        refine vv_aload_n hC d_M_sort_182 0 rfl rfl ?_
        refine vv_get hC (v := .ref (a_M 9)) hin_M 0 16 tb_688 d_M_sort_183 rfl rfl (by decide) rfl rfl ?_
        refine vv_sipush hC d_M_sort_186 (v := (300 : Int32)) (by decide) ?_
        refine vv_iload_n hC d_M_sort_189 2 rfl rfl ?_
        refine vv_iadd hC d_M_sort_190 ?_
        refine vv_iald hC 9 0 d_M_sort_191 rfl rfl hin_18 ?_
        refine vv_callVI (wr := []) hC (c_M_hasCome l D cA sx a_M I_M A_M ((A_M 8) (((300 : Int32) + v2)).toNatClampNeg) _ hw) (cw_M_149 hC) d_M_sort_192 [] [0, 1, 2, 3, 4, 5, 6, 7, 8, 9, 10, 11, 12, 13, 14, 15, 16, 17, 18, 19, 20, 21, 22, 23] [] [0, 1, 2, 3, 4, 5, 6, 7, 8, 9, 10, 11, 12, 13, 14, 15, 16, 17, 18, 19, 20, 21, 22, 23] (fun u_21 : Unit => kc_M cA a_M I_M A_M) ⟨Nat.zero_le _, Nat.zero_le _⟩ rfl rfl (fun _ => rfl) rfl rfl rfl rfl rfl rfl rfl rfl (Nat.le_of_ble_eq_true rfl) (fun r_20 u_21 hw => ?_)
        refine vv_if_eq hC 257 d_M_sort_195 (by decide) (fun cd => ?_) (fun cd => ?_)
        · have hw := hw.1 cd
          refine vv_iinc hC d_M_sort_257 2 rfl (v := (v2 + (1 : Int32))) rfl (by decide) [1, 2, 0, 3] (L2 := [(0, .ref (a_M 0)), (1, .int v1), (2, .int (v2 + (1 : Int32))), (3, .int (((A_M 7) (((300 : Int32) + v2)).toNatClampNeg) / (2 : Int32)))]) rfl ?_
          refine vv_goto hC 148 d_M_sort_260 (by decide) ?_
          exact vv_sub [0, 1, 2] (by rfl) (ih I_M A_M v1 (v2 + (1 : Int32)) hw)
        · have hw := hw.2 cd
          refine vv_aload_n hC d_M_sort_198 0 rfl rfl ?_
          refine vv_aload_n hC d_M_sort_199 0 rfl rfl ?_
          refine vv_get hC (v := .ref (a_M 10)) hin_M 0 17 tb_689 d_M_sort_200 rfl rfl (by decide) rfl rfl ?_
          refine vv_sipush hC d_M_sort_203 (v := (300 : Int32)) (by decide) ?_
          refine vv_iload_n hC d_M_sort_206 2 rfl rfl ?_
          refine vv_iadd hC d_M_sort_207 ?_
          refine vv_iald hC 10 0 d_M_sort_208 rfl rfl hin_18 ?_
          refine vv_callVI (wr := []) hC (c_M_hasCome l D cA sx a_M I_M A_M ((A_M 9) (((300 : Int32) + v2)).toNatClampNeg) _ hw) (cw_M_149 hC) d_M_sort_209 [] [0, 1, 2, 3, 4, 5, 6, 7, 8, 9, 10, 11, 12, 13, 14, 15, 16, 17, 18, 19, 20, 21, 22, 23] [] [0, 1, 2, 3, 4, 5, 6, 7, 8, 9, 10, 11, 12, 13, 14, 15, 16, 17, 18, 19, 20, 21, 22, 23] (fun u_23 : Unit => kc_M cA a_M I_M A_M) ⟨Nat.zero_le _, Nat.zero_le _⟩ rfl rfl (fun _ => rfl) rfl rfl rfl rfl rfl rfl rfl rfl (Nat.le_of_ble_eq_true rfl) (fun r_22 u_23 hw => ?_)
          refine vv_if_eq hC 257 d_M_sort_212 (by decide) (fun cd => ?_) (fun cd => ?_)
          · have hw := hw.1 cd
            refine vv_iinc hC d_M_sort_257 2 rfl (v := (v2 + (1 : Int32))) rfl (by decide) [1, 2, 0, 3] (L2 := [(0, .ref (a_M 0)), (1, .int v1), (2, .int (v2 + (1 : Int32))), (3, .int (((A_M 7) (((300 : Int32) + v2)).toNatClampNeg) / (2 : Int32)))]) rfl ?_
            refine vv_goto hC 148 d_M_sort_260 (by decide) ?_
            exact vv_sub [0, 1, 2] (by rfl) (ih I_M A_M v1 (v2 + (1 : Int32)) hw)
          · have hw := hw.2 cd
            refine vv_aload_n hC d_M_sort_215 0 rfl rfl ?_
            refine vv_get hC (v := .ref (a_M 21)) hin_M 0 28 tb_700 d_M_sort_216 rfl rfl (by decide) rfl rfl ?_
            refine vv_iload_n hC d_M_sort_219 3 rfl rfl ?_
            refine vv_iconst hC d_M_sort_220 (v := (1 : Int32)) (by decide) ?_
            refine vv_zast hC 21 1 d_M_sort_221 rfl rfl hin_19 (ws2 := kc_M cA a_M I_M (va_up A_M 20 (upd (A_M 20) ((((A_M 7) (((300 : Int32) + v2)).toNatClampNeg) / (2 : Int32))).toNatClampNeg (1 : Int32)))) (st_M_MA20 ..) ?_
            refine vv_aload_n hC d_M_sort_222 0 rfl rfl ?_
            refine vv_get hC (v := .ref (a_M 19)) hin_M 0 26 tb_698 d_M_sort_223 rfl rfl (by decide) rfl rfl ?_
            refine vv_aload_n hC d_M_sort_226 0 rfl rfl ?_
            refine vv_get hC (v := .int (I_M 8)) hin_M 0 29 tb_701 d_M_sort_227 rfl rfl (by decide) rfl rfl ?_
            refine vv_iload_n hC d_M_sort_230 2 rfl rfl ?_
            obtain ⟨hin_24, hw⟩ := hw
            refine vv_iast hC 19 0 d_M_sort_231 rfl rfl hin_24 (ws2 := kc_M cA a_M I_M (va_up (va_up A_M 20 (upd (A_M 20) ((((A_M 7) (((300 : Int32) + v2)).toNatClampNeg) / (2 : Int32))).toNatClampNeg (1 : Int32))) 18 (upd (A_M 18) ((I_M 8)).toNatClampNeg v2))) (st_M_MA18 ..) ?_
            refine vv_aload_n hC d_M_sort_232 0 rfl rfl ?_
            refine vv_dup hC d_M_sort_233 rfl ?_
            refine vv_get hC (v := .int (I_M 8)) hin_M 0 29 tb_701 d_M_sort_234 rfl rfl (by decide) rfl rfl ?_
            refine vv_iconst hC d_M_sort_237 (v := (1 : Int32)) (by decide) ?_
            refine vv_iadd hC d_M_sort_238 ?_
            refine vv_put hC hin_M ty_M tyok_M nmok_M 0 29 tb_701 d_M_sort_239 rfl rfl (by decide) rfl rfl rfl rfl rfl (Nat.le_of_ble_eq_true rfl) (ws2 := kc_M cA a_M (va_up I_M 8 ((I_M 8) + (1 : Int32))) (va_up (va_up A_M 20 (upd (A_M 20) ((((A_M 7) (((300 : Int32) + v2)).toNatClampNeg) / (2 : Int32))).toNatClampNeg (1 : Int32))) 18 (upd (A_M 18) ((I_M 8)).toNatClampNeg v2))) (st_M_MI8 ..) ?_
            refine vv_aload_n hC d_M_sort_242 0 rfl rfl ?_
            refine vv_get hC (v := .ref (a_M 20)) hin_M 0 27 tb_699 d_M_sort_243 rfl rfl (by decide) rfl rfl ?_
            refine vv_iload_n hC d_M_sort_246 3 rfl rfl ?_
            refine vv_iinc hC d_M_sort_247 1 rfl (v := (v1 + (1 : Int32))) rfl (by decide) [1, 0, 2, 3] (L2 := [(0, .ref (a_M 0)), (1, .int (v1 + (1 : Int32))), (2, .int v2), (3, .int (((A_M 7) (((300 : Int32) + v2)).toNatClampNeg) / (2 : Int32)))]) rfl ?_
            refine vv_iload_n hC d_M_sort_250 1 rfl rfl ?_
            refine vv_iast hC 20 0 d_M_sort_251 rfl rfl hin_19 (ws2 := kc_M cA a_M (va_up I_M 8 ((I_M 8) + (1 : Int32))) (va_up (va_up (va_up A_M 20 (upd (A_M 20) ((((A_M 7) (((300 : Int32) + v2)).toNatClampNeg) / (2 : Int32))).toNatClampNeg (1 : Int32))) 18 (upd (A_M 18) ((I_M 8)).toNatClampNeg v2)) 19 (upd (A_M 19) ((((A_M 7) (((300 : Int32) + v2)).toNatClampNeg) / (2 : Int32))).toNatClampNeg (v1 + (1 : Int32))))) (st_M_MA19 ..) ?_
            refine vv_iconst hC d_M_sort_252 (v := (0 : Int32)) (by decide) ?_
            refine vv_istore_n hC d_M_sort_253 rfl (by decide) [1, 2, 0, 3] (L2 := [(0, .ref (a_M 0)), (1, .int (v1 + (1 : Int32))), (2, .int (0 : Int32)), (3, .int (((A_M 7) (((300 : Int32) + v2)).toNatClampNeg) / (2 : Int32)))]) rfl ?_
            refine vv_goto hC 260 d_M_sort_254 (by decide) ?_
            refine vv_goto hC 148 d_M_sort_260 (by decide) ?_
            exact vv_sub [0, 1, 2] (by rfl) (ih (va_up I_M 8 ((I_M 8) + (1 : Int32))) (va_up (va_up (va_up A_M 20 (upd (A_M 20) ((((A_M 7) (((300 : Int32) + v2)).toNatClampNeg) / (2 : Int32))).toNatClampNeg (1 : Int32))) 18 (upd (A_M 18) ((I_M 8)).toNatClampNeg v2)) 19 (upd (A_M 19) ((((A_M 7) (((300 : Int32) + v2)).toNatClampNeg) / (2 : Int32))).toNatClampNeg (v1 + (1 : Int32)))) (v1 + (1 : Int32)) (0 : Int32) hw)
set_option maxHeartbeats 4000000 in
set_option maxRecDepth 100000 in
theorem c_M_sort (l : Launch) (D : va_G) (cA : Nat → ClassId) (sx : Nat → Nat) (a_M : Nat → Nat) (I_M : (Nat → Int32)) (A_M : (Nat → Nat → Int32)) (Q : (Nat → Int32) → (Nat → Nat → Int32) → Prop) (hw : wp_M_sort I_M A_M Q) : MetV l y_M_sort (Cond.code y_M_sort b_M_sort 4 none :: TB) ({ frames := 1, cells := 0, slots := 0, locals := 21 } : Room) D vwCl (tyl cA) (SPl sx) [.ref (a_M 0)] (kc_M cA a_M I_M A_M) (fun (u : (Nat → Int32) × (Nat → Nat → Int32)) => Q u.1 u.2) (fun u : (Nat → Int32) × (Nat → Nat → Int32) => kc_M cA a_M u.1 u.2) := by
  refine vv_entryV (cc := b_M_sort) (own := R_M) (L := [(0, .ref (a_M 0))]) (by decide) rfl rfl (Nat.le_of_ble_eq_true rfl) rfl (fun p e s m args below meth c A hC => ?_)
  unfold wp_M_sort at hw
  refine vv_iconst hC d_M_sort_0 (v := (0 : Int32)) (by decide) ?_
  refine vv_istore_n hC d_M_sort_1 rfl (by decide) [1, 0] (L2 := [(0, .ref (a_M 0)), (1, .int (0 : Int32))]) rfl ?_
  obtain ⟨m2, hw⟩ := hw
  refine vv_sub [0, 1] (by rfl) (l_M_sort_L2 a_M Q _ hC (fun I_M_6 A_M_7 hw => ?_) m2 I_M A_M (0 : Int32) hw)
  refine vv_iconst hC d_M_sort_61 (v := (0 : Int32)) (by decide) ?_
  refine vv_istore_n hC d_M_sort_62 rfl (by decide) [1, 0] (L2 := [(0, .ref (a_M 0)), (1, .int (0 : Int32))]) rfl ?_
  refine vv_iconst hC d_M_sort_63 (v := (0 : Int32)) (by decide) ?_
  refine vv_istore_n hC d_M_sort_64 rfl (by decide) [1, 2, 0] (L2 := [(0, .ref (a_M 0)), (1, .int (0 : Int32)), (2, .int (0 : Int32))]) rfl ?_
  obtain ⟨m65, hw⟩ := hw
  refine vv_sub [0, 1, 2] (by rfl) (l_M_sort_L65 a_M Q _ hC (fun I_M_10 A_M_11 v1_12 hw => ?_) m65 I_M_6 A_M_7 (0 : Int32) (0 : Int32) hw)
  refine vv_iconst hC d_M_sort_102 (v := (0 : Int32)) (by decide) ?_
  refine vv_istore_n hC d_M_sort_103 rfl (by decide) [1, 2, 0] (L2 := [(0, .ref (a_M 0)), (1, .int v1_12), (2, .int (0 : Int32))]) rfl ?_
  obtain ⟨m104, hw⟩ := hw
  refine vv_sub [0, 1, 2] (by rfl) (l_M_sort_L104 a_M Q _ hC (fun I_M_15 A_M_16 v1_17 hw => ?_) m104 I_M_10 A_M_11 v1_12 (0 : Int32) hw)
  refine vv_aload_n hC d_M_sort_141 0 rfl rfl ?_
  refine vv_iconst hC d_M_sort_142 (v := (0 : Int32)) (by decide) ?_
  refine vv_put hC hin_M ty_M tyok_M nmok_M 0 29 tb_701 d_M_sort_143 rfl rfl (by decide) rfl rfl rfl rfl rfl (Nat.le_of_ble_eq_true rfl) (ws2 := kc_M cA a_M (va_up I_M_15 8 (0 : Int32)) A_M_16) (st_M_MI8 ..) ?_
  refine vv_iconst hC d_M_sort_146 (v := (0 : Int32)) (by decide) ?_
  refine vv_istore_n hC d_M_sort_147 rfl (by decide) [1, 2, 0] (L2 := [(0, .ref (a_M 0)), (1, .int v1_17), (2, .int (0 : Int32))]) rfl ?_
  obtain ⟨m148, hw⟩ := hw
  refine vv_sub [0, 1, 2] (by rfl) (l_M_sort_L148 a_M Q _ hC (fun I_M_25 A_M_26 hw => ?_) m148 (va_up I_M_15 8 (0 : Int32)) A_M_16 v1_17 (0 : Int32) hw)
  exact vv_vret hC d_M_sort_263 (I_M_25, A_M_26) hw rfl
set_option maxHeartbeats 4000000 in
set_option maxRecDepth 100000 in
theorem l_M_hangs_L7 {p : Program} {l : Launch} {e : Env} {s : State} {m : MethodId} {args : Array Value} {below : List Frame} {meth : Method} {c : Code} {D : va_G} {cA : Nat → ClassId} {sx : Nat → Nat} {A : Nat → Prop} (a_M : Nat → Nat) (I_M : (Nat → Int32)) (Q : Int32 → (Nat → Nat → Int32) → Prop) (X7 : (Nat → Nat → Int32) → Int32 → Prop) (hC : CX p s m args meth c b_M_hangs R_M TB 9 D vwCl (tyl cA) A (SPl sx) (some .boolean)) (hX7 : ∀ (A_M : (Nat → Nat → Int32)) (v1 : Int32), X7 A_M v1 → VV p l e ({ frames := 0, cells := 0, slots := 0, locals := 0 } : Room) s m args below meth c 9 D vwCl A 0 0 (QI below args s D vwCl (tyl cA) A (fun (r : Int32) (u : (Nat → Nat → Int32)) => Q r u) (fun u : (Nat → Nat → Int32) => kc_M cA a_M I_M u)) (kc_M cA a_M I_M A_M) 24 [(0, .ref (a_M 0)), (1, .int v1), (2, .ref (a_M 21))] []) : ∀ (n7 : Nat) (A_M : (Nat → Nat → Int32)) (v1 : Int32) (v3 : Int32), wp_M_hangs_L7 Q X7 n7 A_M v1 v3 → VV p l e ({ frames := 0, cells := 0, slots := 0, locals := 0 } : Room) s m args below meth c 9 D vwCl A 0 0 (QI below args s D vwCl (tyl cA) A (fun (r : Int32) (u : (Nat → Nat → Int32)) => Q r u) (fun u : (Nat → Nat → Int32) => kc_M cA a_M I_M u)) (kc_M cA a_M I_M A_M) 7 [(0, .ref (a_M 0)), (1, .int v1), (2, .ref (a_M 21)), (3, .int v3)] [] := by
  intro n7
  induction n7 with
  | zero =>
    intro A_M v1 v3 hw
    exact absurd hw (fun z => z)
  | succ n7 ih =>
    intro A_M v1 v3 hw
    unfold wp_M_hangs_L7 at hw
    refine vv_iload_n hC d_M_hangs_7 3 rfl rfl ?_
    refine vv_sipush hC d_M_hangs_8 (v := (401 : Int32)) (by decide) ?_
    refine vv_icmp_ge hC 24 d_M_hangs_11 (by decide) (fun cd => ?_) (fun cd => ?_)
    · have hw := hw.1 cd
      exact vv_sub [0, 1, 2] (by rfl) (hX7 A_M v1 hw)
    · have hw := hw.2 cd
      refine vv_aload_n hC d_M_hangs_14 2 rfl rfl ?_
      refine vv_iload_n hC d_M_hangs_15 3 rfl rfl ?_
      refine vv_iconst hC d_M_hangs_16 (v := (0 : Int32)) (by decide) ?_
      obtain ⟨hin_1, hw⟩ := hw
      refine vv_zast hC 21 1 d_M_hangs_17 rfl rfl hin_1 (ws2 := kc_M cA a_M I_M (va_up A_M 20 (upd (A_M 20) (v3).toNatClampNeg (0 : Int32)))) (st_M_MA20 ..) ?_
      refine vv_iinc hC d_M_hangs_18 3 rfl (v := (v3 + (1 : Int32))) rfl (by decide) [1, 2, 3, 0] (L2 := [(0, .ref (a_M 0)), (1, .int v1), (2, .ref (a_M 21)), (3, .int (v3 + (1 : Int32)))]) rfl ?_
      refine vv_goto hC 7 d_M_hangs_21 (by decide) ?_
      exact vv_sub [0, 1, 2, 3] (by rfl) (ih (va_up A_M 20 (upd (A_M 20) (v3).toNatClampNeg (0 : Int32))) v1 (v3 + (1 : Int32)) hw)
set_option maxHeartbeats 4000000 in
set_option maxRecDepth 100000 in
theorem l_M_hangs_b145 {p : Program} {l : Launch} {e : Env} {s : State} {m : MethodId} {args : Array Value} {below : List Frame} {meth : Method} {c : Code} {D : va_G} {cA : Nat → ClassId} {sx : Nat → Nat} {A : Nat → Prop} (a_M : Nat → Nat) (I_M : (Nat → Int32)) (Q : Int32 → (Nat → Nat → Int32) → Prop) (K29 : (Nat → Nat → Int32) → Int32 → Int32 → Int32 → Prop) (X29 : (Nat → Nat → Int32) → Int32 → Prop) (K38 : (Nat → Nat → Int32) → Int32 → Int32 → Int32 → Int32 → Prop) (X38 : (Nat → Nat → Int32) → Int32 → Int32 → Prop) (hC : CX p s m args meth c b_M_hangs R_M TB 9 D vwCl (tyl cA) A (SPl sx) (some .boolean)) (hK29 : ∀ (A_M : (Nat → Nat → Int32)) (v1 : Int32) (v3 : Int32) (v4 : Int32), K29 A_M v1 v3 v4 → VV p l e ({ frames := 0, cells := 0, slots := 0, locals := 0 } : Room) s m args below meth c 9 D vwCl A 0 0 (QI below args s D vwCl (tyl cA) A (fun (r : Int32) (u : (Nat → Nat → Int32)) => Q r u) (fun u : (Nat → Nat → Int32) => kc_M cA a_M I_M u)) (kc_M cA a_M I_M A_M) 29 [(0, .ref (a_M 0)), (1, .int v1), (2, .ref (a_M 21)), (3, .int v3), (4, .int v4)] []) (hX29 : ∀ (A_M : (Nat → Nat → Int32)) (v1 : Int32), X29 A_M v1 → VV p l e ({ frames := 0, cells := 0, slots := 0, locals := 0 } : Room) s m args below meth c 9 D vwCl A 0 0 (QI below args s D vwCl (tyl cA) A (fun (r : Int32) (u : (Nat → Nat → Int32)) => Q r u) (fun u : (Nat → Nat → Int32) => kc_M cA a_M I_M u)) (kc_M cA a_M I_M A_M) 167 [(1, .int v1), (2, .ref (a_M 21))] []) (hK38 : ∀ (A_M : (Nat → Nat → Int32)) (v1 : Int32) (v3 : Int32) (v4 : Int32) (v5 : Int32), K38 A_M v1 v3 v4 v5 → VV p l e ({ frames := 0, cells := 0, slots := 0, locals := 0 } : Room) s m args below meth c 9 D vwCl A 0 0 (QI below args s D vwCl (tyl cA) A (fun (r : Int32) (u : (Nat → Nat → Int32)) => Q r u) (fun u : (Nat → Nat → Int32) => kc_M cA a_M I_M u)) (kc_M cA a_M I_M A_M) 38 [(0, .ref (a_M 0)), (1, .int v1), (2, .ref (a_M 21)), (3, .int v3), (4, .int v4), (5, .int v5)] []) (hX38 : ∀ (A_M : (Nat → Nat → Int32)) (v1 : Int32) (v3 : Int32), X38 A_M v1 v3 → VV p l e ({ frames := 0, cells := 0, slots := 0, locals := 0 } : Room) s m args below meth c 9 D vwCl A 0 0 (QI below args s D vwCl (tyl cA) A (fun (r : Int32) (u : (Nat → Nat → Int32)) => Q r u) (fun u : (Nat → Nat → Int32) => kc_M cA a_M I_M u)) (kc_M cA a_M I_M A_M) 161 [(0, .ref (a_M 0)), (1, .int v1), (2, .ref (a_M 21)), (3, .int v3)] []) : ∀ (A_M : (Nat → Nat → Int32)) (v1 : Int32) (v3 : Int32) (v4 : Int32) (v5 : Int32) (v7 : Int32) (v8 : Int32), wp_M_hangs_b145 Q K29 X29 K38 X38 A_M v1 v3 v4 v5 v7 v8 → VV p l e ({ frames := 0, cells := 0, slots := 0, locals := 0 } : Room) s m args below meth c 9 D vwCl A 0 0 (QI below args s D vwCl (tyl cA) A (fun (r : Int32) (u : (Nat → Nat → Int32)) => Q r u) (fun u : (Nat → Nat → Int32) => kc_M cA a_M I_M u)) (kc_M cA a_M I_M A_M) 145 [(0, .ref (a_M 0)), (1, .int v1), (2, .ref (a_M 21)), (3, .int v3), (4, .int v4), (5, .int v5), (7, .int v7), (8, .int v8)] [] := by
  intro A_M v1 v3 v4 v5 v7 v8 hw
  unfold wp_M_hangs_b145 at hw
  refine vv_aload_n hC d_M_hangs_145 2 rfl rfl ?_
  refine vv_iload hC d_M_hangs_146 6 rfl ?_
  refine vv_iconst hC d_M_hangs_148 (v := (1 : Int32)) (by decide) ?_
  obtain ⟨hin_7, hw⟩ := hw
  refine vv_zast hC 21 1 d_M_hangs_149 rfl rfl hin_7 (ws2 := kc_M cA a_M I_M (va_up A_M 20 (upd (A_M 20) (v7).toNatClampNeg (1 : Int32)))) (st_M_MA20 ..) ?_
  refine vv_aload_n hC d_M_hangs_150 2 rfl rfl ?_
  refine vv_iload hC d_M_hangs_151 7 rfl ?_
  refine vv_iconst hC d_M_hangs_153 (v := (1 : Int32)) (by decide) ?_
  obtain ⟨hin_8, hw⟩ := hw
  refine vv_zast hC 21 1 d_M_hangs_154 rfl rfl hin_8 (ws2 := kc_M cA a_M I_M (va_up (va_up A_M 20 (upd (A_M 20) (v7).toNatClampNeg (1 : Int32))) 20 (upd (upd (A_M 20) (v7).toNatClampNeg (1 : Int32)) (v8).toNatClampNeg (1 : Int32)))) (st_M_MA20 ..) ?_
  refine vv_iinc hC d_M_hangs_155 5 rfl (v := (v5 + (1 : Int32))) rfl (by decide) [1, 2, 3, 4, 5, 0, 6, 7] (L2 := [(0, .ref (a_M 0)), (1, .int v1), (2, .ref (a_M 21)), (3, .int v3), (4, .int v4), (5, .int (v5 + (1 : Int32))), (7, .int v7), (8, .int v8)]) rfl ?_
  refine vv_goto hC 38 d_M_hangs_158 (by decide) ?_
  exact vv_sub [0, 1, 2, 3, 4, 5] (by rfl) (hK38 (va_up (va_up A_M 20 (upd (A_M 20) (v7).toNatClampNeg (1 : Int32))) 20 (upd (upd (A_M 20) (v7).toNatClampNeg (1 : Int32)) (v8).toNatClampNeg (1 : Int32))) v1 v3 v4 (v5 + (1 : Int32)) hw)
set_option maxHeartbeats 4000000 in
set_option maxRecDepth 100000 in
theorem l_M_hangs_b143 {p : Program} {l : Launch} {e : Env} {s : State} {m : MethodId} {args : Array Value} {below : List Frame} {meth : Method} {c : Code} {D : va_G} {cA : Nat → ClassId} {sx : Nat → Nat} {A : Nat → Prop} (a_M : Nat → Nat) (I_M : (Nat → Int32)) (Q : Int32 → (Nat → Nat → Int32) → Prop) (K29 : (Nat → Nat → Int32) → Int32 → Int32 → Int32 → Prop) (X29 : (Nat → Nat → Int32) → Int32 → Prop) (K38 : (Nat → Nat → Int32) → Int32 → Int32 → Int32 → Int32 → Prop) (X38 : (Nat → Nat → Int32) → Int32 → Int32 → Prop) (hC : CX p s m args meth c b_M_hangs R_M TB 9 D vwCl (tyl cA) A (SPl sx) (some .boolean)) (hK29 : ∀ (A_M : (Nat → Nat → Int32)) (v1 : Int32) (v3 : Int32) (v4 : Int32), K29 A_M v1 v3 v4 → VV p l e ({ frames := 0, cells := 0, slots := 0, locals := 0 } : Room) s m args below meth c 9 D vwCl A 0 0 (QI below args s D vwCl (tyl cA) A (fun (r : Int32) (u : (Nat → Nat → Int32)) => Q r u) (fun u : (Nat → Nat → Int32) => kc_M cA a_M I_M u)) (kc_M cA a_M I_M A_M) 29 [(0, .ref (a_M 0)), (1, .int v1), (2, .ref (a_M 21)), (3, .int v3), (4, .int v4)] []) (hX29 : ∀ (A_M : (Nat → Nat → Int32)) (v1 : Int32), X29 A_M v1 → VV p l e ({ frames := 0, cells := 0, slots := 0, locals := 0 } : Room) s m args below meth c 9 D vwCl A 0 0 (QI below args s D vwCl (tyl cA) A (fun (r : Int32) (u : (Nat → Nat → Int32)) => Q r u) (fun u : (Nat → Nat → Int32) => kc_M cA a_M I_M u)) (kc_M cA a_M I_M A_M) 167 [(1, .int v1), (2, .ref (a_M 21))] []) (hK38 : ∀ (A_M : (Nat → Nat → Int32)) (v1 : Int32) (v3 : Int32) (v4 : Int32) (v5 : Int32), K38 A_M v1 v3 v4 v5 → VV p l e ({ frames := 0, cells := 0, slots := 0, locals := 0 } : Room) s m args below meth c 9 D vwCl A 0 0 (QI below args s D vwCl (tyl cA) A (fun (r : Int32) (u : (Nat → Nat → Int32)) => Q r u) (fun u : (Nat → Nat → Int32) => kc_M cA a_M I_M u)) (kc_M cA a_M I_M A_M) 38 [(0, .ref (a_M 0)), (1, .int v1), (2, .ref (a_M 21)), (3, .int v3), (4, .int v4), (5, .int v5)] []) (hX38 : ∀ (A_M : (Nat → Nat → Int32)) (v1 : Int32) (v3 : Int32), X38 A_M v1 v3 → VV p l e ({ frames := 0, cells := 0, slots := 0, locals := 0 } : Room) s m args below meth c 9 D vwCl A 0 0 (QI below args s D vwCl (tyl cA) A (fun (r : Int32) (u : (Nat → Nat → Int32)) => Q r u) (fun u : (Nat → Nat → Int32) => kc_M cA a_M I_M u)) (kc_M cA a_M I_M A_M) 161 [(0, .ref (a_M 0)), (1, .int v1), (2, .ref (a_M 21)), (3, .int v3)] []) : ∀ (A_M : (Nat → Nat → Int32)) (v1 : Int32) (v4 : Int32) (v5 : Int32) (v7 : Int32) (v8 : Int32), wp_M_hangs_b143 Q K29 X29 K38 X38 A_M v1 v4 v5 v7 v8 → VV p l e ({ frames := 0, cells := 0, slots := 0, locals := 0 } : Room) s m args below meth c 9 D vwCl A 0 0 (QI below args s D vwCl (tyl cA) A (fun (r : Int32) (u : (Nat → Nat → Int32)) => Q r u) (fun u : (Nat → Nat → Int32) => kc_M cA a_M I_M u)) (kc_M cA a_M I_M A_M) 143 [(0, .ref (a_M 0)), (1, .int v1), (2, .ref (a_M 21)), (4, .int v4), (5, .int v5), (7, .int v7), (8, .int v8)] [] := by
  intro A_M v1 v4 v5 v7 v8 hw
  unfold wp_M_hangs_b143 at hw
  refine vv_iconst hC d_M_hangs_143 (v := (1 : Int32)) (by decide) ?_
  refine vv_istore_n hC d_M_hangs_144 rfl (by decide) [1, 2, 3, 0, 4, 5, 6, 7] (L2 := [(0, .ref (a_M 0)), (1, .int v1), (2, .ref (a_M 21)), (3, .int (1 : Int32)), (4, .int v4), (5, .int v5), (7, .int v7), (8, .int v8)]) rfl ?_
  exact vv_sub [0, 1, 2, 3, 4, 5, 6, 7] (by rfl) (l_M_hangs_b145 a_M I_M Q K29 X29 K38 X38 hC hK29 hX29 hK38 hX38 A_M v1 (1 : Int32) v4 v5 v7 v8 hw)
set_option maxHeartbeats 4000000 in
set_option maxRecDepth 100000 in
theorem l_M_hangs_b99 {p : Program} {l : Launch} {e : Env} {s : State} {m : MethodId} {args : Array Value} {below : List Frame} {meth : Method} {c : Code} {D : va_G} {cA : Nat → ClassId} {sx : Nat → Nat} {A : Nat → Prop} (a_M : Nat → Nat) (I_M : (Nat → Int32)) (Q : Int32 → (Nat → Nat → Int32) → Prop) (K29 : (Nat → Nat → Int32) → Int32 → Int32 → Int32 → Prop) (X29 : (Nat → Nat → Int32) → Int32 → Prop) (K38 : (Nat → Nat → Int32) → Int32 → Int32 → Int32 → Int32 → Prop) (X38 : (Nat → Nat → Int32) → Int32 → Int32 → Prop) (hC : CX p s m args meth c b_M_hangs R_M TB 9 D vwCl (tyl cA) A (SPl sx) (some .boolean)) (hK29 : ∀ (A_M : (Nat → Nat → Int32)) (v1 : Int32) (v3 : Int32) (v4 : Int32), K29 A_M v1 v3 v4 → VV p l e ({ frames := 0, cells := 0, slots := 0, locals := 0 } : Room) s m args below meth c 9 D vwCl A 0 0 (QI below args s D vwCl (tyl cA) A (fun (r : Int32) (u : (Nat → Nat → Int32)) => Q r u) (fun u : (Nat → Nat → Int32) => kc_M cA a_M I_M u)) (kc_M cA a_M I_M A_M) 29 [(0, .ref (a_M 0)), (1, .int v1), (2, .ref (a_M 21)), (3, .int v3), (4, .int v4)] []) (hX29 : ∀ (A_M : (Nat → Nat → Int32)) (v1 : Int32), X29 A_M v1 → VV p l e ({ frames := 0, cells := 0, slots := 0, locals := 0 } : Room) s m args below meth c 9 D vwCl A 0 0 (QI below args s D vwCl (tyl cA) A (fun (r : Int32) (u : (Nat → Nat → Int32)) => Q r u) (fun u : (Nat → Nat → Int32) => kc_M cA a_M I_M u)) (kc_M cA a_M I_M A_M) 167 [(1, .int v1), (2, .ref (a_M 21))] []) (hK38 : ∀ (A_M : (Nat → Nat → Int32)) (v1 : Int32) (v3 : Int32) (v4 : Int32) (v5 : Int32), K38 A_M v1 v3 v4 v5 → VV p l e ({ frames := 0, cells := 0, slots := 0, locals := 0 } : Room) s m args below meth c 9 D vwCl A 0 0 (QI below args s D vwCl (tyl cA) A (fun (r : Int32) (u : (Nat → Nat → Int32)) => Q r u) (fun u : (Nat → Nat → Int32) => kc_M cA a_M I_M u)) (kc_M cA a_M I_M A_M) 38 [(0, .ref (a_M 0)), (1, .int v1), (2, .ref (a_M 21)), (3, .int v3), (4, .int v4), (5, .int v5)] []) (hX38 : ∀ (A_M : (Nat → Nat → Int32)) (v1 : Int32) (v3 : Int32), X38 A_M v1 v3 → VV p l e ({ frames := 0, cells := 0, slots := 0, locals := 0 } : Room) s m args below meth c 9 D vwCl A 0 0 (QI below args s D vwCl (tyl cA) A (fun (r : Int32) (u : (Nat → Nat → Int32)) => Q r u) (fun u : (Nat → Nat → Int32) => kc_M cA a_M I_M u)) (kc_M cA a_M I_M A_M) 161 [(0, .ref (a_M 0)), (1, .int v1), (2, .ref (a_M 21)), (3, .int v3)] []) : ∀ (A_M : (Nat → Nat → Int32)) (v1 : Int32) (v3 : Int32) (v4 : Int32) (v5 : Int32), wp_M_hangs_b99 Q K29 X29 K38 X38 A_M v1 v3 v4 v5 → VV p l e ({ frames := 0, cells := 0, slots := 0, locals := 0 } : Room) s m args below meth c 9 D vwCl A 0 0 (QI below args s D vwCl (tyl cA) A (fun (r : Int32) (u : (Nat → Nat → Int32)) => Q r u) (fun u : (Nat → Nat → Int32) => kc_M cA a_M I_M u)) (kc_M cA a_M I_M A_M) 99 [(0, .ref (a_M 0)), (1, .int v1), (2, .ref (a_M 21)), (3, .int v3), (4, .int v4), (5, .int v5)] [] := by
  intro A_M v1 v3 v4 v5 hw
  unfold wp_M_hangs_b99 at hw
  refine vv_aload_n hC d_M_hangs_99 0 rfl rfl ?_
  refine vv_get hC (v := .ref (a_M 9)) hin_M 0 16 tb_688 d_M_hangs_100 rfl rfl (by decide) rfl rfl ?_
  refine vv_sipush hC d_M_hangs_103 (v := (300 : Int32)) (by decide) ?_
  refine vv_iload hC d_M_hangs_106 5 rfl ?_
  refine vv_iadd hC d_M_hangs_108 ?_
  obtain ⟨hin_5, hw⟩ := hw
  refine vv_iald hC 9 0 d_M_hangs_109 rfl rfl hin_5 ?_
  refine vv_iconst hC d_M_hangs_110 (v := (2 : Int32)) (by decide) ?_
  refine vv_idiv hC d_M_hangs_111 (by decide) ?_
  refine vv_istore hC d_M_hangs_112 (by decide) [1, 2, 3, 4, 5, 6, 0] (L2 := [(0, .ref (a_M 0)), (1, .int v1), (2, .ref (a_M 21)), (3, .int v3), (4, .int v4), (5, .int v5), (7, .int (((A_M 8) (((300 : Int32) + v5)).toNatClampNeg) / (2 : Int32)))]) rfl ?_
  refine vv_aload_n hC d_M_hangs_114 0 rfl rfl ?_
  refine vv_get hC (v := .ref (a_M 10)) hin_M 0 17 tb_689 d_M_hangs_115 rfl rfl (by decide) rfl rfl ?_
  refine vv_sipush hC d_M_hangs_118 (v := (300 : Int32)) (by decide) ?_
  refine vv_iload hC d_M_hangs_121 5 rfl ?_
  refine vv_iadd hC d_M_hangs_123 ?_
  refine vv_iald hC 10 0 d_M_hangs_124 rfl rfl hin_5 ?_
  refine vv_iconst hC d_M_hangs_125 (v := (2 : Int32)) (by decide) ?_
  refine vv_idiv hC d_M_hangs_126 (by decide) ?_
  refine vv_istore hC d_M_hangs_127 (by decide) [1, 2, 3, 4, 5, 6, 7, 0] (L2 := [(0, .ref (a_M 0)), (1, .int v1), (2, .ref (a_M 21)), (3, .int v3), (4, .int v4), (5, .int v5), (7, .int (((A_M 8) (((300 : Int32) + v5)).toNatClampNeg) / (2 : Int32))), (8, .int (((A_M 9) (((300 : Int32) + v5)).toNatClampNeg) / (2 : Int32)))]) rfl ?_
  refine vv_aload_n hC d_M_hangs_129 2 rfl rfl ?_
  refine vv_iload hC d_M_hangs_130 6 rfl ?_
  obtain ⟨hin_6, hw⟩ := hw
  refine vv_zald hC 21 1 d_M_hangs_132 rfl rfl hin_6 ?_
  refine vv_if_eq hC 143 d_M_hangs_133 (by decide) (fun cd => ?_) (fun cd => ?_)
  · have hw := hw.1 cd
    exact vv_sub [0, 1, 2, 4, 5, 6, 7] (by rfl) (l_M_hangs_b143 a_M I_M Q K29 X29 K38 X38 hC hK29 hX29 hK38 hX38 A_M v1 v4 v5 (((A_M 8) (((300 : Int32) + v5)).toNatClampNeg) / (2 : Int32)) (((A_M 9) (((300 : Int32) + v5)).toNatClampNeg) / (2 : Int32)) hw)
  · have hw := hw.2 cd
    refine vv_aload_n hC d_M_hangs_136 2 rfl rfl ?_
    refine vv_iload hC d_M_hangs_137 7 rfl ?_
    obtain ⟨hin_9, hw⟩ := hw
    refine vv_zald hC 21 1 d_M_hangs_139 rfl rfl hin_9 ?_
    refine vv_if_ne hC 145 d_M_hangs_140 (by decide) (fun cd => ?_) (fun cd => ?_)
    · have hw := hw.2 cd
      exact vv_sub [0, 1, 2, 3, 4, 5, 6, 7] (by rfl) (l_M_hangs_b145 a_M I_M Q K29 X29 K38 X38 hC hK29 hX29 hK38 hX38 A_M v1 v3 v4 v5 (((A_M 8) (((300 : Int32) + v5)).toNatClampNeg) / (2 : Int32)) (((A_M 9) (((300 : Int32) + v5)).toNatClampNeg) / (2 : Int32)) hw)
    · have hw := hw.1 cd
      exact vv_sub [0, 1, 2, 4, 5, 6, 7] (by rfl) (l_M_hangs_b143 a_M I_M Q K29 X29 K38 X38 hC hK29 hX29 hK38 hX38 A_M v1 v4 v5 (((A_M 8) (((300 : Int32) + v5)).toNatClampNeg) / (2 : Int32)) (((A_M 9) (((300 : Int32) + v5)).toNatClampNeg) / (2 : Int32)) hw)
set_option maxHeartbeats 4000000 in
set_option maxRecDepth 100000 in
theorem l_M_hangs_b78 {p : Program} {l : Launch} {e : Env} {s : State} {m : MethodId} {args : Array Value} {below : List Frame} {meth : Method} {c : Code} {D : va_G} {cA : Nat → ClassId} {sx : Nat → Nat} {A : Nat → Prop} (a_M : Nat → Nat) (I_M : (Nat → Int32)) (Q : Int32 → (Nat → Nat → Int32) → Prop) (K29 : (Nat → Nat → Int32) → Int32 → Int32 → Int32 → Prop) (X29 : (Nat → Nat → Int32) → Int32 → Prop) (K38 : (Nat → Nat → Int32) → Int32 → Int32 → Int32 → Int32 → Prop) (X38 : (Nat → Nat → Int32) → Int32 → Int32 → Prop) (hC : CX p s m args meth c b_M_hangs R_M TB 9 D vwCl (tyl cA) A (SPl sx) (some .boolean)) (hK29 : ∀ (A_M : (Nat → Nat → Int32)) (v1 : Int32) (v3 : Int32) (v4 : Int32), K29 A_M v1 v3 v4 → VV p l e ({ frames := 0, cells := 0, slots := 0, locals := 0 } : Room) s m args below meth c 9 D vwCl A 0 0 (QI below args s D vwCl (tyl cA) A (fun (r : Int32) (u : (Nat → Nat → Int32)) => Q r u) (fun u : (Nat → Nat → Int32) => kc_M cA a_M I_M u)) (kc_M cA a_M I_M A_M) 29 [(0, .ref (a_M 0)), (1, .int v1), (2, .ref (a_M 21)), (3, .int v3), (4, .int v4)] []) (hX29 : ∀ (A_M : (Nat → Nat → Int32)) (v1 : Int32), X29 A_M v1 → VV p l e ({ frames := 0, cells := 0, slots := 0, locals := 0 } : Room) s m args below meth c 9 D vwCl A 0 0 (QI below args s D vwCl (tyl cA) A (fun (r : Int32) (u : (Nat → Nat → Int32)) => Q r u) (fun u : (Nat → Nat → Int32) => kc_M cA a_M I_M u)) (kc_M cA a_M I_M A_M) 167 [(1, .int v1), (2, .ref (a_M 21))] []) (hK38 : ∀ (A_M : (Nat → Nat → Int32)) (v1 : Int32) (v3 : Int32) (v4 : Int32) (v5 : Int32), K38 A_M v1 v3 v4 v5 → VV p l e ({ frames := 0, cells := 0, slots := 0, locals := 0 } : Room) s m args below meth c 9 D vwCl A 0 0 (QI below args s D vwCl (tyl cA) A (fun (r : Int32) (u : (Nat → Nat → Int32)) => Q r u) (fun u : (Nat → Nat → Int32) => kc_M cA a_M I_M u)) (kc_M cA a_M I_M A_M) 38 [(0, .ref (a_M 0)), (1, .int v1), (2, .ref (a_M 21)), (3, .int v3), (4, .int v4), (5, .int v5)] []) (hX38 : ∀ (A_M : (Nat → Nat → Int32)) (v1 : Int32) (v3 : Int32), X38 A_M v1 v3 → VV p l e ({ frames := 0, cells := 0, slots := 0, locals := 0 } : Room) s m args below meth c 9 D vwCl A 0 0 (QI below args s D vwCl (tyl cA) A (fun (r : Int32) (u : (Nat → Nat → Int32)) => Q r u) (fun u : (Nat → Nat → Int32) => kc_M cA a_M I_M u)) (kc_M cA a_M I_M A_M) 161 [(0, .ref (a_M 0)), (1, .int v1), (2, .ref (a_M 21)), (3, .int v3)] []) : ∀ (A_M : (Nat → Nat → Int32)) (v1 : Int32) (v3 : Int32) (v4 : Int32) (v5 : Int32) (v6 : Int32), wp_M_hangs_b78 Q K29 X29 K38 X38 A_M v1 v3 v4 v5 v6 → VV p l e ({ frames := 0, cells := 0, slots := 0, locals := 0 } : Room) s m args below meth c 9 D vwCl A 0 0 (QI below args s D vwCl (tyl cA) A (fun (r : Int32) (u : (Nat → Nat → Int32)) => Q r u) (fun u : (Nat → Nat → Int32) => kc_M cA a_M I_M u)) (kc_M cA a_M I_M A_M) 78 [(0, .ref (a_M 0)), (1, .int v1), (2, .ref (a_M 21)), (3, .int v3), (4, .int v4), (5, .int v5), (6, .int v6)] [] := by
  intro A_M v1 v3 v4 v5 v6 hw
  unfold wp_M_hangs_b78 at hw
  refine vv_iload hC d_M_hangs_78 6 rfl ?_
  refine vv_iload_n hC d_M_hangs_80 1 rfl rfl ?_
  refine vv_icmp_ne hC 99 d_M_hangs_81 (by decide) (fun cd => ?_) (fun cd => ?_)
  · have hw := hw.2 cd
    exact vv_sub [0, 1, 2, 3, 4, 5] (by rfl) (l_M_hangs_b99 a_M I_M Q K29 X29 K38 X38 hC hK29 hX29 hK38 hX38 A_M v1 v3 v4 v5 hw)
  · have hw := hw.1 cd
    refine vv_iload hC d_M_hangs_84 4 rfl ?_
    refine vv_if_eq hC 99 d_M_hangs_86 (by decide) (fun cd => ?_) (fun cd => ?_)
    · have hw := hw.1 cd
      exact vv_sub [0, 1, 2, 3, 4, 5] (by rfl) (l_M_hangs_b99 a_M I_M Q K29 X29 K38 X38 hC hK29 hX29 hK38 hX38 A_M v1 v3 v4 v5 hw)
    · have hw := hw.2 cd
      refine vv_aload_n hC d_M_hangs_89 2 rfl rfl ?_
      refine vv_iload hC d_M_hangs_90 6 rfl ?_
      obtain ⟨hin_10, hw⟩ := hw
      refine vv_zald hC 21 1 d_M_hangs_92 rfl rfl hin_10 ?_
      refine vv_if_ne hC 99 d_M_hangs_93 (by decide) (fun cd => ?_) (fun cd => ?_)
      · have hw := hw.2 cd
        exact vv_sub [0, 1, 2, 3, 4, 5] (by rfl) (l_M_hangs_b99 a_M I_M Q K29 X29 K38 X38 hC hK29 hX29 hK38 hX38 A_M v1 v3 v4 v5 hw)
      · have hw := hw.1 cd
        refine vv_goto hC 155 d_M_hangs_96 (by decide) ?_
        refine vv_iinc hC d_M_hangs_155 5 rfl (v := (v5 + (1 : Int32))) rfl (by decide) [1, 2, 3, 4, 5, 0, 6] (L2 := [(0, .ref (a_M 0)), (1, .int v1), (2, .ref (a_M 21)), (3, .int v3), (4, .int v4), (5, .int (v5 + (1 : Int32))), (6, .int v6)]) rfl ?_
        refine vv_goto hC 38 d_M_hangs_158 (by decide) ?_
        exact vv_sub [0, 1, 2, 3, 4, 5] (by rfl) (hK38 A_M v1 v3 v4 (v5 + (1 : Int32)) hw)
set_option maxHeartbeats 4000000 in
set_option maxRecDepth 100000 in
theorem l_M_hangs_L38 {p : Program} {l : Launch} {e : Env} {s : State} {m : MethodId} {args : Array Value} {below : List Frame} {meth : Method} {c : Code} {D : va_G} {cA : Nat → ClassId} {sx : Nat → Nat} {A : Nat → Prop} (a_M : Nat → Nat) (I_M : (Nat → Int32)) (Q : Int32 → (Nat → Nat → Int32) → Prop) (K29 : (Nat → Nat → Int32) → Int32 → Int32 → Int32 → Prop) (X29 : (Nat → Nat → Int32) → Int32 → Prop) (X38 : (Nat → Nat → Int32) → Int32 → Int32 → Prop) (hC : CX p s m args meth c b_M_hangs R_M TB 9 D vwCl (tyl cA) A (SPl sx) (some .boolean)) (hK29 : ∀ (A_M : (Nat → Nat → Int32)) (v1 : Int32) (v3 : Int32) (v4 : Int32), K29 A_M v1 v3 v4 → VV p l e ({ frames := 0, cells := 0, slots := 0, locals := 0 } : Room) s m args below meth c 9 D vwCl A 0 0 (QI below args s D vwCl (tyl cA) A (fun (r : Int32) (u : (Nat → Nat → Int32)) => Q r u) (fun u : (Nat → Nat → Int32) => kc_M cA a_M I_M u)) (kc_M cA a_M I_M A_M) 29 [(0, .ref (a_M 0)), (1, .int v1), (2, .ref (a_M 21)), (3, .int v3), (4, .int v4)] []) (hX29 : ∀ (A_M : (Nat → Nat → Int32)) (v1 : Int32), X29 A_M v1 → VV p l e ({ frames := 0, cells := 0, slots := 0, locals := 0 } : Room) s m args below meth c 9 D vwCl A 0 0 (QI below args s D vwCl (tyl cA) A (fun (r : Int32) (u : (Nat → Nat → Int32)) => Q r u) (fun u : (Nat → Nat → Int32) => kc_M cA a_M I_M u)) (kc_M cA a_M I_M A_M) 167 [(1, .int v1), (2, .ref (a_M 21))] []) (hX38 : ∀ (A_M : (Nat → Nat → Int32)) (v1 : Int32) (v3 : Int32), X38 A_M v1 v3 → VV p l e ({ frames := 0, cells := 0, slots := 0, locals := 0 } : Room) s m args below meth c 9 D vwCl A 0 0 (QI below args s D vwCl (tyl cA) A (fun (r : Int32) (u : (Nat → Nat → Int32)) => Q r u) (fun u : (Nat → Nat → Int32) => kc_M cA a_M I_M u)) (kc_M cA a_M I_M A_M) 161 [(0, .ref (a_M 0)), (1, .int v1), (2, .ref (a_M 21)), (3, .int v3)] []) : ∀ (n38 : Nat) (A_M : (Nat → Nat → Int32)) (v1 : Int32) (v3 : Int32) (v4 : Int32) (v5 : Int32), wp_M_hangs_L38 Q K29 X29 X38 n38 A_M v1 v3 v4 v5 → VV p l e ({ frames := 0, cells := 0, slots := 0, locals := 0 } : Room) s m args below meth c 9 D vwCl A 0 0 (QI below args s D vwCl (tyl cA) A (fun (r : Int32) (u : (Nat → Nat → Int32)) => Q r u) (fun u : (Nat → Nat → Int32) => kc_M cA a_M I_M u)) (kc_M cA a_M I_M A_M) 38 [(0, .ref (a_M 0)), (1, .int v1), (2, .ref (a_M 21)), (3, .int v3), (4, .int v4), (5, .int v5)] [] := by
  intro n38
  induction n38 with
  | zero =>
    intro A_M v1 v3 v4 v5 hw
    exact absurd hw (fun z => z)
  | succ n38 ih =>
    intro A_M v1 v3 v4 v5 hw
    unfold wp_M_hangs_L38 at hw
    refine vv_iload hC d_M_hangs_38 5 rfl ?_
    refine vv_aload_n hC d_M_hangs_40 0 rfl rfl ?_
    refine vv_get hC (v := .ref (a_M 3)) hin_M 0 10 tb_682 d_M_hangs_41 rfl rfl (by decide) rfl rfl ?_
    refine vv_bipush hC d_M_hangs_44 (v := (9 : Int32)) (by decide) ?_
    refine vv_iald hC 3 0 d_M_hangs_46 rfl rfl (vin_c (by decide)) ?_
    refine vv_icmp_ge hC 161 d_M_hangs_47 (by decide) (fun cd => ?_) (fun cd => ?_)
    · have hw := hw.1 cd
      exact vv_sub [0, 1, 2, 3] (by rfl) (hX38 A_M v1 v3 hw)
    · have hw := hw.2 cd
      refine vv_aload_n hC d_M_hangs_50 0 rfl rfl ?_
      refine vv_get hC (v := .ref (a_M 8)) hin_M 0 15 tb_687 d_M_hangs_51 rfl rfl (by decide) rfl rfl ?_
      refine vv_sipush hC d_M_hangs_54 (v := (300 : Int32)) (by decide) ?_
      refine vv_iload hC d_M_hangs_57 5 rfl ?_
      refine vv_iadd hC d_M_hangs_59 ?_
      obtain ⟨hin_4, hw⟩ := hw
      refine vv_iald hC 8 0 d_M_hangs_60 rfl rfl hin_4 ?_
      refine vv_iconst hC d_M_hangs_61 (v := (2 : Int32)) (by decide) ?_
      refine vv_idiv hC d_M_hangs_62 (by decide) ?_
      refine vv_istore hC d_M_hangs_63 (by decide) [1, 2, 3, 4, 5, 6, 0] (L2 := [(0, .ref (a_M 0)), (1, .int v1), (2, .ref (a_M 21)), (3, .int v3), (4, .int v4), (5, .int v5), (6, .int (((A_M 7) (((300 : Int32) + v5)).toNatClampNeg) / (2 : Int32)))]) rfl ?_
      refine vv_iload hC d_M_hangs_65 6 rfl ?_
      refine vv_iload_n hC d_M_hangs_67 1 rfl rfl ?_
      refine vv_icmp_eq hC 78 d_M_hangs_68 (by decide) (fun cd => ?_) (fun cd => ?_)
      · have hw := hw.1 cd
        exact vv_sub [0, 1, 2, 3, 4, 5, 6] (by rfl) (l_M_hangs_b78 a_M I_M Q K29 X29 (wp_M_hangs_L38 Q K29 X29 X38 n38) X38 hC hK29 hX29 ih hX38 A_M v1 v3 v4 v5 (((A_M 7) (((300 : Int32) + v5)).toNatClampNeg) / (2 : Int32)) hw)
      · have hw := hw.2 cd
        refine vv_aload_n hC d_M_hangs_71 2 rfl rfl ?_
        refine vv_iload hC d_M_hangs_72 6 rfl ?_
        obtain ⟨hin_11, hw⟩ := hw
        refine vv_zald hC 21 1 d_M_hangs_74 rfl rfl hin_11 ?_
        refine vv_if_eq hC 155 d_M_hangs_75 (by decide) (fun cd => ?_) (fun cd => ?_)
        · have hw := hw.1 cd
          refine vv_iinc hC d_M_hangs_155 5 rfl (v := (v5 + (1 : Int32))) rfl (by decide) [1, 2, 3, 4, 5, 0, 6] (L2 := [(0, .ref (a_M 0)), (1, .int v1), (2, .ref (a_M 21)), (3, .int v3), (4, .int v4), (5, .int (v5 + (1 : Int32))), (6, .int (((A_M 7) (((300 : Int32) + v5)).toNatClampNeg) / (2 : Int32)))]) rfl ?_
          refine vv_goto hC 38 d_M_hangs_158 (by decide) ?_
          exact vv_sub [0, 1, 2, 3, 4, 5] (by rfl) (ih A_M v1 v3 v4 (v5 + (1 : Int32)) hw)
        · have hw := hw.2 cd
          exact vv_sub [0, 1, 2, 3, 4, 5, 6] (by rfl) (l_M_hangs_b78 a_M I_M Q K29 X29 (wp_M_hangs_L38 Q K29 X29 X38 n38) X38 hC hK29 hX29 ih hX38 A_M v1 v3 v4 v5 (((A_M 7) (((300 : Int32) + v5)).toNatClampNeg) / (2 : Int32)) hw)
set_option maxHeartbeats 4000000 in
set_option maxRecDepth 100000 in
theorem l_M_hangs_L29 {p : Program} {l : Launch} {e : Env} {s : State} {m : MethodId} {args : Array Value} {below : List Frame} {meth : Method} {c : Code} {D : va_G} {cA : Nat → ClassId} {sx : Nat → Nat} {A : Nat → Prop} (a_M : Nat → Nat) (I_M : (Nat → Int32)) (Q : Int32 → (Nat → Nat → Int32) → Prop) (X29 : (Nat → Nat → Int32) → Int32 → Prop) (hC : CX p s m args meth c b_M_hangs R_M TB 9 D vwCl (tyl cA) A (SPl sx) (some .boolean)) (hX29 : ∀ (A_M : (Nat → Nat → Int32)) (v1 : Int32), X29 A_M v1 → VV p l e ({ frames := 0, cells := 0, slots := 0, locals := 0 } : Room) s m args below meth c 9 D vwCl A 0 0 (QI below args s D vwCl (tyl cA) A (fun (r : Int32) (u : (Nat → Nat → Int32)) => Q r u) (fun u : (Nat → Nat → Int32) => kc_M cA a_M I_M u)) (kc_M cA a_M I_M A_M) 167 [(1, .int v1), (2, .ref (a_M 21))] []) : ∀ (n29 : Nat) (A_M : (Nat → Nat → Int32)) (v1 : Int32) (v3 : Int32) (v4 : Int32), wp_M_hangs_L29 Q X29 n29 A_M v1 v3 v4 → VV p l e ({ frames := 0, cells := 0, slots := 0, locals := 0 } : Room) s m args below meth c 9 D vwCl A 0 0 (QI below args s D vwCl (tyl cA) A (fun (r : Int32) (u : (Nat → Nat → Int32)) => Q r u) (fun u : (Nat → Nat → Int32) => kc_M cA a_M I_M u)) (kc_M cA a_M I_M A_M) 29 [(0, .ref (a_M 0)), (1, .int v1), (2, .ref (a_M 21)), (3, .int v3), (4, .int v4)] [] := by
  intro n29
  induction n29 with
  | zero =>
    intro A_M v1 v3 v4 hw
    exact absurd hw (fun z => z)
  | succ n29 ih =>
    intro A_M v1 v3 v4 hw
    unfold wp_M_hangs_L29 at hw
    refine vv_iload_n hC d_M_hangs_29 3 rfl rfl ?_
    refine vv_if_eq hC 167 d_M_hangs_30 (by decide) (fun cd => ?_) (fun cd => ?_)
    · have hw := hw.1 cd
      exact vv_sub [1, 2] (by rfl) (hX29 A_M v1 hw)
    · have hw := hw.2 cd
      refine vv_iconst hC d_M_hangs_33 (v := (0 : Int32)) (by decide) ?_
      refine vv_istore_n hC d_M_hangs_34 rfl (by decide) [1, 2, 3, 0, 4] (L2 := [(0, .ref (a_M 0)), (1, .int v1), (2, .ref (a_M 21)), (3, .int (0 : Int32)), (4, .int v4)]) rfl ?_
      refine vv_iconst hC d_M_hangs_35 (v := (0 : Int32)) (by decide) ?_
      refine vv_istore hC d_M_hangs_36 (by decide) [1, 2, 3, 4, 5, 0] (L2 := [(0, .ref (a_M 0)), (1, .int v1), (2, .ref (a_M 21)), (3, .int (0 : Int32)), (4, .int v4), (5, .int (0 : Int32))]) rfl ?_
      obtain ⟨m38, hw⟩ := hw
      refine vv_sub [0, 1, 2, 3, 4, 5] (by rfl) (l_M_hangs_L38 a_M I_M Q (wp_M_hangs_L29 Q X29 n29) X29 _ hC ih hX29 (fun A_M_12 v1_13 v3_14 hw => ?_) m38 A_M v1 (0 : Int32) v4 (0 : Int32) hw)
      refine vv_iconst hC d_M_hangs_161 (v := (1 : Int32)) (by decide) ?_
      refine vv_istore hC d_M_hangs_162 (by decide) [1, 2, 3, 4, 0] (L2 := [(0, .ref (a_M 0)), (1, .int v1_13), (2, .ref (a_M 21)), (3, .int v3_14), (4, .int (1 : Int32))]) rfl ?_
      refine vv_goto hC 29 d_M_hangs_164 (by decide) ?_
      exact vv_sub [0, 1, 2, 3, 4] (by rfl) (ih A_M_12 v1_13 v3_14 (1 : Int32) hw)
set_option maxHeartbeats 4000000 in
set_option maxRecDepth 100000 in
theorem c_M_hangs (l : Launch) (D : va_G) (cA : Nat → ClassId) (sx : Nat → Nat) (a_M : Nat → Nat) (I_M : (Nat → Int32)) (A_M : (Nat → Nat → Int32)) (x1 : Int32) (Q : Int32 → (Nat → Nat → Int32) → Prop) (hw : wp_M_hangs A_M x1 Q) : MetI l y_M_hangs (Cond.code y_M_hangs b_M_hangs 9 (some .boolean) :: TB) ({ frames := 0, cells := 0, slots := 0, locals := 0 } : Room) D vwCl (tyl cA) (SPl sx) [.ref (a_M 0), .int x1] (kc_M cA a_M I_M A_M) (fun (r : Int32) (u : (Nat → Nat → Int32)) => Q r u) (fun u : (Nat → Nat → Int32) => kc_M cA a_M I_M u) := by
  refine vv_entryI (cc := b_M_hangs) (own := R_M) (L := [(0, .ref (a_M 0)), (1, .int x1)]) (by decide) rfl rfl (Nat.le_of_ble_eq_true rfl) rfl (fun p e s m args below meth c A hC => ?_)
  unfold wp_M_hangs at hw
  refine vv_aload_n hC d_M_hangs_0 0 rfl rfl ?_
  refine vv_get hC (v := .ref (a_M 21)) hin_M 0 28 tb_700 d_M_hangs_1 rfl rfl (by decide) rfl rfl ?_
  refine vv_astore_n hC d_M_hangs_4 rfl (by decide) [1, 2, 0] (L2 := [(0, .ref (a_M 0)), (1, .int x1), (2, .ref (a_M 21))]) rfl ?_
  refine vv_iconst hC d_M_hangs_5 (v := (0 : Int32)) (by decide) ?_
  refine vv_istore_n hC d_M_hangs_6 rfl (by decide) [1, 2, 3, 0] (L2 := [(0, .ref (a_M 0)), (1, .int x1), (2, .ref (a_M 21)), (3, .int (0 : Int32))]) rfl ?_
  obtain ⟨m7, hw⟩ := hw
  refine vv_sub [0, 1, 2, 3] (by rfl) (l_M_hangs_L7 a_M I_M Q _ hC (fun A_M_2 v1_3 hw => ?_) m7 A_M x1 (0 : Int32) hw)
  refine vv_iconst hC d_M_hangs_24 (v := (1 : Int32)) (by decide) ?_
  refine vv_istore_n hC d_M_hangs_25 rfl (by decide) [1, 2, 3, 0] (L2 := [(0, .ref (a_M 0)), (1, .int v1_3), (2, .ref (a_M 21)), (3, .int (1 : Int32))]) rfl ?_
  refine vv_iconst hC d_M_hangs_26 (v := (0 : Int32)) (by decide) ?_
  refine vv_istore hC d_M_hangs_27 (by decide) [1, 2, 3, 4, 0] (L2 := [(0, .ref (a_M 0)), (1, .int v1_3), (2, .ref (a_M 21)), (3, .int (1 : Int32)), (4, .int (0 : Int32))]) rfl ?_
  obtain ⟨m29, hw⟩ := hw
  refine vv_sub [0, 1, 2, 3, 4] (by rfl) (l_M_hangs_L29 a_M I_M Q _ hC (fun A_M_15 v1_16 hw => ?_) m29 A_M_2 v1_3 (1 : Int32) (0 : Int32) hw)
  refine vv_aload_n hC d_M_hangs_167 1 rfl rfl ?_
  refine vv_iload_n hC d_M_hangs_168 0 rfl rfl ?_
  obtain ⟨hin_17, hw⟩ := hw
  refine vv_zald hC 21 1 d_M_hangs_169 rfl rfl hin_17 ?_
  obtain ⟨hnr_18, hw⟩ := hw
  exact vv_zret hC d_M_hangs_170 hnr_18 A_M_15 hw rfl
set_option maxHeartbeats 4000000 in
set_option maxRecDepth 100000 in
theorem l_M_findRing_L21 {p : Program} {l : Launch} {e : Env} {s : State} {m : MethodId} {args : Array Value} {below : List Frame} {meth : Method} {c : Code} {D : va_G} {cA : Nat → ClassId} {sx : Nat → Nat} {A : Nat → Prop} (a_M : Nat → Nat) (Q : (Nat → Int32) → (Nat → Nat → Int32) → Prop) (X21 : (Nat → Int32) → (Nat → Nat → Int32) → Prop) (hC : CX p s m args meth c b_M_findRing R_M TB 2 D vwCl (tyl cA) A (SPl sx) none) (hX21 : ∀ (I_M : (Nat → Int32)) (A_M : (Nat → Nat → Int32)), X21 I_M A_M → VV p l e ({ frames := 2, cells := 0, slots := 0, locals := 44 } : Room) s m args below meth c 2 D vwCl A 0 0 (QV below args s D vwCl (tyl cA) A (fun (u : (Nat → Int32) × (Nat → Nat → Int32)) => Q u.1 u.2) (fun u : (Nat → Int32) × (Nat → Nat → Int32) => kc_M cA a_M u.1 u.2)) (kc_M cA a_M I_M A_M) 73 [] []) : ∀ (n21 : Nat) (I_M : (Nat → Int32)) (A_M : (Nat → Nat → Int32)) (v1 : Int32), wp_M_findRing_L21 Q X21 n21 I_M A_M v1 → VV p l e ({ frames := 2, cells := 0, slots := 0, locals := 44 } : Room) s m args below meth c 2 D vwCl A 0 0 (QV below args s D vwCl (tyl cA) A (fun (u : (Nat → Int32) × (Nat → Nat → Int32)) => Q u.1 u.2) (fun u : (Nat → Int32) × (Nat → Nat → Int32) => kc_M cA a_M u.1 u.2)) (kc_M cA a_M I_M A_M) 21 [(0, .ref (a_M 0)), (1, .int v1)] [] := by
  intro n21
  induction n21 with
  | zero =>
    intro I_M A_M v1 hw
    exact absurd hw (fun z => z)
  | succ n21 ih =>
    intro I_M A_M v1 hw
    unfold wp_M_findRing_L21 at hw
    refine vv_iload_n hC d_M_findRing_21 1 rfl rfl ?_
    refine vv_aload_n hC d_M_findRing_22 0 rfl rfl ?_
    refine vv_get hC (v := .ref (a_M 3)) hin_M 0 10 tb_682 d_M_findRing_23 rfl rfl (by decide) rfl rfl ?_
    refine vv_iconst hC d_M_findRing_26 (v := (5 : Int32)) (by decide) ?_
    refine vv_iald hC 3 0 d_M_findRing_27 rfl rfl (vin_c (by decide)) ?_
    refine vv_icmp_gt hC 73 d_M_findRing_28 (by decide) (fun cd => ?_) (fun cd => ?_)
    · have hw := hw.1 cd
      exact vv_sub [] (by rfl) (hX21 I_M A_M hw)
    · have hw := hw.2 cd
      refine vv_aload_n hC d_M_findRing_31 0 rfl rfl ?_
      refine vv_get hC (v := .int (I_M 5)) hin_M 0 7 tb_679 d_M_findRing_32 rfl rfl (by decide) rfl rfl ?_
      refine vv_if_ne hC 73 d_M_findRing_35 (by decide) (fun cd => ?_) (fun cd => ?_)
      · have hw := hw.2 cd
        exact vv_sub [] (by rfl) (hX21 I_M A_M hw)
      · have hw := hw.1 cd
        refine vv_aload_n hC d_M_findRing_38 0 rfl rfl ?_
        refine vv_get hC (v := .ref (a_M 11)) hin_M 0 18 tb_690 d_M_findRing_39 rfl rfl (by decide) rfl rfl ?_
        refine vv_sipush hC d_M_findRing_42 (v := (401 : Int32)) (by decide) ?_
        refine vv_iload_n hC d_M_findRing_45 1 rfl rfl ?_
        refine vv_iadd hC d_M_findRing_46 ?_
        obtain ⟨hin_4, hw⟩ := hw
        refine vv_iald hC 11 0 d_M_findRing_47 rfl rfl hin_4 ?_
        refine vv_iconst hC d_M_findRing_48 (v := (3 : Int32)) (by decide) ?_
        refine vv_icmp_ne hC 67 d_M_findRing_49 (by decide) (fun cd => ?_) (fun cd => ?_)
        · have hw := hw.2 cd
          refine vv_iinc hC d_M_findRing_67 1 rfl (v := (v1 + (1 : Int32))) rfl (by decide) [1, 0] (L2 := [(0, .ref (a_M 0)), (1, .int (v1 + (1 : Int32)))]) rfl ?_
          refine vv_goto hC 21 d_M_findRing_70 (by decide) ?_
          exact vv_sub [0, 1] (by rfl) (ih I_M A_M (v1 + (1 : Int32)) hw)
        · have hw := hw.1 cd
          refine vv_aload_n hC d_M_findRing_52 0 rfl rfl ?_
          refine vv_iload_n hC d_M_findRing_53 1 rfl rfl ?_
          refine vv_callVI (wr := []) hC (c_M_hangs l D cA sx a_M I_M A_M v1 _ hw) (cw_M_155 hC) d_M_findRing_54 [] [0, 1, 2, 3, 4, 5, 6, 7, 8, 9, 10, 11, 12, 13, 14, 15, 16, 17, 18, 19, 20, 21, 22, 23] [] [0, 1, 2, 3, 4, 5, 6, 7, 8, 9, 10, 11, 12, 13, 14, 15, 16, 17, 18, 19, 20, 21, 22, 23] (fun u_6 : (Nat → Nat → Int32) => kc_M cA a_M I_M u_6) ⟨Nat.zero_le _, Nat.zero_le _⟩ rfl rfl (fun _ => rfl) rfl rfl rfl rfl rfl rfl rfl rfl (Nat.le_of_ble_eq_true rfl) (fun r_5 u_6 hw => ?_)
          refine vv_if_eq hC 67 d_M_findRing_57 (by decide) (fun cd => ?_) (fun cd => ?_)
          · have hw := hw.1 cd
            refine vv_iinc hC d_M_findRing_67 1 rfl (v := (v1 + (1 : Int32))) rfl (by decide) [1, 0] (L2 := [(0, .ref (a_M 0)), (1, .int (v1 + (1 : Int32)))]) rfl ?_
            refine vv_goto hC 21 d_M_findRing_70 (by decide) ?_
            exact vv_sub [0, 1] (by rfl) (ih I_M u_6 (v1 + (1 : Int32)) hw)
          · have hw := hw.2 cd
            refine vv_aload_n hC d_M_findRing_60 0 rfl rfl ?_
            refine vv_bipush hC d_M_findRing_61 (v := (6 : Int32)) (by decide) ?_
            refine vv_iload_n hC d_M_findRing_63 1 rfl rfl ?_
            refine vv_callVV (wr := []) hC (c_M_wrong l D cA sx a_M I_M u_6 (6 : Int32) v1 _ hw) (cw_M_104 hC) d_M_findRing_64 [] [0, 1, 2, 3, 4, 5, 6, 7, 8, 9, 10, 11, 12, 13, 14, 15, 16, 17, 18, 19, 20, 21, 22, 23] [] [0, 1, 2, 3, 4, 5, 6, 7, 8, 9, 10, 11, 12, 13, 14, 15, 16, 17, 18, 19, 20, 21, 22, 23] (fun u_8 : (Nat → Int32) => kc_M cA a_M u_8 u_6) ⟨Nat.zero_le _, Nat.zero_le _⟩ rfl rfl (fun _ => rfl) rfl rfl rfl rfl rfl rfl rfl rfl (Nat.le_of_ble_eq_true rfl) (fun u_8 hw => ?_)
            refine vv_iinc hC d_M_findRing_67 1 rfl (v := (v1 + (1 : Int32))) rfl (by decide) [1, 0] (L2 := [(0, .ref (a_M 0)), (1, .int (v1 + (1 : Int32)))]) rfl ?_
            refine vv_goto hC 21 d_M_findRing_70 (by decide) ?_
            exact vv_sub [0, 1] (by rfl) (ih u_8 u_6 (v1 + (1 : Int32)) hw)
set_option maxHeartbeats 4000000 in
set_option maxRecDepth 100000 in
theorem c_M_findRing (l : Launch) (D : va_G) (cA : Nat → ClassId) (sx : Nat → Nat) (a_M : Nat → Nat) (I_M : (Nat → Int32)) (A_M : (Nat → Nat → Int32)) (Q : (Nat → Int32) → (Nat → Nat → Int32) → Prop) (hw : wp_M_findRing I_M A_M Q) : MetV l y_M_findRing (Cond.code y_M_findRing b_M_findRing 2 none :: TB) ({ frames := 2, cells := 0, slots := 0, locals := 44 } : Room) D vwCl (tyl cA) (SPl sx) [.ref (a_M 0)] (kc_M cA a_M I_M A_M) (fun (u : (Nat → Int32) × (Nat → Nat → Int32)) => Q u.1 u.2) (fun u : (Nat → Int32) × (Nat → Nat → Int32) => kc_M cA a_M u.1 u.2) := by
  refine vv_entryV (cc := b_M_findRing) (own := R_M) (L := [(0, .ref (a_M 0))]) (by decide) rfl rfl (Nat.le_of_ble_eq_true rfl) rfl (fun p e s m args below meth c A hC => ?_)
  unfold wp_M_findRing at hw
  refine vv_aload_n hC d_M_findRing_0 0 rfl rfl ?_
  refine vv_callVV (wr := []) hC (c_M_sort l D cA sx a_M I_M A_M _ hw) (cw_M_152 hC) d_M_findRing_1 [] [0, 1, 2, 3, 4, 5, 6, 7, 8, 9, 10, 11, 12, 13, 14, 15, 16, 17, 18, 19, 20, 21, 22, 23] [] [0, 1, 2, 3, 4, 5, 6, 7, 8, 9, 10, 11, 12, 13, 14, 15, 16, 17, 18, 19, 20, 21, 22, 23] (fun u_1 : (Nat → Int32) × (Nat → Nat → Int32) => kc_M cA a_M u_1.1 u_1.2) ⟨Nat.zero_le _, Nat.zero_le _⟩ rfl rfl (fun _ => rfl) rfl rfl rfl rfl rfl rfl rfl rfl (Nat.le_of_ble_eq_true rfl) (fun u_1 hw => ?_)
  refine vv_aload_n hC d_M_findRing_4 0 rfl rfl ?_
  refine vv_get hC (v := .int (u_1.1 8)) hin_M 0 29 tb_701 d_M_findRing_5 rfl rfl (by decide) rfl rfl ?_
  refine vv_aload_n hC d_M_findRing_8 0 rfl rfl ?_
  refine vv_get hC (v := .ref (a_M 3)) hin_M 0 10 tb_682 d_M_findRing_9 rfl rfl (by decide) rfl rfl ?_
  refine vv_bipush hC d_M_findRing_12 (v := (9 : Int32)) (by decide) ?_
  refine vv_iald hC 3 0 d_M_findRing_14 rfl rfl (vin_c (by decide)) ?_
  refine vv_icmp_ne hC 19 d_M_findRing_15 (by decide) (fun cd => ?_) (fun cd => ?_)
  · have hw := hw.2 cd
    refine vv_iconst hC d_M_findRing_19 (v := (1 : Int32)) (by decide) ?_
    refine vv_istore_n hC d_M_findRing_20 rfl (by decide) [1, 0] (L2 := [(0, .ref (a_M 0)), (1, .int (1 : Int32))]) rfl ?_
    obtain ⟨m21, hw⟩ := hw
    refine vv_sub [0, 1] (by rfl) (l_M_findRing_L21 a_M Q _ hC (fun I_M_10 A_M_11 hw => ?_) m21 u_1.1 u_1.2 (1 : Int32) hw)
    exact vv_vret hC d_M_findRing_73 (I_M_10, A_M_11) hw rfl
  · have hw := hw.1 cd
    exact vv_vret hC d_M_findRing_18 (u_1.1, u_1.2) hw rfl
set_option maxHeartbeats 4000000 in
set_option maxRecDepth 100000 in
theorem l_M_keep_L2 {p : Program} {l : Launch} {e : Env} {s : State} {m : MethodId} {args : Array Value} {below : List Frame} {meth : Method} {c : Code} {D : va_G} {cA : Nat → ClassId} {sx : Nat → Nat} {A : Nat → Prop} (a_M : Nat → Nat) (Q : (Nat → Int32) → (Nat → Nat → Int32) → Prop) (X2 : (Nat → Int32) → (Nat → Nat → Int32) → Prop) (hC : CX p s m args meth c b_M_keep R_M TB 2 D vwCl (tyl cA) A (SPl sx) none) (hX2 : ∀ (I_M : (Nat → Int32)) (A_M : (Nat → Nat → Int32)), X2 I_M A_M → VV p l e ({ frames := 0, cells := 0, slots := 0, locals := 0 } : Room) s m args below meth c 2 D vwCl A 0 0 (QV below args s D vwCl (tyl cA) A (fun (u : (Nat → Int32) × (Nat → Nat → Int32)) => Q u.1 u.2) (fun u : (Nat → Int32) × (Nat → Nat → Int32) => kc_M cA a_M u.1 u.2)) (kc_M cA a_M I_M A_M) 27 [(0, .ref (a_M 0))] []) : ∀ (n2 : Nat) (I_M : (Nat → Int32)) (A_M : (Nat → Nat → Int32)) (v1 : Int32), wp_M_keep_L2 Q X2 n2 I_M A_M v1 → VV p l e ({ frames := 0, cells := 0, slots := 0, locals := 0 } : Room) s m args below meth c 2 D vwCl A 0 0 (QV below args s D vwCl (tyl cA) A (fun (u : (Nat → Int32) × (Nat → Nat → Int32)) => Q u.1 u.2) (fun u : (Nat → Int32) × (Nat → Nat → Int32) => kc_M cA a_M u.1 u.2)) (kc_M cA a_M I_M A_M) 2 [(0, .ref (a_M 0)), (1, .int v1)] [] := by
  intro n2
  induction n2 with
  | zero =>
    intro I_M A_M v1 hw
    exact absurd hw (fun z => z)
  | succ n2 ih =>
    intro I_M A_M v1 hw
    unfold wp_M_keep_L2 at hw
    refine vv_iload_n hC d_M_keep_2 1 rfl rfl ?_
    refine vv_iconst hC d_M_keep_3 (v := (5 : Int32)) (by decide) ?_
    refine vv_icmp_ge hC 27 d_M_keep_4 (by decide) (fun cd => ?_) (fun cd => ?_)
    · have hw := hw.1 cd
      exact vv_sub [0] (by rfl) (hX2 I_M A_M hw)
    · have hw := hw.2 cd
      refine vv_aload_n hC d_M_keep_7 0 rfl rfl ?_
      refine vv_get hC (v := .ref (a_M 3)) hin_M 0 10 tb_682 d_M_keep_8 rfl rfl (by decide) rfl rfl ?_
      refine vv_iload_n hC d_M_keep_11 1 rfl rfl ?_
      refine vv_aload_n hC d_M_keep_12 0 rfl rfl ?_
      refine vv_get hC (v := .ref (a_M 3)) hin_M 0 10 tb_682 d_M_keep_13 rfl rfl (by decide) rfl rfl ?_
      refine vv_iconst hC d_M_keep_16 (v := (5 : Int32)) (by decide) ?_
      refine vv_iload_n hC d_M_keep_17 1 rfl rfl ?_
      refine vv_iadd hC d_M_keep_18 ?_
      obtain ⟨hin_1, hw⟩ := hw
      refine vv_iald hC 3 0 d_M_keep_19 rfl rfl hin_1 ?_
      obtain ⟨hin_2, hw⟩ := hw
      refine vv_iast hC 3 0 d_M_keep_20 rfl rfl hin_2 (ws2 := kc_M cA a_M I_M (va_up A_M 2 (upd (A_M 2) (v1).toNatClampNeg ((A_M 2) (((5 : Int32) + v1)).toNatClampNeg)))) (st_M_MA2 ..) ?_
      refine vv_iinc hC d_M_keep_21 1 rfl (v := (v1 + (1 : Int32))) rfl (by decide) [1, 0] (L2 := [(0, .ref (a_M 0)), (1, .int (v1 + (1 : Int32)))]) rfl ?_
      refine vv_goto hC 2 d_M_keep_24 (by decide) ?_
      exact vv_sub [0, 1] (by rfl) (ih I_M (va_up A_M 2 (upd (A_M 2) (v1).toNatClampNeg ((A_M 2) (((5 : Int32) + v1)).toNatClampNeg))) (v1 + (1 : Int32)) hw)
set_option maxHeartbeats 4000000 in
set_option maxRecDepth 100000 in
theorem l_M_keep_L29 {p : Program} {l : Launch} {e : Env} {s : State} {m : MethodId} {args : Array Value} {below : List Frame} {meth : Method} {c : Code} {D : va_G} {cA : Nat → ClassId} {sx : Nat → Nat} {A : Nat → Prop} (a_M : Nat → Nat) (Q : (Nat → Int32) → (Nat → Nat → Int32) → Prop) (X29 : (Nat → Int32) → (Nat → Nat → Int32) → Prop) (hC : CX p s m args meth c b_M_keep R_M TB 2 D vwCl (tyl cA) A (SPl sx) none) (hX29 : ∀ (I_M : (Nat → Int32)) (A_M : (Nat → Nat → Int32)), X29 I_M A_M → VV p l e ({ frames := 0, cells := 0, slots := 0, locals := 0 } : Room) s m args below meth c 2 D vwCl A 0 0 (QV below args s D vwCl (tyl cA) A (fun (u : (Nat → Int32) × (Nat → Nat → Int32)) => Q u.1 u.2) (fun u : (Nat → Int32) × (Nat → Nat → Int32) => kc_M cA a_M u.1 u.2)) (kc_M cA a_M I_M A_M) 56 [(0, .ref (a_M 0))] []) : ∀ (n29 : Nat) (I_M : (Nat → Int32)) (A_M : (Nat → Nat → Int32)) (v1 : Int32), wp_M_keep_L29 Q X29 n29 I_M A_M v1 → VV p l e ({ frames := 0, cells := 0, slots := 0, locals := 0 } : Room) s m args below meth c 2 D vwCl A 0 0 (QV below args s D vwCl (tyl cA) A (fun (u : (Nat → Int32) × (Nat → Nat → Int32)) => Q u.1 u.2) (fun u : (Nat → Int32) × (Nat → Nat → Int32) => kc_M cA a_M u.1 u.2)) (kc_M cA a_M I_M A_M) 29 [(0, .ref (a_M 0)), (1, .int v1)] [] := by
  intro n29
  induction n29 with
  | zero =>
    intro I_M A_M v1 hw
    exact absurd hw (fun z => z)
  | succ n29 ih =>
    intro I_M A_M v1 hw
    unfold wp_M_keep_L29 at hw
    refine vv_iload_n hC d_M_keep_29 1 rfl rfl ?_
    refine vv_bipush hC d_M_keep_30 (v := (6 : Int32)) (by decide) ?_
    refine vv_icmp_ge hC 56 d_M_keep_32 (by decide) (fun cd => ?_) (fun cd => ?_)
    · have hw := hw.1 cd
      exact vv_sub [0] (by rfl) (hX29 I_M A_M hw)
    · have hw := hw.2 cd
      refine vv_aload_n hC d_M_keep_35 0 rfl rfl ?_
      refine vv_get hC (v := .ref (a_M 4)) hin_M 0 11 tb_683 d_M_keep_36 rfl rfl (by decide) rfl rfl ?_
      refine vv_iload_n hC d_M_keep_39 1 rfl rfl ?_
      refine vv_aload_n hC d_M_keep_40 0 rfl rfl ?_
      refine vv_get hC (v := .ref (a_M 4)) hin_M 0 11 tb_683 d_M_keep_41 rfl rfl (by decide) rfl rfl ?_
      refine vv_bipush hC d_M_keep_44 (v := (6 : Int32)) (by decide) ?_
      refine vv_iload_n hC d_M_keep_46 1 rfl rfl ?_
      refine vv_iadd hC d_M_keep_47 ?_
      obtain ⟨hin_5, hw⟩ := hw
      refine vv_iald hC 4 0 d_M_keep_48 rfl rfl hin_5 ?_
      obtain ⟨hin_6, hw⟩ := hw
      refine vv_iast hC 4 0 d_M_keep_49 rfl rfl hin_6 (ws2 := kc_M cA a_M I_M (va_up A_M 3 (upd (A_M 3) (v1).toNatClampNeg ((A_M 3) (((6 : Int32) + v1)).toNatClampNeg)))) (st_M_MA3 ..) ?_
      refine vv_iinc hC d_M_keep_50 1 rfl (v := (v1 + (1 : Int32))) rfl (by decide) [1, 0] (L2 := [(0, .ref (a_M 0)), (1, .int (v1 + (1 : Int32)))]) rfl ?_
      refine vv_goto hC 29 d_M_keep_53 (by decide) ?_
      exact vv_sub [0, 1] (by rfl) (ih I_M (va_up A_M 3 (upd (A_M 3) (v1).toNatClampNeg ((A_M 3) (((6 : Int32) + v1)).toNatClampNeg))) (v1 + (1 : Int32)) hw)
set_option maxHeartbeats 4000000 in
set_option maxRecDepth 100000 in
theorem l_M_keep_L58 {p : Program} {l : Launch} {e : Env} {s : State} {m : MethodId} {args : Array Value} {below : List Frame} {meth : Method} {c : Code} {D : va_G} {cA : Nat → ClassId} {sx : Nat → Nat} {A : Nat → Prop} (a_M : Nat → Nat) (Q : (Nat → Int32) → (Nat → Nat → Int32) → Prop) (X58 : (Nat → Int32) → (Nat → Nat → Int32) → Prop) (hC : CX p s m args meth c b_M_keep R_M TB 2 D vwCl (tyl cA) A (SPl sx) none) (hX58 : ∀ (I_M : (Nat → Int32)) (A_M : (Nat → Nat → Int32)), X58 I_M A_M → VV p l e ({ frames := 0, cells := 0, slots := 0, locals := 0 } : Room) s m args below meth c 2 D vwCl A 0 0 (QV below args s D vwCl (tyl cA) A (fun (u : (Nat → Int32) × (Nat → Nat → Int32)) => Q u.1 u.2) (fun u : (Nat → Int32) × (Nat → Nat → Int32) => kc_M cA a_M u.1 u.2)) (kc_M cA a_M I_M A_M) 115 [(0, .ref (a_M 0))] []) : ∀ (n58 : Nat) (I_M : (Nat → Int32)) (A_M : (Nat → Nat → Int32)) (v1 : Int32), wp_M_keep_L58 Q X58 n58 I_M A_M v1 → VV p l e ({ frames := 0, cells := 0, slots := 0, locals := 0 } : Room) s m args below meth c 2 D vwCl A 0 0 (QV below args s D vwCl (tyl cA) A (fun (u : (Nat → Int32) × (Nat → Nat → Int32)) => Q u.1 u.2) (fun u : (Nat → Int32) × (Nat → Nat → Int32) => kc_M cA a_M u.1 u.2)) (kc_M cA a_M I_M A_M) 58 [(0, .ref (a_M 0)), (1, .int v1)] [] := by
  intro n58
  induction n58 with
  | zero =>
    intro I_M A_M v1 hw
    exact absurd hw (fun z => z)
  | succ n58 ih =>
    intro I_M A_M v1 hw
    unfold wp_M_keep_L58 at hw
    refine vv_iload_n hC d_M_keep_58 1 rfl rfl ?_
    refine vv_bipush hC d_M_keep_59 (v := (8 : Int32)) (by decide) ?_
    refine vv_icmp_ge hC 115 d_M_keep_61 (by decide) (fun cd => ?_) (fun cd => ?_)
    · have hw := hw.1 cd
      exact vv_sub [0] (by rfl) (hX58 I_M A_M hw)
    · have hw := hw.2 cd
      refine vv_aload_n hC d_M_keep_64 0 rfl rfl ?_
      refine vv_get hC (v := .ref (a_M 5)) hin_M 0 12 tb_684 d_M_keep_65 rfl rfl (by decide) rfl rfl ?_
      refine vv_iload_n hC d_M_keep_68 1 rfl rfl ?_
      refine vv_aload_n hC d_M_keep_69 0 rfl rfl ?_
      refine vv_get hC (v := .ref (a_M 5)) hin_M 0 12 tb_684 d_M_keep_70 rfl rfl (by decide) rfl rfl ?_
      refine vv_bipush hC d_M_keep_73 (v := (8 : Int32)) (by decide) ?_
      refine vv_iload_n hC d_M_keep_75 1 rfl rfl ?_
      refine vv_iadd hC d_M_keep_76 ?_
      obtain ⟨hin_9, hw⟩ := hw
      refine vv_iald hC 5 0 d_M_keep_77 rfl rfl hin_9 ?_
      obtain ⟨hin_10, hw⟩ := hw
      refine vv_iast hC 5 0 d_M_keep_78 rfl rfl hin_10 (ws2 := kc_M cA a_M I_M (va_up A_M 4 (upd (A_M 4) (v1).toNatClampNeg ((A_M 4) (((8 : Int32) + v1)).toNatClampNeg)))) (st_M_MA4 ..) ?_
      refine vv_aload_n hC d_M_keep_79 0 rfl rfl ?_
      refine vv_get hC (v := .ref (a_M 6)) hin_M 0 13 tb_685 d_M_keep_80 rfl rfl (by decide) rfl rfl ?_
      refine vv_iload_n hC d_M_keep_83 1 rfl rfl ?_
      refine vv_aload_n hC d_M_keep_84 0 rfl rfl ?_
      refine vv_get hC (v := .ref (a_M 6)) hin_M 0 13 tb_685 d_M_keep_85 rfl rfl (by decide) rfl rfl ?_
      refine vv_bipush hC d_M_keep_88 (v := (8 : Int32)) (by decide) ?_
      refine vv_iload_n hC d_M_keep_90 1 rfl rfl ?_
      refine vv_iadd hC d_M_keep_91 ?_
      refine vv_iald hC 6 0 d_M_keep_92 rfl rfl hin_9 ?_
      refine vv_iast hC 6 0 d_M_keep_93 rfl rfl hin_10 (ws2 := kc_M cA a_M I_M (va_up (va_up A_M 4 (upd (A_M 4) (v1).toNatClampNeg ((A_M 4) (((8 : Int32) + v1)).toNatClampNeg))) 5 (upd (A_M 5) (v1).toNatClampNeg ((A_M 5) (((8 : Int32) + v1)).toNatClampNeg)))) (st_M_MA5 ..) ?_
      refine vv_aload_n hC d_M_keep_94 0 rfl rfl ?_
      refine vv_get hC (v := .ref (a_M 7)) hin_M 0 14 tb_686 d_M_keep_95 rfl rfl (by decide) rfl rfl ?_
      refine vv_iload_n hC d_M_keep_98 1 rfl rfl ?_
      refine vv_aload_n hC d_M_keep_99 0 rfl rfl ?_
      refine vv_get hC (v := .ref (a_M 7)) hin_M 0 14 tb_686 d_M_keep_100 rfl rfl (by decide) rfl rfl ?_
      refine vv_bipush hC d_M_keep_103 (v := (8 : Int32)) (by decide) ?_
      refine vv_iload_n hC d_M_keep_105 1 rfl rfl ?_
      refine vv_iadd hC d_M_keep_106 ?_
      refine vv_iald hC 7 0 d_M_keep_107 rfl rfl hin_9 ?_
      refine vv_iast hC 7 0 d_M_keep_108 rfl rfl hin_10 (ws2 := kc_M cA a_M I_M (va_up (va_up (va_up A_M 4 (upd (A_M 4) (v1).toNatClampNeg ((A_M 4) (((8 : Int32) + v1)).toNatClampNeg))) 5 (upd (A_M 5) (v1).toNatClampNeg ((A_M 5) (((8 : Int32) + v1)).toNatClampNeg))) 6 (upd (A_M 6) (v1).toNatClampNeg ((A_M 6) (((8 : Int32) + v1)).toNatClampNeg)))) (st_M_MA6 ..) ?_
      refine vv_iinc hC d_M_keep_109 1 rfl (v := (v1 + (1 : Int32))) rfl (by decide) [1, 0] (L2 := [(0, .ref (a_M 0)), (1, .int (v1 + (1 : Int32)))]) rfl ?_
      refine vv_goto hC 58 d_M_keep_112 (by decide) ?_
      exact vv_sub [0, 1] (by rfl) (ih I_M (va_up (va_up (va_up A_M 4 (upd (A_M 4) (v1).toNatClampNeg ((A_M 4) (((8 : Int32) + v1)).toNatClampNeg))) 5 (upd (A_M 5) (v1).toNatClampNeg ((A_M 5) (((8 : Int32) + v1)).toNatClampNeg))) 6 (upd (A_M 6) (v1).toNatClampNeg ((A_M 6) (((8 : Int32) + v1)).toNatClampNeg))) (v1 + (1 : Int32)) hw)
set_option maxHeartbeats 4000000 in
set_option maxRecDepth 100000 in
theorem l_M_keep_L117 {p : Program} {l : Launch} {e : Env} {s : State} {m : MethodId} {args : Array Value} {below : List Frame} {meth : Method} {c : Code} {D : va_G} {cA : Nat → ClassId} {sx : Nat → Nat} {A : Nat → Prop} (a_M : Nat → Nat) (Q : (Nat → Int32) → (Nat → Nat → Int32) → Prop) (X117 : (Nat → Int32) → (Nat → Nat → Int32) → Prop) (hC : CX p s m args meth c b_M_keep R_M TB 2 D vwCl (tyl cA) A (SPl sx) none) (hX117 : ∀ (I_M : (Nat → Int32)) (A_M : (Nat → Nat → Int32)), X117 I_M A_M → VV p l e ({ frames := 0, cells := 0, slots := 0, locals := 0 } : Room) s m args below meth c 2 D vwCl A 0 0 (QV below args s D vwCl (tyl cA) A (fun (u : (Nat → Int32) × (Nat → Nat → Int32)) => Q u.1 u.2) (fun u : (Nat → Int32) × (Nat → Nat → Int32) => kc_M cA a_M u.1 u.2)) (kc_M cA a_M I_M A_M) 178 [(0, .ref (a_M 0))] []) : ∀ (n117 : Nat) (I_M : (Nat → Int32)) (A_M : (Nat → Nat → Int32)) (v1 : Int32), wp_M_keep_L117 Q X117 n117 I_M A_M v1 → VV p l e ({ frames := 0, cells := 0, slots := 0, locals := 0 } : Room) s m args below meth c 2 D vwCl A 0 0 (QV below args s D vwCl (tyl cA) A (fun (u : (Nat → Int32) × (Nat → Nat → Int32)) => Q u.1 u.2) (fun u : (Nat → Int32) × (Nat → Nat → Int32) => kc_M cA a_M u.1 u.2)) (kc_M cA a_M I_M A_M) 117 [(0, .ref (a_M 0)), (1, .int v1)] [] := by
  intro n117
  induction n117 with
  | zero =>
    intro I_M A_M v1 hw
    exact absurd hw (fun z => z)
  | succ n117 ih =>
    intro I_M A_M v1 hw
    unfold wp_M_keep_L117 at hw
    refine vv_iload_n hC d_M_keep_117 1 rfl rfl ?_
    refine vv_sipush hC d_M_keep_118 (v := (300 : Int32)) (by decide) ?_
    refine vv_icmp_ge hC 178 d_M_keep_121 (by decide) (fun cd => ?_) (fun cd => ?_)
    · have hw := hw.1 cd
      exact vv_sub [0] (by rfl) (hX117 I_M A_M hw)
    · have hw := hw.2 cd
      refine vv_aload_n hC d_M_keep_124 0 rfl rfl ?_
      refine vv_get hC (v := .ref (a_M 8)) hin_M 0 15 tb_687 d_M_keep_125 rfl rfl (by decide) rfl rfl ?_
      refine vv_iload_n hC d_M_keep_128 1 rfl rfl ?_
      refine vv_aload_n hC d_M_keep_129 0 rfl rfl ?_
      refine vv_get hC (v := .ref (a_M 8)) hin_M 0 15 tb_687 d_M_keep_130 rfl rfl (by decide) rfl rfl ?_
      refine vv_sipush hC d_M_keep_133 (v := (300 : Int32)) (by decide) ?_
      refine vv_iload_n hC d_M_keep_136 1 rfl rfl ?_
      refine vv_iadd hC d_M_keep_137 ?_
      obtain ⟨hin_13, hw⟩ := hw
      refine vv_iald hC 8 0 d_M_keep_138 rfl rfl hin_13 ?_
      obtain ⟨hin_14, hw⟩ := hw
      refine vv_iast hC 8 0 d_M_keep_139 rfl rfl hin_14 (ws2 := kc_M cA a_M I_M (va_up A_M 7 (upd (A_M 7) (v1).toNatClampNeg ((A_M 7) (((300 : Int32) + v1)).toNatClampNeg)))) (st_M_MA7 ..) ?_
      refine vv_aload_n hC d_M_keep_140 0 rfl rfl ?_
      refine vv_get hC (v := .ref (a_M 9)) hin_M 0 16 tb_688 d_M_keep_141 rfl rfl (by decide) rfl rfl ?_
      refine vv_iload_n hC d_M_keep_144 1 rfl rfl ?_
      refine vv_aload_n hC d_M_keep_145 0 rfl rfl ?_
      refine vv_get hC (v := .ref (a_M 9)) hin_M 0 16 tb_688 d_M_keep_146 rfl rfl (by decide) rfl rfl ?_
      refine vv_sipush hC d_M_keep_149 (v := (300 : Int32)) (by decide) ?_
      refine vv_iload_n hC d_M_keep_152 1 rfl rfl ?_
      refine vv_iadd hC d_M_keep_153 ?_
      refine vv_iald hC 9 0 d_M_keep_154 rfl rfl hin_13 ?_
      refine vv_iast hC 9 0 d_M_keep_155 rfl rfl hin_14 (ws2 := kc_M cA a_M I_M (va_up (va_up A_M 7 (upd (A_M 7) (v1).toNatClampNeg ((A_M 7) (((300 : Int32) + v1)).toNatClampNeg))) 8 (upd (A_M 8) (v1).toNatClampNeg ((A_M 8) (((300 : Int32) + v1)).toNatClampNeg)))) (st_M_MA8 ..) ?_
      refine vv_aload_n hC d_M_keep_156 0 rfl rfl ?_
      refine vv_get hC (v := .ref (a_M 10)) hin_M 0 17 tb_689 d_M_keep_157 rfl rfl (by decide) rfl rfl ?_
      refine vv_iload_n hC d_M_keep_160 1 rfl rfl ?_
      refine vv_aload_n hC d_M_keep_161 0 rfl rfl ?_
      refine vv_get hC (v := .ref (a_M 10)) hin_M 0 17 tb_689 d_M_keep_162 rfl rfl (by decide) rfl rfl ?_
      refine vv_sipush hC d_M_keep_165 (v := (300 : Int32)) (by decide) ?_
      refine vv_iload_n hC d_M_keep_168 1 rfl rfl ?_
      refine vv_iadd hC d_M_keep_169 ?_
      refine vv_iald hC 10 0 d_M_keep_170 rfl rfl hin_13 ?_
      refine vv_iast hC 10 0 d_M_keep_171 rfl rfl hin_14 (ws2 := kc_M cA a_M I_M (va_up (va_up (va_up A_M 7 (upd (A_M 7) (v1).toNatClampNeg ((A_M 7) (((300 : Int32) + v1)).toNatClampNeg))) 8 (upd (A_M 8) (v1).toNatClampNeg ((A_M 8) (((300 : Int32) + v1)).toNatClampNeg))) 9 (upd (A_M 9) (v1).toNatClampNeg ((A_M 9) (((300 : Int32) + v1)).toNatClampNeg)))) (st_M_MA9 ..) ?_
      refine vv_iinc hC d_M_keep_172 1 rfl (v := (v1 + (1 : Int32))) rfl (by decide) [1, 0] (L2 := [(0, .ref (a_M 0)), (1, .int (v1 + (1 : Int32)))]) rfl ?_
      refine vv_goto hC 117 d_M_keep_175 (by decide) ?_
      exact vv_sub [0, 1] (by rfl) (ih I_M (va_up (va_up (va_up A_M 7 (upd (A_M 7) (v1).toNatClampNeg ((A_M 7) (((300 : Int32) + v1)).toNatClampNeg))) 8 (upd (A_M 8) (v1).toNatClampNeg ((A_M 8) (((300 : Int32) + v1)).toNatClampNeg))) 9 (upd (A_M 9) (v1).toNatClampNeg ((A_M 9) (((300 : Int32) + v1)).toNatClampNeg))) (v1 + (1 : Int32)) hw)
set_option maxHeartbeats 4000000 in
set_option maxRecDepth 100000 in
theorem l_M_keep_L180 {p : Program} {l : Launch} {e : Env} {s : State} {m : MethodId} {args : Array Value} {below : List Frame} {meth : Method} {c : Code} {D : va_G} {cA : Nat → ClassId} {sx : Nat → Nat} {A : Nat → Prop} (a_M : Nat → Nat) (Q : (Nat → Int32) → (Nat → Nat → Int32) → Prop) (X180 : (Nat → Int32) → (Nat → Nat → Int32) → Prop) (hC : CX p s m args meth c b_M_keep R_M TB 2 D vwCl (tyl cA) A (SPl sx) none) (hX180 : ∀ (I_M : (Nat → Int32)) (A_M : (Nat → Nat → Int32)), X180 I_M A_M → VV p l e ({ frames := 0, cells := 0, slots := 0, locals := 0 } : Room) s m args below meth c 2 D vwCl A 0 0 (QV below args s D vwCl (tyl cA) A (fun (u : (Nat → Int32) × (Nat → Nat → Int32)) => Q u.1 u.2) (fun u : (Nat → Int32) × (Nat → Nat → Int32) => kc_M cA a_M u.1 u.2)) (kc_M cA a_M I_M A_M) 225 [(0, .ref (a_M 0))] []) : ∀ (n180 : Nat) (I_M : (Nat → Int32)) (A_M : (Nat → Nat → Int32)) (v1 : Int32), wp_M_keep_L180 Q X180 n180 I_M A_M v1 → VV p l e ({ frames := 0, cells := 0, slots := 0, locals := 0 } : Room) s m args below meth c 2 D vwCl A 0 0 (QV below args s D vwCl (tyl cA) A (fun (u : (Nat → Int32) × (Nat → Nat → Int32)) => Q u.1 u.2) (fun u : (Nat → Int32) × (Nat → Nat → Int32) => kc_M cA a_M u.1 u.2)) (kc_M cA a_M I_M A_M) 180 [(0, .ref (a_M 0)), (1, .int v1)] [] := by
  intro n180
  induction n180 with
  | zero =>
    intro I_M A_M v1 hw
    exact absurd hw (fun z => z)
  | succ n180 ih =>
    intro I_M A_M v1 hw
    unfold wp_M_keep_L180 at hw
    refine vv_iload_n hC d_M_keep_180 1 rfl rfl ?_
    refine vv_sipush hC d_M_keep_181 (v := (401 : Int32)) (by decide) ?_
    refine vv_icmp_ge hC 225 d_M_keep_184 (by decide) (fun cd => ?_) (fun cd => ?_)
    · have hw := hw.1 cd
      exact vv_sub [0] (by rfl) (hX180 I_M A_M hw)
    · have hw := hw.2 cd
      refine vv_aload_n hC d_M_keep_187 0 rfl rfl ?_
      refine vv_get hC (v := .ref (a_M 11)) hin_M 0 18 tb_690 d_M_keep_188 rfl rfl (by decide) rfl rfl ?_
      refine vv_iload_n hC d_M_keep_191 1 rfl rfl ?_
      refine vv_aload_n hC d_M_keep_192 0 rfl rfl ?_
      refine vv_get hC (v := .ref (a_M 11)) hin_M 0 18 tb_690 d_M_keep_193 rfl rfl (by decide) rfl rfl ?_
      refine vv_sipush hC d_M_keep_196 (v := (401 : Int32)) (by decide) ?_
      refine vv_iload_n hC d_M_keep_199 1 rfl rfl ?_
      refine vv_iadd hC d_M_keep_200 ?_
      obtain ⟨hin_17, hw⟩ := hw
      refine vv_iald hC 11 0 d_M_keep_201 rfl rfl hin_17 ?_
      obtain ⟨hin_18, hw⟩ := hw
      refine vv_iast hC 11 0 d_M_keep_202 rfl rfl hin_18 (ws2 := kc_M cA a_M I_M (va_up A_M 10 (upd (A_M 10) (v1).toNatClampNeg ((A_M 10) (((401 : Int32) + v1)).toNatClampNeg)))) (st_M_MA10 ..) ?_
      refine vv_aload_n hC d_M_keep_203 0 rfl rfl ?_
      refine vv_get hC (v := .ref (a_M 12)) hin_M 0 19 tb_691 d_M_keep_204 rfl rfl (by decide) rfl rfl ?_
      refine vv_iload_n hC d_M_keep_207 1 rfl rfl ?_
      refine vv_aload_n hC d_M_keep_208 0 rfl rfl ?_
      refine vv_get hC (v := .ref (a_M 12)) hin_M 0 19 tb_691 d_M_keep_209 rfl rfl (by decide) rfl rfl ?_
      refine vv_sipush hC d_M_keep_212 (v := (401 : Int32)) (by decide) ?_
      refine vv_iload_n hC d_M_keep_215 1 rfl rfl ?_
      refine vv_iadd hC d_M_keep_216 ?_
      refine vv_iald hC 12 0 d_M_keep_217 rfl rfl hin_17 ?_
      refine vv_iast hC 12 0 d_M_keep_218 rfl rfl hin_18 (ws2 := kc_M cA a_M I_M (va_up (va_up A_M 10 (upd (A_M 10) (v1).toNatClampNeg ((A_M 10) (((401 : Int32) + v1)).toNatClampNeg))) 11 (upd (A_M 11) (v1).toNatClampNeg ((A_M 11) (((401 : Int32) + v1)).toNatClampNeg)))) (st_M_MA11 ..) ?_
      refine vv_iinc hC d_M_keep_219 1 rfl (v := (v1 + (1 : Int32))) rfl (by decide) [1, 0] (L2 := [(0, .ref (a_M 0)), (1, .int (v1 + (1 : Int32)))]) rfl ?_
      refine vv_goto hC 180 d_M_keep_222 (by decide) ?_
      exact vv_sub [0, 1] (by rfl) (ih I_M (va_up (va_up A_M 10 (upd (A_M 10) (v1).toNatClampNeg ((A_M 10) (((401 : Int32) + v1)).toNatClampNeg))) 11 (upd (A_M 11) (v1).toNatClampNeg ((A_M 11) (((401 : Int32) + v1)).toNatClampNeg))) (v1 + (1 : Int32)) hw)
set_option maxHeartbeats 4000000 in
set_option maxRecDepth 100000 in
theorem l_M_keep_L227 {p : Program} {l : Launch} {e : Env} {s : State} {m : MethodId} {args : Array Value} {below : List Frame} {meth : Method} {c : Code} {D : va_G} {cA : Nat → ClassId} {sx : Nat → Nat} {A : Nat → Prop} (a_M : Nat → Nat) (Q : (Nat → Int32) → (Nat → Nat → Int32) → Prop) (X227 : (Nat → Int32) → (Nat → Nat → Int32) → Prop) (hC : CX p s m args meth c b_M_keep R_M TB 2 D vwCl (tyl cA) A (SPl sx) none) (hX227 : ∀ (I_M : (Nat → Int32)) (A_M : (Nat → Nat → Int32)), X227 I_M A_M → VV p l e ({ frames := 0, cells := 0, slots := 0, locals := 0 } : Room) s m args below meth c 2 D vwCl A 0 0 (QV below args s D vwCl (tyl cA) A (fun (u : (Nat → Int32) × (Nat → Nat → Int32)) => Q u.1 u.2) (fun u : (Nat → Int32) × (Nat → Nat → Int32) => kc_M cA a_M u.1 u.2)) (kc_M cA a_M I_M A_M) 254 [(0, .ref (a_M 0))] []) : ∀ (n227 : Nat) (I_M : (Nat → Int32)) (A_M : (Nat → Nat → Int32)) (v1 : Int32), wp_M_keep_L227 Q X227 n227 I_M A_M v1 → VV p l e ({ frames := 0, cells := 0, slots := 0, locals := 0 } : Room) s m args below meth c 2 D vwCl A 0 0 (QV below args s D vwCl (tyl cA) A (fun (u : (Nat → Int32) × (Nat → Nat → Int32)) => Q u.1 u.2) (fun u : (Nat → Int32) × (Nat → Nat → Int32) => kc_M cA a_M u.1 u.2)) (kc_M cA a_M I_M A_M) 227 [(0, .ref (a_M 0)), (1, .int v1)] [] := by
  intro n227
  induction n227 with
  | zero =>
    intro I_M A_M v1 hw
    exact absurd hw (fun z => z)
  | succ n227 ih =>
    intro I_M A_M v1 hw
    unfold wp_M_keep_L227 at hw
    refine vv_iload_n hC d_M_keep_227 1 rfl rfl ?_
    refine vv_bipush hC d_M_keep_228 (v := (22 : Int32)) (by decide) ?_
    refine vv_icmp_ge hC 254 d_M_keep_230 (by decide) (fun cd => ?_) (fun cd => ?_)
    · have hw := hw.1 cd
      exact vv_sub [0] (by rfl) (hX227 I_M A_M hw)
    · have hw := hw.2 cd
      refine vv_aload_n hC d_M_keep_233 0 rfl rfl ?_
      refine vv_get hC (v := .ref (a_M 18)) hin_M 0 25 tb_697 d_M_keep_234 rfl rfl (by decide) rfl rfl ?_
      refine vv_iload_n hC d_M_keep_237 1 rfl rfl ?_
      refine vv_aload_n hC d_M_keep_238 0 rfl rfl ?_
      refine vv_get hC (v := .ref (a_M 18)) hin_M 0 25 tb_697 d_M_keep_239 rfl rfl (by decide) rfl rfl ?_
      refine vv_bipush hC d_M_keep_242 (v := (22 : Int32)) (by decide) ?_
      refine vv_iload_n hC d_M_keep_244 1 rfl rfl ?_
      refine vv_iadd hC d_M_keep_245 ?_
      obtain ⟨hin_21, hw⟩ := hw
      refine vv_iald hC 18 0 d_M_keep_246 rfl rfl hin_21 ?_
      obtain ⟨hin_22, hw⟩ := hw
      refine vv_iast hC 18 0 d_M_keep_247 rfl rfl hin_22 (ws2 := kc_M cA a_M I_M (va_up A_M 17 (upd (A_M 17) (v1).toNatClampNeg ((A_M 17) (((22 : Int32) + v1)).toNatClampNeg)))) (st_M_MA17 ..) ?_
      refine vv_iinc hC d_M_keep_248 1 rfl (v := (v1 + (1 : Int32))) rfl (by decide) [1, 0] (L2 := [(0, .ref (a_M 0)), (1, .int (v1 + (1 : Int32)))]) rfl ?_
      refine vv_goto hC 227 d_M_keep_251 (by decide) ?_
      exact vv_sub [0, 1] (by rfl) (ih I_M (va_up A_M 17 (upd (A_M 17) (v1).toNatClampNeg ((A_M 17) (((22 : Int32) + v1)).toNatClampNeg))) (v1 + (1 : Int32)) hw)
set_option maxHeartbeats 4000000 in
set_option maxRecDepth 100000 in
theorem l_M_keep_L256 {p : Program} {l : Launch} {e : Env} {s : State} {m : MethodId} {args : Array Value} {below : List Frame} {meth : Method} {c : Code} {D : va_G} {cA : Nat → ClassId} {sx : Nat → Nat} {A : Nat → Prop} (a_M : Nat → Nat) (Q : (Nat → Int32) → (Nat → Nat → Int32) → Prop) (X256 : (Nat → Int32) → (Nat → Nat → Int32) → Prop) (hC : CX p s m args meth c b_M_keep R_M TB 2 D vwCl (tyl cA) A (SPl sx) none) (hX256 : ∀ (I_M : (Nat → Int32)) (A_M : (Nat → Nat → Int32)), X256 I_M A_M → VV p l e ({ frames := 0, cells := 0, slots := 0, locals := 0 } : Room) s m args below meth c 2 D vwCl A 0 0 (QV below args s D vwCl (tyl cA) A (fun (u : (Nat → Int32) × (Nat → Nat → Int32)) => Q u.1 u.2) (fun u : (Nat → Int32) × (Nat → Nat → Int32) => kc_M cA a_M u.1 u.2)) (kc_M cA a_M I_M A_M) 285 [(0, .ref (a_M 0))] []) : ∀ (n256 : Nat) (I_M : (Nat → Int32)) (A_M : (Nat → Nat → Int32)) (v1 : Int32), wp_M_keep_L256 Q X256 n256 I_M A_M v1 → VV p l e ({ frames := 0, cells := 0, slots := 0, locals := 0 } : Room) s m args below meth c 2 D vwCl A 0 0 (QV below args s D vwCl (tyl cA) A (fun (u : (Nat → Int32) × (Nat → Nat → Int32)) => Q u.1 u.2) (fun u : (Nat → Int32) × (Nat → Nat → Int32) => kc_M cA a_M u.1 u.2)) (kc_M cA a_M I_M A_M) 256 [(0, .ref (a_M 0)), (1, .int v1)] [] := by
  intro n256
  induction n256 with
  | zero =>
    intro I_M A_M v1 hw
    exact absurd hw (fun z => z)
  | succ n256 ih =>
    intro I_M A_M v1 hw
    unfold wp_M_keep_L256 at hw
    refine vv_iload_n hC d_M_keep_256 1 rfl rfl ?_
    refine vv_sipush hC d_M_keep_257 (v := (880 : Int32)) (by decide) ?_
    refine vv_icmp_ge hC 285 d_M_keep_260 (by decide) (fun cd => ?_) (fun cd => ?_)
    · have hw := hw.1 cd
      exact vv_sub [0] (by rfl) (hX256 I_M A_M hw)
    · have hw := hw.2 cd
      refine vv_aload_n hC d_M_keep_263 0 rfl rfl ?_
      refine vv_get hC (v := .ref (a_M 17)) hin_M 0 24 tb_696 d_M_keep_264 rfl rfl (by decide) rfl rfl ?_
      refine vv_iload_n hC d_M_keep_267 1 rfl rfl ?_
      refine vv_aload_n hC d_M_keep_268 0 rfl rfl ?_
      refine vv_get hC (v := .ref (a_M 17)) hin_M 0 24 tb_696 d_M_keep_269 rfl rfl (by decide) rfl rfl ?_
      refine vv_sipush hC d_M_keep_272 (v := (880 : Int32)) (by decide) ?_
      refine vv_iload_n hC d_M_keep_275 1 rfl rfl ?_
      refine vv_iadd hC d_M_keep_276 ?_
      obtain ⟨hin_25, hw⟩ := hw
      refine vv_bald hC 17 2 d_M_keep_277 rfl rfl hin_25 ?_
      obtain ⟨hin_26, hw⟩ := hw
      refine vv_bast hC 17 2 d_M_keep_278 rfl rfl hin_26 (ws2 := kc_M cA a_M I_M (va_up A_M 16 (upd (A_M 16) (v1).toNatClampNeg (vp_nar .byte ((A_M 16) (((880 : Int32) + v1)).toNatClampNeg))))) (st_M_MA16 ..) ?_
      refine vv_iinc hC d_M_keep_279 1 rfl (v := (v1 + (1 : Int32))) rfl (by decide) [1, 0] (L2 := [(0, .ref (a_M 0)), (1, .int (v1 + (1 : Int32)))]) rfl ?_
      refine vv_goto hC 256 d_M_keep_282 (by decide) ?_
      exact vv_sub [0, 1] (by rfl) (ih I_M (va_up A_M 16 (upd (A_M 16) (v1).toNatClampNeg (vp_nar .byte ((A_M 16) (((880 : Int32) + v1)).toNatClampNeg)))) (v1 + (1 : Int32)) hw)
set_option maxHeartbeats 4000000 in
set_option maxRecDepth 100000 in
theorem c_M_keep (l : Launch) (D : va_G) (cA : Nat → ClassId) (sx : Nat → Nat) (a_M : Nat → Nat) (I_M : (Nat → Int32)) (A_M : (Nat → Nat → Int32)) (Q : (Nat → Int32) → (Nat → Nat → Int32) → Prop) (hw : wp_M_keep I_M A_M Q) : MetV l y_M_keep (Cond.code y_M_keep b_M_keep 2 none :: TB) ({ frames := 0, cells := 0, slots := 0, locals := 0 } : Room) D vwCl (tyl cA) (SPl sx) [.ref (a_M 0)] (kc_M cA a_M I_M A_M) (fun (u : (Nat → Int32) × (Nat → Nat → Int32)) => Q u.1 u.2) (fun u : (Nat → Int32) × (Nat → Nat → Int32) => kc_M cA a_M u.1 u.2) := by
  refine vv_entryV (cc := b_M_keep) (own := R_M) (L := [(0, .ref (a_M 0))]) (by decide) rfl rfl (Nat.le_of_ble_eq_true rfl) rfl (fun p e s m args below meth c A hC => ?_)
  unfold wp_M_keep at hw
  refine vv_iconst hC d_M_keep_0 (v := (0 : Int32)) (by decide) ?_
  refine vv_istore_n hC d_M_keep_1 rfl (by decide) [1, 0] (L2 := [(0, .ref (a_M 0)), (1, .int (0 : Int32))]) rfl ?_
  obtain ⟨m2, hw⟩ := hw
  refine vv_sub [0, 1] (by rfl) (l_M_keep_L2 a_M Q _ hC (fun I_M_3 A_M_4 hw => ?_) m2 I_M A_M (0 : Int32) hw)
  refine vv_iconst hC d_M_keep_27 (v := (0 : Int32)) (by decide) ?_
  refine vv_istore_n hC d_M_keep_28 rfl (by decide) [1, 0] (L2 := [(0, .ref (a_M 0)), (1, .int (0 : Int32))]) rfl ?_
  obtain ⟨m29, hw⟩ := hw
  refine vv_sub [0, 1] (by rfl) (l_M_keep_L29 a_M Q _ hC (fun I_M_7 A_M_8 hw => ?_) m29 I_M_3 A_M_4 (0 : Int32) hw)
  refine vv_iconst hC d_M_keep_56 (v := (0 : Int32)) (by decide) ?_
  refine vv_istore_n hC d_M_keep_57 rfl (by decide) [1, 0] (L2 := [(0, .ref (a_M 0)), (1, .int (0 : Int32))]) rfl ?_
  obtain ⟨m58, hw⟩ := hw
  refine vv_sub [0, 1] (by rfl) (l_M_keep_L58 a_M Q _ hC (fun I_M_11 A_M_12 hw => ?_) m58 I_M_7 A_M_8 (0 : Int32) hw)
  refine vv_iconst hC d_M_keep_115 (v := (0 : Int32)) (by decide) ?_
  refine vv_istore_n hC d_M_keep_116 rfl (by decide) [1, 0] (L2 := [(0, .ref (a_M 0)), (1, .int (0 : Int32))]) rfl ?_
  obtain ⟨m117, hw⟩ := hw
  refine vv_sub [0, 1] (by rfl) (l_M_keep_L117 a_M Q _ hC (fun I_M_15 A_M_16 hw => ?_) m117 I_M_11 A_M_12 (0 : Int32) hw)
  refine vv_iconst hC d_M_keep_178 (v := (0 : Int32)) (by decide) ?_
  refine vv_istore_n hC d_M_keep_179 rfl (by decide) [1, 0] (L2 := [(0, .ref (a_M 0)), (1, .int (0 : Int32))]) rfl ?_
  obtain ⟨m180, hw⟩ := hw
  refine vv_sub [0, 1] (by rfl) (l_M_keep_L180 a_M Q _ hC (fun I_M_19 A_M_20 hw => ?_) m180 I_M_15 A_M_16 (0 : Int32) hw)
  refine vv_iconst hC d_M_keep_225 (v := (0 : Int32)) (by decide) ?_
  refine vv_istore_n hC d_M_keep_226 rfl (by decide) [1, 0] (L2 := [(0, .ref (a_M 0)), (1, .int (0 : Int32))]) rfl ?_
  obtain ⟨m227, hw⟩ := hw
  refine vv_sub [0, 1] (by rfl) (l_M_keep_L227 a_M Q _ hC (fun I_M_23 A_M_24 hw => ?_) m227 I_M_19 A_M_20 (0 : Int32) hw)
  refine vv_iconst hC d_M_keep_254 (v := (0 : Int32)) (by decide) ?_
  refine vv_istore_n hC d_M_keep_255 rfl (by decide) [1, 0] (L2 := [(0, .ref (a_M 0)), (1, .int (0 : Int32))]) rfl ?_
  obtain ⟨m256, hw⟩ := hw
  refine vv_sub [0, 1] (by rfl) (l_M_keep_L256 a_M Q _ hC (fun I_M_27 A_M_28 hw => ?_) m256 I_M_23 A_M_24 (0 : Int32) hw)
  refine vv_aload_n hC d_M_keep_285 0 rfl rfl ?_
  refine vv_iconst hC d_M_keep_286 (v := (0 : Int32)) (by decide) ?_
  refine vv_put hC hin_M ty_M tyok_M nmok_M 0 30 tb_702 d_M_keep_287 rfl rfl (by decide) rfl rfl rfl rfl rfl (Nat.le_of_ble_eq_true rfl) (ws2 := kc_M cA a_M (va_up I_M_27 9 (0 : Int32)) A_M_28) (st_M_MI9 ..) ?_
  exact vv_vret hC d_M_keep_290 ((va_up I_M_27 9 (0 : Int32)), A_M_28) hw rfl
set_option maxHeartbeats 4000000 in
set_option maxRecDepth 100000 in
theorem l_M_load_L17 {p : Program} {l : Launch} {e : Env} {s : State} {m : MethodId} {args : Array Value} {below : List Frame} {meth : Method} {c : Code} {D : va_G} {cA : Nat → ClassId} {sx : Nat → Nat} {A : Nat → Prop} (a_M : Nat → Nat) (Q : Int32 → (Nat → Int32) → (Nat → Nat → Int32) → Prop) (X17 : (Nat → Int32) → (Nat → Nat → Int32) → Prop) (hC : CX p s m args meth c b_M_load R_M TB 2 D vwCl (tyl cA) A (SPl sx) (some .int)) (hX17 : ∀ (I_M : (Nat → Int32)) (A_M : (Nat → Nat → Int32)), X17 I_M A_M → VV p l e ({ frames := 6, cells := 0, slots := 0, locals := 127 } : Room) s m args below meth c 2 D vwCl A 0 0 (QI below args s D vwCl (tyl cA) A (fun (r : Int32) (u : (Nat → Int32) × (Nat → Nat → Int32)) => Q r u.1 u.2) (fun u : (Nat → Int32) × (Nat → Nat → Int32) => kc_M cA a_M u.1 u.2)) (kc_M cA a_M I_M A_M) 41 [(0, .ref (a_M 0))] []) : ∀ (n17 : Nat) (I_M : (Nat → Int32)) (A_M : (Nat → Nat → Int32)) (v1 : Int32), wp_M_load_L17 Q X17 n17 I_M A_M v1 → VV p l e ({ frames := 6, cells := 0, slots := 0, locals := 127 } : Room) s m args below meth c 2 D vwCl A 0 0 (QI below args s D vwCl (tyl cA) A (fun (r : Int32) (u : (Nat → Int32) × (Nat → Nat → Int32)) => Q r u.1 u.2) (fun u : (Nat → Int32) × (Nat → Nat → Int32) => kc_M cA a_M u.1 u.2)) (kc_M cA a_M I_M A_M) 17 [(0, .ref (a_M 0)), (1, .int v1)] [] := by
  intro n17
  induction n17 with
  | zero =>
    intro I_M A_M v1 hw
    exact absurd hw (fun z => z)
  | succ n17 ih =>
    intro I_M A_M v1 hw
    unfold wp_M_load_L17 at hw
    refine vv_iload_n hC d_M_load_17 1 rfl rfl ?_
    refine vv_sipush hC d_M_load_18 (v := (401 : Int32)) (by decide) ?_
    refine vv_icmp_ge hC 41 d_M_load_21 (by decide) (fun cd => ?_) (fun cd => ?_)
    · have hw := hw.1 cd
      exact vv_sub [0] (by rfl) (hX17 I_M A_M hw)
    · have hw := hw.2 cd
      refine vv_aload_n hC d_M_load_24 0 rfl rfl ?_
      refine vv_get hC (v := .ref (a_M 11)) hin_M 0 18 tb_690 d_M_load_25 rfl rfl (by decide) rfl rfl ?_
      refine vv_sipush hC d_M_load_28 (v := (401 : Int32)) (by decide) ?_
      refine vv_iload_n hC d_M_load_31 1 rfl rfl ?_
      refine vv_iadd hC d_M_load_32 ?_
      refine vv_iconst hC d_M_load_33 (v := (0 : Int32)) (by decide) ?_
      obtain ⟨hin_1, hw⟩ := hw
      refine vv_iast hC 11 0 d_M_load_34 rfl rfl hin_1 (ws2 := kc_M cA a_M I_M (va_up A_M 10 (upd (A_M 10) (((401 : Int32) + v1)).toNatClampNeg (0 : Int32)))) (st_M_MA10 ..) ?_
      refine vv_iinc hC d_M_load_35 1 rfl (v := (v1 + (1 : Int32))) rfl (by decide) [1, 0] (L2 := [(0, .ref (a_M 0)), (1, .int (v1 + (1 : Int32)))]) rfl ?_
      refine vv_goto hC 17 d_M_load_38 (by decide) ?_
      exact vv_sub [0, 1] (by rfl) (ih I_M (va_up A_M 10 (upd (A_M 10) (((401 : Int32) + v1)).toNatClampNeg (0 : Int32))) (v1 + (1 : Int32)) hw)
set_option maxHeartbeats 4000000 in
set_option maxRecDepth 100000 in
theorem l_M_load_L44 {p : Program} {l : Launch} {e : Env} {s : State} {m : MethodId} {args : Array Value} {below : List Frame} {meth : Method} {c : Code} {D : va_G} {cA : Nat → ClassId} {sx : Nat → Nat} {A : Nat → Prop} (a_M : Nat → Nat) (Q : Int32 → (Nat → Int32) → (Nat → Nat → Int32) → Prop) (X44 : (Nat → Int32) → (Nat → Nat → Int32) → Prop) (hC : CX p s m args meth c b_M_load R_M TB 2 D vwCl (tyl cA) A (SPl sx) (some .int)) (hX44 : ∀ (I_M : (Nat → Int32)) (A_M : (Nat → Nat → Int32)), X44 I_M A_M → VV p l e ({ frames := 6, cells := 0, slots := 0, locals := 127 } : Room) s m args below meth c 2 D vwCl A 0 0 (QI below args s D vwCl (tyl cA) A (fun (r : Int32) (u : (Nat → Int32) × (Nat → Nat → Int32)) => Q r u.1 u.2) (fun u : (Nat → Int32) × (Nat → Nat → Int32) => kc_M cA a_M u.1 u.2)) (kc_M cA a_M I_M A_M) 63 [(0, .ref (a_M 0))] []) : ∀ (n44 : Nat) (I_M : (Nat → Int32)) (A_M : (Nat → Nat → Int32)) (v1 : Int32), wp_M_load_L44 Q X44 n44 I_M A_M v1 → VV p l e ({ frames := 6, cells := 0, slots := 0, locals := 127 } : Room) s m args below meth c 2 D vwCl A 0 0 (QI below args s D vwCl (tyl cA) A (fun (r : Int32) (u : (Nat → Int32) × (Nat → Nat → Int32)) => Q r u.1 u.2) (fun u : (Nat → Int32) × (Nat → Nat → Int32) => kc_M cA a_M u.1 u.2)) (kc_M cA a_M I_M A_M) 44 [(0, .ref (a_M 0)), (1, .int v1)] [] := by
  intro n44
  induction n44 with
  | zero =>
    intro I_M A_M v1 hw
    exact absurd hw (fun z => z)
  | succ n44 ih =>
    intro I_M A_M v1 hw
    unfold wp_M_load_L44 at hw
    refine vv_iload_n hC d_M_load_44 1 rfl rfl ?_
    refine vv_bipush hC d_M_load_45 (v := (44 : Int32)) (by decide) ?_
    refine vv_icmp_ge hC 63 d_M_load_47 (by decide) (fun cd => ?_) (fun cd => ?_)
    · have hw := hw.1 cd
      exact vv_sub [0] (by rfl) (hX44 I_M A_M hw)
    · have hw := hw.2 cd
      refine vv_aload_n hC d_M_load_50 0 rfl rfl ?_
      refine vv_get hC (v := .ref (a_M 18)) hin_M 0 25 tb_697 d_M_load_51 rfl rfl (by decide) rfl rfl ?_
      refine vv_iload_n hC d_M_load_54 1 rfl rfl ?_
      refine vv_iconst hC d_M_load_55 (v := (0 : Int32)) (by decide) ?_
      obtain ⟨hin_4, hw⟩ := hw
      refine vv_iast hC 18 0 d_M_load_56 rfl rfl hin_4 (ws2 := kc_M cA a_M I_M (va_up A_M 17 (upd (A_M 17) (v1).toNatClampNeg (0 : Int32)))) (st_M_MA17 ..) ?_
      refine vv_iinc hC d_M_load_57 1 rfl (v := (v1 + (1 : Int32))) rfl (by decide) [1, 0] (L2 := [(0, .ref (a_M 0)), (1, .int (v1 + (1 : Int32)))]) rfl ?_
      refine vv_goto hC 44 d_M_load_60 (by decide) ?_
      exact vv_sub [0, 1] (by rfl) (ih I_M (va_up A_M 17 (upd (A_M 17) (v1).toNatClampNeg (0 : Int32))) (v1 + (1 : Int32)) hw)
set_option maxHeartbeats 4000000 in
set_option maxRecDepth 100000 in
theorem l_M_load_b167 {p : Program} {l : Launch} {e : Env} {s : State} {m : MethodId} {args : Array Value} {below : List Frame} {meth : Method} {c : Code} {D : va_G} {cA : Nat → ClassId} {sx : Nat → Nat} {A : Nat → Prop} (a_M : Nat → Nat) (Q : Int32 → (Nat → Int32) → (Nat → Nat → Int32) → Prop) (hC : CX p s m args meth c b_M_load R_M TB 2 D vwCl (tyl cA) A (SPl sx) (some .int)) : ∀ (I_M : (Nat → Int32)) (A_M : (Nat → Nat → Int32)), wp_M_load_b167 Q I_M A_M → VV p l e ({ frames := 6, cells := 0, slots := 0, locals := 127 } : Room) s m args below meth c 2 D vwCl A 0 0 (QI below args s D vwCl (tyl cA) A (fun (r : Int32) (u : (Nat → Int32) × (Nat → Nat → Int32)) => Q r u.1 u.2) (fun u : (Nat → Int32) × (Nat → Nat → Int32) => kc_M cA a_M u.1 u.2)) (kc_M cA a_M I_M A_M) 167 [(0, .ref (a_M 0))] [] := by
  intro I_M A_M hw
  unfold wp_M_load_b167 at hw
  refine vv_aload_n hC d_M_load_167 0 rfl rfl ?_
  refine vv_get hC (v := .int (I_M 5)) hin_M 0 7 tb_679 d_M_load_168 rfl rfl (by decide) rfl rfl ?_
  refine vv_if_le hC 176 d_M_load_171 (by decide) (fun cd => ?_) (fun cd => ?_)
  · have hw := hw.1 cd
    refine vv_aload_n hC d_M_load_176 0 rfl rfl ?_
    refine vv_callVV (wr := []) hC (c_M_keep l D cA sx a_M I_M A_M _ hw) (cw_M_182 hC) d_M_load_177 [] [0, 1, 2, 3, 4, 5, 6, 7, 8, 9, 10, 11, 12, 13, 14, 15, 16, 17, 18, 19, 20, 21, 22, 23] [] [0, 1, 2, 3, 4, 5, 6, 7, 8, 9, 10, 11, 12, 13, 14, 15, 16, 17, 18, 19, 20, 21, 22, 23] (fun u_11 : (Nat → Int32) × (Nat → Nat → Int32) => kc_M cA a_M u_11.1 u_11.2) ⟨Nat.zero_le _, Nat.zero_le _⟩ rfl rfl (fun _ => rfl) rfl rfl rfl rfl rfl rfl rfl rfl (Nat.le_of_ble_eq_true rfl) (fun u_11 hw => ?_)
    refine vv_aload_n hC d_M_load_180 0 rfl rfl ?_
    refine vv_get hC (v := .ref (a_M 3)) hin_M 0 10 tb_682 d_M_load_181 rfl rfl (by decide) rfl rfl ?_
    refine vv_iconst hC d_M_load_184 (v := (4 : Int32)) (by decide) ?_
    refine vv_iald hC 3 0 d_M_load_185 rfl rfl (vin_c (by decide)) ?_
    exact vv_iret hC d_M_load_186 (u_11.1, u_11.2) hw rfl
  · have hw := hw.2 cd
    refine vv_iconst hC d_M_load_174 (v := (0 : Int32)) (by decide) ?_
    exact vv_iret hC d_M_load_175 (I_M, A_M) hw rfl
set_option maxHeartbeats 4000000 in
set_option maxRecDepth 100000 in
theorem l_M_load_b130 {p : Program} {l : Launch} {e : Env} {s : State} {m : MethodId} {args : Array Value} {below : List Frame} {meth : Method} {c : Code} {D : va_G} {cA : Nat → ClassId} {sx : Nat → Nat} {A : Nat → Prop} (a_M : Nat → Nat) (Q : Int32 → (Nat → Int32) → (Nat → Nat → Int32) → Prop) (hC : CX p s m args meth c b_M_load R_M TB 2 D vwCl (tyl cA) A (SPl sx) (some .int)) : ∀ (I_M : (Nat → Int32)) (A_M : (Nat → Nat → Int32)), wp_M_load_b130 Q I_M A_M → VV p l e ({ frames := 6, cells := 0, slots := 0, locals := 127 } : Room) s m args below meth c 2 D vwCl A 0 0 (QI below args s D vwCl (tyl cA) A (fun (r : Int32) (u : (Nat → Int32) × (Nat → Nat → Int32)) => Q r u.1 u.2) (fun u : (Nat → Int32) × (Nat → Nat → Int32) => kc_M cA a_M u.1 u.2)) (kc_M cA a_M I_M A_M) 130 [(0, .ref (a_M 0))] [] := by
  intro I_M A_M hw
  unfold wp_M_load_b130 at hw
  refine vv_aload_n hC d_M_load_130 0 rfl rfl ?_
  refine vv_iconst hC d_M_load_131 (v := (0 : Int32)) (by decide) ?_
  refine vv_put hC hin_M ty_M tyok_M nmok_M 0 3 tb_675 d_M_load_132 rfl rfl (by decide) rfl rfl rfl rfl rfl (Nat.le_of_ble_eq_true rfl) (ws2 := kc_M cA a_M (va_up I_M 1 (0 : Int32)) A_M) (st_M_MI1 ..) ?_
  refine vv_aload_n hC d_M_load_135 0 rfl rfl ?_
  refine vv_aload_n hC d_M_load_136 0 rfl rfl ?_
  refine vv_get hC (v := .int (I_M 5)) hin_M 0 7 tb_679 d_M_load_137 rfl rfl (by decide) rfl rfl ?_
  refine vv_put hC hin_M ty_M tyok_M nmok_M 0 4 tb_676 d_M_load_140 rfl rfl (by decide) rfl rfl rfl rfl rfl (Nat.le_of_ble_eq_true rfl) (ws2 := kc_M cA a_M (va_up (va_up I_M 1 (0 : Int32)) 2 (I_M 5)) A_M) (st_M_MI2 ..) ?_
  refine vv_aload_n hC d_M_load_143 0 rfl rfl ?_
  refine vv_aload_n hC d_M_load_144 0 rfl rfl ?_
  refine vv_get hC (v := .int (I_M 6)) hin_M 0 8 tb_680 d_M_load_145 rfl rfl (by decide) rfl rfl ?_
  refine vv_put hC hin_M ty_M tyok_M nmok_M 0 5 tb_677 d_M_load_148 rfl rfl (by decide) rfl rfl rfl rfl rfl (Nat.le_of_ble_eq_true rfl) (ws2 := kc_M cA a_M (va_up (va_up (va_up I_M 1 (0 : Int32)) 2 (I_M 5)) 3 (I_M 6)) A_M) (st_M_MI3 ..) ?_
  refine vv_aload_n hC d_M_load_151 0 rfl rfl ?_
  refine vv_aload_n hC d_M_load_152 0 rfl rfl ?_
  refine vv_get hC (v := .int (I_M 5)) hin_M 0 7 tb_679 d_M_load_153 rfl rfl (by decide) rfl rfl ?_
  refine vv_if_le hC 163 d_M_load_156 (by decide) (fun cd => ?_) (fun cd => ?_)
  · have hw := hw.1 cd
    refine vv_iconst hC d_M_load_163 (v := (0 : Int32)) (by decide) ?_
    refine vv_put hC hin_M ty_M tyok_M nmok_M 0 0 tb_672 d_M_load_164 rfl rfl (by decide) rfl rfl rfl rfl rfl (Nat.le_of_ble_eq_true rfl) (ws2 := kc_M cA a_M (va_up (va_up (va_up (va_up I_M 1 (0 : Int32)) 2 (I_M 5)) 3 (I_M 6)) 0 (0 : Int32)) A_M) (st_M_MI0 ..) ?_
    exact vv_sub [0] (by rfl) (l_M_load_b167 a_M Q hC (va_up (va_up (va_up (va_up I_M 1 (0 : Int32)) 2 (I_M 5)) 3 (I_M 6)) 0 (0 : Int32)) A_M hw)
  · have hw := hw.2 cd
    refine vv_iconst hC d_M_load_159 (v := (1 : Int32)) (by decide) ?_
    refine vv_goto hC 164 d_M_load_160 (by decide) ?_
    refine vv_put hC hin_M ty_M tyok_M nmok_M 0 0 tb_672 d_M_load_164 rfl rfl (by decide) rfl rfl rfl rfl rfl (Nat.le_of_ble_eq_true rfl) (ws2 := kc_M cA a_M (va_up (va_up (va_up (va_up I_M 1 (0 : Int32)) 2 (I_M 5)) 3 (I_M 6)) 0 (1 : Int32)) A_M) (st_M_MI0 ..) ?_
    exact vv_sub [0] (by rfl) (l_M_load_b167 a_M Q hC (va_up (va_up (va_up (va_up I_M 1 (0 : Int32)) 2 (I_M 5)) 3 (I_M 6)) 0 (1 : Int32)) A_M hw)
set_option maxHeartbeats 4000000 in
set_option maxRecDepth 100000 in
theorem l_M_load_b119 {p : Program} {l : Launch} {e : Env} {s : State} {m : MethodId} {args : Array Value} {below : List Frame} {meth : Method} {c : Code} {D : va_G} {cA : Nat → ClassId} {sx : Nat → Nat} {A : Nat → Prop} (a_M : Nat → Nat) (Q : Int32 → (Nat → Int32) → (Nat → Nat → Int32) → Prop) (hC : CX p s m args meth c b_M_load R_M TB 2 D vwCl (tyl cA) A (SPl sx) (some .int)) : ∀ (I_M : (Nat → Int32)) (A_M : (Nat → Nat → Int32)), wp_M_load_b119 Q I_M A_M → VV p l e ({ frames := 6, cells := 0, slots := 0, locals := 127 } : Room) s m args below meth c 2 D vwCl A 0 0 (QI below args s D vwCl (tyl cA) A (fun (r : Int32) (u : (Nat → Int32) × (Nat → Nat → Int32)) => Q r u.1 u.2) (fun u : (Nat → Int32) × (Nat → Nat → Int32) => kc_M cA a_M u.1 u.2)) (kc_M cA a_M I_M A_M) 119 [(0, .ref (a_M 0))] [] := by
  intro I_M A_M hw
  unfold wp_M_load_b119 at hw
  refine vv_aload_n hC d_M_load_119 0 rfl rfl ?_
  refine vv_get hC (v := .int (I_M 5)) hin_M 0 7 tb_679 d_M_load_120 rfl rfl (by decide) rfl rfl ?_
  refine vv_if_ne hC 130 d_M_load_123 (by decide) (fun cd => ?_) (fun cd => ?_)
  · have hw := hw.2 cd
    exact vv_sub [0] (by rfl) (l_M_load_b130 a_M Q hC I_M A_M hw)
  · have hw := hw.1 cd
    refine vv_aload_n hC d_M_load_126 0 rfl rfl ?_
    refine vv_callVV (wr := []) hC (c_M_findRing l D cA sx a_M I_M A_M _ hw) (cw_M_176 hC) d_M_load_127 [] [0, 1, 2, 3, 4, 5, 6, 7, 8, 9, 10, 11, 12, 13, 14, 15, 16, 17, 18, 19, 20, 21, 22, 23] [] [0, 1, 2, 3, 4, 5, 6, 7, 8, 9, 10, 11, 12, 13, 14, 15, 16, 17, 18, 19, 20, 21, 22, 23] (fun u_14 : (Nat → Int32) × (Nat → Nat → Int32) => kc_M cA a_M u_14.1 u_14.2) ⟨Nat.zero_le _, Nat.zero_le _⟩ rfl rfl (fun _ => rfl) rfl rfl rfl rfl rfl rfl rfl rfl (Nat.le_of_ble_eq_true rfl) (fun u_14 hw => ?_)
    exact vv_sub [0] (by rfl) (l_M_load_b130 a_M Q hC u_14.1 u_14.2 hw)
set_option maxHeartbeats 4000000 in
set_option maxRecDepth 100000 in
theorem l_M_load_b108 {p : Program} {l : Launch} {e : Env} {s : State} {m : MethodId} {args : Array Value} {below : List Frame} {meth : Method} {c : Code} {D : va_G} {cA : Nat → ClassId} {sx : Nat → Nat} {A : Nat → Prop} (a_M : Nat → Nat) (Q : Int32 → (Nat → Int32) → (Nat → Nat → Int32) → Prop) (hC : CX p s m args meth c b_M_load R_M TB 2 D vwCl (tyl cA) A (SPl sx) (some .int)) : ∀ (I_M : (Nat → Int32)) (A_M : (Nat → Nat → Int32)), wp_M_load_b108 Q I_M A_M → VV p l e ({ frames := 6, cells := 0, slots := 0, locals := 127 } : Room) s m args below meth c 2 D vwCl A 0 0 (QI below args s D vwCl (tyl cA) A (fun (r : Int32) (u : (Nat → Int32) × (Nat → Nat → Int32)) => Q r u.1 u.2) (fun u : (Nat → Int32) × (Nat → Nat → Int32) => kc_M cA a_M u.1 u.2)) (kc_M cA a_M I_M A_M) 108 [(0, .ref (a_M 0))] [] := by
  intro I_M A_M hw
  unfold wp_M_load_b108 at hw
  refine vv_aload_n hC d_M_load_108 0 rfl rfl ?_
  refine vv_get hC (v := .int (I_M 5)) hin_M 0 7 tb_679 d_M_load_109 rfl rfl (by decide) rfl rfl ?_
  refine vv_if_ne hC 119 d_M_load_112 (by decide) (fun cd => ?_) (fun cd => ?_)
  · have hw := hw.2 cd
    exact vv_sub [0] (by rfl) (l_M_load_b119 a_M Q hC I_M A_M hw)
  · have hw := hw.1 cd
    refine vv_aload_n hC d_M_load_115 0 rfl rfl ?_
    refine vv_callVV (wr := []) hC (c_M_findNowhere l D cA sx a_M I_M A_M _ hw) (cw_M_173 hC) d_M_load_116 [] [0, 1, 2, 3, 4, 5, 6, 7, 8, 9, 10, 11, 12, 13, 14, 15, 16, 17, 18, 19, 20, 21, 22, 23] [] [0, 1, 2, 3, 4, 5, 6, 7, 8, 9, 10, 11, 12, 13, 14, 15, 16, 17, 18, 19, 20, 21, 22, 23] (fun u_17 : (Nat → Int32) => kc_M cA a_M u_17 A_M) ⟨Nat.zero_le _, Nat.zero_le _⟩ rfl rfl (fun _ => rfl) rfl rfl rfl rfl rfl rfl rfl rfl (Nat.le_of_ble_eq_true rfl) (fun u_17 hw => ?_)
    exact vv_sub [0] (by rfl) (l_M_load_b119 a_M Q hC u_17 A_M hw)
set_option maxHeartbeats 4000000 in
set_option maxRecDepth 100000 in
theorem l_M_load_b97 {p : Program} {l : Launch} {e : Env} {s : State} {m : MethodId} {args : Array Value} {below : List Frame} {meth : Method} {c : Code} {D : va_G} {cA : Nat → ClassId} {sx : Nat → Nat} {A : Nat → Prop} (a_M : Nat → Nat) (Q : Int32 → (Nat → Int32) → (Nat → Nat → Int32) → Prop) (hC : CX p s m args meth c b_M_load R_M TB 2 D vwCl (tyl cA) A (SPl sx) (some .int)) : ∀ (I_M : (Nat → Int32)) (A_M : (Nat → Nat → Int32)), wp_M_load_b97 Q I_M A_M → VV p l e ({ frames := 6, cells := 0, slots := 0, locals := 127 } : Room) s m args below meth c 2 D vwCl A 0 0 (QI below args s D vwCl (tyl cA) A (fun (r : Int32) (u : (Nat → Int32) × (Nat → Nat → Int32)) => Q r u.1 u.2) (fun u : (Nat → Int32) × (Nat → Nat → Int32) => kc_M cA a_M u.1 u.2)) (kc_M cA a_M I_M A_M) 97 [(0, .ref (a_M 0))] [] := by
  intro I_M A_M hw
  unfold wp_M_load_b97 at hw
  refine vv_aload_n hC d_M_load_97 0 rfl rfl ?_
  refine vv_get hC (v := .int (I_M 5)) hin_M 0 7 tb_679 d_M_load_98 rfl rfl (by decide) rfl rfl ?_
  refine vv_if_ne hC 108 d_M_load_101 (by decide) (fun cd => ?_) (fun cd => ?_)
  · have hw := hw.2 cd
    exact vv_sub [0] (by rfl) (l_M_load_b108 a_M Q hC I_M A_M hw)
  · have hw := hw.1 cd
    refine vv_aload_n hC d_M_load_104 0 rfl rfl ?_
    refine vv_callVV (wr := []) hC (c_M_takeSymbols l D cA sx a_M I_M A_M _ hw) (cw_M_170 hC) d_M_load_105 [] [0, 1, 2, 3, 4, 5, 6, 7, 8, 9, 10, 11, 12, 13, 14, 15, 16, 17, 18, 19, 20, 21, 22, 23] [] [0, 1, 2, 3, 4, 5, 6, 7, 8, 9, 10, 11, 12, 13, 14, 15, 16, 17, 18, 19, 20, 21, 22, 23] (fun u_19 : (Nat → Int32) × (Nat → Nat → Int32) => kc_M cA a_M u_19.1 u_19.2) ⟨Nat.zero_le _, Nat.zero_le _⟩ rfl rfl (fun _ => rfl) rfl rfl rfl rfl rfl rfl rfl rfl (Nat.le_of_ble_eq_true rfl) (fun u_19 hw => ?_)
    exact vv_sub [0] (by rfl) (l_M_load_b108 a_M Q hC u_19.1 u_19.2 hw)
set_option maxHeartbeats 4000000 in
set_option maxRecDepth 100000 in
theorem l_M_load_b86 {p : Program} {l : Launch} {e : Env} {s : State} {m : MethodId} {args : Array Value} {below : List Frame} {meth : Method} {c : Code} {D : va_G} {cA : Nat → ClassId} {sx : Nat → Nat} {A : Nat → Prop} (a_M : Nat → Nat) (Q : Int32 → (Nat → Int32) → (Nat → Nat → Int32) → Prop) (hC : CX p s m args meth c b_M_load R_M TB 2 D vwCl (tyl cA) A (SPl sx) (some .int)) : ∀ (I_M : (Nat → Int32)) (A_M : (Nat → Nat → Int32)), wp_M_load_b86 Q I_M A_M → VV p l e ({ frames := 6, cells := 0, slots := 0, locals := 127 } : Room) s m args below meth c 2 D vwCl A 0 0 (QI below args s D vwCl (tyl cA) A (fun (r : Int32) (u : (Nat → Int32) × (Nat → Nat → Int32)) => Q r u.1 u.2) (fun u : (Nat → Int32) × (Nat → Nat → Int32) => kc_M cA a_M u.1 u.2)) (kc_M cA a_M I_M A_M) 86 [(0, .ref (a_M 0))] [] := by
  intro I_M A_M hw
  unfold wp_M_load_b86 at hw
  refine vv_aload_n hC d_M_load_86 0 rfl rfl ?_
  refine vv_get hC (v := .int (I_M 5)) hin_M 0 7 tb_679 d_M_load_87 rfl rfl (by decide) rfl rfl ?_
  refine vv_if_ne hC 97 d_M_load_90 (by decide) (fun cd => ?_) (fun cd => ?_)
  · have hw := hw.2 cd
    exact vv_sub [0] (by rfl) (l_M_load_b97 a_M Q hC I_M A_M hw)
  · have hw := hw.1 cd
    refine vv_aload_n hC d_M_load_93 0 rfl rfl ?_
    refine vv_callVV (wr := []) hC (c_M_takeText l D cA sx a_M I_M A_M _ hw) (cw_M_167 hC) d_M_load_94 [] [0, 1, 2, 3, 4, 5, 6, 7, 8, 9, 10, 11, 12, 13, 14, 15, 16, 17, 18, 19, 20, 21, 22, 23] [] [0, 1, 2, 3, 4, 5, 6, 7, 8, 9, 10, 11, 12, 13, 14, 15, 16, 17, 18, 19, 20, 21, 22, 23] (fun u_22 : (Nat → Int32) × (Nat → Nat → Int32) => kc_M cA a_M u_22.1 u_22.2) ⟨Nat.zero_le _, Nat.zero_le _⟩ rfl rfl (fun _ => rfl) rfl rfl rfl rfl rfl rfl rfl rfl (Nat.le_of_ble_eq_true rfl) (fun u_22 hw => ?_)
    exact vv_sub [0] (by rfl) (l_M_load_b97 a_M Q hC u_22.1 u_22.2 hw)
set_option maxHeartbeats 4000000 in
set_option maxRecDepth 100000 in
theorem c_M_load (l : Launch) (D : va_G) (cA : Nat → ClassId) (sx : Nat → Nat) (a_M : Nat → Nat) (I_M : (Nat → Int32)) (A_M : (Nat → Nat → Int32)) (Q : Int32 → (Nat → Int32) → (Nat → Nat → Int32) → Prop) (hw : wp_M_load I_M A_M Q) : MetI l y_M_load (Cond.code y_M_load b_M_load 2 (some .int) :: TB) ({ frames := 6, cells := 0, slots := 0, locals := 127 } : Room) D vwCl (tyl cA) (SPl sx) [.ref (a_M 0)] (kc_M cA a_M I_M A_M) (fun (r : Int32) (u : (Nat → Int32) × (Nat → Nat → Int32)) => Q r u.1 u.2) (fun u : (Nat → Int32) × (Nat → Nat → Int32) => kc_M cA a_M u.1 u.2) := by
  refine vv_entryI (cc := b_M_load) (own := R_M) (L := [(0, .ref (a_M 0))]) (by decide) rfl rfl (Nat.le_of_ble_eq_true rfl) rfl (fun p e s m args below meth c A hC => ?_)
  unfold wp_M_load at hw
  refine vv_aload_n hC d_M_load_0 0 rfl rfl ?_
  refine vv_iconst hC d_M_load_1 (v := (0 : Int32)) (by decide) ?_
  refine vv_put hC hin_M ty_M tyok_M nmok_M 0 6 tb_678 d_M_load_2 rfl rfl (by decide) rfl rfl rfl rfl rfl (Nat.le_of_ble_eq_true rfl) (ws2 := kc_M cA a_M (va_up I_M 4 (0 : Int32)) A_M) (st_M_MI4 ..) ?_
  refine vv_aload_n hC d_M_load_5 0 rfl rfl ?_
  refine vv_iconst hC d_M_load_6 (v := (0 : Int32)) (by decide) ?_
  refine vv_put hC hin_M ty_M tyok_M nmok_M 0 7 tb_679 d_M_load_7 rfl rfl (by decide) rfl rfl rfl rfl rfl (Nat.le_of_ble_eq_true rfl) (ws2 := kc_M cA a_M (va_up (va_up I_M 4 (0 : Int32)) 5 (0 : Int32)) A_M) (st_M_MI5 ..) ?_
  refine vv_aload_n hC d_M_load_10 0 rfl rfl ?_
  refine vv_iconst hC d_M_load_11 (v := (-1 : Int32)) (by decide) ?_
  refine vv_put hC hin_M ty_M tyok_M nmok_M 0 8 tb_680 d_M_load_12 rfl rfl (by decide) rfl rfl rfl rfl rfl (Nat.le_of_ble_eq_true rfl) (ws2 := kc_M cA a_M (va_up (va_up (va_up I_M 4 (0 : Int32)) 5 (0 : Int32)) 6 (-1 : Int32)) A_M) (st_M_MI6 ..) ?_
  refine vv_iconst hC d_M_load_15 (v := (0 : Int32)) (by decide) ?_
  refine vv_istore_n hC d_M_load_16 rfl (by decide) [1, 0] (L2 := [(0, .ref (a_M 0)), (1, .int (0 : Int32))]) rfl ?_
  obtain ⟨m17, hw⟩ := hw
  refine vv_sub [0, 1] (by rfl) (l_M_load_L17 a_M Q _ hC (fun I_M_2 A_M_3 hw => ?_) m17 (va_up (va_up (va_up I_M 4 (0 : Int32)) 5 (0 : Int32)) 6 (-1 : Int32)) A_M (0 : Int32) hw)
  refine vv_bipush hC d_M_load_41 (v := (22 : Int32)) (by decide) ?_
  refine vv_istore_n hC d_M_load_43 rfl (by decide) [1, 0] (L2 := [(0, .ref (a_M 0)), (1, .int (22 : Int32))]) rfl ?_
  obtain ⟨m44, hw⟩ := hw
  refine vv_sub [0, 1] (by rfl) (l_M_load_L44 a_M Q _ hC (fun I_M_5 A_M_6 hw => ?_) m44 I_M_2 A_M_3 (22 : Int32) hw)
  refine vv_aload_n hC d_M_load_63 0 rfl rfl ?_
  refine vv_callVI (wr := []) hC (c_M_takeHead l D cA sx a_M I_M_5 A_M_6 _ hw) (cw_M_161 hC) d_M_load_64 [] [0, 1, 2, 3, 4, 5, 6, 7, 8, 9, 10, 11, 12, 13, 14, 15, 16, 17, 18, 19, 20, 21, 22, 23] [] [0, 1, 2, 3, 4, 5, 6, 7, 8, 9, 10, 11, 12, 13, 14, 15, 16, 17, 18, 19, 20, 21, 22, 23] (fun u_8 : (Nat → Int32) × (Nat → Nat → Int32) => kc_M cA a_M u_8.1 u_8.2) ⟨Nat.zero_le _, Nat.zero_le _⟩ rfl rfl (fun _ => rfl) rfl rfl rfl rfl rfl rfl rfl rfl (Nat.le_of_ble_eq_true rfl) (fun r_7 u_8 hw => ?_)
  refine vv_istore_n hC d_M_load_67 rfl (by decide) [1, 0] (L2 := [(0, .ref (a_M 0)), (1, .int r_7)]) rfl ?_
  refine vv_aload_n hC d_M_load_68 0 rfl rfl ?_
  refine vv_get hC (v := .int (u_8.1 5)) hin_M 0 7 tb_679 d_M_load_69 rfl rfl (by decide) rfl rfl ?_
  refine vv_if_ne hC 86 d_M_load_72 (by decide) (fun cd => ?_) (fun cd => ?_)
  · have hw := hw.2 cd
    exact vv_sub [0] (by rfl) (l_M_load_b86 a_M Q hC u_8.1 u_8.2 hw)
  · have hw := hw.1 cd
    refine vv_iload_n hC d_M_load_75 1 rfl rfl ?_
    refine vv_if_eq hC 86 d_M_load_76 (by decide) (fun cd => ?_) (fun cd => ?_)
    · have hw := hw.1 cd
      exact vv_sub [0] (by rfl) (l_M_load_b86 a_M Q hC u_8.1 u_8.2 hw)
    · have hw := hw.2 cd
      refine vv_aload_n hC d_M_load_79 0 rfl rfl ?_
      refine vv_callVV (wr := []) hC (c_M_takeBinary l D cA sx a_M u_8.1 u_8.2 _ hw) (cw_M_164 hC) d_M_load_80 [] [0, 1, 2, 3, 4, 5, 6, 7, 8, 9, 10, 11, 12, 13, 14, 15, 16, 17, 18, 19, 20, 21, 22, 23] [] [0, 1, 2, 3, 4, 5, 6, 7, 8, 9, 10, 11, 12, 13, 14, 15, 16, 17, 18, 19, 20, 21, 22, 23] (fun u_25 : (Nat → Int32) × (Nat → Nat → Int32) => kc_M cA a_M u_25.1 u_25.2) ⟨Nat.zero_le _, Nat.zero_le _⟩ rfl rfl (fun _ => rfl) rfl rfl rfl rfl rfl rfl rfl rfl (Nat.le_of_ble_eq_true rfl) (fun u_25 hw => ?_)
      refine vv_goto hC 97 d_M_load_83 (by decide) ?_
      exact vv_sub [0] (by rfl) (l_M_load_b97 a_M Q hC u_25.1 u_25.2 hw)
set_option maxHeartbeats 4000000 in
set_option maxRecDepth 100000 in
theorem c_M_fault (l : Launch) (D : va_G) (cA : Nat → ClassId) (sx : Nat → Nat) (a_M : Nat → Nat) (I_M : (Nat → Int32)) (A_M : (Nat → Nat → Int32)) (x1 : Int32) (Q : Int32 → (Nat → Int32) → Prop) (hw : wp_M_fault I_M x1 Q) : MetI l y_M_fault (Cond.code y_M_fault b_M_fault 2 (some .int) :: TB) ({ frames := 0, cells := 0, slots := 0, locals := 0 } : Room) D vwCl (tyl cA) (SPl sx) [.ref (a_M 0), .int x1] (kc_M cA a_M I_M A_M) (fun (r : Int32) (u : (Nat → Int32)) => Q r u) (fun u : (Nat → Int32) => kc_M cA a_M u A_M) := by
  refine vv_entryI (cc := b_M_fault) (own := R_M) (L := [(0, .ref (a_M 0)), (1, .int x1)]) (by decide) rfl rfl (Nat.le_of_ble_eq_true rfl) rfl (fun p e s m args below meth c A hC => ?_)
  unfold wp_M_fault at hw
  refine vv_aload_n hC d_M_fault_0 0 rfl rfl ?_
  refine vv_iconst hC d_M_fault_1 (v := (0 : Int32)) (by decide) ?_
  refine vv_put hC hin_M ty_M tyok_M nmok_M 0 0 tb_672 d_M_fault_2 rfl rfl (by decide) rfl rfl rfl rfl rfl (Nat.le_of_ble_eq_true rfl) (ws2 := kc_M cA a_M (va_up I_M 0 (0 : Int32)) A_M) (st_M_MI0 ..) ?_
  refine vv_iload_n hC d_M_fault_5 1 rfl rfl ?_
  refine vv_if_ne hC 16 d_M_fault_6 (by decide) (fun cd => ?_) (fun cd => ?_)
  · have hw := hw.2 cd
    refine vv_iload_n hC d_M_fault_16 1 rfl rfl ?_
    refine vv_iconst hC d_M_fault_17 (v := (1 : Int32)) (by decide) ?_
    refine vv_icmp_ne hC 28 d_M_fault_18 (by decide) (fun cd => ?_) (fun cd => ?_)
    · have hw := hw.2 cd
      refine vv_iconst hC d_M_fault_28 (v := (-1 : Int32)) (by decide) ?_
      exact vv_iret hC d_M_fault_29 (va_up I_M 0 (0 : Int32)) hw rfl
    · have hw := hw.1 cd
      refine vv_aload_n hC d_M_fault_21 0 rfl rfl ?_
      refine vv_get hC (v := .int (I_M 3)) hin_M 0 5 tb_677 d_M_fault_22 rfl rfl (by decide) rfl rfl ?_
      refine vv_goto hC 29 d_M_fault_25 (by decide) ?_
      exact vv_iret hC d_M_fault_29 (va_up I_M 0 (0 : Int32)) hw rfl
  · have hw := hw.1 cd
    refine vv_aload_n hC d_M_fault_9 0 rfl rfl ?_
    refine vv_get hC (v := .int (I_M 2)) hin_M 0 4 tb_676 d_M_fault_10 rfl rfl (by decide) rfl rfl ?_
    refine vv_goto hC 29 d_M_fault_13 (by decide) ?_
    exact vv_iret hC d_M_fault_29 (va_up I_M 0 (0 : Int32)) hw rfl
set_option maxHeartbeats 4000000 in
set_option maxRecDepth 100000 in
theorem c_M_many (l : Launch) (D : va_G) (cA : Nat → ClassId) (sx : Nat → Nat) (a_M : Nat → Nat) (I_M : (Nat → Int32)) (A_M : (Nat → Nat → Int32)) (x1 : Int32) (Q : Int32 → (Nat → Int32) → Prop) (hw : wp_M_many I_M A_M x1 Q) : MetI l y_M_many (Cond.code y_M_many b_M_many 2 (some .int) :: TB) ({ frames := 0, cells := 0, slots := 0, locals := 0 } : Room) D vwCl (tyl cA) (SPl sx) [.ref (a_M 0), .int x1] (kc_M cA a_M I_M A_M) (fun (r : Int32) (u : (Nat → Int32)) => Q r u) (fun u : (Nat → Int32) => kc_M cA a_M u A_M) := by
  refine vv_entryI (cc := b_M_many) (own := R_M) (L := [(0, .ref (a_M 0)), (1, .int x1)]) (by decide) rfl rfl (Nat.le_of_ble_eq_true rfl) rfl (fun p e s m args below meth c A hC => ?_)
  unfold wp_M_many at hw
  refine vv_aload_n hC d_M_many_0 0 rfl rfl ?_
  refine vv_iconst hC d_M_many_1 (v := (0 : Int32)) (by decide) ?_
  refine vv_put hC hin_M ty_M tyok_M nmok_M 0 0 tb_672 d_M_many_2 rfl rfl (by decide) rfl rfl rfl rfl rfl (Nat.le_of_ble_eq_true rfl) (ws2 := kc_M cA a_M (va_up I_M 0 (0 : Int32)) A_M) (st_M_MI0 ..) ?_
  refine vv_iload_n hC d_M_many_5 1 rfl rfl ?_
  refine vv_if_lt hC 14 d_M_many_6 (by decide) (fun cd => ?_) (fun cd => ?_)
  · have hw := hw.1 cd
    refine vv_iconst hC d_M_many_14 (v := (-1 : Int32)) (by decide) ?_
    refine vv_goto hC 24 d_M_many_15 (by decide) ?_
    exact vv_iret hC d_M_many_24 (va_up I_M 0 (0 : Int32)) hw rfl
  · have hw := hw.2 cd
    refine vv_iload_n hC d_M_many_9 1 rfl rfl ?_
    refine vv_iconst hC d_M_many_10 (v := (4 : Int32)) (by decide) ?_
    refine vv_icmp_le hC 18 d_M_many_11 (by decide) (fun cd => ?_) (fun cd => ?_)
    · have hw := hw.1 cd
      refine vv_aload_n hC d_M_many_18 0 rfl rfl ?_
      refine vv_get hC (v := .ref (a_M 3)) hin_M 0 10 tb_682 d_M_many_19 rfl rfl (by decide) rfl rfl ?_
      refine vv_iload_n hC d_M_many_22 1 rfl rfl ?_
      obtain ⟨hin_1, hw⟩ := hw
      refine vv_iald hC 3 0 d_M_many_23 rfl rfl hin_1 ?_
      exact vv_iret hC d_M_many_24 (va_up I_M 0 (0 : Int32)) hw rfl
    · have hw := hw.2 cd
      refine vv_iconst hC d_M_many_14 (v := (-1 : Int32)) (by decide) ?_
      refine vv_goto hC 24 d_M_many_15 (by decide) ?_
      exact vv_iret hC d_M_many_24 (va_up I_M 0 (0 : Int32)) hw rfl
set_option maxHeartbeats 4000000 in
set_option maxRecDepth 100000 in
theorem c_M_row (l : Launch) (D : va_G) (cA : Nat → ClassId) (sx : Nat → Nat) (x0 x1 : Int32) (Q : Int32 → Prop) (hw : wp_M_row x0 x1 Q) : MetI l y_M_row (Cond.code y_M_row b_M_row 2 (some .int) :: TB) ({ frames := 0, cells := 0, slots := 0, locals := 0 } : Room) D vwCl (tyl cA) (SPl sx) [.int x0, .int x1] ([]) (fun (r : Int32) (u : Unit) => Q r) (fun u : Unit => []) := by
  refine vv_entryI (cc := b_M_row) (own := R_M) (L := [(0, .int x0), (1, .int x1)]) (by decide) rfl rfl (Nat.le_of_ble_eq_true rfl) rfl (fun p e s m args below meth c A hC => ?_)
  unfold wp_M_row at hw
  refine vv_iload_n hC d_M_row_0 0 rfl rfl ?_
  refine vv_if_ne hC 8 d_M_row_1 (by decide) (fun cd => ?_) (fun cd => ?_)
  · have hw := hw.2 cd
    refine vv_iload_n hC d_M_row_8 0 rfl rfl ?_
    refine vv_iconst hC d_M_row_9 (v := (1 : Int32)) (by decide) ?_
    refine vv_icmp_ne hC 18 d_M_row_10 (by decide) (fun cd => ?_) (fun cd => ?_)
    · have hw := hw.2 cd
      refine vv_bipush hC d_M_row_18 (v := (14 : Int32)) (by decide) ?_
      refine vv_iload_n hC d_M_row_20 1 rfl rfl ?_
      refine vv_iadd hC d_M_row_21 ?_
      exact vv_iret hC d_M_row_22 () hw rfl
    · have hw := hw.1 cd
      refine vv_bipush hC d_M_row_13 (v := (6 : Int32)) (by decide) ?_
      refine vv_goto hC 20 d_M_row_15 (by decide) ?_
      refine vv_iload_n hC d_M_row_20 1 rfl rfl ?_
      refine vv_iadd hC d_M_row_21 ?_
      exact vv_iret hC d_M_row_22 () hw rfl
  · have hw := hw.1 cd
    refine vv_iconst hC d_M_row_4 (v := (0 : Int32)) (by decide) ?_
    refine vv_goto hC 20 d_M_row_5 (by decide) ?_
    refine vv_iload_n hC d_M_row_20 1 rfl rfl ?_
    refine vv_iadd hC d_M_row_21 ?_
    exact vv_iret hC d_M_row_22 () hw rfl
set_option maxHeartbeats 4000000 in
set_option maxRecDepth 100000 in
theorem c_M_symbol (l : Launch) (D : va_G) (cA : Nat → ClassId) (sx : Nat → Nat) (a_M : Nat → Nat) (I_M : (Nat → Int32)) (A_M : (Nat → Nat → Int32)) (x1 x2 x3 : Int32) (Q : Int32 → (Nat → Int32) → Prop) (hw : wp_M_symbol I_M A_M x1 x2 x3 Q) : MetI l y_M_symbol (Cond.code y_M_symbol b_M_symbol 4 (some .int) :: TB) ({ frames := 1, cells := 0, slots := 0, locals := 21 } : Room) D vwCl (tyl cA) (SPl sx) [.ref (a_M 0), .int x1, .int x2, .int x3] (kc_M cA a_M I_M A_M) (fun (r : Int32) (u : (Nat → Int32)) => Q r u) (fun u : (Nat → Int32) => kc_M cA a_M u A_M) := by
  refine vv_entryI (cc := b_M_symbol) (own := R_M) (L := [(0, .ref (a_M 0)), (1, .int x1), (2, .int x2), (3, .int x3)]) (by decide) rfl rfl (Nat.le_of_ble_eq_true rfl) rfl (fun p e s m args below meth c A hC => ?_)
  unfold wp_M_symbol at hw
  refine vv_aload_n hC d_M_symbol_0 0 rfl rfl ?_
  refine vv_iconst hC d_M_symbol_1 (v := (0 : Int32)) (by decide) ?_
  refine vv_put hC hin_M ty_M tyok_M nmok_M 0 0 tb_672 d_M_symbol_2 rfl rfl (by decide) rfl rfl rfl rfl rfl (Nat.le_of_ble_eq_true rfl) (ws2 := kc_M cA a_M (va_up I_M 0 (0 : Int32)) A_M) (st_M_MI0 ..) ?_
  refine vv_iload_n hC d_M_symbol_5 1 rfl rfl ?_
  refine vv_if_lt hC 48 d_M_symbol_6 (by decide) (fun cd => ?_) (fun cd => ?_)
  · have hw := hw.1 cd
    refine vv_iconst hC d_M_symbol_48 (v := (-1 : Int32)) (by decide) ?_
    exact vv_iret hC d_M_symbol_49 (va_up I_M 0 (0 : Int32)) hw rfl
  · have hw := hw.2 cd
    refine vv_iload_n hC d_M_symbol_9 1 rfl rfl ?_
    refine vv_iconst hC d_M_symbol_10 (v := (2 : Int32)) (by decide) ?_
    refine vv_icmp_gt hC 48 d_M_symbol_11 (by decide) (fun cd => ?_) (fun cd => ?_)
    · have hw := hw.1 cd
      refine vv_iconst hC d_M_symbol_48 (v := (-1 : Int32)) (by decide) ?_
      exact vv_iret hC d_M_symbol_49 (va_up I_M 0 (0 : Int32)) hw rfl
    · have hw := hw.2 cd
      refine vv_iload_n hC d_M_symbol_14 2 rfl rfl ?_
      refine vv_if_lt hC 48 d_M_symbol_15 (by decide) (fun cd => ?_) (fun cd => ?_)
      · have hw := hw.1 cd
        refine vv_iconst hC d_M_symbol_48 (v := (-1 : Int32)) (by decide) ?_
        exact vv_iret hC d_M_symbol_49 (va_up I_M 0 (0 : Int32)) hw rfl
      · have hw := hw.2 cd
        refine vv_iload_n hC d_M_symbol_18 2 rfl rfl ?_
        refine vv_aload_n hC d_M_symbol_19 0 rfl rfl ?_
        refine vv_get hC (v := .ref (a_M 3)) hin_M 0 10 tb_682 d_M_symbol_20 rfl rfl (by decide) rfl rfl ?_
        refine vv_iconst hC d_M_symbol_23 (v := (1 : Int32)) (by decide) ?_
        refine vv_iload_n hC d_M_symbol_24 1 rfl rfl ?_
        refine vv_iadd hC d_M_symbol_25 ?_
        obtain ⟨hin_1, hw⟩ := hw
        refine vv_iald hC 3 0 d_M_symbol_26 rfl rfl hin_1 ?_
        refine vv_icmp_ge hC 48 d_M_symbol_27 (by decide) (fun cd => ?_) (fun cd => ?_)
        · have hw := hw.1 cd
          refine vv_iconst hC d_M_symbol_48 (v := (-1 : Int32)) (by decide) ?_
          exact vv_iret hC d_M_symbol_49 (va_up I_M 0 (0 : Int32)) hw rfl
        · have hw := hw.2 cd
          refine vv_iload_n hC d_M_symbol_30 3 rfl rfl ?_
          refine vv_if_lt hC 48 d_M_symbol_31 (by decide) (fun cd => ?_) (fun cd => ?_)
          · have hw := hw.1 cd
            refine vv_iconst hC d_M_symbol_48 (v := (-1 : Int32)) (by decide) ?_
            exact vv_iret hC d_M_symbol_49 (va_up I_M 0 (0 : Int32)) hw rfl
          · have hw := hw.2 cd
            refine vv_iload_n hC d_M_symbol_34 3 rfl rfl ?_
            refine vv_aload_n hC d_M_symbol_35 0 rfl rfl ?_
            refine vv_get hC (v := .ref (a_M 18)) hin_M 0 25 tb_697 d_M_symbol_36 rfl rfl (by decide) rfl rfl ?_
            refine vv_iload_n hC d_M_symbol_39 1 rfl rfl ?_
            refine vv_iload_n hC d_M_symbol_40 2 rfl rfl ?_
            refine vv_callSI (wr := kc_M cA a_M (va_up I_M 0 (0 : Int32)) A_M) hC (c_M_row l D cA sx x1 x2 _ hw) (cw_M_185 hC) d_M_symbol_41 [.ref (a_M 18), .int x3] [] [0, 1, 2, 3, 4, 5, 6, 7, 8, 9, 10, 11, 12, 13, 14, 15, 16, 17, 18, 19, 20, 21, 22, 23] [0, 1, 2, 3, 4, 5, 6, 7, 8, 9, 10, 11, 12, 13, 14, 15, 16, 17, 18, 19, 20, 21, 22, 23] (fun u_3 : Unit => kc_M cA a_M (va_up I_M 0 (0 : Int32)) A_M) ⟨Nat.zero_le _, Nat.zero_le _⟩ rfl rfl (fun _ => rfl) rfl rfl rfl rfl rfl rfl (Nat.le_of_ble_eq_true rfl) (fun r_2 u_3 hw => ?_)
            obtain ⟨hin_4, hw⟩ := hw
            refine vv_iald hC 18 0 d_M_symbol_44 rfl rfl hin_4 ?_
            refine vv_icmp_lt hC 50 d_M_symbol_45 (by decide) (fun cd => ?_) (fun cd => ?_)
            · have hw := hw.1 cd
              refine vv_aload_n hC d_M_symbol_50 0 rfl rfl ?_
              refine vv_get hC (v := .ref (a_M 17)) hin_M 0 24 tb_696 d_M_symbol_51 rfl rfl (by decide) rfl rfl ?_
              refine vv_bipush hC d_M_symbol_54 (v := (40 : Int32)) (by decide) ?_
              refine vv_iload_n hC d_M_symbol_56 1 rfl rfl ?_
              refine vv_iload_n hC d_M_symbol_57 2 rfl rfl ?_
              refine vv_callSI (wr := kc_M cA a_M (va_up I_M 0 (0 : Int32)) A_M) hC (c_M_row l D cA sx x1 x2 _ hw) (cw_M_185 hC) d_M_symbol_58 [.int (40 : Int32), .ref (a_M 17)] [] [0, 1, 2, 3, 4, 5, 6, 7, 8, 9, 10, 11, 12, 13, 14, 15, 16, 17, 18, 19, 20, 21, 22, 23] [0, 1, 2, 3, 4, 5, 6, 7, 8, 9, 10, 11, 12, 13, 14, 15, 16, 17, 18, 19, 20, 21, 22, 23] (fun u_6 : Unit => kc_M cA a_M (va_up I_M 0 (0 : Int32)) A_M) ⟨Nat.zero_le _, Nat.zero_le _⟩ rfl rfl (fun _ => rfl) rfl rfl rfl rfl rfl rfl (Nat.le_of_ble_eq_true rfl) (fun r_5 u_6 hw => ?_)
              refine vv_imul hC d_M_symbol_61 ?_
              refine vv_iload_n hC d_M_symbol_62 3 rfl rfl ?_
              refine vv_iadd hC d_M_symbol_63 ?_
              obtain ⟨hin_7, hw⟩ := hw
              refine vv_bald hC 17 2 d_M_symbol_64 rfl rfl hin_7 ?_
              refine vv_sipush hC d_M_symbol_65 (v := (255 : Int32)) (by decide) ?_
              refine vv_iand hC d_M_symbol_68 ?_
              exact vv_iret hC d_M_symbol_69 (va_up I_M 0 (0 : Int32)) hw rfl
            · have hw := hw.2 cd
              refine vv_iconst hC d_M_symbol_48 (v := (-1 : Int32)) (by decide) ?_
              exact vv_iret hC d_M_symbol_49 (va_up I_M 0 (0 : Int32)) hw rfl
set_option maxHeartbeats 4000000 in
set_option maxRecDepth 100000 in
theorem c_M_lay (l : Launch) (D : va_G) (cA : Nat → ClassId) (sx : Nat → Nat) (a_M : Nat → Nat) (I_M : (Nat → Int32)) (A_M : (Nat → Nat → Int32)) (x1 : Int32) (Q : (Nat → Int32) → (Nat → Nat → Int32) → Prop) (hw : wp_M_lay I_M A_M x1 Q) : MetV l y_M_lay (Cond.code y_M_lay b_M_lay 2 none :: TB) ({ frames := 0, cells := 0, slots := 0, locals := 0 } : Room) D vwCl (tyl cA) (SPl sx) [.ref (a_M 0), .int x1] (kc_M cA a_M I_M A_M) (fun (u : (Nat → Int32) × (Nat → Nat → Int32)) => Q u.1 u.2) (fun u : (Nat → Int32) × (Nat → Nat → Int32) => kc_M cA a_M u.1 u.2) := by
  refine vv_entryV (cc := b_M_lay) (own := R_M) (L := [(0, .ref (a_M 0)), (1, .int x1)]) (by decide) rfl rfl (Nat.le_of_ble_eq_true rfl) rfl (fun p e s m args below meth c A hC => ?_)
  unfold wp_M_lay at hw
  refine vv_aload_n hC d_M_lay_0 0 rfl rfl ?_
  refine vv_get hC (v := .ref (a_M 23)) hin_M 0 32 tb_704 d_M_lay_1 rfl rfl (by decide) rfl rfl ?_
  refine vv_aload_n hC d_M_lay_4 0 rfl rfl ?_
  refine vv_get hC (v := .int (I_M 10)) hin_M 0 33 tb_705 d_M_lay_5 rfl rfl (by decide) rfl rfl ?_
  refine vv_iload_n hC d_M_lay_8 1 rfl rfl ?_
  refine vv_i2b hC d_M_lay_9 ?_
  obtain ⟨hin_1, hw⟩ := hw
  refine vv_bast hC 23 2 d_M_lay_10 rfl rfl hin_1 (ws2 := kc_M cA a_M I_M (va_up A_M 22 (upd (A_M 22) ((I_M 10)).toNatClampNeg (vp_nar .byte (x1).toInt8.toInt32)))) (st_M_MA22 ..) ?_
  refine vv_aload_n hC d_M_lay_11 0 rfl rfl ?_
  refine vv_dup hC d_M_lay_12 rfl ?_
  refine vv_get hC (v := .int (I_M 10)) hin_M 0 33 tb_705 d_M_lay_13 rfl rfl (by decide) rfl rfl ?_
  refine vv_iconst hC d_M_lay_16 (v := (1 : Int32)) (by decide) ?_
  refine vv_iadd hC d_M_lay_17 ?_
  refine vv_put hC hin_M ty_M tyok_M nmok_M 0 33 tb_705 d_M_lay_18 rfl rfl (by decide) rfl rfl rfl rfl rfl (Nat.le_of_ble_eq_true rfl) (ws2 := kc_M cA a_M (va_up I_M 10 ((I_M 10) + (1 : Int32))) (va_up A_M 22 (upd (A_M 22) ((I_M 10)).toNatClampNeg (vp_nar .byte (x1).toInt8.toInt32)))) (st_M_MI10 ..) ?_
  exact vv_vret hC d_M_lay_21 ((va_up I_M 10 ((I_M 10) + (1 : Int32))), (va_up A_M 22 (upd (A_M 22) ((I_M 10)).toNatClampNeg (vp_nar .byte (x1).toInt8.toInt32)))) hw rfl
set_option maxHeartbeats 4000000 in
set_option maxRecDepth 100000 in
theorem l_M_layNumber_L2 {p : Program} {l : Launch} {e : Env} {s : State} {m : MethodId} {args : Array Value} {below : List Frame} {meth : Method} {c : Code} {D : va_G} {cA : Nat → ClassId} {sx : Nat → Nat} {A : Nat → Prop} (a_M : Nat → Nat) (Q : (Nat → Int32) → (Nat → Nat → Int32) → Prop) (X2 : (Nat → Int32) → (Nat → Nat → Int32) → Int32 → Int32 → Int32 → Prop) (hC : CX p s m args meth c b_M_layNumber R_M TB 4 D vwCl (tyl cA) A (SPl sx) none) (hX2 : ∀ (I_M : (Nat → Int32)) (A_M : (Nat → Nat → Int32)) (v1 : Int32) (v2 : Int32) (v3 : Int32), X2 I_M A_M v1 v2 v3 → VV p l e ({ frames := 1, cells := 0, slots := 0, locals := 21 } : Room) s m args below meth c 4 D vwCl A 0 0 (QV below args s D vwCl (tyl cA) A (fun (u : (Nat → Int32) × (Nat → Nat → Int32)) => Q u.1 u.2) (fun u : (Nat → Int32) × (Nat → Nat → Int32) => kc_M cA a_M u.1 u.2)) (kc_M cA a_M I_M A_M) 18 [(0, .ref (a_M 0)), (1, .int v1), (2, .int v2), (3, .int v3)] []) : ∀ (n2 : Nat) (I_M : (Nat → Int32)) (A_M : (Nat → Nat → Int32)) (v1 : Int32) (v2 : Int32) (v3 : Int32), wp_M_layNumber_L2 Q X2 n2 I_M A_M v1 v2 v3 → VV p l e ({ frames := 1, cells := 0, slots := 0, locals := 21 } : Room) s m args below meth c 4 D vwCl A 0 0 (QV below args s D vwCl (tyl cA) A (fun (u : (Nat → Int32) × (Nat → Nat → Int32)) => Q u.1 u.2) (fun u : (Nat → Int32) × (Nat → Nat → Int32) => kc_M cA a_M u.1 u.2)) (kc_M cA a_M I_M A_M) 2 [(0, .ref (a_M 0)), (1, .int v1), (2, .int v2), (3, .int v3)] [] := by
  intro n2
  induction n2 with
  | zero =>
    intro I_M A_M v1 v2 v3 hw
    exact absurd hw (fun z => z)
  | succ n2 ih =>
    intro I_M A_M v1 v2 v3 hw
    unfold wp_M_layNumber_L2 at hw
    refine vv_iload_n hC d_M_layNumber_2 1 rfl rfl ?_
    refine vv_iload_n hC d_M_layNumber_3 3 rfl rfl ?_
    obtain ⟨hne_1, hw⟩ := hw
    refine vv_idiv hC d_M_layNumber_4 hne_1 ?_
    refine vv_bipush hC d_M_layNumber_5 (v := (9 : Int32)) (by decide) ?_
    refine vv_icmp_le hC 18 d_M_layNumber_7 (by decide) (fun cd => ?_) (fun cd => ?_)
    · have hw := hw.1 cd
      exact vv_sub [0, 1, 2, 3] (by rfl) (hX2 I_M A_M v1 v2 v3 hw)
    · have hw := hw.2 cd
      refine vv_bipush hC d_M_layNumber_10 (v := (10 : Int32)) (by decide) ?_
      refine vv_iload_n hC d_M_layNumber_12 3 rfl rfl ?_
      refine vv_imul hC d_M_layNumber_13 ?_
      refine vv_istore_n hC d_M_layNumber_14 rfl (by decide) [1, 2, 3, 0] (L2 := [(0, .ref (a_M 0)), (1, .int v1), (2, .int v2), (3, .int ((10 : Int32) * v3))]) rfl ?_
      refine vv_goto hC 2 d_M_layNumber_15 (by decide) ?_
      exact vv_sub [0, 1, 2, 3] (by rfl) (ih I_M A_M v1 v2 ((10 : Int32) * v3) hw)
set_option maxHeartbeats 4000000 in
set_option maxRecDepth 100000 in
theorem l_M_layNumber_L18 {p : Program} {l : Launch} {e : Env} {s : State} {m : MethodId} {args : Array Value} {below : List Frame} {meth : Method} {c : Code} {D : va_G} {cA : Nat → ClassId} {sx : Nat → Nat} {A : Nat → Prop} (a_M : Nat → Nat) (Q : (Nat → Int32) → (Nat → Nat → Int32) → Prop) (X18 : (Nat → Int32) → (Nat → Nat → Int32) → Int32 → Prop) (hC : CX p s m args meth c b_M_layNumber R_M TB 4 D vwCl (tyl cA) A (SPl sx) none) (hX18 : ∀ (I_M : (Nat → Int32)) (A_M : (Nat → Nat → Int32)) (v2 : Int32), X18 I_M A_M v2 → VV p l e ({ frames := 1, cells := 0, slots := 0, locals := 21 } : Room) s m args below meth c 4 D vwCl A 0 0 (QV below args s D vwCl (tyl cA) A (fun (u : (Nat → Int32) × (Nat → Nat → Int32)) => Q u.1 u.2) (fun u : (Nat → Int32) × (Nat → Nat → Int32) => kc_M cA a_M u.1 u.2)) (kc_M cA a_M I_M A_M) 43 [(0, .ref (a_M 0)), (2, .int v2)] []) : ∀ (n18 : Nat) (I_M : (Nat → Int32)) (A_M : (Nat → Nat → Int32)) (v1 : Int32) (v2 : Int32) (v3 : Int32), wp_M_layNumber_L18 Q X18 n18 I_M A_M v1 v2 v3 → VV p l e ({ frames := 1, cells := 0, slots := 0, locals := 21 } : Room) s m args below meth c 4 D vwCl A 0 0 (QV below args s D vwCl (tyl cA) A (fun (u : (Nat → Int32) × (Nat → Nat → Int32)) => Q u.1 u.2) (fun u : (Nat → Int32) × (Nat → Nat → Int32) => kc_M cA a_M u.1 u.2)) (kc_M cA a_M I_M A_M) 18 [(0, .ref (a_M 0)), (1, .int v1), (2, .int v2), (3, .int v3)] [] := by
  intro n18
  induction n18 with
  | zero =>
    intro I_M A_M v1 v2 v3 hw
    exact absurd hw (fun z => z)
  | succ n18 ih =>
    intro I_M A_M v1 v2 v3 hw
    unfold wp_M_layNumber_L18 at hw
    refine vv_iload_n hC d_M_layNumber_18 3 rfl rfl ?_
    refine vv_if_le hC 43 d_M_layNumber_19 (by decide) (fun cd => ?_) (fun cd => ?_)
    · have hw := hw.1 cd
      exact vv_sub [0, 2] (by rfl) (hX18 I_M A_M v2 hw)
    · have hw := hw.2 cd
      refine vv_aload_n hC d_M_layNumber_22 0 rfl rfl ?_
      refine vv_bipush hC d_M_layNumber_23 (v := (48 : Int32)) (by decide) ?_
      refine vv_iload_n hC d_M_layNumber_25 1 rfl rfl ?_
      refine vv_iload_n hC d_M_layNumber_26 3 rfl rfl ?_
      obtain ⟨hne_7, hw⟩ := hw
      refine vv_idiv hC d_M_layNumber_27 hne_7 ?_
      refine vv_bipush hC d_M_layNumber_28 (v := (10 : Int32)) (by decide) ?_
      refine vv_irem hC d_M_layNumber_30 (by decide) ?_
      refine vv_iadd hC d_M_layNumber_31 ?_
      refine vv_callVV (wr := []) hC (c_M_lay l D cA sx a_M I_M A_M ((48 : Int32) + ((v1 / v3) - (v1 / v3) / (10 : Int32) * (10 : Int32))) _ hw) (cw_M_191 hC) d_M_layNumber_32 [] [0, 1, 2, 3, 4, 5, 6, 7, 8, 9, 10, 11, 12, 13, 14, 15, 16, 17, 18, 19, 20, 21, 22, 23] [] [0, 1, 2, 3, 4, 5, 6, 7, 8, 9, 10, 11, 12, 13, 14, 15, 16, 17, 18, 19, 20, 21, 22, 23] (fun u_8 : (Nat → Int32) × (Nat → Nat → Int32) => kc_M cA a_M u_8.1 u_8.2) ⟨Nat.zero_le _, Nat.zero_le _⟩ rfl rfl (fun _ => rfl) rfl rfl rfl rfl rfl rfl rfl rfl (Nat.le_of_ble_eq_true rfl) (fun u_8 hw => ?_)
      refine vv_iload_n hC d_M_layNumber_35 3 rfl rfl ?_
      refine vv_bipush hC d_M_layNumber_36 (v := (10 : Int32)) (by decide) ?_
      refine vv_idiv hC d_M_layNumber_38 (by decide) ?_
      refine vv_istore_n hC d_M_layNumber_39 rfl (by decide) [1, 2, 3, 0] (L2 := [(0, .ref (a_M 0)), (1, .int v1), (2, .int v2), (3, .int (v3 / (10 : Int32)))]) rfl ?_
      refine vv_goto hC 18 d_M_layNumber_40 (by decide) ?_
      exact vv_sub [0, 1, 2, 3] (by rfl) (ih u_8.1 u_8.2 v1 v2 (v3 / (10 : Int32)) hw)
set_option maxHeartbeats 4000000 in
set_option maxRecDepth 100000 in
theorem c_M_layNumber (l : Launch) (D : va_G) (cA : Nat → ClassId) (sx : Nat → Nat) (a_M : Nat → Nat) (I_M : (Nat → Int32)) (A_M : (Nat → Nat → Int32)) (x1 x2 : Int32) (Q : (Nat → Int32) → (Nat → Nat → Int32) → Prop) (hw : wp_M_layNumber I_M A_M x1 x2 Q) : MetV l y_M_layNumber (Cond.code y_M_layNumber b_M_layNumber 4 none :: TB) ({ frames := 1, cells := 0, slots := 0, locals := 21 } : Room) D vwCl (tyl cA) (SPl sx) [.ref (a_M 0), .int x1, .int x2] (kc_M cA a_M I_M A_M) (fun (u : (Nat → Int32) × (Nat → Nat → Int32)) => Q u.1 u.2) (fun u : (Nat → Int32) × (Nat → Nat → Int32) => kc_M cA a_M u.1 u.2) := by
  refine vv_entryV (cc := b_M_layNumber) (own := R_M) (L := [(0, .ref (a_M 0)), (1, .int x1), (2, .int x2)]) (by decide) rfl rfl (Nat.le_of_ble_eq_true rfl) rfl (fun p e s m args below meth c A hC => ?_)
  unfold wp_M_layNumber at hw
  refine vv_iconst hC d_M_layNumber_0 (v := (1 : Int32)) (by decide) ?_
  refine vv_istore_n hC d_M_layNumber_1 rfl (by decide) [1, 2, 3, 0] (L2 := [(0, .ref (a_M 0)), (1, .int x1), (2, .int x2), (3, .int (1 : Int32))]) rfl ?_
  obtain ⟨m2, hw⟩ := hw
  refine vv_sub [0, 1, 2, 3] (by rfl) (l_M_layNumber_L2 a_M Q _ hC (fun I_M_2 A_M_3 v1_4 v2_5 v3_6 hw => ?_) m2 I_M A_M x1 x2 (1 : Int32) hw)
  obtain ⟨m18, hw⟩ := hw
  refine vv_sub [0, 1, 2, 3] (by rfl) (l_M_layNumber_L18 a_M Q _ hC (fun I_M_11 A_M_12 v2_13 hw => ?_) m18 I_M_2 A_M_3 v1_4 v2_5 v3_6 hw)
  refine vv_aload_n hC d_M_layNumber_43 0 rfl rfl ?_
  refine vv_iload_n hC d_M_layNumber_44 1 rfl rfl ?_
  refine vv_callVV (wr := []) hC (c_M_lay l D cA sx a_M I_M_11 A_M_12 v2_13 _ hw) (cw_M_191 hC) d_M_layNumber_45 [] [0, 1, 2, 3, 4, 5, 6, 7, 8, 9, 10, 11, 12, 13, 14, 15, 16, 17, 18, 19, 20, 21, 22, 23] [] [0, 1, 2, 3, 4, 5, 6, 7, 8, 9, 10, 11, 12, 13, 14, 15, 16, 17, 18, 19, 20, 21, 22, 23] (fun u_14 : (Nat → Int32) × (Nat → Nat → Int32) => kc_M cA a_M u_14.1 u_14.2) ⟨Nat.zero_le _, Nat.zero_le _⟩ rfl rfl (fun _ => rfl) rfl rfl rfl rfl rfl rfl rfl rfl (Nat.le_of_ble_eq_true rfl) (fun u_14 hw => ?_)
  exact vv_vret hC d_M_layNumber_48 (u_14.1, u_14.2) hw rfl
set_option maxHeartbeats 4000000 in
set_option maxRecDepth 100000 in
theorem l_M_layDelta_L2 {p : Program} {l : Launch} {e : Env} {s : State} {m : MethodId} {args : Array Value} {below : List Frame} {meth : Method} {c : Code} {D : va_G} {cA : Nat → ClassId} {sx : Nat → Nat} {A : Nat → Prop} (a_M : Nat → Nat) (Q : (Nat → Int32) → (Nat → Nat → Int32) → Prop) (X2 : (Nat → Int32) → (Nat → Nat → Int32) → Int32 → Prop) (hC : CX p s m args meth c b_M_layDelta R_M TB 3 D vwCl (tyl cA) A (SPl sx) none) (hX2 : ∀ (I_M : (Nat → Int32)) (A_M : (Nat → Nat → Int32)) (v2 : Int32), X2 I_M A_M v2 → VV p l e ({ frames := 1, cells := 0, slots := 0, locals := 21 } : Room) s m args below meth c 3 D vwCl A 0 0 (QV below args s D vwCl (tyl cA) A (fun (u : (Nat → Int32) × (Nat → Nat → Int32)) => Q u.1 u.2) (fun u : (Nat → Int32) × (Nat → Nat → Int32) => kc_M cA a_M u.1 u.2)) (kc_M cA a_M I_M A_M) 30 [(0, .ref (a_M 0)), (2, .int v2)] []) : ∀ (n2 : Nat) (I_M : (Nat → Int32)) (A_M : (Nat → Nat → Int32)) (v2 : Int32), wp_M_layDelta_L2 Q X2 n2 I_M A_M v2 → VV p l e ({ frames := 1, cells := 0, slots := 0, locals := 21 } : Room) s m args below meth c 3 D vwCl A 0 0 (QV below args s D vwCl (tyl cA) A (fun (u : (Nat → Int32) × (Nat → Nat → Int32)) => Q u.1 u.2) (fun u : (Nat → Int32) × (Nat → Nat → Int32) => kc_M cA a_M u.1 u.2)) (kc_M cA a_M I_M A_M) 2 [(0, .ref (a_M 0)), (2, .int v2)] [] := by
  intro n2
  induction n2 with
  | zero =>
    intro I_M A_M v2 hw
    exact absurd hw (fun z => z)
  | succ n2 ih =>
    intro I_M A_M v2 hw
    unfold wp_M_layDelta_L2 at hw
    refine vv_iload_n hC d_M_layDelta_2 1 rfl rfl ?_
    refine vv_bipush hC d_M_layDelta_3 (v := (127 : Int32)) (by decide) ?_
    refine vv_icmp_le hC 30 d_M_layDelta_5 (by decide) (fun cd => ?_) (fun cd => ?_)
    · have hw := hw.1 cd
      exact vv_sub [0, 1] (by rfl) (hX2 I_M A_M v2 hw)
    · have hw := hw.2 cd
      refine vv_aload_n hC d_M_layDelta_8 0 rfl rfl ?_
      refine vv_iload_n hC d_M_layDelta_9 1 rfl rfl ?_
      refine vv_sipush hC d_M_layDelta_10 (v := (128 : Int32)) (by decide) ?_
      refine vv_irem hC d_M_layDelta_13 (by decide) ?_
      refine vv_sipush hC d_M_layDelta_14 (v := (128 : Int32)) (by decide) ?_
      refine vv_iadd hC d_M_layDelta_17 ?_
      refine vv_callVV (wr := []) hC (c_M_lay l D cA sx a_M I_M A_M ((v2 - v2 / (128 : Int32) * (128 : Int32)) + (128 : Int32)) _ hw) (cw_M_191 hC) d_M_layDelta_18 [] [0, 1, 2, 3, 4, 5, 6, 7, 8, 9, 10, 11, 12, 13, 14, 15, 16, 17, 18, 19, 20, 21, 22, 23] [] [0, 1, 2, 3, 4, 5, 6, 7, 8, 9, 10, 11, 12, 13, 14, 15, 16, 17, 18, 19, 20, 21, 22, 23] (fun u_1 : (Nat → Int32) × (Nat → Nat → Int32) => kc_M cA a_M u_1.1 u_1.2) ⟨Nat.zero_le _, Nat.zero_le _⟩ rfl rfl (fun _ => rfl) rfl rfl rfl rfl rfl rfl rfl rfl (Nat.le_of_ble_eq_true rfl) (fun u_1 hw => ?_)
      refine vv_iload_n hC d_M_layDelta_21 1 rfl rfl ?_
      refine vv_sipush hC d_M_layDelta_22 (v := (128 : Int32)) (by decide) ?_
      refine vv_idiv hC d_M_layDelta_25 (by decide) ?_
      refine vv_istore_n hC d_M_layDelta_26 rfl (by decide) [1, 0] (L2 := [(0, .ref (a_M 0)), (2, .int (v2 / (128 : Int32)))]) rfl ?_
      refine vv_goto hC 2 d_M_layDelta_27 (by decide) ?_
      exact vv_sub [0, 1] (by rfl) (ih u_1.1 u_1.2 (v2 / (128 : Int32)) hw)
set_option maxHeartbeats 4000000 in
set_option maxRecDepth 100000 in
theorem c_M_layDelta (l : Launch) (D : va_G) (cA : Nat → ClassId) (sx : Nat → Nat) (a_M : Nat → Nat) (I_M : (Nat → Int32)) (A_M : (Nat → Nat → Int32)) (x1 : Int32) (Q : (Nat → Int32) → (Nat → Nat → Int32) → Prop) (hw : wp_M_layDelta I_M A_M x1 Q) : MetV l y_M_layDelta (Cond.code y_M_layDelta b_M_layDelta 3 none :: TB) ({ frames := 1, cells := 0, slots := 0, locals := 21 } : Room) D vwCl (tyl cA) (SPl sx) [.ref (a_M 0), .int x1] (kc_M cA a_M I_M A_M) (fun (u : (Nat → Int32) × (Nat → Nat → Int32)) => Q u.1 u.2) (fun u : (Nat → Int32) × (Nat → Nat → Int32) => kc_M cA a_M u.1 u.2) := by
  refine vv_entryV (cc := b_M_layDelta) (own := R_M) (L := [(0, .ref (a_M 0)), (1, .int x1)]) (by decide) rfl rfl (Nat.le_of_ble_eq_true rfl) rfl (fun p e s m args below meth c A hC => ?_)
  unfold wp_M_layDelta at hw
  refine vv_iload_n hC d_M_layDelta_0 1 rfl rfl ?_
  refine vv_istore_n hC d_M_layDelta_1 rfl (by decide) [1, 2, 0] (L2 := [(0, .ref (a_M 0)), (1, .int x1), (2, .int x1)]) rfl ?_
  obtain ⟨m2, hw⟩ := hw
  refine vv_sub [0, 2] (by rfl) (l_M_layDelta_L2 a_M Q _ hC (fun I_M_4 A_M_5 v2_6 hw => ?_) m2 I_M A_M x1 hw)
  refine vv_aload_n hC d_M_layDelta_30 0 rfl rfl ?_
  refine vv_iload_n hC d_M_layDelta_31 1 rfl rfl ?_
  refine vv_callVV (wr := []) hC (c_M_lay l D cA sx a_M I_M_4 A_M_5 v2_6 _ hw) (cw_M_191 hC) d_M_layDelta_32 [] [0, 1, 2, 3, 4, 5, 6, 7, 8, 9, 10, 11, 12, 13, 14, 15, 16, 17, 18, 19, 20, 21, 22, 23] [] [0, 1, 2, 3, 4, 5, 6, 7, 8, 9, 10, 11, 12, 13, 14, 15, 16, 17, 18, 19, 20, 21, 22, 23] (fun u_7 : (Nat → Int32) × (Nat → Nat → Int32) => kc_M cA a_M u_7.1 u_7.2) ⟨Nat.zero_le _, Nat.zero_le _⟩ rfl rfl (fun _ => rfl) rfl rfl rfl rfl rfl rfl rfl rfl (Nat.le_of_ble_eq_true rfl) (fun u_7 hw => ?_)
  exact vv_vret hC d_M_layDelta_35 (u_7.1, u_7.2) hw rfl
set_option maxHeartbeats 4000000 in
set_option maxRecDepth 100000 in
theorem c_M_renamed (l : Launch) (D : va_G) (cA : Nat → ClassId) (sx : Nat → Nat) (a_M : Nat → Nat) (I_M : (Nat → Int32)) (A_M : (Nat → Nat → Int32)) (x1 : Int32) (Q : Int32 → Prop) (hw : wp_M_renamed A_M x1 Q) : MetI l y_M_renamed (Cond.code y_M_renamed b_M_renamed 2 (some .int) :: TB) ({ frames := 0, cells := 0, slots := 0, locals := 0 } : Room) D vwCl (tyl cA) (SPl sx) [.ref (a_M 0), .int x1] (kc_M cA a_M I_M A_M) (fun (r : Int32) (u : Unit) => Q r) (fun u : Unit => kc_M cA a_M I_M A_M) := by
  refine vv_entryI (cc := b_M_renamed) (own := R_M) (L := [(0, .ref (a_M 0)), (1, .int x1)]) (by decide) rfl rfl (Nat.le_of_ble_eq_true rfl) rfl (fun p e s m args below meth c A hC => ?_)
  unfold wp_M_renamed at hw
  refine vv_iload_n hC d_M_renamed_0 1 rfl rfl ?_
  refine vv_iconst hC d_M_renamed_1 (v := (2 : Int32)) (by decide) ?_
  refine vv_icmp_ge hC 9 d_M_renamed_2 (by decide) (fun cd => ?_) (fun cd => ?_)
  · have hw := hw.1 cd
    refine vv_iconst hC d_M_renamed_9 (v := (2 : Int32)) (by decide) ?_
    refine vv_aload_n hC d_M_renamed_10 0 rfl rfl ?_
    refine vv_get hC (v := .ref (a_M 20)) hin_M 0 27 tb_699 d_M_renamed_11 rfl rfl (by decide) rfl rfl ?_
    refine vv_iload_n hC d_M_renamed_14 1 rfl rfl ?_
    refine vv_iconst hC d_M_renamed_15 (v := (2 : Int32)) (by decide) ?_
    refine vv_idiv hC d_M_renamed_16 (by decide) ?_
    obtain ⟨hin_1, hw⟩ := hw
    refine vv_iald hC 20 0 d_M_renamed_17 rfl rfl hin_1 ?_
    refine vv_imul hC d_M_renamed_18 ?_
    refine vv_iload_n hC d_M_renamed_19 1 rfl rfl ?_
    refine vv_iconst hC d_M_renamed_20 (v := (2 : Int32)) (by decide) ?_
    refine vv_irem hC d_M_renamed_21 (by decide) ?_
    refine vv_iadd hC d_M_renamed_22 ?_
    exact vv_iret hC d_M_renamed_23 () hw rfl
  · have hw := hw.2 cd
    refine vv_iload_n hC d_M_renamed_5 1 rfl rfl ?_
    refine vv_goto hC 23 d_M_renamed_6 (by decide) ?_
    exact vv_iret hC d_M_renamed_23 () hw rfl
set_option maxHeartbeats 4000000 in
set_option maxRecDepth 100000 in
theorem l_M_layHead_L79 {p : Program} {l : Launch} {e : Env} {s : State} {m : MethodId} {args : Array Value} {below : List Frame} {meth : Method} {c : Code} {D : va_G} {cA : Nat → ClassId} {sx : Nat → Nat} {A : Nat → Prop} (a_M : Nat → Nat) (Q : (Nat → Int32) → (Nat → Nat → Int32) → Prop) (X79 : (Nat → Int32) → (Nat → Nat → Int32) → Prop) (hC : CX p s m args meth c b_M_layHead R_M TB 3 D vwCl (tyl cA) A (SPl sx) none) (hX79 : ∀ (I_M : (Nat → Int32)) (A_M : (Nat → Nat → Int32)), X79 I_M A_M → VV p l e ({ frames := 2, cells := 0, slots := 0, locals := 44 } : Room) s m args below meth c 3 D vwCl A 0 0 (QV below args s D vwCl (tyl cA) A (fun (u : (Nat → Int32) × (Nat → Nat → Int32)) => Q u.1 u.2) (fun u : (Nat → Int32) × (Nat → Nat → Int32) => kc_M cA a_M u.1 u.2)) (kc_M cA a_M I_M A_M) 112 [] []) : ∀ (n79 : Nat) (I_M : (Nat → Int32)) (A_M : (Nat → Nat → Int32)) (v2 : Int32), wp_M_layHead_L79 Q X79 n79 I_M A_M v2 → VV p l e ({ frames := 2, cells := 0, slots := 0, locals := 44 } : Room) s m args below meth c 3 D vwCl A 0 0 (QV below args s D vwCl (tyl cA) A (fun (u : (Nat → Int32) × (Nat → Nat → Int32)) => Q u.1 u.2) (fun u : (Nat → Int32) × (Nat → Nat → Int32) => kc_M cA a_M u.1 u.2)) (kc_M cA a_M I_M A_M) 79 [(0, .ref (a_M 0)), (2, .int v2)] [] := by
  intro n79
  induction n79 with
  | zero =>
    intro I_M A_M v2 hw
    exact absurd hw (fun z => z)
  | succ n79 ih =>
    intro I_M A_M v2 hw
    unfold wp_M_layHead_L79 at hw
    refine vv_iload_n hC d_M_layHead_79 1 rfl rfl ?_
    refine vv_iconst hC d_M_layHead_80 (v := (5 : Int32)) (by decide) ?_
    refine vv_icmp_ge hC 112 d_M_layHead_81 (by decide) (fun cd => ?_) (fun cd => ?_)
    · have hw := hw.1 cd
      exact vv_sub [] (by rfl) (hX79 I_M A_M hw)
    · have hw := hw.2 cd
      refine vv_aload_n hC d_M_layHead_84 0 rfl rfl ?_
      refine vv_aload_n hC d_M_layHead_85 0 rfl rfl ?_
      refine vv_get hC (v := .ref (a_M 3)) hin_M 0 10 tb_682 d_M_layHead_86 rfl rfl (by decide) rfl rfl ?_
      refine vv_iload_n hC d_M_layHead_89 1 rfl rfl ?_
      obtain ⟨hin_16, hw⟩ := hw
      refine vv_iald hC 3 0 d_M_layHead_90 rfl rfl hin_16 ?_
      refine vv_iload_n hC d_M_layHead_91 1 rfl rfl ?_
      refine vv_iconst hC d_M_layHead_92 (v := (4 : Int32)) (by decide) ?_
      refine vv_icmp_ge hC 101 d_M_layHead_93 (by decide) (fun cd => ?_) (fun cd => ?_)
      · have hw := hw.1 cd
        refine vv_bipush hC d_M_layHead_101 (v := (10 : Int32)) (by decide) ?_
        refine vv_callVV (wr := []) hC (c_M_layNumber l D cA sx a_M I_M A_M ((A_M 2) (v2).toNatClampNeg) (10 : Int32) _ hw) (cw_M_194 hC) d_M_layHead_103 [] [0, 1, 2, 3, 4, 5, 6, 7, 8, 9, 10, 11, 12, 13, 14, 15, 16, 17, 18, 19, 20, 21, 22, 23] [] [0, 1, 2, 3, 4, 5, 6, 7, 8, 9, 10, 11, 12, 13, 14, 15, 16, 17, 18, 19, 20, 21, 22, 23] (fun u_17 : (Nat → Int32) × (Nat → Nat → Int32) => kc_M cA a_M u_17.1 u_17.2) ⟨Nat.zero_le _, Nat.zero_le _⟩ rfl rfl (fun _ => rfl) rfl rfl rfl rfl rfl rfl rfl rfl (Nat.le_of_ble_eq_true rfl) (fun u_17 hw => ?_)
        refine vv_iinc hC d_M_layHead_106 1 rfl (v := (v2 + (1 : Int32))) rfl (by decide) [1, 0] (L2 := [(0, .ref (a_M 0)), (2, .int (v2 + (1 : Int32)))]) rfl ?_
        refine vv_goto hC 79 d_M_layHead_109 (by decide) ?_
        exact vv_sub [0, 1] (by rfl) (ih u_17.1 u_17.2 (v2 + (1 : Int32)) hw)
      · have hw := hw.2 cd
        refine vv_bipush hC d_M_layHead_96 (v := (32 : Int32)) (by decide) ?_
        refine vv_goto hC 103 d_M_layHead_98 (by decide) ?_
        refine vv_callVV (wr := []) hC (c_M_layNumber l D cA sx a_M I_M A_M ((A_M 2) (v2).toNatClampNeg) (32 : Int32) _ hw) (cw_M_194 hC) d_M_layHead_103 [] [0, 1, 2, 3, 4, 5, 6, 7, 8, 9, 10, 11, 12, 13, 14, 15, 16, 17, 18, 19, 20, 21, 22, 23] [] [0, 1, 2, 3, 4, 5, 6, 7, 8, 9, 10, 11, 12, 13, 14, 15, 16, 17, 18, 19, 20, 21, 22, 23] (fun u_20 : (Nat → Int32) × (Nat → Nat → Int32) => kc_M cA a_M u_20.1 u_20.2) ⟨Nat.zero_le _, Nat.zero_le _⟩ rfl rfl (fun _ => rfl) rfl rfl rfl rfl rfl rfl rfl rfl (Nat.le_of_ble_eq_true rfl) (fun u_20 hw => ?_)
        refine vv_iinc hC d_M_layHead_106 1 rfl (v := (v2 + (1 : Int32))) rfl (by decide) [1, 0] (L2 := [(0, .ref (a_M 0)), (2, .int (v2 + (1 : Int32)))]) rfl ?_
        refine vv_goto hC 79 d_M_layHead_109 (by decide) ?_
        exact vv_sub [0, 1] (by rfl) (ih u_20.1 u_20.2 (v2 + (1 : Int32)) hw)
set_option maxHeartbeats 4000000 in
set_option maxRecDepth 100000 in
theorem l_M_layHead_b26 {p : Program} {l : Launch} {e : Env} {s : State} {m : MethodId} {args : Array Value} {below : List Frame} {meth : Method} {c : Code} {D : va_G} {cA : Nat → ClassId} {sx : Nat → Nat} {A : Nat → Prop} (a_M : Nat → Nat) (Q : (Nat → Int32) → (Nat → Nat → Int32) → Prop) (hC : CX p s m args meth c b_M_layHead R_M TB 3 D vwCl (tyl cA) A (SPl sx) none) : ∀ (I_M : (Nat → Int32)) (A_M : (Nat → Nat → Int32)) (v1 : Int32), wp_M_layHead_b26 Q I_M A_M v1 → VV p l e ({ frames := 2, cells := 0, slots := 0, locals := 44 } : Room) s m args below meth c 3 D vwCl A 0 0 (QV below args s D vwCl (tyl cA) A (fun (u : (Nat → Int32) × (Nat → Nat → Int32)) => Q u.1 u.2) (fun u : (Nat → Int32) × (Nat → Nat → Int32) => kc_M cA a_M u.1 u.2)) (kc_M cA a_M I_M A_M) 26 [(0, .ref (a_M 0)), (1, .int v1)] [] := by
  intro I_M A_M v1 hw
  unfold wp_M_layHead_b26 at hw
  refine vv_aload_n hC d_M_layHead_26 0 rfl rfl ?_
  refine vv_bipush hC d_M_layHead_27 (v := (103 : Int32)) (by decide) ?_
  refine vv_callVV (wr := []) hC (c_M_lay l D cA sx a_M I_M A_M (103 : Int32) _ hw) (cw_M_191 hC) d_M_layHead_29 [] [0, 1, 2, 3, 4, 5, 6, 7, 8, 9, 10, 11, 12, 13, 14, 15, 16, 17, 18, 19, 20, 21, 22, 23] [] [0, 1, 2, 3, 4, 5, 6, 7, 8, 9, 10, 11, 12, 13, 14, 15, 16, 17, 18, 19, 20, 21, 22, 23] (fun u_7 : (Nat → Int32) × (Nat → Nat → Int32) => kc_M cA a_M u_7.1 u_7.2) ⟨Nat.zero_le _, Nat.zero_le _⟩ rfl rfl (fun _ => rfl) rfl rfl rfl rfl rfl rfl rfl rfl (Nat.le_of_ble_eq_true rfl) (fun u_7 hw => ?_)
  refine vv_aload_n hC d_M_layHead_32 0 rfl rfl ?_
  refine vv_bipush hC d_M_layHead_33 (v := (32 : Int32)) (by decide) ?_
  refine vv_callVV (wr := []) hC (c_M_lay l D cA sx a_M u_7.1 u_7.2 (32 : Int32) _ hw) (cw_M_191 hC) d_M_layHead_35 [] [0, 1, 2, 3, 4, 5, 6, 7, 8, 9, 10, 11, 12, 13, 14, 15, 16, 17, 18, 19, 20, 21, 22, 23] [] [0, 1, 2, 3, 4, 5, 6, 7, 8, 9, 10, 11, 12, 13, 14, 15, 16, 17, 18, 19, 20, 21, 22, 23] (fun u_10 : (Nat → Int32) × (Nat → Nat → Int32) => kc_M cA a_M u_10.1 u_10.2) ⟨Nat.zero_le _, Nat.zero_le _⟩ rfl rfl (fun _ => rfl) rfl rfl rfl rfl rfl rfl rfl rfl (Nat.le_of_ble_eq_true rfl) (fun u_10 hw => ?_)
  refine vv_aload_n hC d_M_layHead_38 0 rfl rfl ?_
  refine vv_iload_n hC d_M_layHead_39 1 rfl rfl ?_
  refine vv_if_eq hC 66 d_M_layHead_40 (by decide) (fun cd => ?_) (fun cd => ?_)
  · have hw := hw.1 cd
    refine vv_aload_n hC d_M_layHead_66 0 rfl rfl ?_
    refine vv_get hC (v := .ref (a_M 3)) hin_M 0 10 tb_682 d_M_layHead_67 rfl rfl (by decide) rfl rfl ?_
    refine vv_iconst hC d_M_layHead_70 (v := (0 : Int32)) (by decide) ?_
    refine vv_iald hC 3 0 d_M_layHead_71 rfl rfl (vin_c (by decide)) ?_
    refine vv_bipush hC d_M_layHead_72 (v := (32 : Int32)) (by decide) ?_
    refine vv_callVV (wr := []) hC (c_M_layNumber l D cA sx a_M u_10.1 u_10.2 ((u_10.2 2) ((0 : Int32)).toNatClampNeg) (32 : Int32) _ hw) (cw_M_194 hC) d_M_layHead_74 [] [0, 1, 2, 3, 4, 5, 6, 7, 8, 9, 10, 11, 12, 13, 14, 15, 16, 17, 18, 19, 20, 21, 22, 23] [] [0, 1, 2, 3, 4, 5, 6, 7, 8, 9, 10, 11, 12, 13, 14, 15, 16, 17, 18, 19, 20, 21, 22, 23] (fun u_13 : (Nat → Int32) × (Nat → Nat → Int32) => kc_M cA a_M u_13.1 u_13.2) ⟨Nat.zero_le _, Nat.zero_le _⟩ rfl rfl (fun _ => rfl) rfl rfl rfl rfl rfl rfl rfl rfl (Nat.le_of_ble_eq_true rfl) (fun u_13 hw => ?_)
    refine vv_iconst hC d_M_layHead_77 (v := (1 : Int32)) (by decide) ?_
    refine vv_istore_n hC d_M_layHead_78 rfl (by decide) [1, 2, 0] (L2 := [(0, .ref (a_M 0)), (1, .int v1), (2, .int (1 : Int32))]) rfl ?_
    obtain ⟨m79, hw⟩ := hw
    refine vv_sub [0, 2] (by rfl) (l_M_layHead_L79 a_M Q _ hC (fun I_M_23 A_M_24 hw => ?_) m79 u_13.1 u_13.2 (1 : Int32) hw)
    exact vv_vret hC d_M_layHead_112 (I_M_23, A_M_24) hw rfl
  · have hw := hw.2 cd
    refine vv_aload_n hC d_M_layHead_43 0 rfl rfl ?_
    refine vv_get hC (v := .ref (a_M 3)) hin_M 0 10 tb_682 d_M_layHead_44 rfl rfl (by decide) rfl rfl ?_
    refine vv_iconst hC d_M_layHead_47 (v := (1 : Int32)) (by decide) ?_
    refine vv_iald hC 3 0 d_M_layHead_48 rfl rfl (vin_c (by decide)) ?_
    refine vv_aload_n hC d_M_layHead_49 0 rfl rfl ?_
    refine vv_get hC (v := .ref (a_M 3)) hin_M 0 10 tb_682 d_M_layHead_50 rfl rfl (by decide) rfl rfl ?_
    refine vv_iconst hC d_M_layHead_53 (v := (2 : Int32)) (by decide) ?_
    refine vv_iald hC 3 0 d_M_layHead_54 rfl rfl (vin_c (by decide)) ?_
    refine vv_iadd hC d_M_layHead_55 ?_
    refine vv_aload_n hC d_M_layHead_56 0 rfl rfl ?_
    refine vv_get hC (v := .ref (a_M 3)) hin_M 0 10 tb_682 d_M_layHead_57 rfl rfl (by decide) rfl rfl ?_
    refine vv_iconst hC d_M_layHead_60 (v := (4 : Int32)) (by decide) ?_
    refine vv_iald hC 3 0 d_M_layHead_61 rfl rfl (vin_c (by decide)) ?_
    refine vv_iadd hC d_M_layHead_62 ?_
    refine vv_goto hC 72 d_M_layHead_63 (by decide) ?_
    refine vv_bipush hC d_M_layHead_72 (v := (32 : Int32)) (by decide) ?_
    refine vv_callVV (wr := []) hC (c_M_layNumber l D cA sx a_M u_10.1 u_10.2 ((((u_10.2 2) ((1 : Int32)).toNatClampNeg) + ((u_10.2 2) ((2 : Int32)).toNatClampNeg)) + ((u_10.2 2) ((4 : Int32)).toNatClampNeg)) (32 : Int32) _ hw) (cw_M_194 hC) d_M_layHead_74 [] [0, 1, 2, 3, 4, 5, 6, 7, 8, 9, 10, 11, 12, 13, 14, 15, 16, 17, 18, 19, 20, 21, 22, 23] [] [0, 1, 2, 3, 4, 5, 6, 7, 8, 9, 10, 11, 12, 13, 14, 15, 16, 17, 18, 19, 20, 21, 22, 23] (fun u_25 : (Nat → Int32) × (Nat → Nat → Int32) => kc_M cA a_M u_25.1 u_25.2) ⟨Nat.zero_le _, Nat.zero_le _⟩ rfl rfl (fun _ => rfl) rfl rfl rfl rfl rfl rfl rfl rfl (Nat.le_of_ble_eq_true rfl) (fun u_25 hw => ?_)
    refine vv_iconst hC d_M_layHead_77 (v := (1 : Int32)) (by decide) ?_
    refine vv_istore_n hC d_M_layHead_78 rfl (by decide) [1, 2, 0] (L2 := [(0, .ref (a_M 0)), (1, .int v1), (2, .int (1 : Int32))]) rfl ?_
    obtain ⟨m79, hw⟩ := hw
    refine vv_sub [0, 2] (by rfl) (l_M_layHead_L79 a_M Q _ hC (fun I_M_28 A_M_29 hw => ?_) m79 u_25.1 u_25.2 (1 : Int32) hw)
    exact vv_vret hC d_M_layHead_112 (I_M_28, A_M_29) hw rfl
set_option maxHeartbeats 4000000 in
set_option maxRecDepth 100000 in
theorem c_M_layHead (l : Launch) (D : va_G) (cA : Nat → ClassId) (sx : Nat → Nat) (a_M : Nat → Nat) (I_M : (Nat → Int32)) (A_M : (Nat → Nat → Int32)) (x1 : Int32) (Q : (Nat → Int32) → (Nat → Nat → Int32) → Prop) (hw : wp_M_layHead I_M A_M x1 Q) : MetV l y_M_layHead (Cond.code y_M_layHead b_M_layHead 3 none :: TB) ({ frames := 2, cells := 0, slots := 0, locals := 44 } : Room) D vwCl (tyl cA) (SPl sx) [.ref (a_M 0), .int x1] (kc_M cA a_M I_M A_M) (fun (u : (Nat → Int32) × (Nat → Nat → Int32)) => Q u.1 u.2) (fun u : (Nat → Int32) × (Nat → Nat → Int32) => kc_M cA a_M u.1 u.2) := by
  refine vv_entryV (cc := b_M_layHead) (own := R_M) (L := [(0, .ref (a_M 0)), (1, .int x1)]) (by decide) rfl rfl (Nat.le_of_ble_eq_true rfl) rfl (fun p e s m args below meth c A hC => ?_)
  unfold wp_M_layHead at hw
  refine vv_aload_n hC d_M_layHead_0 0 rfl rfl ?_
  refine vv_iconst hC d_M_layHead_1 (v := (0 : Int32)) (by decide) ?_
  refine vv_put hC hin_M ty_M tyok_M nmok_M 0 33 tb_705 d_M_layHead_2 rfl rfl (by decide) rfl rfl rfl rfl rfl (Nat.le_of_ble_eq_true rfl) (ws2 := kc_M cA a_M (va_up I_M 10 (0 : Int32)) A_M) (st_M_MI10 ..) ?_
  refine vv_aload_n hC d_M_layHead_5 0 rfl rfl ?_
  refine vv_bipush hC d_M_layHead_6 (v := (97 : Int32)) (by decide) ?_
  refine vv_callVV (wr := []) hC (c_M_lay l D cA sx a_M (va_up I_M 10 (0 : Int32)) A_M (97 : Int32) _ hw) (cw_M_191 hC) d_M_layHead_8 [] [0, 1, 2, 3, 4, 5, 6, 7, 8, 9, 10, 11, 12, 13, 14, 15, 16, 17, 18, 19, 20, 21, 22, 23] [] [0, 1, 2, 3, 4, 5, 6, 7, 8, 9, 10, 11, 12, 13, 14, 15, 16, 17, 18, 19, 20, 21, 22, 23] (fun u_1 : (Nat → Int32) × (Nat → Nat → Int32) => kc_M cA a_M u_1.1 u_1.2) ⟨Nat.zero_le _, Nat.zero_le _⟩ rfl rfl (fun _ => rfl) rfl rfl rfl rfl rfl rfl rfl rfl (Nat.le_of_ble_eq_true rfl) (fun u_1 hw => ?_)
  refine vv_aload_n hC d_M_layHead_11 0 rfl rfl ?_
  refine vv_iload_n hC d_M_layHead_12 1 rfl rfl ?_
  refine vv_if_eq hC 21 d_M_layHead_13 (by decide) (fun cd => ?_) (fun cd => ?_)
  · have hw := hw.1 cd
    refine vv_bipush hC d_M_layHead_21 (v := (97 : Int32)) (by decide) ?_
    refine vv_callVV (wr := []) hC (c_M_lay l D cA sx a_M u_1.1 u_1.2 (97 : Int32) _ hw) (cw_M_191 hC) d_M_layHead_23 [] [0, 1, 2, 3, 4, 5, 6, 7, 8, 9, 10, 11, 12, 13, 14, 15, 16, 17, 18, 19, 20, 21, 22, 23] [] [0, 1, 2, 3, 4, 5, 6, 7, 8, 9, 10, 11, 12, 13, 14, 15, 16, 17, 18, 19, 20, 21, 22, 23] (fun u_4 : (Nat → Int32) × (Nat → Nat → Int32) => kc_M cA a_M u_4.1 u_4.2) ⟨Nat.zero_le _, Nat.zero_le _⟩ rfl rfl (fun _ => rfl) rfl rfl rfl rfl rfl rfl rfl rfl (Nat.le_of_ble_eq_true rfl) (fun u_4 hw => ?_)
    exact vv_sub [0, 1] (by rfl) (l_M_layHead_b26 a_M Q hC u_4.1 u_4.2 x1 hw)
  · have hw := hw.2 cd
    refine vv_bipush hC d_M_layHead_16 (v := (105 : Int32)) (by decide) ?_
    refine vv_goto hC 23 d_M_layHead_18 (by decide) ?_
    refine vv_callVV (wr := []) hC (c_M_lay l D cA sx a_M u_1.1 u_1.2 (105 : Int32) _ hw) (cw_M_191 hC) d_M_layHead_23 [] [0, 1, 2, 3, 4, 5, 6, 7, 8, 9, 10, 11, 12, 13, 14, 15, 16, 17, 18, 19, 20, 21, 22, 23] [] [0, 1, 2, 3, 4, 5, 6, 7, 8, 9, 10, 11, 12, 13, 14, 15, 16, 17, 18, 19, 20, 21, 22, 23] (fun u_30 : (Nat → Int32) × (Nat → Nat → Int32) => kc_M cA a_M u_30.1 u_30.2) ⟨Nat.zero_le _, Nat.zero_le _⟩ rfl rfl (fun _ => rfl) rfl rfl rfl rfl rfl rfl rfl rfl (Nat.le_of_ble_eq_true rfl) (fun u_30 hw => ?_)
    exact vv_sub [0, 1] (by rfl) (l_M_layHead_b26 a_M Q hC u_30.1 u_30.2 x1 hw)
set_option maxHeartbeats 4000000 in
set_option maxRecDepth 100000 in
theorem l_M_layText_L2 {p : Program} {l : Launch} {e : Env} {s : State} {m : MethodId} {args : Array Value} {below : List Frame} {meth : Method} {c : Code} {D : va_G} {cA : Nat → ClassId} {sx : Nat → Nat} {A : Nat → Prop} (a_M : Nat → Nat) (Q : (Nat → Int32) → (Nat → Nat → Int32) → Prop) (X2 : (Nat → Int32) → (Nat → Nat → Int32) → Prop) (hC : CX p s m args meth c b_M_layText R_M TB 2 D vwCl (tyl cA) A (SPl sx) none) (hX2 : ∀ (I_M : (Nat → Int32)) (A_M : (Nat → Nat → Int32)), X2 I_M A_M → VV p l e ({ frames := 2, cells := 0, slots := 0, locals := 44 } : Room) s m args below meth c 2 D vwCl A 0 0 (QV below args s D vwCl (tyl cA) A (fun (u : (Nat → Int32) × (Nat → Nat → Int32)) => Q u.1 u.2) (fun u : (Nat → Int32) × (Nat → Nat → Int32) => kc_M cA a_M u.1 u.2)) (kc_M cA a_M I_M A_M) 30 [(0, .ref (a_M 0))] []) : ∀ (n2 : Nat) (I_M : (Nat → Int32)) (A_M : (Nat → Nat → Int32)) (v1 : Int32), wp_M_layText_L2 Q X2 n2 I_M A_M v1 → VV p l e ({ frames := 2, cells := 0, slots := 0, locals := 44 } : Room) s m args below meth c 2 D vwCl A 0 0 (QV below args s D vwCl (tyl cA) A (fun (u : (Nat → Int32) × (Nat → Nat → Int32)) => Q u.1 u.2) (fun u : (Nat → Int32) × (Nat → Nat → Int32) => kc_M cA a_M u.1 u.2)) (kc_M cA a_M I_M A_M) 2 [(0, .ref (a_M 0)), (1, .int v1)] [] := by
  intro n2
  induction n2 with
  | zero =>
    intro I_M A_M v1 hw
    exact absurd hw (fun z => z)
  | succ n2 ih =>
    intro I_M A_M v1 hw
    unfold wp_M_layText_L2 at hw
    refine vv_iload_n hC d_M_layText_2 1 rfl rfl ?_
    refine vv_aload_n hC d_M_layText_3 0 rfl rfl ?_
    refine vv_get hC (v := .ref (a_M 3)) hin_M 0 10 tb_682 d_M_layText_4 rfl rfl (by decide) rfl rfl ?_
    refine vv_iconst hC d_M_layText_7 (v := (1 : Int32)) (by decide) ?_
    refine vv_iald hC 3 0 d_M_layText_8 rfl rfl (vin_c (by decide)) ?_
    refine vv_icmp_ge hC 30 d_M_layText_9 (by decide) (fun cd => ?_) (fun cd => ?_)
    · have hw := hw.1 cd
      exact vv_sub [0] (by rfl) (hX2 I_M A_M hw)
    · have hw := hw.2 cd
      refine vv_aload_n hC d_M_layText_12 0 rfl rfl ?_
      refine vv_aload_n hC d_M_layText_13 0 rfl rfl ?_
      refine vv_get hC (v := .ref (a_M 4)) hin_M 0 11 tb_683 d_M_layText_14 rfl rfl (by decide) rfl rfl ?_
      refine vv_iload_n hC d_M_layText_17 1 rfl rfl ?_
      obtain ⟨hin_1, hw⟩ := hw
      refine vv_iald hC 4 0 d_M_layText_18 rfl rfl hin_1 ?_
      refine vv_bipush hC d_M_layText_19 (v := (10 : Int32)) (by decide) ?_
      refine vv_callVV (wr := []) hC (c_M_layNumber l D cA sx a_M I_M A_M ((A_M 3) (v1).toNatClampNeg) (10 : Int32) _ hw) (cw_M_194 hC) d_M_layText_21 [] [0, 1, 2, 3, 4, 5, 6, 7, 8, 9, 10, 11, 12, 13, 14, 15, 16, 17, 18, 19, 20, 21, 22, 23] [] [0, 1, 2, 3, 4, 5, 6, 7, 8, 9, 10, 11, 12, 13, 14, 15, 16, 17, 18, 19, 20, 21, 22, 23] (fun u_2 : (Nat → Int32) × (Nat → Nat → Int32) => kc_M cA a_M u_2.1 u_2.2) ⟨Nat.zero_le _, Nat.zero_le _⟩ rfl rfl (fun _ => rfl) rfl rfl rfl rfl rfl rfl rfl rfl (Nat.le_of_ble_eq_true rfl) (fun u_2 hw => ?_)
      refine vv_iinc hC d_M_layText_24 1 rfl (v := (v1 + (1 : Int32))) rfl (by decide) [1, 0] (L2 := [(0, .ref (a_M 0)), (1, .int (v1 + (1 : Int32)))]) rfl ?_
      refine vv_goto hC 2 d_M_layText_27 (by decide) ?_
      exact vv_sub [0, 1] (by rfl) (ih u_2.1 u_2.2 (v1 + (1 : Int32)) hw)
set_option maxHeartbeats 4000000 in
set_option maxRecDepth 100000 in
theorem l_M_layText_L32 {p : Program} {l : Launch} {e : Env} {s : State} {m : MethodId} {args : Array Value} {below : List Frame} {meth : Method} {c : Code} {D : va_G} {cA : Nat → ClassId} {sx : Nat → Nat} {A : Nat → Prop} (a_M : Nat → Nat) (Q : (Nat → Int32) → (Nat → Nat → Int32) → Prop) (X32 : (Nat → Int32) → (Nat → Nat → Int32) → Prop) (hC : CX p s m args meth c b_M_layText R_M TB 2 D vwCl (tyl cA) A (SPl sx) none) (hX32 : ∀ (I_M : (Nat → Int32)) (A_M : (Nat → Nat → Int32)), X32 I_M A_M → VV p l e ({ frames := 2, cells := 0, slots := 0, locals := 44 } : Room) s m args below meth c 2 D vwCl A 0 0 (QV below args s D vwCl (tyl cA) A (fun (u : (Nat → Int32) × (Nat → Nat → Int32)) => Q u.1 u.2) (fun u : (Nat → Int32) × (Nat → Nat → Int32) => kc_M cA a_M u.1 u.2)) (kc_M cA a_M I_M A_M) 72 [(0, .ref (a_M 0))] []) : ∀ (n32 : Nat) (I_M : (Nat → Int32)) (A_M : (Nat → Nat → Int32)) (v1 : Int32), wp_M_layText_L32 Q X32 n32 I_M A_M v1 → VV p l e ({ frames := 2, cells := 0, slots := 0, locals := 44 } : Room) s m args below meth c 2 D vwCl A 0 0 (QV below args s D vwCl (tyl cA) A (fun (u : (Nat → Int32) × (Nat → Nat → Int32)) => Q u.1 u.2) (fun u : (Nat → Int32) × (Nat → Nat → Int32) => kc_M cA a_M u.1 u.2)) (kc_M cA a_M I_M A_M) 32 [(0, .ref (a_M 0)), (1, .int v1)] [] := by
  intro n32
  induction n32 with
  | zero =>
    intro I_M A_M v1 hw
    exact absurd hw (fun z => z)
  | succ n32 ih =>
    intro I_M A_M v1 hw
    unfold wp_M_layText_L32 at hw
    refine vv_iload_n hC d_M_layText_32 1 rfl rfl ?_
    refine vv_aload_n hC d_M_layText_33 0 rfl rfl ?_
    refine vv_get hC (v := .ref (a_M 3)) hin_M 0 10 tb_682 d_M_layText_34 rfl rfl (by decide) rfl rfl ?_
    refine vv_iconst hC d_M_layText_37 (v := (2 : Int32)) (by decide) ?_
    refine vv_iald hC 3 0 d_M_layText_38 rfl rfl (vin_c (by decide)) ?_
    refine vv_icmp_ge hC 72 d_M_layText_39 (by decide) (fun cd => ?_) (fun cd => ?_)
    · have hw := hw.1 cd
      exact vv_sub [0] (by rfl) (hX32 I_M A_M hw)
    · have hw := hw.2 cd
      refine vv_aload_n hC d_M_layText_42 0 rfl rfl ?_
      refine vv_aload_n hC d_M_layText_43 0 rfl rfl ?_
      refine vv_get hC (v := .ref (a_M 5)) hin_M 0 12 tb_684 d_M_layText_44 rfl rfl (by decide) rfl rfl ?_
      refine vv_iload_n hC d_M_layText_47 1 rfl rfl ?_
      obtain ⟨hin_7, hw⟩ := hw
      refine vv_iald hC 5 0 d_M_layText_48 rfl rfl hin_7 ?_
      refine vv_bipush hC d_M_layText_49 (v := (32 : Int32)) (by decide) ?_
      refine vv_callVV (wr := []) hC (c_M_layNumber l D cA sx a_M I_M A_M ((A_M 4) (v1).toNatClampNeg) (32 : Int32) _ hw) (cw_M_194 hC) d_M_layText_51 [] [0, 1, 2, 3, 4, 5, 6, 7, 8, 9, 10, 11, 12, 13, 14, 15, 16, 17, 18, 19, 20, 21, 22, 23] [] [0, 1, 2, 3, 4, 5, 6, 7, 8, 9, 10, 11, 12, 13, 14, 15, 16, 17, 18, 19, 20, 21, 22, 23] (fun u_8 : (Nat → Int32) × (Nat → Nat → Int32) => kc_M cA a_M u_8.1 u_8.2) ⟨Nat.zero_le _, Nat.zero_le _⟩ rfl rfl (fun _ => rfl) rfl rfl rfl rfl rfl rfl rfl rfl (Nat.le_of_ble_eq_true rfl) (fun u_8 hw => ?_)
      refine vv_aload_n hC d_M_layText_54 0 rfl rfl ?_
      refine vv_aload_n hC d_M_layText_55 0 rfl rfl ?_
      refine vv_get hC (v := .ref (a_M 6)) hin_M 0 13 tb_685 d_M_layText_56 rfl rfl (by decide) rfl rfl ?_
      refine vv_iload_n hC d_M_layText_59 1 rfl rfl ?_
      refine vv_iald hC 6 0 d_M_layText_60 rfl rfl hin_7 ?_
      refine vv_bipush hC d_M_layText_61 (v := (10 : Int32)) (by decide) ?_
      refine vv_callVV (wr := []) hC (c_M_layNumber l D cA sx a_M u_8.1 u_8.2 ((u_8.2 5) (v1).toNatClampNeg) (10 : Int32) _ hw) (cw_M_194 hC) d_M_layText_63 [] [0, 1, 2, 3, 4, 5, 6, 7, 8, 9, 10, 11, 12, 13, 14, 15, 16, 17, 18, 19, 20, 21, 22, 23] [] [0, 1, 2, 3, 4, 5, 6, 7, 8, 9, 10, 11, 12, 13, 14, 15, 16, 17, 18, 19, 20, 21, 22, 23] (fun u_11 : (Nat → Int32) × (Nat → Nat → Int32) => kc_M cA a_M u_11.1 u_11.2) ⟨Nat.zero_le _, Nat.zero_le _⟩ rfl rfl (fun _ => rfl) rfl rfl rfl rfl rfl rfl rfl rfl (Nat.le_of_ble_eq_true rfl) (fun u_11 hw => ?_)
      refine vv_iinc hC d_M_layText_66 1 rfl (v := (v1 + (1 : Int32))) rfl (by decide) [1, 0] (L2 := [(0, .ref (a_M 0)), (1, .int (v1 + (1 : Int32)))]) rfl ?_
      refine vv_goto hC 32 d_M_layText_69 (by decide) ?_
      exact vv_sub [0, 1] (by rfl) (ih u_11.1 u_11.2 (v1 + (1 : Int32)) hw)
set_option maxHeartbeats 4000000 in
set_option maxRecDepth 100000 in
theorem l_M_layText_L74 {p : Program} {l : Launch} {e : Env} {s : State} {m : MethodId} {args : Array Value} {below : List Frame} {meth : Method} {c : Code} {D : va_G} {cA : Nat → ClassId} {sx : Nat → Nat} {A : Nat → Prop} (a_M : Nat → Nat) (Q : (Nat → Int32) → (Nat → Nat → Int32) → Prop) (X74 : (Nat → Int32) → (Nat → Nat → Int32) → Prop) (hC : CX p s m args meth c b_M_layText R_M TB 2 D vwCl (tyl cA) A (SPl sx) none) (hX74 : ∀ (I_M : (Nat → Int32)) (A_M : (Nat → Nat → Int32)), X74 I_M A_M → VV p l e ({ frames := 2, cells := 0, slots := 0, locals := 44 } : Room) s m args below meth c 2 D vwCl A 0 0 (QV below args s D vwCl (tyl cA) A (fun (u : (Nat → Int32) × (Nat → Nat → Int32)) => Q u.1 u.2) (fun u : (Nat → Int32) × (Nat → Nat → Int32) => kc_M cA a_M u.1 u.2)) (kc_M cA a_M I_M A_M) 102 [(0, .ref (a_M 0))] []) : ∀ (n74 : Nat) (I_M : (Nat → Int32)) (A_M : (Nat → Nat → Int32)) (v1 : Int32), wp_M_layText_L74 Q X74 n74 I_M A_M v1 → VV p l e ({ frames := 2, cells := 0, slots := 0, locals := 44 } : Room) s m args below meth c 2 D vwCl A 0 0 (QV below args s D vwCl (tyl cA) A (fun (u : (Nat → Int32) × (Nat → Nat → Int32)) => Q u.1 u.2) (fun u : (Nat → Int32) × (Nat → Nat → Int32) => kc_M cA a_M u.1 u.2)) (kc_M cA a_M I_M A_M) 74 [(0, .ref (a_M 0)), (1, .int v1)] [] := by
  intro n74
  induction n74 with
  | zero =>
    intro I_M A_M v1 hw
    exact absurd hw (fun z => z)
  | succ n74 ih =>
    intro I_M A_M v1 hw
    unfold wp_M_layText_L74 at hw
    refine vv_iload_n hC d_M_layText_74 1 rfl rfl ?_
    refine vv_aload_n hC d_M_layText_75 0 rfl rfl ?_
    refine vv_get hC (v := .ref (a_M 3)) hin_M 0 10 tb_682 d_M_layText_76 rfl rfl (by decide) rfl rfl ?_
    refine vv_iconst hC d_M_layText_79 (v := (3 : Int32)) (by decide) ?_
    refine vv_iald hC 3 0 d_M_layText_80 rfl rfl (vin_c (by decide)) ?_
    refine vv_icmp_ge hC 102 d_M_layText_81 (by decide) (fun cd => ?_) (fun cd => ?_)
    · have hw := hw.1 cd
      exact vv_sub [0] (by rfl) (hX74 I_M A_M hw)
    · have hw := hw.2 cd
      refine vv_aload_n hC d_M_layText_84 0 rfl rfl ?_
      refine vv_aload_n hC d_M_layText_85 0 rfl rfl ?_
      refine vv_get hC (v := .ref (a_M 7)) hin_M 0 14 tb_686 d_M_layText_86 rfl rfl (by decide) rfl rfl ?_
      refine vv_iload_n hC d_M_layText_89 1 rfl rfl ?_
      obtain ⟨hin_16, hw⟩ := hw
      refine vv_iald hC 7 0 d_M_layText_90 rfl rfl hin_16 ?_
      refine vv_bipush hC d_M_layText_91 (v := (10 : Int32)) (by decide) ?_
      refine vv_callVV (wr := []) hC (c_M_layNumber l D cA sx a_M I_M A_M ((A_M 6) (v1).toNatClampNeg) (10 : Int32) _ hw) (cw_M_194 hC) d_M_layText_93 [] [0, 1, 2, 3, 4, 5, 6, 7, 8, 9, 10, 11, 12, 13, 14, 15, 16, 17, 18, 19, 20, 21, 22, 23] [] [0, 1, 2, 3, 4, 5, 6, 7, 8, 9, 10, 11, 12, 13, 14, 15, 16, 17, 18, 19, 20, 21, 22, 23] (fun u_17 : (Nat → Int32) × (Nat → Nat → Int32) => kc_M cA a_M u_17.1 u_17.2) ⟨Nat.zero_le _, Nat.zero_le _⟩ rfl rfl (fun _ => rfl) rfl rfl rfl rfl rfl rfl rfl rfl (Nat.le_of_ble_eq_true rfl) (fun u_17 hw => ?_)
      refine vv_iinc hC d_M_layText_96 1 rfl (v := (v1 + (1 : Int32))) rfl (by decide) [1, 0] (L2 := [(0, .ref (a_M 0)), (1, .int (v1 + (1 : Int32)))]) rfl ?_
      refine vv_goto hC 74 d_M_layText_99 (by decide) ?_
      exact vv_sub [0, 1] (by rfl) (ih u_17.1 u_17.2 (v1 + (1 : Int32)) hw)
set_option maxHeartbeats 4000000 in
set_option maxRecDepth 100000 in
theorem l_M_layText_L104 {p : Program} {l : Launch} {e : Env} {s : State} {m : MethodId} {args : Array Value} {below : List Frame} {meth : Method} {c : Code} {D : va_G} {cA : Nat → ClassId} {sx : Nat → Nat} {A : Nat → Prop} (a_M : Nat → Nat) (Q : (Nat → Int32) → (Nat → Nat → Int32) → Prop) (X104 : (Nat → Int32) → (Nat → Nat → Int32) → Prop) (hC : CX p s m args meth c b_M_layText R_M TB 2 D vwCl (tyl cA) A (SPl sx) none) (hX104 : ∀ (I_M : (Nat → Int32)) (A_M : (Nat → Nat → Int32)), X104 I_M A_M → VV p l e ({ frames := 2, cells := 0, slots := 0, locals := 44 } : Room) s m args below meth c 2 D vwCl A 0 0 (QV below args s D vwCl (tyl cA) A (fun (u : (Nat → Int32) × (Nat → Nat → Int32)) => Q u.1 u.2) (fun u : (Nat → Int32) × (Nat → Nat → Int32) => kc_M cA a_M u.1 u.2)) (kc_M cA a_M I_M A_M) 156 [] []) : ∀ (n104 : Nat) (I_M : (Nat → Int32)) (A_M : (Nat → Nat → Int32)) (v1 : Int32), wp_M_layText_L104 Q X104 n104 I_M A_M v1 → VV p l e ({ frames := 2, cells := 0, slots := 0, locals := 44 } : Room) s m args below meth c 2 D vwCl A 0 0 (QV below args s D vwCl (tyl cA) A (fun (u : (Nat → Int32) × (Nat → Nat → Int32)) => Q u.1 u.2) (fun u : (Nat → Int32) × (Nat → Nat → Int32) => kc_M cA a_M u.1 u.2)) (kc_M cA a_M I_M A_M) 104 [(0, .ref (a_M 0)), (1, .int v1)] [] := by
  intro n104
  induction n104 with
  | zero =>
    intro I_M A_M v1 hw
    exact absurd hw (fun z => z)
  | succ n104 ih =>
    intro I_M A_M v1 hw
    unfold wp_M_layText_L104 at hw
    refine vv_iload_n hC d_M_layText_104 1 rfl rfl ?_
    refine vv_aload_n hC d_M_layText_105 0 rfl rfl ?_
    refine vv_get hC (v := .ref (a_M 3)) hin_M 0 10 tb_682 d_M_layText_106 rfl rfl (by decide) rfl rfl ?_
    refine vv_iconst hC d_M_layText_109 (v := (4 : Int32)) (by decide) ?_
    refine vv_iald hC 3 0 d_M_layText_110 rfl rfl (vin_c (by decide)) ?_
    refine vv_icmp_ge hC 156 d_M_layText_111 (by decide) (fun cd => ?_) (fun cd => ?_)
    · have hw := hw.1 cd
      exact vv_sub [] (by rfl) (hX104 I_M A_M hw)
    · have hw := hw.2 cd
      refine vv_aload_n hC d_M_layText_114 0 rfl rfl ?_
      refine vv_aload_n hC d_M_layText_115 0 rfl rfl ?_
      refine vv_get hC (v := .ref (a_M 8)) hin_M 0 15 tb_687 d_M_layText_116 rfl rfl (by decide) rfl rfl ?_
      refine vv_iload_n hC d_M_layText_119 1 rfl rfl ?_
      obtain ⟨hin_22, hw⟩ := hw
      refine vv_iald hC 8 0 d_M_layText_120 rfl rfl hin_22 ?_
      refine vv_bipush hC d_M_layText_121 (v := (32 : Int32)) (by decide) ?_
      refine vv_callVV (wr := []) hC (c_M_layNumber l D cA sx a_M I_M A_M ((A_M 7) (v1).toNatClampNeg) (32 : Int32) _ hw) (cw_M_194 hC) d_M_layText_123 [] [0, 1, 2, 3, 4, 5, 6, 7, 8, 9, 10, 11, 12, 13, 14, 15, 16, 17, 18, 19, 20, 21, 22, 23] [] [0, 1, 2, 3, 4, 5, 6, 7, 8, 9, 10, 11, 12, 13, 14, 15, 16, 17, 18, 19, 20, 21, 22, 23] (fun u_23 : (Nat → Int32) × (Nat → Nat → Int32) => kc_M cA a_M u_23.1 u_23.2) ⟨Nat.zero_le _, Nat.zero_le _⟩ rfl rfl (fun _ => rfl) rfl rfl rfl rfl rfl rfl rfl rfl (Nat.le_of_ble_eq_true rfl) (fun u_23 hw => ?_)
      refine vv_aload_n hC d_M_layText_126 0 rfl rfl ?_
      refine vv_aload_n hC d_M_layText_127 0 rfl rfl ?_
      refine vv_get hC (v := .ref (a_M 9)) hin_M 0 16 tb_688 d_M_layText_128 rfl rfl (by decide) rfl rfl ?_
      refine vv_iload_n hC d_M_layText_131 1 rfl rfl ?_
      refine vv_iald hC 9 0 d_M_layText_132 rfl rfl hin_22 ?_
      refine vv_bipush hC d_M_layText_133 (v := (32 : Int32)) (by decide) ?_
      refine vv_callVV (wr := []) hC (c_M_layNumber l D cA sx a_M u_23.1 u_23.2 ((u_23.2 8) (v1).toNatClampNeg) (32 : Int32) _ hw) (cw_M_194 hC) d_M_layText_135 [] [0, 1, 2, 3, 4, 5, 6, 7, 8, 9, 10, 11, 12, 13, 14, 15, 16, 17, 18, 19, 20, 21, 22, 23] [] [0, 1, 2, 3, 4, 5, 6, 7, 8, 9, 10, 11, 12, 13, 14, 15, 16, 17, 18, 19, 20, 21, 22, 23] (fun u_26 : (Nat → Int32) × (Nat → Nat → Int32) => kc_M cA a_M u_26.1 u_26.2) ⟨Nat.zero_le _, Nat.zero_le _⟩ rfl rfl (fun _ => rfl) rfl rfl rfl rfl rfl rfl rfl rfl (Nat.le_of_ble_eq_true rfl) (fun u_26 hw => ?_)
      refine vv_aload_n hC d_M_layText_138 0 rfl rfl ?_
      refine vv_aload_n hC d_M_layText_139 0 rfl rfl ?_
      refine vv_get hC (v := .ref (a_M 10)) hin_M 0 17 tb_689 d_M_layText_140 rfl rfl (by decide) rfl rfl ?_
      refine vv_iload_n hC d_M_layText_143 1 rfl rfl ?_
      refine vv_iald hC 10 0 d_M_layText_144 rfl rfl hin_22 ?_
      refine vv_bipush hC d_M_layText_145 (v := (10 : Int32)) (by decide) ?_
      refine vv_callVV (wr := []) hC (c_M_layNumber l D cA sx a_M u_26.1 u_26.2 ((u_26.2 9) (v1).toNatClampNeg) (10 : Int32) _ hw) (cw_M_194 hC) d_M_layText_147 [] [0, 1, 2, 3, 4, 5, 6, 7, 8, 9, 10, 11, 12, 13, 14, 15, 16, 17, 18, 19, 20, 21, 22, 23] [] [0, 1, 2, 3, 4, 5, 6, 7, 8, 9, 10, 11, 12, 13, 14, 15, 16, 17, 18, 19, 20, 21, 22, 23] (fun u_29 : (Nat → Int32) × (Nat → Nat → Int32) => kc_M cA a_M u_29.1 u_29.2) ⟨Nat.zero_le _, Nat.zero_le _⟩ rfl rfl (fun _ => rfl) rfl rfl rfl rfl rfl rfl rfl rfl (Nat.le_of_ble_eq_true rfl) (fun u_29 hw => ?_)
      refine vv_iinc hC d_M_layText_150 1 rfl (v := (v1 + (1 : Int32))) rfl (by decide) [1, 0] (L2 := [(0, .ref (a_M 0)), (1, .int (v1 + (1 : Int32)))]) rfl ?_
      refine vv_goto hC 104 d_M_layText_153 (by decide) ?_
      exact vv_sub [0, 1] (by rfl) (ih u_29.1 u_29.2 (v1 + (1 : Int32)) hw)
set_option maxHeartbeats 4000000 in
set_option maxRecDepth 100000 in
theorem c_M_layText (l : Launch) (D : va_G) (cA : Nat → ClassId) (sx : Nat → Nat) (a_M : Nat → Nat) (I_M : (Nat → Int32)) (A_M : (Nat → Nat → Int32)) (Q : (Nat → Int32) → (Nat → Nat → Int32) → Prop) (hw : wp_M_layText I_M A_M Q) : MetV l y_M_layText (Cond.code y_M_layText b_M_layText 2 none :: TB) ({ frames := 2, cells := 0, slots := 0, locals := 44 } : Room) D vwCl (tyl cA) (SPl sx) [.ref (a_M 0)] (kc_M cA a_M I_M A_M) (fun (u : (Nat → Int32) × (Nat → Nat → Int32)) => Q u.1 u.2) (fun u : (Nat → Int32) × (Nat → Nat → Int32) => kc_M cA a_M u.1 u.2) := by
  refine vv_entryV (cc := b_M_layText) (own := R_M) (L := [(0, .ref (a_M 0))]) (by decide) rfl rfl (Nat.le_of_ble_eq_true rfl) rfl (fun p e s m args below meth c A hC => ?_)
  unfold wp_M_layText at hw
  refine vv_iconst hC d_M_layText_0 (v := (0 : Int32)) (by decide) ?_
  refine vv_istore_n hC d_M_layText_1 rfl (by decide) [1, 0] (L2 := [(0, .ref (a_M 0)), (1, .int (0 : Int32))]) rfl ?_
  obtain ⟨m2, hw⟩ := hw
  refine vv_sub [0, 1] (by rfl) (l_M_layText_L2 a_M Q _ hC (fun I_M_5 A_M_6 hw => ?_) m2 I_M A_M (0 : Int32) hw)
  refine vv_iconst hC d_M_layText_30 (v := (0 : Int32)) (by decide) ?_
  refine vv_istore_n hC d_M_layText_31 rfl (by decide) [1, 0] (L2 := [(0, .ref (a_M 0)), (1, .int (0 : Int32))]) rfl ?_
  obtain ⟨m32, hw⟩ := hw
  refine vv_sub [0, 1] (by rfl) (l_M_layText_L32 a_M Q _ hC (fun I_M_14 A_M_15 hw => ?_) m32 I_M_5 A_M_6 (0 : Int32) hw)
  refine vv_iconst hC d_M_layText_72 (v := (0 : Int32)) (by decide) ?_
  refine vv_istore_n hC d_M_layText_73 rfl (by decide) [1, 0] (L2 := [(0, .ref (a_M 0)), (1, .int (0 : Int32))]) rfl ?_
  obtain ⟨m74, hw⟩ := hw
  refine vv_sub [0, 1] (by rfl) (l_M_layText_L74 a_M Q _ hC (fun I_M_20 A_M_21 hw => ?_) m74 I_M_14 A_M_15 (0 : Int32) hw)
  refine vv_iconst hC d_M_layText_102 (v := (0 : Int32)) (by decide) ?_
  refine vv_istore_n hC d_M_layText_103 rfl (by decide) [1, 0] (L2 := [(0, .ref (a_M 0)), (1, .int (0 : Int32))]) rfl ?_
  obtain ⟨m104, hw⟩ := hw
  refine vv_sub [0, 1] (by rfl) (l_M_layText_L104 a_M Q _ hC (fun I_M_32 A_M_33 hw => ?_) m104 I_M_20 A_M_21 (0 : Int32) hw)
  exact vv_vret hC d_M_layText_156 (I_M_32, A_M_33) hw rfl
set_option maxHeartbeats 4000000 in
set_option maxRecDepth 100000 in
theorem l_M_layBinary_L2 {p : Program} {l : Launch} {e : Env} {s : State} {m : MethodId} {args : Array Value} {below : List Frame} {meth : Method} {c : Code} {D : va_G} {cA : Nat → ClassId} {sx : Nat → Nat} {A : Nat → Prop} (a_M : Nat → Nat) (Q : (Nat → Int32) → (Nat → Nat → Int32) → Prop) (X2 : (Nat → Int32) → (Nat → Nat → Int32) → Prop) (hC : CX p s m args meth c b_M_layBinary R_M TB 6 D vwCl (tyl cA) A (SPl sx) none) (hX2 : ∀ (I_M : (Nat → Int32)) (A_M : (Nat → Nat → Int32)), X2 I_M A_M → VV p l e ({ frames := 2, cells := 0, slots := 0, locals := 44 } : Room) s m args below meth c 6 D vwCl A 0 0 (QV below args s D vwCl (tyl cA) A (fun (u : (Nat → Int32) × (Nat → Nat → Int32)) => Q u.1 u.2) (fun u : (Nat → Int32) × (Nat → Nat → Int32) => kc_M cA a_M u.1 u.2)) (kc_M cA a_M I_M A_M) 34 [(0, .ref (a_M 0))] []) : ∀ (n2 : Nat) (I_M : (Nat → Int32)) (A_M : (Nat → Nat → Int32)) (v1 : Int32), wp_M_layBinary_L2 Q X2 n2 I_M A_M v1 → VV p l e ({ frames := 2, cells := 0, slots := 0, locals := 44 } : Room) s m args below meth c 6 D vwCl A 0 0 (QV below args s D vwCl (tyl cA) A (fun (u : (Nat → Int32) × (Nat → Nat → Int32)) => Q u.1 u.2) (fun u : (Nat → Int32) × (Nat → Nat → Int32) => kc_M cA a_M u.1 u.2)) (kc_M cA a_M I_M A_M) 2 [(0, .ref (a_M 0)), (1, .int v1)] [] := by
  intro n2
  induction n2 with
  | zero =>
    intro I_M A_M v1 hw
    exact absurd hw (fun z => z)
  | succ n2 ih =>
    intro I_M A_M v1 hw
    unfold wp_M_layBinary_L2 at hw
    refine vv_iload_n hC d_M_layBinary_2 1 rfl rfl ?_
    refine vv_aload_n hC d_M_layBinary_3 0 rfl rfl ?_
    refine vv_get hC (v := .ref (a_M 3)) hin_M 0 10 tb_682 d_M_layBinary_4 rfl rfl (by decide) rfl rfl ?_
    refine vv_iconst hC d_M_layBinary_7 (v := (2 : Int32)) (by decide) ?_
    refine vv_iald hC 3 0 d_M_layBinary_8 rfl rfl (vin_c (by decide)) ?_
    refine vv_icmp_ge hC 34 d_M_layBinary_9 (by decide) (fun cd => ?_) (fun cd => ?_)
    · have hw := hw.1 cd
      exact vv_sub [0] (by rfl) (hX2 I_M A_M hw)
    · have hw := hw.2 cd
      refine vv_aload_n hC d_M_layBinary_12 0 rfl rfl ?_
      refine vv_aload_n hC d_M_layBinary_13 0 rfl rfl ?_
      refine vv_aload_n hC d_M_layBinary_14 0 rfl rfl ?_
      refine vv_get hC (v := .ref (a_M 6)) hin_M 0 13 tb_685 d_M_layBinary_15 rfl rfl (by decide) rfl rfl ?_
      refine vv_iload_n hC d_M_layBinary_18 1 rfl rfl ?_
      obtain ⟨hin_1, hw⟩ := hw
      refine vv_iald hC 6 0 d_M_layBinary_19 rfl rfl hin_1 ?_
      refine vv_callVI (wr := []) hC (c_M_renamed l D cA sx a_M I_M A_M ((A_M 5) (v1).toNatClampNeg) _ hw) (cw_M_197 hC) d_M_layBinary_20 [.ref (a_M 0)] [0, 1, 2, 3, 4, 5, 6, 7, 8, 9, 10, 11, 12, 13, 14, 15, 16, 17, 18, 19, 20, 21, 22, 23] [] [0, 1, 2, 3, 4, 5, 6, 7, 8, 9, 10, 11, 12, 13, 14, 15, 16, 17, 18, 19, 20, 21, 22, 23] (fun u_3 : Unit => kc_M cA a_M I_M A_M) ⟨Nat.zero_le _, Nat.zero_le _⟩ rfl rfl (fun _ => rfl) rfl rfl rfl rfl rfl rfl rfl rfl (Nat.le_of_ble_eq_true rfl) (fun r_2 u_3 hw => ?_)
      refine vv_bipush hC d_M_layBinary_23 (v := (10 : Int32)) (by decide) ?_
      refine vv_callVV (wr := []) hC (c_M_layNumber l D cA sx a_M I_M A_M r_2 (10 : Int32) _ hw) (cw_M_194 hC) d_M_layBinary_25 [] [0, 1, 2, 3, 4, 5, 6, 7, 8, 9, 10, 11, 12, 13, 14, 15, 16, 17, 18, 19, 20, 21, 22, 23] [] [0, 1, 2, 3, 4, 5, 6, 7, 8, 9, 10, 11, 12, 13, 14, 15, 16, 17, 18, 19, 20, 21, 22, 23] (fun u_4 : (Nat → Int32) × (Nat → Nat → Int32) => kc_M cA a_M u_4.1 u_4.2) ⟨Nat.zero_le _, Nat.zero_le _⟩ rfl rfl (fun _ => rfl) rfl rfl rfl rfl rfl rfl rfl rfl (Nat.le_of_ble_eq_true rfl) (fun u_4 hw => ?_)
      refine vv_iinc hC d_M_layBinary_28 1 rfl (v := (v1 + (1 : Int32))) rfl (by decide) [1, 0] (L2 := [(0, .ref (a_M 0)), (1, .int (v1 + (1 : Int32)))]) rfl ?_
      refine vv_goto hC 2 d_M_layBinary_31 (by decide) ?_
      exact vv_sub [0, 1] (by rfl) (ih u_4.1 u_4.2 (v1 + (1 : Int32)) hw)
set_option maxHeartbeats 4000000 in
set_option maxRecDepth 100000 in
theorem l_M_layBinary_L36 {p : Program} {l : Launch} {e : Env} {s : State} {m : MethodId} {args : Array Value} {below : List Frame} {meth : Method} {c : Code} {D : va_G} {cA : Nat → ClassId} {sx : Nat → Nat} {A : Nat → Prop} (a_M : Nat → Nat) (Q : (Nat → Int32) → (Nat → Nat → Int32) → Prop) (X36 : (Nat → Int32) → (Nat → Nat → Int32) → Prop) (hC : CX p s m args meth c b_M_layBinary R_M TB 6 D vwCl (tyl cA) A (SPl sx) none) (hX36 : ∀ (I_M : (Nat → Int32)) (A_M : (Nat → Nat → Int32)), X36 I_M A_M → VV p l e ({ frames := 2, cells := 0, slots := 0, locals := 44 } : Room) s m args below meth c 6 D vwCl A 0 0 (QV below args s D vwCl (tyl cA) A (fun (u : (Nat → Int32) × (Nat → Nat → Int32)) => Q u.1 u.2) (fun u : (Nat → Int32) × (Nat → Nat → Int32) => kc_M cA a_M u.1 u.2)) (kc_M cA a_M I_M A_M) 68 [(0, .ref (a_M 0))] []) : ∀ (n36 : Nat) (I_M : (Nat → Int32)) (A_M : (Nat → Nat → Int32)) (v1 : Int32), wp_M_layBinary_L36 Q X36 n36 I_M A_M v1 → VV p l e ({ frames := 2, cells := 0, slots := 0, locals := 44 } : Room) s m args below meth c 6 D vwCl A 0 0 (QV below args s D vwCl (tyl cA) A (fun (u : (Nat → Int32) × (Nat → Nat → Int32)) => Q u.1 u.2) (fun u : (Nat → Int32) × (Nat → Nat → Int32) => kc_M cA a_M u.1 u.2)) (kc_M cA a_M I_M A_M) 36 [(0, .ref (a_M 0)), (1, .int v1)] [] := by
  intro n36
  induction n36 with
  | zero =>
    intro I_M A_M v1 hw
    exact absurd hw (fun z => z)
  | succ n36 ih =>
    intro I_M A_M v1 hw
    unfold wp_M_layBinary_L36 at hw
    refine vv_iload_n hC d_M_layBinary_36 1 rfl rfl ?_
    refine vv_aload_n hC d_M_layBinary_37 0 rfl rfl ?_
    refine vv_get hC (v := .ref (a_M 3)) hin_M 0 10 tb_682 d_M_layBinary_38 rfl rfl (by decide) rfl rfl ?_
    refine vv_iconst hC d_M_layBinary_41 (v := (3 : Int32)) (by decide) ?_
    refine vv_iald hC 3 0 d_M_layBinary_42 rfl rfl (vin_c (by decide)) ?_
    refine vv_icmp_ge hC 68 d_M_layBinary_43 (by decide) (fun cd => ?_) (fun cd => ?_)
    · have hw := hw.1 cd
      exact vv_sub [0] (by rfl) (hX36 I_M A_M hw)
    · have hw := hw.2 cd
      refine vv_aload_n hC d_M_layBinary_46 0 rfl rfl ?_
      refine vv_aload_n hC d_M_layBinary_47 0 rfl rfl ?_
      refine vv_aload_n hC d_M_layBinary_48 0 rfl rfl ?_
      refine vv_get hC (v := .ref (a_M 7)) hin_M 0 14 tb_686 d_M_layBinary_49 rfl rfl (by decide) rfl rfl ?_
      refine vv_iload_n hC d_M_layBinary_52 1 rfl rfl ?_
      obtain ⟨hin_9, hw⟩ := hw
      refine vv_iald hC 7 0 d_M_layBinary_53 rfl rfl hin_9 ?_
      refine vv_callVI (wr := []) hC (c_M_renamed l D cA sx a_M I_M A_M ((A_M 6) (v1).toNatClampNeg) _ hw) (cw_M_197 hC) d_M_layBinary_54 [.ref (a_M 0)] [0, 1, 2, 3, 4, 5, 6, 7, 8, 9, 10, 11, 12, 13, 14, 15, 16, 17, 18, 19, 20, 21, 22, 23] [] [0, 1, 2, 3, 4, 5, 6, 7, 8, 9, 10, 11, 12, 13, 14, 15, 16, 17, 18, 19, 20, 21, 22, 23] (fun u_11 : Unit => kc_M cA a_M I_M A_M) ⟨Nat.zero_le _, Nat.zero_le _⟩ rfl rfl (fun _ => rfl) rfl rfl rfl rfl rfl rfl rfl rfl (Nat.le_of_ble_eq_true rfl) (fun r_10 u_11 hw => ?_)
      refine vv_bipush hC d_M_layBinary_57 (v := (10 : Int32)) (by decide) ?_
      refine vv_callVV (wr := []) hC (c_M_layNumber l D cA sx a_M I_M A_M r_10 (10 : Int32) _ hw) (cw_M_194 hC) d_M_layBinary_59 [] [0, 1, 2, 3, 4, 5, 6, 7, 8, 9, 10, 11, 12, 13, 14, 15, 16, 17, 18, 19, 20, 21, 22, 23] [] [0, 1, 2, 3, 4, 5, 6, 7, 8, 9, 10, 11, 12, 13, 14, 15, 16, 17, 18, 19, 20, 21, 22, 23] (fun u_12 : (Nat → Int32) × (Nat → Nat → Int32) => kc_M cA a_M u_12.1 u_12.2) ⟨Nat.zero_le _, Nat.zero_le _⟩ rfl rfl (fun _ => rfl) rfl rfl rfl rfl rfl rfl rfl rfl (Nat.le_of_ble_eq_true rfl) (fun u_12 hw => ?_)
      refine vv_iinc hC d_M_layBinary_62 1 rfl (v := (v1 + (1 : Int32))) rfl (by decide) [1, 0] (L2 := [(0, .ref (a_M 0)), (1, .int (v1 + (1 : Int32)))]) rfl ?_
      refine vv_goto hC 36 d_M_layBinary_65 (by decide) ?_
      exact vv_sub [0, 1] (by rfl) (ih u_12.1 u_12.2 (v1 + (1 : Int32)) hw)
set_option maxHeartbeats 4000000 in
set_option maxRecDepth 100000 in
theorem l_M_layBinary_b124 {p : Program} {l : Launch} {e : Env} {s : State} {m : MethodId} {args : Array Value} {below : List Frame} {meth : Method} {c : Code} {D : va_G} {cA : Nat → ClassId} {sx : Nat → Nat} {A : Nat → Prop} (a_M : Nat → Nat) (Q : (Nat → Int32) → (Nat → Nat → Int32) → Prop) (K70 : (Nat → Int32) → (Nat → Nat → Int32) → Int32 → Prop) (X70 : (Nat → Int32) → (Nat → Nat → Int32) → Prop) (hC : CX p s m args meth c b_M_layBinary R_M TB 6 D vwCl (tyl cA) A (SPl sx) none) (hK70 : ∀ (I_M : (Nat → Int32)) (A_M : (Nat → Nat → Int32)) (v1 : Int32), K70 I_M A_M v1 → VV p l e ({ frames := 2, cells := 0, slots := 0, locals := 44 } : Room) s m args below meth c 6 D vwCl A 0 0 (QV below args s D vwCl (tyl cA) A (fun (u : (Nat → Int32) × (Nat → Nat → Int32)) => Q u.1 u.2) (fun u : (Nat → Int32) × (Nat → Nat → Int32) => kc_M cA a_M u.1 u.2)) (kc_M cA a_M I_M A_M) 70 [(0, .ref (a_M 0)), (1, .int v1)] []) (hX70 : ∀ (I_M : (Nat → Int32)) (A_M : (Nat → Nat → Int32)), X70 I_M A_M → VV p l e ({ frames := 2, cells := 0, slots := 0, locals := 44 } : Room) s m args below meth c 6 D vwCl A 0 0 (QV below args s D vwCl (tyl cA) A (fun (u : (Nat → Int32) × (Nat → Nat → Int32)) => Q u.1 u.2) (fun u : (Nat → Int32) × (Nat → Nat → Int32) => kc_M cA a_M u.1 u.2)) (kc_M cA a_M I_M A_M) 166 [] []) : ∀ (I_M : (Nat → Int32)) (A_M : (Nat → Nat → Int32)) (v1 : Int32) (v2 : Int32) (v3 : Int32) (v4 : Int32) (v5 : Int32), wp_M_layBinary_b124 Q K70 X70 I_M A_M v1 v2 v3 v4 v5 → VV p l e ({ frames := 2, cells := 0, slots := 0, locals := 44 } : Room) s m args below meth c 6 D vwCl A 0 0 (QV below args s D vwCl (tyl cA) A (fun (u : (Nat → Int32) × (Nat → Nat → Int32)) => Q u.1 u.2) (fun u : (Nat → Int32) × (Nat → Nat → Int32) => kc_M cA a_M u.1 u.2)) (kc_M cA a_M I_M A_M) 124 [(0, .ref (a_M 0)), (1, .int v1), (2, .int v2), (3, .int v3), (4, .int v4), (5, .int v5)] [] := by
  intro I_M A_M v1 v2 v3 v4 v5 hw
  unfold wp_M_layBinary_b124 at hw
  refine vv_aload_n hC d_M_layBinary_124 0 rfl rfl ?_
  refine vv_aload_n hC d_M_layBinary_125 0 rfl rfl ?_
  refine vv_aload_n hC d_M_layBinary_126 0 rfl rfl ?_
  refine vv_get hC (v := .ref (a_M 8)) hin_M 0 15 tb_687 d_M_layBinary_127 rfl rfl (by decide) rfl rfl ?_
  refine vv_iload_n hC d_M_layBinary_130 2 rfl rfl ?_
  obtain ⟨hin_23, hw⟩ := hw
  refine vv_iald hC 8 0 d_M_layBinary_131 rfl rfl hin_23 ?_
  refine vv_callVI (wr := []) hC (c_M_renamed l D cA sx a_M I_M A_M ((A_M 7) (v2).toNatClampNeg) _ hw) (cw_M_197 hC) d_M_layBinary_132 [.ref (a_M 0)] [0, 1, 2, 3, 4, 5, 6, 7, 8, 9, 10, 11, 12, 13, 14, 15, 16, 17, 18, 19, 20, 21, 22, 23] [] [0, 1, 2, 3, 4, 5, 6, 7, 8, 9, 10, 11, 12, 13, 14, 15, 16, 17, 18, 19, 20, 21, 22, 23] (fun u_25 : Unit => kc_M cA a_M I_M A_M) ⟨Nat.zero_le _, Nat.zero_le _⟩ rfl rfl (fun _ => rfl) rfl rfl rfl rfl rfl rfl rfl rfl (Nat.le_of_ble_eq_true rfl) (fun r_24 u_25 hw => ?_)
  refine vv_iload hC d_M_layBinary_135 5 rfl ?_
  refine vv_isub hC d_M_layBinary_137 ?_
  refine vv_callVV (wr := []) hC (c_M_layDelta l D cA sx a_M I_M A_M (r_24 - v5) _ hw) (cw_M_201 hC) d_M_layBinary_138 [] [0, 1, 2, 3, 4, 5, 6, 7, 8, 9, 10, 11, 12, 13, 14, 15, 16, 17, 18, 19, 20, 21, 22, 23] [] [0, 1, 2, 3, 4, 5, 6, 7, 8, 9, 10, 11, 12, 13, 14, 15, 16, 17, 18, 19, 20, 21, 22, 23] (fun u_26 : (Nat → Int32) × (Nat → Nat → Int32) => kc_M cA a_M u_26.1 u_26.2) ⟨Nat.zero_le _, Nat.zero_le _⟩ rfl rfl (fun _ => rfl) rfl rfl rfl rfl rfl rfl rfl rfl (Nat.le_of_ble_eq_true rfl) (fun u_26 hw => ?_)
  refine vv_aload_n hC d_M_layBinary_141 0 rfl rfl ?_
  refine vv_iload hC d_M_layBinary_142 5 rfl ?_
  refine vv_iload_n hC d_M_layBinary_144 3 rfl rfl ?_
  refine vv_iload hC d_M_layBinary_145 4 rfl ?_
  refine vv_icmp_le hC 155 d_M_layBinary_147 (by decide) (fun cd => ?_) (fun cd => ?_)
  · have hw := hw.1 cd
    refine vv_iload_n hC d_M_layBinary_155 3 rfl rfl ?_
    refine vv_isub hC d_M_layBinary_156 ?_
    refine vv_callVV (wr := []) hC (c_M_layDelta l D cA sx a_M u_26.1 u_26.2 (v5 - v3) _ hw) (cw_M_201 hC) d_M_layBinary_157 [] [0, 1, 2, 3, 4, 5, 6, 7, 8, 9, 10, 11, 12, 13, 14, 15, 16, 17, 18, 19, 20, 21, 22, 23] [] [0, 1, 2, 3, 4, 5, 6, 7, 8, 9, 10, 11, 12, 13, 14, 15, 16, 17, 18, 19, 20, 21, 22, 23] (fun u_29 : (Nat → Int32) × (Nat → Nat → Int32) => kc_M cA a_M u_29.1 u_29.2) ⟨Nat.zero_le _, Nat.zero_le _⟩ rfl rfl (fun _ => rfl) rfl rfl rfl rfl rfl rfl rfl rfl (Nat.le_of_ble_eq_true rfl) (fun u_29 hw => ?_)
    refine vv_iinc hC d_M_layBinary_160 1 rfl (v := (v1 + (1 : Int32))) rfl (by decide) [1, 0, 2, 3, 4, 5] (L2 := [(0, .ref (a_M 0)), (1, .int (v1 + (1 : Int32))), (2, .int v2), (3, .int v3), (4, .int v4), (5, .int v5)]) rfl ?_
    refine vv_goto hC 70 d_M_layBinary_163 (by decide) ?_
    exact vv_sub [0, 1] (by rfl) (hK70 u_29.1 u_29.2 (v1 + (1 : Int32)) hw)
  · have hw := hw.2 cd
    refine vv_iload hC d_M_layBinary_150 4 rfl ?_
    refine vv_goto hC 156 d_M_layBinary_152 (by decide) ?_
    refine vv_isub hC d_M_layBinary_156 ?_
    refine vv_callVV (wr := []) hC (c_M_layDelta l D cA sx a_M u_26.1 u_26.2 (v5 - v4) _ hw) (cw_M_201 hC) d_M_layBinary_157 [] [0, 1, 2, 3, 4, 5, 6, 7, 8, 9, 10, 11, 12, 13, 14, 15, 16, 17, 18, 19, 20, 21, 22, 23] [] [0, 1, 2, 3, 4, 5, 6, 7, 8, 9, 10, 11, 12, 13, 14, 15, 16, 17, 18, 19, 20, 21, 22, 23] (fun u_32 : (Nat → Int32) × (Nat → Nat → Int32) => kc_M cA a_M u_32.1 u_32.2) ⟨Nat.zero_le _, Nat.zero_le _⟩ rfl rfl (fun _ => rfl) rfl rfl rfl rfl rfl rfl rfl rfl (Nat.le_of_ble_eq_true rfl) (fun u_32 hw => ?_)
    refine vv_iinc hC d_M_layBinary_160 1 rfl (v := (v1 + (1 : Int32))) rfl (by decide) [1, 0, 2, 3, 4, 5] (L2 := [(0, .ref (a_M 0)), (1, .int (v1 + (1 : Int32))), (2, .int v2), (3, .int v3), (4, .int v4), (5, .int v5)]) rfl ?_
    refine vv_goto hC 70 d_M_layBinary_163 (by decide) ?_
    exact vv_sub [0, 1] (by rfl) (hK70 u_32.1 u_32.2 (v1 + (1 : Int32)) hw)
set_option maxHeartbeats 4000000 in
set_option maxRecDepth 100000 in
theorem l_M_layBinary_L70 {p : Program} {l : Launch} {e : Env} {s : State} {m : MethodId} {args : Array Value} {below : List Frame} {meth : Method} {c : Code} {D : va_G} {cA : Nat → ClassId} {sx : Nat → Nat} {A : Nat → Prop} (a_M : Nat → Nat) (Q : (Nat → Int32) → (Nat → Nat → Int32) → Prop) (X70 : (Nat → Int32) → (Nat → Nat → Int32) → Prop) (hC : CX p s m args meth c b_M_layBinary R_M TB 6 D vwCl (tyl cA) A (SPl sx) none) (hX70 : ∀ (I_M : (Nat → Int32)) (A_M : (Nat → Nat → Int32)), X70 I_M A_M → VV p l e ({ frames := 2, cells := 0, slots := 0, locals := 44 } : Room) s m args below meth c 6 D vwCl A 0 0 (QV below args s D vwCl (tyl cA) A (fun (u : (Nat → Int32) × (Nat → Nat → Int32)) => Q u.1 u.2) (fun u : (Nat → Int32) × (Nat → Nat → Int32) => kc_M cA a_M u.1 u.2)) (kc_M cA a_M I_M A_M) 166 [] []) : ∀ (n70 : Nat) (I_M : (Nat → Int32)) (A_M : (Nat → Nat → Int32)) (v1 : Int32), wp_M_layBinary_L70 Q X70 n70 I_M A_M v1 → VV p l e ({ frames := 2, cells := 0, slots := 0, locals := 44 } : Room) s m args below meth c 6 D vwCl A 0 0 (QV below args s D vwCl (tyl cA) A (fun (u : (Nat → Int32) × (Nat → Nat → Int32)) => Q u.1 u.2) (fun u : (Nat → Int32) × (Nat → Nat → Int32) => kc_M cA a_M u.1 u.2)) (kc_M cA a_M I_M A_M) 70 [(0, .ref (a_M 0)), (1, .int v1)] [] := by
  intro n70
  induction n70 with
  | zero =>
    intro I_M A_M v1 hw
    exact absurd hw (fun z => z)
  | succ n70 ih =>
    intro I_M A_M v1 hw
    unfold wp_M_layBinary_L70 at hw
    refine vv_iload_n hC d_M_layBinary_70 1 rfl rfl ?_
    refine vv_aload_n hC d_M_layBinary_71 0 rfl rfl ?_
    refine vv_get hC (v := .ref (a_M 3)) hin_M 0 10 tb_682 d_M_layBinary_72 rfl rfl (by decide) rfl rfl ?_
    refine vv_iconst hC d_M_layBinary_75 (v := (4 : Int32)) (by decide) ?_
    refine vv_iald hC 3 0 d_M_layBinary_76 rfl rfl (vin_c (by decide)) ?_
    refine vv_icmp_ge hC 166 d_M_layBinary_77 (by decide) (fun cd => ?_) (fun cd => ?_)
    · have hw := hw.1 cd
      exact vv_sub [] (by rfl) (hX70 I_M A_M hw)
    · have hw := hw.2 cd
      refine vv_aload_n hC d_M_layBinary_80 0 rfl rfl ?_
      refine vv_get hC (v := .ref (a_M 19)) hin_M 0 26 tb_698 d_M_layBinary_81 rfl rfl (by decide) rfl rfl ?_
      refine vv_iload_n hC d_M_layBinary_84 1 rfl rfl ?_
      obtain ⟨hin_17, hw⟩ := hw
      refine vv_iald hC 19 0 d_M_layBinary_85 rfl rfl hin_17 ?_
      refine vv_istore_n hC d_M_layBinary_86 rfl (by decide) [1, 2, 0] (L2 := [(0, .ref (a_M 0)), (1, .int v1), (2, .int ((A_M 18) (v1).toNatClampNeg))]) rfl ?_
      refine vv_aload_n hC d_M_layBinary_87 0 rfl rfl ?_
      refine vv_aload_n hC d_M_layBinary_88 0 rfl rfl ?_
      refine vv_get hC (v := .ref (a_M 9)) hin_M 0 16 tb_688 d_M_layBinary_89 rfl rfl (by decide) rfl rfl ?_
      refine vv_iload_n hC d_M_layBinary_92 2 rfl rfl ?_
      obtain ⟨hin_18, hw⟩ := hw
      refine vv_iald hC 9 0 d_M_layBinary_93 rfl rfl hin_18 ?_
      refine vv_callVI (wr := []) hC (c_M_renamed l D cA sx a_M I_M A_M ((A_M 8) (((A_M 18) (v1).toNatClampNeg)).toNatClampNeg) _ hw) (cw_M_197 hC) d_M_layBinary_94 [] [0, 1, 2, 3, 4, 5, 6, 7, 8, 9, 10, 11, 12, 13, 14, 15, 16, 17, 18, 19, 20, 21, 22, 23] [] [0, 1, 2, 3, 4, 5, 6, 7, 8, 9, 10, 11, 12, 13, 14, 15, 16, 17, 18, 19, 20, 21, 22, 23] (fun u_20 : Unit => kc_M cA a_M I_M A_M) ⟨Nat.zero_le _, Nat.zero_le _⟩ rfl rfl (fun _ => rfl) rfl rfl rfl rfl rfl rfl rfl rfl (Nat.le_of_ble_eq_true rfl) (fun r_19 u_20 hw => ?_)
      refine vv_istore_n hC d_M_layBinary_97 rfl (by decide) [1, 2, 3, 0] (L2 := [(0, .ref (a_M 0)), (1, .int v1), (2, .int ((A_M 18) (v1).toNatClampNeg)), (3, .int r_19)]) rfl ?_
      refine vv_aload_n hC d_M_layBinary_98 0 rfl rfl ?_
      refine vv_aload_n hC d_M_layBinary_99 0 rfl rfl ?_
      refine vv_get hC (v := .ref (a_M 10)) hin_M 0 17 tb_689 d_M_layBinary_100 rfl rfl (by decide) rfl rfl ?_
      refine vv_iload_n hC d_M_layBinary_103 2 rfl rfl ?_
      refine vv_iald hC 10 0 d_M_layBinary_104 rfl rfl hin_18 ?_
      refine vv_callVI (wr := []) hC (c_M_renamed l D cA sx a_M I_M A_M ((A_M 9) (((A_M 18) (v1).toNatClampNeg)).toNatClampNeg) _ hw) (cw_M_197 hC) d_M_layBinary_105 [] [0, 1, 2, 3, 4, 5, 6, 7, 8, 9, 10, 11, 12, 13, 14, 15, 16, 17, 18, 19, 20, 21, 22, 23] [] [0, 1, 2, 3, 4, 5, 6, 7, 8, 9, 10, 11, 12, 13, 14, 15, 16, 17, 18, 19, 20, 21, 22, 23] (fun u_22 : Unit => kc_M cA a_M I_M A_M) ⟨Nat.zero_le _, Nat.zero_le _⟩ rfl rfl (fun _ => rfl) rfl rfl rfl rfl rfl rfl rfl rfl (Nat.le_of_ble_eq_true rfl) (fun r_21 u_22 hw => ?_)
      refine vv_istore hC d_M_layBinary_108 (by decide) [1, 2, 3, 4, 0] (L2 := [(0, .ref (a_M 0)), (1, .int v1), (2, .int ((A_M 18) (v1).toNatClampNeg)), (3, .int r_19), (4, .int r_21)]) rfl ?_
      refine vv_iload_n hC d_M_layBinary_110 3 rfl rfl ?_
      refine vv_iload hC d_M_layBinary_111 4 rfl ?_
      refine vv_icmp_le hC 120 d_M_layBinary_113 (by decide) (fun cd => ?_) (fun cd => ?_)
      · have hw := hw.1 cd
        refine vv_iload hC d_M_layBinary_120 4 rfl ?_
        refine vv_istore hC d_M_layBinary_122 (by decide) [1, 2, 3, 4, 5, 0] (L2 := [(0, .ref (a_M 0)), (1, .int v1), (2, .int ((A_M 18) (v1).toNatClampNeg)), (3, .int r_19), (4, .int r_21), (5, .int r_21)]) rfl ?_
        exact vv_sub [0, 1, 2, 3, 4, 5] (by rfl) (l_M_layBinary_b124 a_M Q (wp_M_layBinary_L70 Q X70 n70) X70 hC ih hX70 I_M A_M v1 ((A_M 18) (v1).toNatClampNeg) r_19 r_21 r_21 hw)
      · have hw := hw.2 cd
        refine vv_iload_n hC d_M_layBinary_116 3 rfl rfl ?_
        refine vv_goto hC 122 d_M_layBinary_117 (by decide) ?_
        refine vv_istore hC d_M_layBinary_122 (by decide) [1, 2, 3, 4, 5, 0] (L2 := [(0, .ref (a_M 0)), (1, .int v1), (2, .int ((A_M 18) (v1).toNatClampNeg)), (3, .int r_19), (4, .int r_21), (5, .int r_19)]) rfl ?_
        exact vv_sub [0, 1, 2, 3, 4, 5] (by rfl) (l_M_layBinary_b124 a_M Q (wp_M_layBinary_L70 Q X70 n70) X70 hC ih hX70 I_M A_M v1 ((A_M 18) (v1).toNatClampNeg) r_19 r_21 r_19 hw)
set_option maxHeartbeats 4000000 in
set_option maxRecDepth 100000 in
theorem c_M_layBinary (l : Launch) (D : va_G) (cA : Nat → ClassId) (sx : Nat → Nat) (a_M : Nat → Nat) (I_M : (Nat → Int32)) (A_M : (Nat → Nat → Int32)) (Q : (Nat → Int32) → (Nat → Nat → Int32) → Prop) (hw : wp_M_layBinary I_M A_M Q) : MetV l y_M_layBinary (Cond.code y_M_layBinary b_M_layBinary 6 none :: TB) ({ frames := 2, cells := 0, slots := 0, locals := 44 } : Room) D vwCl (tyl cA) (SPl sx) [.ref (a_M 0)] (kc_M cA a_M I_M A_M) (fun (u : (Nat → Int32) × (Nat → Nat → Int32)) => Q u.1 u.2) (fun u : (Nat → Int32) × (Nat → Nat → Int32) => kc_M cA a_M u.1 u.2) := by
  refine vv_entryV (cc := b_M_layBinary) (own := R_M) (L := [(0, .ref (a_M 0))]) (by decide) rfl rfl (Nat.le_of_ble_eq_true rfl) rfl (fun p e s m args below meth c A hC => ?_)
  unfold wp_M_layBinary at hw
  refine vv_iconst hC d_M_layBinary_0 (v := (0 : Int32)) (by decide) ?_
  refine vv_istore_n hC d_M_layBinary_1 rfl (by decide) [1, 0] (L2 := [(0, .ref (a_M 0)), (1, .int (0 : Int32))]) rfl ?_
  obtain ⟨m2, hw⟩ := hw
  refine vv_sub [0, 1] (by rfl) (l_M_layBinary_L2 a_M Q _ hC (fun I_M_7 A_M_8 hw => ?_) m2 I_M A_M (0 : Int32) hw)
  refine vv_iconst hC d_M_layBinary_34 (v := (0 : Int32)) (by decide) ?_
  refine vv_istore_n hC d_M_layBinary_35 rfl (by decide) [1, 0] (L2 := [(0, .ref (a_M 0)), (1, .int (0 : Int32))]) rfl ?_
  obtain ⟨m36, hw⟩ := hw
  refine vv_sub [0, 1] (by rfl) (l_M_layBinary_L36 a_M Q _ hC (fun I_M_15 A_M_16 hw => ?_) m36 I_M_7 A_M_8 (0 : Int32) hw)
  refine vv_iconst hC d_M_layBinary_68 (v := (0 : Int32)) (by decide) ?_
  refine vv_istore_n hC d_M_layBinary_69 rfl (by decide) [1, 0] (L2 := [(0, .ref (a_M 0)), (1, .int (0 : Int32))]) rfl ?_
  obtain ⟨m70, hw⟩ := hw
  refine vv_sub [0, 1] (by rfl) (l_M_layBinary_L70 a_M Q _ hC (fun I_M_35 A_M_36 hw => ?_) m70 I_M_15 A_M_16 (0 : Int32) hw)
  exact vv_vret hC d_M_layBinary_166 (I_M_35, A_M_36) hw rfl
set_option maxHeartbeats 4000000 in
set_option maxRecDepth 100000 in
theorem l_M_laySymbols_L74 {p : Program} {l : Launch} {e : Env} {s : State} {m : MethodId} {args : Array Value} {below : List Frame} {meth : Method} {c : Code} {D : va_G} {cA : Nat → ClassId} {sx : Nat → Nat} {A : Nat → Prop} (a_M : Nat → Nat) (Q : (Nat → Int32) → (Nat → Nat → Int32) → Prop) (K2 : (Nat → Int32) → (Nat → Nat → Int32) → Int32 → Prop) (X2 : (Nat → Int32) → (Nat → Nat → Int32) → Prop) (K9 : (Nat → Int32) → (Nat → Nat → Int32) → Int32 → Int32 → Prop) (X9 : (Nat → Int32) → (Nat → Nat → Int32) → Int32 → Prop) (X74 : (Nat → Int32) → (Nat → Nat → Int32) → Int32 → Int32 → Prop) (hC : CX p s m args meth c b_M_laySymbols R_M TB 5 D vwCl (tyl cA) A (SPl sx) none) (hK2 : ∀ (I_M : (Nat → Int32)) (A_M : (Nat → Nat → Int32)) (v1 : Int32), K2 I_M A_M v1 → VV p l e ({ frames := 2, cells := 0, slots := 0, locals := 44 } : Room) s m args below meth c 5 D vwCl A 0 0 (QV below args s D vwCl (tyl cA) A (fun (u : (Nat → Int32) × (Nat → Nat → Int32)) => Q u.1 u.2) (fun u : (Nat → Int32) × (Nat → Nat → Int32) => kc_M cA a_M u.1 u.2)) (kc_M cA a_M I_M A_M) 2 [(0, .ref (a_M 0)), (1, .int v1)] []) (hX2 : ∀ (I_M : (Nat → Int32)) (A_M : (Nat → Nat → Int32)), X2 I_M A_M → VV p l e ({ frames := 2, cells := 0, slots := 0, locals := 44 } : Room) s m args below meth c 5 D vwCl A 0 0 (QV below args s D vwCl (tyl cA) A (fun (u : (Nat → Int32) × (Nat → Nat → Int32)) => Q u.1 u.2) (fun u : (Nat → Int32) × (Nat → Nat → Int32) => kc_M cA a_M u.1 u.2)) (kc_M cA a_M I_M A_M) 125 [] []) (hK9 : ∀ (I_M : (Nat → Int32)) (A_M : (Nat → Nat → Int32)) (v1 : Int32) (v2 : Int32), K9 I_M A_M v1 v2 → VV p l e ({ frames := 2, cells := 0, slots := 0, locals := 44 } : Room) s m args below meth c 5 D vwCl A 0 0 (QV below args s D vwCl (tyl cA) A (fun (u : (Nat → Int32) × (Nat → Nat → Int32)) => Q u.1 u.2) (fun u : (Nat → Int32) × (Nat → Nat → Int32) => kc_M cA a_M u.1 u.2)) (kc_M cA a_M I_M A_M) 9 [(0, .ref (a_M 0)), (1, .int v1), (2, .int v2)] []) (hX9 : ∀ (I_M : (Nat → Int32)) (A_M : (Nat → Nat → Int32)) (v1 : Int32), X9 I_M A_M v1 → VV p l e ({ frames := 2, cells := 0, slots := 0, locals := 44 } : Room) s m args below meth c 5 D vwCl A 0 0 (QV below args s D vwCl (tyl cA) A (fun (u : (Nat → Int32) × (Nat → Nat → Int32)) => Q u.1 u.2) (fun u : (Nat → Int32) × (Nat → Nat → Int32) => kc_M cA a_M u.1 u.2)) (kc_M cA a_M I_M A_M) 119 [(0, .ref (a_M 0)), (1, .int v1)] []) (hX74 : ∀ (I_M : (Nat → Int32)) (A_M : (Nat → Nat → Int32)) (v1 : Int32) (v2 : Int32), X74 I_M A_M v1 v2 → VV p l e ({ frames := 2, cells := 0, slots := 0, locals := 44 } : Room) s m args below meth c 5 D vwCl A 0 0 (QV below args s D vwCl (tyl cA) A (fun (u : (Nat → Int32) × (Nat → Nat → Int32)) => Q u.1 u.2) (fun u : (Nat → Int32) × (Nat → Nat → Int32) => kc_M cA a_M u.1 u.2)) (kc_M cA a_M I_M A_M) 107 [(0, .ref (a_M 0)), (1, .int v1), (2, .int v2)] []) : ∀ (n74 : Nat) (I_M : (Nat → Int32)) (A_M : (Nat → Nat → Int32)) (v1 : Int32) (v2 : Int32) (v3 : Int32) (v4 : Int32), wp_M_laySymbols_L74 Q K2 X2 K9 X9 X74 n74 I_M A_M v1 v2 v3 v4 → VV p l e ({ frames := 2, cells := 0, slots := 0, locals := 44 } : Room) s m args below meth c 5 D vwCl A 0 0 (QV below args s D vwCl (tyl cA) A (fun (u : (Nat → Int32) × (Nat → Nat → Int32)) => Q u.1 u.2) (fun u : (Nat → Int32) × (Nat → Nat → Int32) => kc_M cA a_M u.1 u.2)) (kc_M cA a_M I_M A_M) 74 [(0, .ref (a_M 0)), (1, .int v1), (2, .int v2), (3, .int v3), (4, .int v4)] [] := by
  intro n74
  induction n74 with
  | zero =>
    intro I_M A_M v1 v2 v3 v4 hw
    exact absurd hw (fun z => z)
  | succ n74 ih =>
    intro I_M A_M v1 v2 v3 v4 hw
    unfold wp_M_laySymbols_L74 at hw
    refine vv_iload hC d_M_laySymbols_74 4 rfl ?_
    refine vv_aload_n hC d_M_laySymbols_76 0 rfl rfl ?_
    refine vv_get hC (v := .ref (a_M 18)) hin_M 0 25 tb_697 d_M_laySymbols_77 rfl rfl (by decide) rfl rfl ?_
    refine vv_iload_n hC d_M_laySymbols_80 3 rfl rfl ?_
    obtain ⟨hin_11, hw⟩ := hw
    refine vv_iald hC 18 0 d_M_laySymbols_81 rfl rfl hin_11 ?_
    refine vv_icmp_ge hC 107 d_M_laySymbols_82 (by decide) (fun cd => ?_) (fun cd => ?_)
    · have hw := hw.1 cd
      exact vv_sub [0, 1, 2] (by rfl) (hX74 I_M A_M v1 v2 hw)
    · have hw := hw.2 cd
      refine vv_aload_n hC d_M_laySymbols_85 0 rfl rfl ?_
      refine vv_aload_n hC d_M_laySymbols_86 0 rfl rfl ?_
      refine vv_get hC (v := .ref (a_M 17)) hin_M 0 24 tb_696 d_M_laySymbols_87 rfl rfl (by decide) rfl rfl ?_
      refine vv_bipush hC d_M_laySymbols_90 (v := (40 : Int32)) (by decide) ?_
      refine vv_iload_n hC d_M_laySymbols_92 3 rfl rfl ?_
      refine vv_imul hC d_M_laySymbols_93 ?_
      refine vv_iload hC d_M_laySymbols_94 4 rfl ?_
      refine vv_iadd hC d_M_laySymbols_96 ?_
      obtain ⟨hin_12, hw⟩ := hw
      refine vv_bald hC 17 2 d_M_laySymbols_97 rfl rfl hin_12 ?_
      refine vv_callVV (wr := []) hC (c_M_lay l D cA sx a_M I_M A_M ((A_M 16) ((((40 : Int32) * v3) + v4)).toNatClampNeg) _ hw) (cw_M_191 hC) d_M_laySymbols_98 [] [0, 1, 2, 3, 4, 5, 6, 7, 8, 9, 10, 11, 12, 13, 14, 15, 16, 17, 18, 19, 20, 21, 22, 23] [] [0, 1, 2, 3, 4, 5, 6, 7, 8, 9, 10, 11, 12, 13, 14, 15, 16, 17, 18, 19, 20, 21, 22, 23] (fun u_13 : (Nat → Int32) × (Nat → Nat → Int32) => kc_M cA a_M u_13.1 u_13.2) ⟨Nat.zero_le _, Nat.zero_le _⟩ rfl rfl (fun _ => rfl) rfl rfl rfl rfl rfl rfl rfl rfl (Nat.le_of_ble_eq_true rfl) (fun u_13 hw => ?_)
      refine vv_iinc hC d_M_laySymbols_101 4 rfl (v := (v4 + (1 : Int32))) rfl (by decide) [1, 2, 3, 4, 0] (L2 := [(0, .ref (a_M 0)), (1, .int v1), (2, .int v2), (3, .int v3), (4, .int (v4 + (1 : Int32)))]) rfl ?_
      refine vv_goto hC 74 d_M_laySymbols_104 (by decide) ?_
      exact vv_sub [0, 1, 2, 3, 4] (by rfl) (ih u_13.1 u_13.2 v1 v2 v3 (v4 + (1 : Int32)) hw)
set_option maxHeartbeats 4000000 in
set_option maxRecDepth 100000 in
theorem l_M_laySymbols_b64 {p : Program} {l : Launch} {e : Env} {s : State} {m : MethodId} {args : Array Value} {below : List Frame} {meth : Method} {c : Code} {D : va_G} {cA : Nat → ClassId} {sx : Nat → Nat} {A : Nat → Prop} (a_M : Nat → Nat) (Q : (Nat → Int32) → (Nat → Nat → Int32) → Prop) (K2 : (Nat → Int32) → (Nat → Nat → Int32) → Int32 → Prop) (X2 : (Nat → Int32) → (Nat → Nat → Int32) → Prop) (K9 : (Nat → Int32) → (Nat → Nat → Int32) → Int32 → Int32 → Prop) (X9 : (Nat → Int32) → (Nat → Nat → Int32) → Int32 → Prop) (hC : CX p s m args meth c b_M_laySymbols R_M TB 5 D vwCl (tyl cA) A (SPl sx) none) (hK2 : ∀ (I_M : (Nat → Int32)) (A_M : (Nat → Nat → Int32)) (v1 : Int32), K2 I_M A_M v1 → VV p l e ({ frames := 2, cells := 0, slots := 0, locals := 44 } : Room) s m args below meth c 5 D vwCl A 0 0 (QV below args s D vwCl (tyl cA) A (fun (u : (Nat → Int32) × (Nat → Nat → Int32)) => Q u.1 u.2) (fun u : (Nat → Int32) × (Nat → Nat → Int32) => kc_M cA a_M u.1 u.2)) (kc_M cA a_M I_M A_M) 2 [(0, .ref (a_M 0)), (1, .int v1)] []) (hX2 : ∀ (I_M : (Nat → Int32)) (A_M : (Nat → Nat → Int32)), X2 I_M A_M → VV p l e ({ frames := 2, cells := 0, slots := 0, locals := 44 } : Room) s m args below meth c 5 D vwCl A 0 0 (QV below args s D vwCl (tyl cA) A (fun (u : (Nat → Int32) × (Nat → Nat → Int32)) => Q u.1 u.2) (fun u : (Nat → Int32) × (Nat → Nat → Int32) => kc_M cA a_M u.1 u.2)) (kc_M cA a_M I_M A_M) 125 [] []) (hK9 : ∀ (I_M : (Nat → Int32)) (A_M : (Nat → Nat → Int32)) (v1 : Int32) (v2 : Int32), K9 I_M A_M v1 v2 → VV p l e ({ frames := 2, cells := 0, slots := 0, locals := 44 } : Room) s m args below meth c 5 D vwCl A 0 0 (QV below args s D vwCl (tyl cA) A (fun (u : (Nat → Int32) × (Nat → Nat → Int32)) => Q u.1 u.2) (fun u : (Nat → Int32) × (Nat → Nat → Int32) => kc_M cA a_M u.1 u.2)) (kc_M cA a_M I_M A_M) 9 [(0, .ref (a_M 0)), (1, .int v1), (2, .int v2)] []) (hX9 : ∀ (I_M : (Nat → Int32)) (A_M : (Nat → Nat → Int32)) (v1 : Int32), X9 I_M A_M v1 → VV p l e ({ frames := 2, cells := 0, slots := 0, locals := 44 } : Room) s m args below meth c 5 D vwCl A 0 0 (QV below args s D vwCl (tyl cA) A (fun (u : (Nat → Int32) × (Nat → Nat → Int32)) => Q u.1 u.2) (fun u : (Nat → Int32) × (Nat → Nat → Int32) => kc_M cA a_M u.1 u.2)) (kc_M cA a_M I_M A_M) 119 [(0, .ref (a_M 0)), (1, .int v1)] []) : ∀ (I_M : (Nat → Int32)) (A_M : (Nat → Nat → Int32)) (v1 : Int32) (v2 : Int32) (v3 : Int32), wp_M_laySymbols_b64 Q K2 X2 K9 X9 I_M A_M v1 v2 v3 → VV p l e ({ frames := 2, cells := 0, slots := 0, locals := 44 } : Room) s m args below meth c 5 D vwCl A 0 0 (QV below args s D vwCl (tyl cA) A (fun (u : (Nat → Int32) × (Nat → Nat → Int32)) => Q u.1 u.2) (fun u : (Nat → Int32) × (Nat → Nat → Int32) => kc_M cA a_M u.1 u.2)) (kc_M cA a_M I_M A_M) 64 [(0, .ref (a_M 0)), (1, .int v1), (2, .int v2), (3, .int v3)] [] := by
  intro I_M A_M v1 v2 v3 hw
  unfold wp_M_laySymbols_b64 at hw
  refine vv_aload_n hC d_M_laySymbols_64 0 rfl rfl ?_
  refine vv_iload_n hC d_M_laySymbols_65 2 rfl rfl ?_
  refine vv_bipush hC d_M_laySymbols_66 (v := (32 : Int32)) (by decide) ?_
  refine vv_callVV (wr := []) hC (c_M_layNumber l D cA sx a_M I_M A_M v2 (32 : Int32) _ hw) (cw_M_194 hC) d_M_laySymbols_68 [] [0, 1, 2, 3, 4, 5, 6, 7, 8, 9, 10, 11, 12, 13, 14, 15, 16, 17, 18, 19, 20, 21, 22, 23] [] [0, 1, 2, 3, 4, 5, 6, 7, 8, 9, 10, 11, 12, 13, 14, 15, 16, 17, 18, 19, 20, 21, 22, 23] (fun u_8 : (Nat → Int32) × (Nat → Nat → Int32) => kc_M cA a_M u_8.1 u_8.2) ⟨Nat.zero_le _, Nat.zero_le _⟩ rfl rfl (fun _ => rfl) rfl rfl rfl rfl rfl rfl rfl rfl (Nat.le_of_ble_eq_true rfl) (fun u_8 hw => ?_)
  refine vv_iconst hC d_M_laySymbols_71 (v := (0 : Int32)) (by decide) ?_
  refine vv_istore hC d_M_laySymbols_72 (by decide) [1, 2, 3, 4, 0] (L2 := [(0, .ref (a_M 0)), (1, .int v1), (2, .int v2), (3, .int v3), (4, .int (0 : Int32))]) rfl ?_
  obtain ⟨m74, hw⟩ := hw
  refine vv_sub [0, 1, 2, 3, 4] (by rfl) (l_M_laySymbols_L74 a_M Q K2 X2 K9 X9 _ hC hK2 hX2 hK9 hX9 (fun I_M_16 A_M_17 v1_18 v2_19 hw => ?_) m74 u_8.1 u_8.2 v1 v2 v3 (0 : Int32) hw)
  refine vv_aload_n hC d_M_laySymbols_107 0 rfl rfl ?_
  refine vv_bipush hC d_M_laySymbols_108 (v := (10 : Int32)) (by decide) ?_
  refine vv_callVV (wr := []) hC (c_M_lay l D cA sx a_M I_M_16 A_M_17 (10 : Int32) _ hw) (cw_M_191 hC) d_M_laySymbols_110 [] [0, 1, 2, 3, 4, 5, 6, 7, 8, 9, 10, 11, 12, 13, 14, 15, 16, 17, 18, 19, 20, 21, 22, 23] [] [0, 1, 2, 3, 4, 5, 6, 7, 8, 9, 10, 11, 12, 13, 14, 15, 16, 17, 18, 19, 20, 21, 22, 23] (fun u_20 : (Nat → Int32) × (Nat → Nat → Int32) => kc_M cA a_M u_20.1 u_20.2) ⟨Nat.zero_le _, Nat.zero_le _⟩ rfl rfl (fun _ => rfl) rfl rfl rfl rfl rfl rfl rfl rfl (Nat.le_of_ble_eq_true rfl) (fun u_20 hw => ?_)
  refine vv_iinc hC d_M_laySymbols_113 2 rfl (v := (v2_19 + (1 : Int32))) rfl (by decide) [1, 2, 0] (L2 := [(0, .ref (a_M 0)), (1, .int v1_18), (2, .int (v2_19 + (1 : Int32)))]) rfl ?_
  refine vv_goto hC 9 d_M_laySymbols_116 (by decide) ?_
  exact vv_sub [0, 1, 2] (by rfl) (hK9 u_20.1 u_20.2 v1_18 (v2_19 + (1 : Int32)) hw)
set_option maxHeartbeats 4000000 in
set_option maxRecDepth 100000 in
theorem l_M_laySymbols_L9 {p : Program} {l : Launch} {e : Env} {s : State} {m : MethodId} {args : Array Value} {below : List Frame} {meth : Method} {c : Code} {D : va_G} {cA : Nat → ClassId} {sx : Nat → Nat} {A : Nat → Prop} (a_M : Nat → Nat) (Q : (Nat → Int32) → (Nat → Nat → Int32) → Prop) (K2 : (Nat → Int32) → (Nat → Nat → Int32) → Int32 → Prop) (X2 : (Nat → Int32) → (Nat → Nat → Int32) → Prop) (X9 : (Nat → Int32) → (Nat → Nat → Int32) → Int32 → Prop) (hC : CX p s m args meth c b_M_laySymbols R_M TB 5 D vwCl (tyl cA) A (SPl sx) none) (hK2 : ∀ (I_M : (Nat → Int32)) (A_M : (Nat → Nat → Int32)) (v1 : Int32), K2 I_M A_M v1 → VV p l e ({ frames := 2, cells := 0, slots := 0, locals := 44 } : Room) s m args below meth c 5 D vwCl A 0 0 (QV below args s D vwCl (tyl cA) A (fun (u : (Nat → Int32) × (Nat → Nat → Int32)) => Q u.1 u.2) (fun u : (Nat → Int32) × (Nat → Nat → Int32) => kc_M cA a_M u.1 u.2)) (kc_M cA a_M I_M A_M) 2 [(0, .ref (a_M 0)), (1, .int v1)] []) (hX2 : ∀ (I_M : (Nat → Int32)) (A_M : (Nat → Nat → Int32)), X2 I_M A_M → VV p l e ({ frames := 2, cells := 0, slots := 0, locals := 44 } : Room) s m args below meth c 5 D vwCl A 0 0 (QV below args s D vwCl (tyl cA) A (fun (u : (Nat → Int32) × (Nat → Nat → Int32)) => Q u.1 u.2) (fun u : (Nat → Int32) × (Nat → Nat → Int32) => kc_M cA a_M u.1 u.2)) (kc_M cA a_M I_M A_M) 125 [] []) (hX9 : ∀ (I_M : (Nat → Int32)) (A_M : (Nat → Nat → Int32)) (v1 : Int32), X9 I_M A_M v1 → VV p l e ({ frames := 2, cells := 0, slots := 0, locals := 44 } : Room) s m args below meth c 5 D vwCl A 0 0 (QV below args s D vwCl (tyl cA) A (fun (u : (Nat → Int32) × (Nat → Nat → Int32)) => Q u.1 u.2) (fun u : (Nat → Int32) × (Nat → Nat → Int32) => kc_M cA a_M u.1 u.2)) (kc_M cA a_M I_M A_M) 119 [(0, .ref (a_M 0)), (1, .int v1)] []) : ∀ (n9 : Nat) (I_M : (Nat → Int32)) (A_M : (Nat → Nat → Int32)) (v1 : Int32) (v2 : Int32), wp_M_laySymbols_L9 Q K2 X2 X9 n9 I_M A_M v1 v2 → VV p l e ({ frames := 2, cells := 0, slots := 0, locals := 44 } : Room) s m args below meth c 5 D vwCl A 0 0 (QV below args s D vwCl (tyl cA) A (fun (u : (Nat → Int32) × (Nat → Nat → Int32)) => Q u.1 u.2) (fun u : (Nat → Int32) × (Nat → Nat → Int32) => kc_M cA a_M u.1 u.2)) (kc_M cA a_M I_M A_M) 9 [(0, .ref (a_M 0)), (1, .int v1), (2, .int v2)] [] := by
  intro n9
  induction n9 with
  | zero =>
    intro I_M A_M v1 v2 hw
    exact absurd hw (fun z => z)
  | succ n9 ih =>
    intro I_M A_M v1 v2 hw
    unfold wp_M_laySymbols_L9 at hw
    refine vv_iload_n hC d_M_laySymbols_9 2 rfl rfl ?_
    refine vv_aload_n hC d_M_laySymbols_10 0 rfl rfl ?_
    refine vv_get hC (v := .ref (a_M 3)) hin_M 0 10 tb_682 d_M_laySymbols_11 rfl rfl (by decide) rfl rfl ?_
    refine vv_iconst hC d_M_laySymbols_14 (v := (1 : Int32)) (by decide) ?_
    refine vv_iload_n hC d_M_laySymbols_15 1 rfl rfl ?_
    refine vv_iadd hC d_M_laySymbols_16 ?_
    obtain ⟨hin_1, hw⟩ := hw
    refine vv_iald hC 3 0 d_M_laySymbols_17 rfl rfl hin_1 ?_
    refine vv_icmp_ge hC 119 d_M_laySymbols_18 (by decide) (fun cd => ?_) (fun cd => ?_)
    · have hw := hw.1 cd
      exact vv_sub [0, 1] (by rfl) (hX9 I_M A_M v1 hw)
    · have hw := hw.2 cd
      refine vv_iload_n hC d_M_laySymbols_21 1 rfl rfl ?_
      refine vv_iload_n hC d_M_laySymbols_22 2 rfl rfl ?_
      refine vv_callSI (wr := kc_M cA a_M I_M A_M) hC (c_M_row l D cA sx v1 v2 _ hw) (cw_M_185 hC) d_M_laySymbols_23 [] [] [0, 1, 2, 3, 4, 5, 6, 7, 8, 9, 10, 11, 12, 13, 14, 15, 16, 17, 18, 19, 20, 21, 22, 23] [0, 1, 2, 3, 4, 5, 6, 7, 8, 9, 10, 11, 12, 13, 14, 15, 16, 17, 18, 19, 20, 21, 22, 23] (fun u_3 : Unit => kc_M cA a_M I_M A_M) ⟨Nat.zero_le _, Nat.zero_le _⟩ rfl rfl (fun _ => rfl) rfl rfl rfl rfl rfl rfl (Nat.le_of_ble_eq_true rfl) (fun r_2 u_3 hw => ?_)
      refine vv_istore_n hC d_M_laySymbols_26 rfl (by decide) [1, 2, 3, 0] (L2 := [(0, .ref (a_M 0)), (1, .int v1), (2, .int v2), (3, .int r_2)]) rfl ?_
      refine vv_aload_n hC d_M_laySymbols_27 0 rfl rfl ?_
      refine vv_get hC (v := .ref (a_M 18)) hin_M 0 25 tb_697 d_M_laySymbols_28 rfl rfl (by decide) rfl rfl ?_
      refine vv_iload_n hC d_M_laySymbols_31 3 rfl rfl ?_
      obtain ⟨hin_4, hw⟩ := hw
      refine vv_iald hC 18 0 d_M_laySymbols_32 rfl rfl hin_4 ?_
      refine vv_if_ne hC 39 d_M_laySymbols_33 (by decide) (fun cd => ?_) (fun cd => ?_)
      · have hw := hw.2 cd
        refine vv_aload_n hC d_M_laySymbols_39 0 rfl rfl ?_
        refine vv_iload_n hC d_M_laySymbols_40 1 rfl rfl ?_
        refine vv_if_ne hC 49 d_M_laySymbols_41 (by decide) (fun cd => ?_) (fun cd => ?_)
        · have hw := hw.2 cd
          refine vv_iload_n hC d_M_laySymbols_49 1 rfl rfl ?_
          refine vv_iconst hC d_M_laySymbols_50 (v := (1 : Int32)) (by decide) ?_
          refine vv_icmp_ne hC 59 d_M_laySymbols_51 (by decide) (fun cd => ?_) (fun cd => ?_)
          · have hw := hw.2 cd
            refine vv_bipush hC d_M_laySymbols_59 (v := (111 : Int32)) (by decide) ?_
            refine vv_callVV (wr := []) hC (c_M_lay l D cA sx a_M I_M A_M (111 : Int32) _ hw) (cw_M_191 hC) d_M_laySymbols_61 [] [0, 1, 2, 3, 4, 5, 6, 7, 8, 9, 10, 11, 12, 13, 14, 15, 16, 17, 18, 19, 20, 21, 22, 23] [] [0, 1, 2, 3, 4, 5, 6, 7, 8, 9, 10, 11, 12, 13, 14, 15, 16, 17, 18, 19, 20, 21, 22, 23] (fun u_5 : (Nat → Int32) × (Nat → Nat → Int32) => kc_M cA a_M u_5.1 u_5.2) ⟨Nat.zero_le _, Nat.zero_le _⟩ rfl rfl (fun _ => rfl) rfl rfl rfl rfl rfl rfl rfl rfl (Nat.le_of_ble_eq_true rfl) (fun u_5 hw => ?_)
            exact vv_sub [0, 1, 2, 3] (by rfl) (l_M_laySymbols_b64 a_M Q K2 X2 (wp_M_laySymbols_L9 Q K2 X2 X9 n9) X9 hC hK2 hX2 ih hX9 u_5.1 u_5.2 v1 v2 r_2 hw)
          · have hw := hw.1 cd
            refine vv_bipush hC d_M_laySymbols_54 (v := (108 : Int32)) (by decide) ?_
            refine vv_goto hC 61 d_M_laySymbols_56 (by decide) ?_
            refine vv_callVV (wr := []) hC (c_M_lay l D cA sx a_M I_M A_M (108 : Int32) _ hw) (cw_M_191 hC) d_M_laySymbols_61 [] [0, 1, 2, 3, 4, 5, 6, 7, 8, 9, 10, 11, 12, 13, 14, 15, 16, 17, 18, 19, 20, 21, 22, 23] [] [0, 1, 2, 3, 4, 5, 6, 7, 8, 9, 10, 11, 12, 13, 14, 15, 16, 17, 18, 19, 20, 21, 22, 23] (fun u_23 : (Nat → Int32) × (Nat → Nat → Int32) => kc_M cA a_M u_23.1 u_23.2) ⟨Nat.zero_le _, Nat.zero_le _⟩ rfl rfl (fun _ => rfl) rfl rfl rfl rfl rfl rfl rfl rfl (Nat.le_of_ble_eq_true rfl) (fun u_23 hw => ?_)
            exact vv_sub [0, 1, 2, 3] (by rfl) (l_M_laySymbols_b64 a_M Q K2 X2 (wp_M_laySymbols_L9 Q K2 X2 X9 n9) X9 hC hK2 hX2 ih hX9 u_23.1 u_23.2 v1 v2 r_2 hw)
        · have hw := hw.1 cd
          refine vv_bipush hC d_M_laySymbols_44 (v := (105 : Int32)) (by decide) ?_
          refine vv_goto hC 61 d_M_laySymbols_46 (by decide) ?_
          refine vv_callVV (wr := []) hC (c_M_lay l D cA sx a_M I_M A_M (105 : Int32) _ hw) (cw_M_191 hC) d_M_laySymbols_61 [] [0, 1, 2, 3, 4, 5, 6, 7, 8, 9, 10, 11, 12, 13, 14, 15, 16, 17, 18, 19, 20, 21, 22, 23] [] [0, 1, 2, 3, 4, 5, 6, 7, 8, 9, 10, 11, 12, 13, 14, 15, 16, 17, 18, 19, 20, 21, 22, 23] (fun u_26 : (Nat → Int32) × (Nat → Nat → Int32) => kc_M cA a_M u_26.1 u_26.2) ⟨Nat.zero_le _, Nat.zero_le _⟩ rfl rfl (fun _ => rfl) rfl rfl rfl rfl rfl rfl rfl rfl (Nat.le_of_ble_eq_true rfl) (fun u_26 hw => ?_)
          exact vv_sub [0, 1, 2, 3] (by rfl) (l_M_laySymbols_b64 a_M Q K2 X2 (wp_M_laySymbols_L9 Q K2 X2 X9 n9) X9 hC hK2 hX2 ih hX9 u_26.1 u_26.2 v1 v2 r_2 hw)
      · have hw := hw.1 cd
        refine vv_goto hC 113 d_M_laySymbols_36 (by decide) ?_
        refine vv_iinc hC d_M_laySymbols_113 2 rfl (v := (v2 + (1 : Int32))) rfl (by decide) [1, 2, 0, 3] (L2 := [(0, .ref (a_M 0)), (1, .int v1), (2, .int (v2 + (1 : Int32))), (3, .int r_2)]) rfl ?_
        refine vv_goto hC 9 d_M_laySymbols_116 (by decide) ?_
        exact vv_sub [0, 1, 2] (by rfl) (ih I_M A_M v1 (v2 + (1 : Int32)) hw)
set_option maxHeartbeats 4000000 in
set_option maxRecDepth 100000 in
theorem l_M_laySymbols_L2 {p : Program} {l : Launch} {e : Env} {s : State} {m : MethodId} {args : Array Value} {below : List Frame} {meth : Method} {c : Code} {D : va_G} {cA : Nat → ClassId} {sx : Nat → Nat} {A : Nat → Prop} (a_M : Nat → Nat) (Q : (Nat → Int32) → (Nat → Nat → Int32) → Prop) (X2 : (Nat → Int32) → (Nat → Nat → Int32) → Prop) (hC : CX p s m args meth c b_M_laySymbols R_M TB 5 D vwCl (tyl cA) A (SPl sx) none) (hX2 : ∀ (I_M : (Nat → Int32)) (A_M : (Nat → Nat → Int32)), X2 I_M A_M → VV p l e ({ frames := 2, cells := 0, slots := 0, locals := 44 } : Room) s m args below meth c 5 D vwCl A 0 0 (QV below args s D vwCl (tyl cA) A (fun (u : (Nat → Int32) × (Nat → Nat → Int32)) => Q u.1 u.2) (fun u : (Nat → Int32) × (Nat → Nat → Int32) => kc_M cA a_M u.1 u.2)) (kc_M cA a_M I_M A_M) 125 [] []) : ∀ (n2 : Nat) (I_M : (Nat → Int32)) (A_M : (Nat → Nat → Int32)) (v1 : Int32), wp_M_laySymbols_L2 Q X2 n2 I_M A_M v1 → VV p l e ({ frames := 2, cells := 0, slots := 0, locals := 44 } : Room) s m args below meth c 5 D vwCl A 0 0 (QV below args s D vwCl (tyl cA) A (fun (u : (Nat → Int32) × (Nat → Nat → Int32)) => Q u.1 u.2) (fun u : (Nat → Int32) × (Nat → Nat → Int32) => kc_M cA a_M u.1 u.2)) (kc_M cA a_M I_M A_M) 2 [(0, .ref (a_M 0)), (1, .int v1)] [] := by
  intro n2
  induction n2 with
  | zero =>
    intro I_M A_M v1 hw
    exact absurd hw (fun z => z)
  | succ n2 ih =>
    intro I_M A_M v1 hw
    unfold wp_M_laySymbols_L2 at hw
    refine vv_iload_n hC d_M_laySymbols_2 1 rfl rfl ?_
    refine vv_iconst hC d_M_laySymbols_3 (v := (3 : Int32)) (by decide) ?_
    refine vv_icmp_ge hC 125 d_M_laySymbols_4 (by decide) (fun cd => ?_) (fun cd => ?_)
    · have hw := hw.1 cd
      exact vv_sub [] (by rfl) (hX2 I_M A_M hw)
    · have hw := hw.2 cd
      refine vv_iconst hC d_M_laySymbols_7 (v := (0 : Int32)) (by decide) ?_
      refine vv_istore_n hC d_M_laySymbols_8 rfl (by decide) [1, 2, 0] (L2 := [(0, .ref (a_M 0)), (1, .int v1), (2, .int (0 : Int32))]) rfl ?_
      obtain ⟨m9, hw⟩ := hw
      refine vv_sub [0, 1, 2] (by rfl) (l_M_laySymbols_L9 a_M Q (wp_M_laySymbols_L2 Q X2 n2) X2 _ hC ih hX2 (fun I_M_29 A_M_30 v1_31 hw => ?_) m9 I_M A_M v1 (0 : Int32) hw)
      refine vv_iinc hC d_M_laySymbols_119 1 rfl (v := (v1_31 + (1 : Int32))) rfl (by decide) [1, 0] (L2 := [(0, .ref (a_M 0)), (1, .int (v1_31 + (1 : Int32)))]) rfl ?_
      refine vv_goto hC 2 d_M_laySymbols_122 (by decide) ?_
      exact vv_sub [0, 1] (by rfl) (ih I_M_29 A_M_30 (v1_31 + (1 : Int32)) hw)
set_option maxHeartbeats 4000000 in
set_option maxRecDepth 100000 in
theorem c_M_laySymbols (l : Launch) (D : va_G) (cA : Nat → ClassId) (sx : Nat → Nat) (a_M : Nat → Nat) (I_M : (Nat → Int32)) (A_M : (Nat → Nat → Int32)) (Q : (Nat → Int32) → (Nat → Nat → Int32) → Prop) (hw : wp_M_laySymbols I_M A_M Q) : MetV l y_M_laySymbols (Cond.code y_M_laySymbols b_M_laySymbols 5 none :: TB) ({ frames := 2, cells := 0, slots := 0, locals := 44 } : Room) D vwCl (tyl cA) (SPl sx) [.ref (a_M 0)] (kc_M cA a_M I_M A_M) (fun (u : (Nat → Int32) × (Nat → Nat → Int32)) => Q u.1 u.2) (fun u : (Nat → Int32) × (Nat → Nat → Int32) => kc_M cA a_M u.1 u.2) := by
  refine vv_entryV (cc := b_M_laySymbols) (own := R_M) (L := [(0, .ref (a_M 0))]) (by decide) rfl rfl (Nat.le_of_ble_eq_true rfl) rfl (fun p e s m args below meth c A hC => ?_)
  unfold wp_M_laySymbols at hw
  refine vv_iconst hC d_M_laySymbols_0 (v := (0 : Int32)) (by decide) ?_
  refine vv_istore_n hC d_M_laySymbols_1 rfl (by decide) [1, 0] (L2 := [(0, .ref (a_M 0)), (1, .int (0 : Int32))]) rfl ?_
  obtain ⟨m2, hw⟩ := hw
  refine vv_sub [0, 1] (by rfl) (l_M_laySymbols_L2 a_M Q _ hC (fun I_M_32 A_M_33 hw => ?_) m2 I_M A_M (0 : Int32) hw)
  exact vv_vret hC d_M_laySymbols_125 (I_M_32, A_M_33) hw rfl
set_option maxHeartbeats 4000000 in
set_option maxRecDepth 100000 in
theorem l_M_sortAgain_L2 {p : Program} {l : Launch} {e : Env} {s : State} {m : MethodId} {args : Array Value} {below : List Frame} {meth : Method} {c : Code} {D : va_G} {cA : Nat → ClassId} {sx : Nat → Nat} {A : Nat → Prop} (a_M : Nat → Nat) (Q : (Nat → Int32) → (Nat → Nat → Int32) → Prop) (X2 : (Nat → Int32) → (Nat → Nat → Int32) → Prop) (hC : CX p s m args meth c b_M_sortAgain R_M TB 2 D vwCl (tyl cA) A (SPl sx) none) (hX2 : ∀ (I_M : (Nat → Int32)) (A_M : (Nat → Nat → Int32)), X2 I_M A_M → VV p l e ({ frames := 2, cells := 0, slots := 0, locals := 44 } : Room) s m args below meth c 2 D vwCl A 0 0 (QV below args s D vwCl (tyl cA) A (fun (u : (Nat → Int32) × (Nat → Nat → Int32)) => Q u.1 u.2) (fun u : (Nat → Int32) × (Nat → Nat → Int32) => kc_M cA a_M u.1 u.2)) (kc_M cA a_M I_M A_M) 27 [(0, .ref (a_M 0))] []) : ∀ (n2 : Nat) (I_M : (Nat → Int32)) (A_M : (Nat → Nat → Int32)) (v1 : Int32), wp_M_sortAgain_L2 Q X2 n2 I_M A_M v1 → VV p l e ({ frames := 2, cells := 0, slots := 0, locals := 44 } : Room) s m args below meth c 2 D vwCl A 0 0 (QV below args s D vwCl (tyl cA) A (fun (u : (Nat → Int32) × (Nat → Nat → Int32)) => Q u.1 u.2) (fun u : (Nat → Int32) × (Nat → Nat → Int32) => kc_M cA a_M u.1 u.2)) (kc_M cA a_M I_M A_M) 2 [(0, .ref (a_M 0)), (1, .int v1)] [] := by
  intro n2
  induction n2 with
  | zero =>
    intro I_M A_M v1 hw
    exact absurd hw (fun z => z)
  | succ n2 ih =>
    intro I_M A_M v1 hw
    unfold wp_M_sortAgain_L2 at hw
    refine vv_iload_n hC d_M_sortAgain_2 1 rfl rfl ?_
    refine vv_iconst hC d_M_sortAgain_3 (v := (5 : Int32)) (by decide) ?_
    refine vv_icmp_ge hC 27 d_M_sortAgain_4 (by decide) (fun cd => ?_) (fun cd => ?_)
    · have hw := hw.1 cd
      exact vv_sub [0] (by rfl) (hX2 I_M A_M hw)
    · have hw := hw.2 cd
      refine vv_aload_n hC d_M_sortAgain_7 0 rfl rfl ?_
      refine vv_get hC (v := .ref (a_M 3)) hin_M 0 10 tb_682 d_M_sortAgain_8 rfl rfl (by decide) rfl rfl ?_
      refine vv_iconst hC d_M_sortAgain_11 (v := (5 : Int32)) (by decide) ?_
      refine vv_iload_n hC d_M_sortAgain_12 1 rfl rfl ?_
      refine vv_iadd hC d_M_sortAgain_13 ?_
      refine vv_aload_n hC d_M_sortAgain_14 0 rfl rfl ?_
      refine vv_get hC (v := .ref (a_M 3)) hin_M 0 10 tb_682 d_M_sortAgain_15 rfl rfl (by decide) rfl rfl ?_
      refine vv_iload_n hC d_M_sortAgain_18 1 rfl rfl ?_
      obtain ⟨hin_1, hw⟩ := hw
      refine vv_iald hC 3 0 d_M_sortAgain_19 rfl rfl hin_1 ?_
      obtain ⟨hin_2, hw⟩ := hw
      refine vv_iast hC 3 0 d_M_sortAgain_20 rfl rfl hin_2 (ws2 := kc_M cA a_M I_M (va_up A_M 2 (upd (A_M 2) (((5 : Int32) + v1)).toNatClampNeg ((A_M 2) (v1).toNatClampNeg)))) (st_M_MA2 ..) ?_
      refine vv_iinc hC d_M_sortAgain_21 1 rfl (v := (v1 + (1 : Int32))) rfl (by decide) [1, 0] (L2 := [(0, .ref (a_M 0)), (1, .int (v1 + (1 : Int32)))]) rfl ?_
      refine vv_goto hC 2 d_M_sortAgain_24 (by decide) ?_
      exact vv_sub [0, 1] (by rfl) (ih I_M (va_up A_M 2 (upd (A_M 2) (((5 : Int32) + v1)).toNatClampNeg ((A_M 2) (v1).toNatClampNeg))) (v1 + (1 : Int32)) hw)
set_option maxHeartbeats 4000000 in
set_option maxRecDepth 100000 in
theorem l_M_sortAgain_L29 {p : Program} {l : Launch} {e : Env} {s : State} {m : MethodId} {args : Array Value} {below : List Frame} {meth : Method} {c : Code} {D : va_G} {cA : Nat → ClassId} {sx : Nat → Nat} {A : Nat → Prop} (a_M : Nat → Nat) (Q : (Nat → Int32) → (Nat → Nat → Int32) → Prop) (X29 : (Nat → Int32) → (Nat → Nat → Int32) → Prop) (hC : CX p s m args meth c b_M_sortAgain R_M TB 2 D vwCl (tyl cA) A (SPl sx) none) (hX29 : ∀ (I_M : (Nat → Int32)) (A_M : (Nat → Nat → Int32)), X29 I_M A_M → VV p l e ({ frames := 2, cells := 0, slots := 0, locals := 44 } : Room) s m args below meth c 2 D vwCl A 0 0 (QV below args s D vwCl (tyl cA) A (fun (u : (Nat → Int32) × (Nat → Nat → Int32)) => Q u.1 u.2) (fun u : (Nat → Int32) × (Nat → Nat → Int32) => kc_M cA a_M u.1 u.2)) (kc_M cA a_M I_M A_M) 56 [(0, .ref (a_M 0))] []) : ∀ (n29 : Nat) (I_M : (Nat → Int32)) (A_M : (Nat → Nat → Int32)) (v1 : Int32), wp_M_sortAgain_L29 Q X29 n29 I_M A_M v1 → VV p l e ({ frames := 2, cells := 0, slots := 0, locals := 44 } : Room) s m args below meth c 2 D vwCl A 0 0 (QV below args s D vwCl (tyl cA) A (fun (u : (Nat → Int32) × (Nat → Nat → Int32)) => Q u.1 u.2) (fun u : (Nat → Int32) × (Nat → Nat → Int32) => kc_M cA a_M u.1 u.2)) (kc_M cA a_M I_M A_M) 29 [(0, .ref (a_M 0)), (1, .int v1)] [] := by
  intro n29
  induction n29 with
  | zero =>
    intro I_M A_M v1 hw
    exact absurd hw (fun z => z)
  | succ n29 ih =>
    intro I_M A_M v1 hw
    unfold wp_M_sortAgain_L29 at hw
    refine vv_iload_n hC d_M_sortAgain_29 1 rfl rfl ?_
    refine vv_bipush hC d_M_sortAgain_30 (v := (6 : Int32)) (by decide) ?_
    refine vv_icmp_ge hC 56 d_M_sortAgain_32 (by decide) (fun cd => ?_) (fun cd => ?_)
    · have hw := hw.1 cd
      exact vv_sub [0] (by rfl) (hX29 I_M A_M hw)
    · have hw := hw.2 cd
      refine vv_aload_n hC d_M_sortAgain_35 0 rfl rfl ?_
      refine vv_get hC (v := .ref (a_M 4)) hin_M 0 11 tb_683 d_M_sortAgain_36 rfl rfl (by decide) rfl rfl ?_
      refine vv_bipush hC d_M_sortAgain_39 (v := (6 : Int32)) (by decide) ?_
      refine vv_iload_n hC d_M_sortAgain_41 1 rfl rfl ?_
      refine vv_iadd hC d_M_sortAgain_42 ?_
      refine vv_aload_n hC d_M_sortAgain_43 0 rfl rfl ?_
      refine vv_get hC (v := .ref (a_M 4)) hin_M 0 11 tb_683 d_M_sortAgain_44 rfl rfl (by decide) rfl rfl ?_
      refine vv_iload_n hC d_M_sortAgain_47 1 rfl rfl ?_
      obtain ⟨hin_5, hw⟩ := hw
      refine vv_iald hC 4 0 d_M_sortAgain_48 rfl rfl hin_5 ?_
      obtain ⟨hin_6, hw⟩ := hw
      refine vv_iast hC 4 0 d_M_sortAgain_49 rfl rfl hin_6 (ws2 := kc_M cA a_M I_M (va_up A_M 3 (upd (A_M 3) (((6 : Int32) + v1)).toNatClampNeg ((A_M 3) (v1).toNatClampNeg)))) (st_M_MA3 ..) ?_
      refine vv_iinc hC d_M_sortAgain_50 1 rfl (v := (v1 + (1 : Int32))) rfl (by decide) [1, 0] (L2 := [(0, .ref (a_M 0)), (1, .int (v1 + (1 : Int32)))]) rfl ?_
      refine vv_goto hC 29 d_M_sortAgain_53 (by decide) ?_
      exact vv_sub [0, 1] (by rfl) (ih I_M (va_up A_M 3 (upd (A_M 3) (((6 : Int32) + v1)).toNatClampNeg ((A_M 3) (v1).toNatClampNeg))) (v1 + (1 : Int32)) hw)
set_option maxHeartbeats 4000000 in
set_option maxRecDepth 100000 in
theorem l_M_sortAgain_L58 {p : Program} {l : Launch} {e : Env} {s : State} {m : MethodId} {args : Array Value} {below : List Frame} {meth : Method} {c : Code} {D : va_G} {cA : Nat → ClassId} {sx : Nat → Nat} {A : Nat → Prop} (a_M : Nat → Nat) (Q : (Nat → Int32) → (Nat → Nat → Int32) → Prop) (X58 : (Nat → Int32) → (Nat → Nat → Int32) → Prop) (hC : CX p s m args meth c b_M_sortAgain R_M TB 2 D vwCl (tyl cA) A (SPl sx) none) (hX58 : ∀ (I_M : (Nat → Int32)) (A_M : (Nat → Nat → Int32)), X58 I_M A_M → VV p l e ({ frames := 2, cells := 0, slots := 0, locals := 44 } : Room) s m args below meth c 2 D vwCl A 0 0 (QV below args s D vwCl (tyl cA) A (fun (u : (Nat → Int32) × (Nat → Nat → Int32)) => Q u.1 u.2) (fun u : (Nat → Int32) × (Nat → Nat → Int32) => kc_M cA a_M u.1 u.2)) (kc_M cA a_M I_M A_M) 85 [(0, .ref (a_M 0))] []) : ∀ (n58 : Nat) (I_M : (Nat → Int32)) (A_M : (Nat → Nat → Int32)) (v1 : Int32), wp_M_sortAgain_L58 Q X58 n58 I_M A_M v1 → VV p l e ({ frames := 2, cells := 0, slots := 0, locals := 44 } : Room) s m args below meth c 2 D vwCl A 0 0 (QV below args s D vwCl (tyl cA) A (fun (u : (Nat → Int32) × (Nat → Nat → Int32)) => Q u.1 u.2) (fun u : (Nat → Int32) × (Nat → Nat → Int32) => kc_M cA a_M u.1 u.2)) (kc_M cA a_M I_M A_M) 58 [(0, .ref (a_M 0)), (1, .int v1)] [] := by
  intro n58
  induction n58 with
  | zero =>
    intro I_M A_M v1 hw
    exact absurd hw (fun z => z)
  | succ n58 ih =>
    intro I_M A_M v1 hw
    unfold wp_M_sortAgain_L58 at hw
    refine vv_iload_n hC d_M_sortAgain_58 1 rfl rfl ?_
    refine vv_bipush hC d_M_sortAgain_59 (v := (8 : Int32)) (by decide) ?_
    refine vv_icmp_ge hC 85 d_M_sortAgain_61 (by decide) (fun cd => ?_) (fun cd => ?_)
    · have hw := hw.1 cd
      exact vv_sub [0] (by rfl) (hX58 I_M A_M hw)
    · have hw := hw.2 cd
      refine vv_aload_n hC d_M_sortAgain_64 0 rfl rfl ?_
      refine vv_get hC (v := .ref (a_M 5)) hin_M 0 12 tb_684 d_M_sortAgain_65 rfl rfl (by decide) rfl rfl ?_
      refine vv_bipush hC d_M_sortAgain_68 (v := (8 : Int32)) (by decide) ?_
      refine vv_iload_n hC d_M_sortAgain_70 1 rfl rfl ?_
      refine vv_iadd hC d_M_sortAgain_71 ?_
      refine vv_aload_n hC d_M_sortAgain_72 0 rfl rfl ?_
      refine vv_get hC (v := .ref (a_M 5)) hin_M 0 12 tb_684 d_M_sortAgain_73 rfl rfl (by decide) rfl rfl ?_
      refine vv_iload_n hC d_M_sortAgain_76 1 rfl rfl ?_
      obtain ⟨hin_9, hw⟩ := hw
      refine vv_iald hC 5 0 d_M_sortAgain_77 rfl rfl hin_9 ?_
      obtain ⟨hin_10, hw⟩ := hw
      refine vv_iast hC 5 0 d_M_sortAgain_78 rfl rfl hin_10 (ws2 := kc_M cA a_M I_M (va_up A_M 4 (upd (A_M 4) (((8 : Int32) + v1)).toNatClampNeg ((A_M 4) (v1).toNatClampNeg)))) (st_M_MA4 ..) ?_
      refine vv_iinc hC d_M_sortAgain_79 1 rfl (v := (v1 + (1 : Int32))) rfl (by decide) [1, 0] (L2 := [(0, .ref (a_M 0)), (1, .int (v1 + (1 : Int32)))]) rfl ?_
      refine vv_goto hC 58 d_M_sortAgain_82 (by decide) ?_
      exact vv_sub [0, 1] (by rfl) (ih I_M (va_up A_M 4 (upd (A_M 4) (((8 : Int32) + v1)).toNatClampNeg ((A_M 4) (v1).toNatClampNeg))) (v1 + (1 : Int32)) hw)
set_option maxHeartbeats 4000000 in
set_option maxRecDepth 100000 in
theorem l_M_sortAgain_L87 {p : Program} {l : Launch} {e : Env} {s : State} {m : MethodId} {args : Array Value} {below : List Frame} {meth : Method} {c : Code} {D : va_G} {cA : Nat → ClassId} {sx : Nat → Nat} {A : Nat → Prop} (a_M : Nat → Nat) (Q : (Nat → Int32) → (Nat → Nat → Int32) → Prop) (X87 : (Nat → Int32) → (Nat → Nat → Int32) → Prop) (hC : CX p s m args meth c b_M_sortAgain R_M TB 2 D vwCl (tyl cA) A (SPl sx) none) (hX87 : ∀ (I_M : (Nat → Int32)) (A_M : (Nat → Nat → Int32)), X87 I_M A_M → VV p l e ({ frames := 2, cells := 0, slots := 0, locals := 44 } : Room) s m args below meth c 2 D vwCl A 0 0 (QV below args s D vwCl (tyl cA) A (fun (u : (Nat → Int32) × (Nat → Nat → Int32)) => Q u.1 u.2) (fun u : (Nat → Int32) × (Nat → Nat → Int32) => kc_M cA a_M u.1 u.2)) (kc_M cA a_M I_M A_M) 148 [(0, .ref (a_M 0))] []) : ∀ (n87 : Nat) (I_M : (Nat → Int32)) (A_M : (Nat → Nat → Int32)) (v1 : Int32), wp_M_sortAgain_L87 Q X87 n87 I_M A_M v1 → VV p l e ({ frames := 2, cells := 0, slots := 0, locals := 44 } : Room) s m args below meth c 2 D vwCl A 0 0 (QV below args s D vwCl (tyl cA) A (fun (u : (Nat → Int32) × (Nat → Nat → Int32)) => Q u.1 u.2) (fun u : (Nat → Int32) × (Nat → Nat → Int32) => kc_M cA a_M u.1 u.2)) (kc_M cA a_M I_M A_M) 87 [(0, .ref (a_M 0)), (1, .int v1)] [] := by
  intro n87
  induction n87 with
  | zero =>
    intro I_M A_M v1 hw
    exact absurd hw (fun z => z)
  | succ n87 ih =>
    intro I_M A_M v1 hw
    unfold wp_M_sortAgain_L87 at hw
    refine vv_iload_n hC d_M_sortAgain_87 1 rfl rfl ?_
    refine vv_sipush hC d_M_sortAgain_88 (v := (300 : Int32)) (by decide) ?_
    refine vv_icmp_ge hC 148 d_M_sortAgain_91 (by decide) (fun cd => ?_) (fun cd => ?_)
    · have hw := hw.1 cd
      exact vv_sub [0] (by rfl) (hX87 I_M A_M hw)
    · have hw := hw.2 cd
      refine vv_aload_n hC d_M_sortAgain_94 0 rfl rfl ?_
      refine vv_get hC (v := .ref (a_M 8)) hin_M 0 15 tb_687 d_M_sortAgain_95 rfl rfl (by decide) rfl rfl ?_
      refine vv_sipush hC d_M_sortAgain_98 (v := (300 : Int32)) (by decide) ?_
      refine vv_iload_n hC d_M_sortAgain_101 1 rfl rfl ?_
      refine vv_iadd hC d_M_sortAgain_102 ?_
      refine vv_aload_n hC d_M_sortAgain_103 0 rfl rfl ?_
      refine vv_get hC (v := .ref (a_M 8)) hin_M 0 15 tb_687 d_M_sortAgain_104 rfl rfl (by decide) rfl rfl ?_
      refine vv_iload_n hC d_M_sortAgain_107 1 rfl rfl ?_
      obtain ⟨hin_13, hw⟩ := hw
      refine vv_iald hC 8 0 d_M_sortAgain_108 rfl rfl hin_13 ?_
      obtain ⟨hin_14, hw⟩ := hw
      refine vv_iast hC 8 0 d_M_sortAgain_109 rfl rfl hin_14 (ws2 := kc_M cA a_M I_M (va_up A_M 7 (upd (A_M 7) (((300 : Int32) + v1)).toNatClampNeg ((A_M 7) (v1).toNatClampNeg)))) (st_M_MA7 ..) ?_
      refine vv_aload_n hC d_M_sortAgain_110 0 rfl rfl ?_
      refine vv_get hC (v := .ref (a_M 9)) hin_M 0 16 tb_688 d_M_sortAgain_111 rfl rfl (by decide) rfl rfl ?_
      refine vv_sipush hC d_M_sortAgain_114 (v := (300 : Int32)) (by decide) ?_
      refine vv_iload_n hC d_M_sortAgain_117 1 rfl rfl ?_
      refine vv_iadd hC d_M_sortAgain_118 ?_
      refine vv_aload_n hC d_M_sortAgain_119 0 rfl rfl ?_
      refine vv_get hC (v := .ref (a_M 9)) hin_M 0 16 tb_688 d_M_sortAgain_120 rfl rfl (by decide) rfl rfl ?_
      refine vv_iload_n hC d_M_sortAgain_123 1 rfl rfl ?_
      refine vv_iald hC 9 0 d_M_sortAgain_124 rfl rfl hin_13 ?_
      refine vv_iast hC 9 0 d_M_sortAgain_125 rfl rfl hin_14 (ws2 := kc_M cA a_M I_M (va_up (va_up A_M 7 (upd (A_M 7) (((300 : Int32) + v1)).toNatClampNeg ((A_M 7) (v1).toNatClampNeg))) 8 (upd (A_M 8) (((300 : Int32) + v1)).toNatClampNeg ((A_M 8) (v1).toNatClampNeg)))) (st_M_MA8 ..) ?_
      refine vv_aload_n hC d_M_sortAgain_126 0 rfl rfl ?_
      refine vv_get hC (v := .ref (a_M 10)) hin_M 0 17 tb_689 d_M_sortAgain_127 rfl rfl (by decide) rfl rfl ?_
      refine vv_sipush hC d_M_sortAgain_130 (v := (300 : Int32)) (by decide) ?_
      refine vv_iload_n hC d_M_sortAgain_133 1 rfl rfl ?_
      refine vv_iadd hC d_M_sortAgain_134 ?_
      refine vv_aload_n hC d_M_sortAgain_135 0 rfl rfl ?_
      refine vv_get hC (v := .ref (a_M 10)) hin_M 0 17 tb_689 d_M_sortAgain_136 rfl rfl (by decide) rfl rfl ?_
      refine vv_iload_n hC d_M_sortAgain_139 1 rfl rfl ?_
      refine vv_iald hC 10 0 d_M_sortAgain_140 rfl rfl hin_13 ?_
      refine vv_iast hC 10 0 d_M_sortAgain_141 rfl rfl hin_14 (ws2 := kc_M cA a_M I_M (va_up (va_up (va_up A_M 7 (upd (A_M 7) (((300 : Int32) + v1)).toNatClampNeg ((A_M 7) (v1).toNatClampNeg))) 8 (upd (A_M 8) (((300 : Int32) + v1)).toNatClampNeg ((A_M 8) (v1).toNatClampNeg))) 9 (upd (A_M 9) (((300 : Int32) + v1)).toNatClampNeg ((A_M 9) (v1).toNatClampNeg)))) (st_M_MA9 ..) ?_
      refine vv_iinc hC d_M_sortAgain_142 1 rfl (v := (v1 + (1 : Int32))) rfl (by decide) [1, 0] (L2 := [(0, .ref (a_M 0)), (1, .int (v1 + (1 : Int32)))]) rfl ?_
      refine vv_goto hC 87 d_M_sortAgain_145 (by decide) ?_
      exact vv_sub [0, 1] (by rfl) (ih I_M (va_up (va_up (va_up A_M 7 (upd (A_M 7) (((300 : Int32) + v1)).toNatClampNeg ((A_M 7) (v1).toNatClampNeg))) 8 (upd (A_M 8) (((300 : Int32) + v1)).toNatClampNeg ((A_M 8) (v1).toNatClampNeg))) 9 (upd (A_M 9) (((300 : Int32) + v1)).toNatClampNeg ((A_M 9) (v1).toNatClampNeg))) (v1 + (1 : Int32)) hw)
set_option maxHeartbeats 4000000 in
set_option maxRecDepth 100000 in
theorem l_M_sortAgain_L150 {p : Program} {l : Launch} {e : Env} {s : State} {m : MethodId} {args : Array Value} {below : List Frame} {meth : Method} {c : Code} {D : va_G} {cA : Nat → ClassId} {sx : Nat → Nat} {A : Nat → Prop} (a_M : Nat → Nat) (Q : (Nat → Int32) → (Nat → Nat → Int32) → Prop) (X150 : (Nat → Int32) → (Nat → Nat → Int32) → Prop) (hC : CX p s m args meth c b_M_sortAgain R_M TB 2 D vwCl (tyl cA) A (SPl sx) none) (hX150 : ∀ (I_M : (Nat → Int32)) (A_M : (Nat → Nat → Int32)), X150 I_M A_M → VV p l e ({ frames := 2, cells := 0, slots := 0, locals := 44 } : Room) s m args below meth c 2 D vwCl A 0 0 (QV below args s D vwCl (tyl cA) A (fun (u : (Nat → Int32) × (Nat → Nat → Int32)) => Q u.1 u.2) (fun u : (Nat → Int32) × (Nat → Nat → Int32) => kc_M cA a_M u.1 u.2)) (kc_M cA a_M I_M A_M) 179 [(0, .ref (a_M 0))] []) : ∀ (n150 : Nat) (I_M : (Nat → Int32)) (A_M : (Nat → Nat → Int32)) (v1 : Int32), wp_M_sortAgain_L150 Q X150 n150 I_M A_M v1 → VV p l e ({ frames := 2, cells := 0, slots := 0, locals := 44 } : Room) s m args below meth c 2 D vwCl A 0 0 (QV below args s D vwCl (tyl cA) A (fun (u : (Nat → Int32) × (Nat → Nat → Int32)) => Q u.1 u.2) (fun u : (Nat → Int32) × (Nat → Nat → Int32) => kc_M cA a_M u.1 u.2)) (kc_M cA a_M I_M A_M) 150 [(0, .ref (a_M 0)), (1, .int v1)] [] := by
  intro n150
  induction n150 with
  | zero =>
    intro I_M A_M v1 hw
    exact absurd hw (fun z => z)
  | succ n150 ih =>
    intro I_M A_M v1 hw
    unfold wp_M_sortAgain_L150 at hw
    refine vv_iload_n hC d_M_sortAgain_150 1 rfl rfl ?_
    refine vv_sipush hC d_M_sortAgain_151 (v := (401 : Int32)) (by decide) ?_
    refine vv_icmp_ge hC 179 d_M_sortAgain_154 (by decide) (fun cd => ?_) (fun cd => ?_)
    · have hw := hw.1 cd
      exact vv_sub [0] (by rfl) (hX150 I_M A_M hw)
    · have hw := hw.2 cd
      refine vv_aload_n hC d_M_sortAgain_157 0 rfl rfl ?_
      refine vv_get hC (v := .ref (a_M 11)) hin_M 0 18 tb_690 d_M_sortAgain_158 rfl rfl (by decide) rfl rfl ?_
      refine vv_sipush hC d_M_sortAgain_161 (v := (401 : Int32)) (by decide) ?_
      refine vv_iload_n hC d_M_sortAgain_164 1 rfl rfl ?_
      refine vv_iadd hC d_M_sortAgain_165 ?_
      refine vv_aload_n hC d_M_sortAgain_166 0 rfl rfl ?_
      refine vv_get hC (v := .ref (a_M 11)) hin_M 0 18 tb_690 d_M_sortAgain_167 rfl rfl (by decide) rfl rfl ?_
      refine vv_iload_n hC d_M_sortAgain_170 1 rfl rfl ?_
      obtain ⟨hin_17, hw⟩ := hw
      refine vv_iald hC 11 0 d_M_sortAgain_171 rfl rfl hin_17 ?_
      obtain ⟨hin_18, hw⟩ := hw
      refine vv_iast hC 11 0 d_M_sortAgain_172 rfl rfl hin_18 (ws2 := kc_M cA a_M I_M (va_up A_M 10 (upd (A_M 10) (((401 : Int32) + v1)).toNatClampNeg ((A_M 10) (v1).toNatClampNeg)))) (st_M_MA10 ..) ?_
      refine vv_iinc hC d_M_sortAgain_173 1 rfl (v := (v1 + (1 : Int32))) rfl (by decide) [1, 0] (L2 := [(0, .ref (a_M 0)), (1, .int (v1 + (1 : Int32)))]) rfl ?_
      refine vv_goto hC 150 d_M_sortAgain_176 (by decide) ?_
      exact vv_sub [0, 1] (by rfl) (ih I_M (va_up A_M 10 (upd (A_M 10) (((401 : Int32) + v1)).toNatClampNeg ((A_M 10) (v1).toNatClampNeg))) (v1 + (1 : Int32)) hw)
set_option maxHeartbeats 4000000 in
set_option maxRecDepth 100000 in
theorem c_M_sortAgain (l : Launch) (D : va_G) (cA : Nat → ClassId) (sx : Nat → Nat) (a_M : Nat → Nat) (I_M : (Nat → Int32)) (A_M : (Nat → Nat → Int32)) (Q : (Nat → Int32) → (Nat → Nat → Int32) → Prop) (hw : wp_M_sortAgain I_M A_M Q) : MetV l y_M_sortAgain (Cond.code y_M_sortAgain b_M_sortAgain 2 none :: TB) ({ frames := 2, cells := 0, slots := 0, locals := 44 } : Room) D vwCl (tyl cA) (SPl sx) [.ref (a_M 0)] (kc_M cA a_M I_M A_M) (fun (u : (Nat → Int32) × (Nat → Nat → Int32)) => Q u.1 u.2) (fun u : (Nat → Int32) × (Nat → Nat → Int32) => kc_M cA a_M u.1 u.2) := by
  refine vv_entryV (cc := b_M_sortAgain) (own := R_M) (L := [(0, .ref (a_M 0))]) (by decide) rfl rfl (Nat.le_of_ble_eq_true rfl) rfl (fun p e s m args below meth c A hC => ?_)
  unfold wp_M_sortAgain at hw
  refine vv_iconst hC d_M_sortAgain_0 (v := (0 : Int32)) (by decide) ?_
  refine vv_istore_n hC d_M_sortAgain_1 rfl (by decide) [1, 0] (L2 := [(0, .ref (a_M 0)), (1, .int (0 : Int32))]) rfl ?_
  obtain ⟨m2, hw⟩ := hw
  refine vv_sub [0, 1] (by rfl) (l_M_sortAgain_L2 a_M Q _ hC (fun I_M_3 A_M_4 hw => ?_) m2 I_M A_M (0 : Int32) hw)
  refine vv_iconst hC d_M_sortAgain_27 (v := (0 : Int32)) (by decide) ?_
  refine vv_istore_n hC d_M_sortAgain_28 rfl (by decide) [1, 0] (L2 := [(0, .ref (a_M 0)), (1, .int (0 : Int32))]) rfl ?_
  obtain ⟨m29, hw⟩ := hw
  refine vv_sub [0, 1] (by rfl) (l_M_sortAgain_L29 a_M Q _ hC (fun I_M_7 A_M_8 hw => ?_) m29 I_M_3 A_M_4 (0 : Int32) hw)
  refine vv_iconst hC d_M_sortAgain_56 (v := (0 : Int32)) (by decide) ?_
  refine vv_istore_n hC d_M_sortAgain_57 rfl (by decide) [1, 0] (L2 := [(0, .ref (a_M 0)), (1, .int (0 : Int32))]) rfl ?_
  obtain ⟨m58, hw⟩ := hw
  refine vv_sub [0, 1] (by rfl) (l_M_sortAgain_L58 a_M Q _ hC (fun I_M_11 A_M_12 hw => ?_) m58 I_M_7 A_M_8 (0 : Int32) hw)
  refine vv_iconst hC d_M_sortAgain_85 (v := (0 : Int32)) (by decide) ?_
  refine vv_istore_n hC d_M_sortAgain_86 rfl (by decide) [1, 0] (L2 := [(0, .ref (a_M 0)), (1, .int (0 : Int32))]) rfl ?_
  obtain ⟨m87, hw⟩ := hw
  refine vv_sub [0, 1] (by rfl) (l_M_sortAgain_L87 a_M Q _ hC (fun I_M_15 A_M_16 hw => ?_) m87 I_M_11 A_M_12 (0 : Int32) hw)
  refine vv_iconst hC d_M_sortAgain_148 (v := (0 : Int32)) (by decide) ?_
  refine vv_istore_n hC d_M_sortAgain_149 rfl (by decide) [1, 0] (L2 := [(0, .ref (a_M 0)), (1, .int (0 : Int32))]) rfl ?_
  obtain ⟨m150, hw⟩ := hw
  refine vv_sub [0, 1] (by rfl) (l_M_sortAgain_L150 a_M Q _ hC (fun I_M_19 A_M_20 hw => ?_) m150 I_M_15 A_M_16 (0 : Int32) hw)
  refine vv_aload_n hC d_M_sortAgain_179 0 rfl rfl ?_
  refine vv_callVV (wr := []) hC (c_M_sort l D cA sx a_M I_M_19 A_M_20 _ hw) (cw_M_152 hC) d_M_sortAgain_180 [] [0, 1, 2, 3, 4, 5, 6, 7, 8, 9, 10, 11, 12, 13, 14, 15, 16, 17, 18, 19, 20, 21, 22, 23] [] [0, 1, 2, 3, 4, 5, 6, 7, 8, 9, 10, 11, 12, 13, 14, 15, 16, 17, 18, 19, 20, 21, 22, 23] (fun u_21 : (Nat → Int32) × (Nat → Nat → Int32) => kc_M cA a_M u_21.1 u_21.2) ⟨Nat.zero_le _, Nat.zero_le _⟩ rfl rfl (fun _ => rfl) rfl rfl rfl rfl rfl rfl rfl rfl (Nat.le_of_ble_eq_true rfl) (fun u_21 hw => ?_)
  exact vv_vret hC d_M_sortAgain_183 (u_21.1, u_21.2) hw rfl
set_option maxHeartbeats 4000000 in
set_option maxRecDepth 100000 in
theorem l_M_form_b29 {p : Program} {l : Launch} {e : Env} {s : State} {m : MethodId} {args : Array Value} {below : List Frame} {meth : Method} {c : Code} {D : va_G} {cA : Nat → ClassId} {sx : Nat → Nat} {A : Nat → Prop} (a_M : Nat → Nat) (Q : Int32 → (Nat → Int32) → (Nat → Nat → Int32) → Prop) (hC : CX p s m args meth c b_M_form R_M TB 3 D vwCl (tyl cA) A (SPl sx) (some .int)) : ∀ (I_M : (Nat → Int32)) (A_M : (Nat → Nat → Int32)) (v2 : Int32), wp_M_form_b29 Q I_M A_M v2 → VV p l e ({ frames := 3, cells := 0, slots := 0, locals := 69 } : Room) s m args below meth c 3 D vwCl A 0 0 (QI below args s D vwCl (tyl cA) A (fun (r : Int32) (u : (Nat → Int32) × (Nat → Nat → Int32)) => Q r u.1 u.2) (fun u : (Nat → Int32) × (Nat → Nat → Int32) => kc_M cA a_M u.1 u.2)) (kc_M cA a_M I_M A_M) 29 [(0, .ref (a_M 0)), (2, .int v2)] [] := by
  intro I_M A_M v2 hw
  unfold wp_M_form_b29 at hw
  refine vv_aload_n hC d_M_form_29 0 rfl rfl ?_
  refine vv_callVV (wr := []) hC (c_M_laySymbols l D cA sx a_M I_M A_M _ hw) (cw_M_217 hC) d_M_form_30 [] [0, 1, 2, 3, 4, 5, 6, 7, 8, 9, 10, 11, 12, 13, 14, 15, 16, 17, 18, 19, 20, 21, 22, 23] [] [0, 1, 2, 3, 4, 5, 6, 7, 8, 9, 10, 11, 12, 13, 14, 15, 16, 17, 18, 19, 20, 21, 22, 23] (fun u_10 : (Nat → Int32) × (Nat → Nat → Int32) => kc_M cA a_M u_10.1 u_10.2) ⟨Nat.zero_le _, Nat.zero_le _⟩ rfl rfl (fun _ => rfl) rfl rfl rfl rfl rfl rfl rfl rfl (Nat.le_of_ble_eq_true rfl) (fun u_10 hw => ?_)
  refine vv_iload_n hC d_M_form_33 1 rfl rfl ?_
  refine vv_if_lt hC 45 d_M_form_34 (by decide) (fun cd => ?_) (fun cd => ?_)
  · have hw := hw.1 cd
    refine vv_iconst hC d_M_form_45 (v := (-1 : Int32)) (by decide) ?_
    refine vv_goto hC 59 d_M_form_46 (by decide) ?_
    exact vv_iret hC d_M_form_59 (u_10.1, u_10.2) hw rfl
  · have hw := hw.2 cd
    refine vv_iload_n hC d_M_form_37 1 rfl rfl ?_
    refine vv_aload_n hC d_M_form_38 0 rfl rfl ?_
    refine vv_get hC (v := .int (u_10.1 10)) hin_M 0 33 tb_705 d_M_form_39 rfl rfl (by decide) rfl rfl ?_
    refine vv_icmp_lt hC 49 d_M_form_42 (by decide) (fun cd => ?_) (fun cd => ?_)
    · have hw := hw.1 cd
      refine vv_aload_n hC d_M_form_49 0 rfl rfl ?_
      refine vv_get hC (v := .ref (a_M 23)) hin_M 0 32 tb_704 d_M_form_50 rfl rfl (by decide) rfl rfl ?_
      refine vv_iload_n hC d_M_form_53 1 rfl rfl ?_
      obtain ⟨hin_13, hw⟩ := hw
      refine vv_bald hC 23 2 d_M_form_54 rfl rfl hin_13 ?_
      refine vv_sipush hC d_M_form_55 (v := (255 : Int32)) (by decide) ?_
      refine vv_iand hC d_M_form_58 ?_
      exact vv_iret hC d_M_form_59 (u_10.1, u_10.2) hw rfl
    · have hw := hw.2 cd
      refine vv_iconst hC d_M_form_45 (v := (-1 : Int32)) (by decide) ?_
      refine vv_goto hC 59 d_M_form_46 (by decide) ?_
      exact vv_iret hC d_M_form_59 (u_10.1, u_10.2) hw rfl
set_option maxHeartbeats 4000000 in
set_option maxRecDepth 100000 in
theorem c_M_form (l : Launch) (D : va_G) (cA : Nat → ClassId) (sx : Nat → Nat) (a_M : Nat → Nat) (I_M : (Nat → Int32)) (A_M : (Nat → Nat → Int32)) (x1 x2 : Int32) (Q : Int32 → (Nat → Int32) → (Nat → Nat → Int32) → Prop) (hw : wp_M_form I_M A_M x1 x2 Q) : MetI l y_M_form (Cond.code y_M_form b_M_form 3 (some .int) :: TB) ({ frames := 3, cells := 0, slots := 0, locals := 69 } : Room) D vwCl (tyl cA) (SPl sx) [.ref (a_M 0), .int x1, .int x2] (kc_M cA a_M I_M A_M) (fun (r : Int32) (u : (Nat → Int32) × (Nat → Nat → Int32)) => Q r u.1 u.2) (fun u : (Nat → Int32) × (Nat → Nat → Int32) => kc_M cA a_M u.1 u.2) := by
  refine vv_entryI (cc := b_M_form) (own := R_M) (L := [(0, .ref (a_M 0)), (1, .int x1), (2, .int x2)]) (by decide) rfl rfl (Nat.le_of_ble_eq_true rfl) rfl (fun p e s m args below meth c A hC => ?_)
  unfold wp_M_form at hw
  refine vv_aload_n hC d_M_form_0 0 rfl rfl ?_
  refine vv_iconst hC d_M_form_1 (v := (0 : Int32)) (by decide) ?_
  refine vv_put hC hin_M ty_M tyok_M nmok_M 0 0 tb_672 d_M_form_2 rfl rfl (by decide) rfl rfl rfl rfl rfl (Nat.le_of_ble_eq_true rfl) (ws2 := kc_M cA a_M (va_up I_M 0 (0 : Int32)) A_M) (st_M_MI0 ..) ?_
  refine vv_aload_n hC d_M_form_5 0 rfl rfl ?_
  refine vv_callVV (wr := []) hC (c_M_sortAgain l D cA sx a_M (va_up I_M 0 (0 : Int32)) A_M _ hw) (cw_M_204 hC) d_M_form_6 [] [0, 1, 2, 3, 4, 5, 6, 7, 8, 9, 10, 11, 12, 13, 14, 15, 16, 17, 18, 19, 20, 21, 22, 23] [] [0, 1, 2, 3, 4, 5, 6, 7, 8, 9, 10, 11, 12, 13, 14, 15, 16, 17, 18, 19, 20, 21, 22, 23] (fun u_1 : (Nat → Int32) × (Nat → Nat → Int32) => kc_M cA a_M u_1.1 u_1.2) ⟨Nat.zero_le _, Nat.zero_le _⟩ rfl rfl (fun _ => rfl) rfl rfl rfl rfl rfl rfl rfl rfl (Nat.le_of_ble_eq_true rfl) (fun u_1 hw => ?_)
  refine vv_aload_n hC d_M_form_9 0 rfl rfl ?_
  refine vv_iload_n hC d_M_form_10 1 rfl rfl ?_
  refine vv_callVV (wr := []) hC (c_M_layHead l D cA sx a_M u_1.1 u_1.2 x1 _ hw) (cw_M_207 hC) d_M_form_11 [] [0, 1, 2, 3, 4, 5, 6, 7, 8, 9, 10, 11, 12, 13, 14, 15, 16, 17, 18, 19, 20, 21, 22, 23] [] [0, 1, 2, 3, 4, 5, 6, 7, 8, 9, 10, 11, 12, 13, 14, 15, 16, 17, 18, 19, 20, 21, 22, 23] (fun u_4 : (Nat → Int32) × (Nat → Nat → Int32) => kc_M cA a_M u_4.1 u_4.2) ⟨Nat.zero_le _, Nat.zero_le _⟩ rfl rfl (fun _ => rfl) rfl rfl rfl rfl rfl rfl rfl rfl (Nat.le_of_ble_eq_true rfl) (fun u_4 hw => ?_)
  refine vv_iload_n hC d_M_form_14 1 rfl rfl ?_
  refine vv_if_eq hC 25 d_M_form_15 (by decide) (fun cd => ?_) (fun cd => ?_)
  · have hw := hw.1 cd
    refine vv_aload_n hC d_M_form_25 0 rfl rfl ?_
    refine vv_callVV (wr := []) hC (c_M_layText l D cA sx a_M u_4.1 u_4.2 _ hw) (cw_M_214 hC) d_M_form_26 [] [0, 1, 2, 3, 4, 5, 6, 7, 8, 9, 10, 11, 12, 13, 14, 15, 16, 17, 18, 19, 20, 21, 22, 23] [] [0, 1, 2, 3, 4, 5, 6, 7, 8, 9, 10, 11, 12, 13, 14, 15, 16, 17, 18, 19, 20, 21, 22, 23] (fun u_7 : (Nat → Int32) × (Nat → Nat → Int32) => kc_M cA a_M u_7.1 u_7.2) ⟨Nat.zero_le _, Nat.zero_le _⟩ rfl rfl (fun _ => rfl) rfl rfl rfl rfl rfl rfl rfl rfl (Nat.le_of_ble_eq_true rfl) (fun u_7 hw => ?_)
    exact vv_sub [0, 2] (by rfl) (l_M_form_b29 a_M Q hC u_7.1 u_7.2 x2 hw)
  · have hw := hw.2 cd
    refine vv_aload_n hC d_M_form_18 0 rfl rfl ?_
    refine vv_callVV (wr := []) hC (c_M_layBinary l D cA sx a_M u_4.1 u_4.2 _ hw) (cw_M_211 hC) d_M_form_19 [] [0, 1, 2, 3, 4, 5, 6, 7, 8, 9, 10, 11, 12, 13, 14, 15, 16, 17, 18, 19, 20, 21, 22, 23] [] [0, 1, 2, 3, 4, 5, 6, 7, 8, 9, 10, 11, 12, 13, 14, 15, 16, 17, 18, 19, 20, 21, 22, 23] (fun u_14 : (Nat → Int32) × (Nat → Nat → Int32) => kc_M cA a_M u_14.1 u_14.2) ⟨Nat.zero_le _, Nat.zero_le _⟩ rfl rfl (fun _ => rfl) rfl rfl rfl rfl rfl rfl rfl rfl (Nat.le_of_ble_eq_true rfl) (fun u_14 hw => ?_)
    refine vv_goto hC 29 d_M_form_22 (by decide) ?_
    exact vv_sub [0, 2] (by rfl) (l_M_form_b29 a_M Q hC u_14.1 u_14.2 x2 hw)
set_option maxHeartbeats 4000000 in
set_option maxRecDepth 100000 in
theorem c_M_reset (l : Launch) (D : va_G) (cA : Nat → ClassId) (sx : Nat → Nat) (a_M : Nat → Nat) (I_M : (Nat → Int32)) (A_M : (Nat → Nat → Int32)) (Q : (Nat → Int32) → Prop) (hw : wp_M_reset I_M Q) : MetV l y_M_reset (Cond.code y_M_reset b_M_reset 1 none :: TB) ({ frames := 0, cells := 0, slots := 0, locals := 0 } : Room) D vwCl (tyl cA) (SPl sx) [.ref (a_M 0)] (kc_M cA a_M I_M A_M) (fun (u : (Nat → Int32)) => Q u) (fun u : (Nat → Int32) => kc_M cA a_M u A_M) := by
  refine vv_entryV (cc := b_M_reset) (own := R_M) (L := [(0, .ref (a_M 0))]) (by decide) rfl rfl (Nat.le_of_ble_eq_true rfl) rfl (fun p e s m args below meth c A hC => ?_)
  unfold wp_M_reset at hw
  refine vv_aload_n hC d_M_reset_0 0 rfl rfl ?_
  refine vv_iconst hC d_M_reset_1 (v := (0 : Int32)) (by decide) ?_
  refine vv_put hC hin_M ty_M tyok_M nmok_M 0 0 tb_672 d_M_reset_2 rfl rfl (by decide) rfl rfl rfl rfl rfl (Nat.le_of_ble_eq_true rfl) (ws2 := kc_M cA a_M (va_up I_M 0 (0 : Int32)) A_M) (st_M_MI0 ..) ?_
  refine vv_aload_n hC d_M_reset_5 0 rfl rfl ?_
  refine vv_iconst hC d_M_reset_6 (v := (0 : Int32)) (by decide) ?_
  refine vv_put hC hin_M ty_M tyok_M nmok_M 0 30 tb_702 d_M_reset_7 rfl rfl (by decide) rfl rfl rfl rfl rfl (Nat.le_of_ble_eq_true rfl) (ws2 := kc_M cA a_M (va_up (va_up I_M 0 (0 : Int32)) 9 (0 : Int32)) A_M) (st_M_MI9 ..) ?_
  exact vv_vret hC d_M_reset_10 (va_up (va_up I_M 0 (0 : Int32)) 9 (0 : Int32)) hw rfl
set_option maxHeartbeats 4000000 in
set_option maxRecDepth 100000 in
theorem c_M_state (l : Launch) (D : va_G) (cA : Nat → ClassId) (sx : Nat → Nat) (a_M : Nat → Nat) (I_M : (Nat → Int32)) (A_M : (Nat → Nat → Int32)) (Q : Int32 → (Nat → Int32) → Prop) (hw : wp_M_state I_M Q) : MetI l y_M_state (Cond.code y_M_state b_M_state 1 (some .int) :: TB) ({ frames := 0, cells := 0, slots := 0, locals := 0 } : Room) D vwCl (tyl cA) (SPl sx) [.ref (a_M 0)] (kc_M cA a_M I_M A_M) (fun (r : Int32) (u : (Nat → Int32)) => Q r u) (fun u : (Nat → Int32) => kc_M cA a_M u A_M) := by
  refine vv_entryI (cc := b_M_state) (own := R_M) (L := [(0, .ref (a_M 0))]) (by decide) rfl rfl (Nat.le_of_ble_eq_true rfl) rfl (fun p e s m args below meth c A hC => ?_)
  unfold wp_M_state at hw
  refine vv_aload_n hC d_M_state_0 0 rfl rfl ?_
  refine vv_iconst hC d_M_state_1 (v := (0 : Int32)) (by decide) ?_
  refine vv_put hC hin_M ty_M tyok_M nmok_M 0 0 tb_672 d_M_state_2 rfl rfl (by decide) rfl rfl rfl rfl rfl (Nat.le_of_ble_eq_true rfl) (ws2 := kc_M cA a_M (va_up I_M 0 (0 : Int32)) A_M) (st_M_MI0 ..) ?_
  refine vv_aload_n hC d_M_state_5 0 rfl rfl ?_
  refine vv_get hC (v := .int (I_M 9)) hin_M 0 30 tb_702 d_M_state_6 rfl rfl (by decide) rfl rfl ?_
  exact vv_iret hC d_M_state_9 (va_up I_M 0 (0 : Int32)) hw rfl
set_option maxHeartbeats 4000000 in
set_option maxRecDepth 100000 in
theorem c_M_of (l : Launch) (D : va_G) (cA : Nat → ClassId) (sx : Nat → Nat) (a_M : Nat → Nat) (I_M : (Nat → Int32)) (A_M : (Nat → Nat → Int32)) (x1 : Int32) (Q : Int32 → Prop) (hw : wp_M_of A_M x1 Q) : MetI l y_M_of (Cond.code y_M_of b_M_of 2 (some .int) :: TB) ({ frames := 0, cells := 0, slots := 0, locals := 0 } : Room) D vwCl (tyl cA) (SPl sx) [.ref (a_M 0), .int x1] (kc_M cA a_M I_M A_M) (fun (r : Int32) (u : Unit) => Q r) (fun u : Unit => kc_M cA a_M I_M A_M) := by
  refine vv_entryI (cc := b_M_of) (own := R_M) (L := [(0, .ref (a_M 0)), (1, .int x1)]) (by decide) rfl rfl (Nat.le_of_ble_eq_true rfl) rfl (fun p e s m args below meth c A hC => ?_)
  unfold wp_M_of at hw
  refine vv_aload_n hC d_M_of_0 0 rfl rfl ?_
  refine vv_get hC (v := .ref (a_M 22)) hin_M 0 31 tb_703 d_M_of_1 rfl rfl (by decide) rfl rfl ?_
  refine vv_iload_n hC d_M_of_4 1 rfl rfl ?_
  refine vv_iconst hC d_M_of_5 (v := (2 : Int32)) (by decide) ?_
  refine vv_idiv hC d_M_of_6 (by decide) ?_
  obtain ⟨hin_1, hw⟩ := hw
  refine vv_iald hC 22 0 d_M_of_7 rfl rfl hin_1 ?_
  refine vv_iload_n hC d_M_of_8 1 rfl rfl ?_
  refine vv_iconst hC d_M_of_9 (v := (1 : Int32)) (by decide) ?_
  refine vv_iand hC d_M_of_10 ?_
  refine vv_ixor hC d_M_of_11 ?_
  exact vv_iret hC d_M_of_12 () hw rfl
set_option maxHeartbeats 4000000 in
set_option maxRecDepth 100000 in
theorem l_M_reckon_L13 {p : Program} {l : Launch} {e : Env} {s : State} {m : MethodId} {args : Array Value} {below : List Frame} {meth : Method} {c : Code} {D : va_G} {cA : Nat → ClassId} {sx : Nat → Nat} {A : Nat → Prop} (a_M : Nat → Nat) (Q : (Nat → Int32) → (Nat → Nat → Int32) → Prop) (X13 : (Nat → Int32) → (Nat → Nat → Int32) → Prop) (hC : CX p s m args meth c b_M_reckon R_M TB 4 D vwCl (tyl cA) A (SPl sx) none) (hX13 : ∀ (I_M : (Nat → Int32)) (A_M : (Nat → Nat → Int32)), X13 I_M A_M → VV p l e ({ frames := 3, cells := 0, slots := 0, locals := 65 } : Room) s m args below meth c 4 D vwCl A 0 0 (QV below args s D vwCl (tyl cA) A (fun (u : (Nat → Int32) × (Nat → Nat → Int32)) => Q u.1 u.2) (fun u : (Nat → Int32) × (Nat → Nat → Int32) => kc_M cA a_M u.1 u.2)) (kc_M cA a_M I_M A_M) 47 [(0, .ref (a_M 0))] []) : ∀ (n13 : Nat) (I_M : (Nat → Int32)) (A_M : (Nat → Nat → Int32)) (v1 : Int32) (v2 : Int32), wp_M_reckon_L13 Q X13 n13 I_M A_M v1 v2 → VV p l e ({ frames := 3, cells := 0, slots := 0, locals := 65 } : Room) s m args below meth c 4 D vwCl A 0 0 (QV below args s D vwCl (tyl cA) A (fun (u : (Nat → Int32) × (Nat → Nat → Int32)) => Q u.1 u.2) (fun u : (Nat → Int32) × (Nat → Nat → Int32) => kc_M cA a_M u.1 u.2)) (kc_M cA a_M I_M A_M) 13 [(0, .ref (a_M 0)), (1, .int v1), (2, .int v2)] [] := by
  intro n13
  induction n13 with
  | zero =>
    intro I_M A_M v1 v2 hw
    exact absurd hw (fun z => z)
  | succ n13 ih =>
    intro I_M A_M v1 v2 hw
    unfold wp_M_reckon_L13 at hw
    refine vv_iload_n hC d_M_reckon_13 2 rfl rfl ?_
    refine vv_aload_n hC d_M_reckon_14 0 rfl rfl ?_
    refine vv_get hC (v := .ref (a_M 3)) hin_M 0 10 tb_682 d_M_reckon_15 rfl rfl (by decide) rfl rfl ?_
    refine vv_iconst hC d_M_reckon_18 (v := (1 : Int32)) (by decide) ?_
    refine vv_iald hC 3 0 d_M_reckon_19 rfl rfl (vin_c (by decide)) ?_
    refine vv_icmp_ge hC 47 d_M_reckon_20 (by decide) (fun cd => ?_) (fun cd => ?_)
    · have hw := hw.1 cd
      exact vv_sub [0] (by rfl) (hX13 I_M A_M hw)
    · have hw := hw.2 cd
      refine vv_aload_n hC d_M_reckon_23 0 rfl rfl ?_
      refine vv_get hC (v := .ref (a_M 22)) hin_M 0 31 tb_703 d_M_reckon_24 rfl rfl (by decide) rfl rfl ?_
      refine vv_aload_n hC d_M_reckon_27 0 rfl rfl ?_
      refine vv_get hC (v := .ref (a_M 4)) hin_M 0 11 tb_683 d_M_reckon_28 rfl rfl (by decide) rfl rfl ?_
      refine vv_iload_n hC d_M_reckon_31 2 rfl rfl ?_
      obtain ⟨hin_4, hw⟩ := hw
      refine vv_iald hC 4 0 d_M_reckon_32 rfl rfl hin_4 ?_
      refine vv_iconst hC d_M_reckon_33 (v := (2 : Int32)) (by decide) ?_
      refine vv_idiv hC d_M_reckon_34 (by decide) ?_
      refine vv_iload_n hC d_M_reckon_35 1 rfl rfl ?_
      refine vv_iload_n hC d_M_reckon_36 2 rfl rfl ?_
      refine vv_ishr hC d_M_reckon_37 ?_
      refine vv_iconst hC d_M_reckon_38 (v := (1 : Int32)) (by decide) ?_
      refine vv_iand hC d_M_reckon_39 ?_
      obtain ⟨hin_5, hw⟩ := hw
      refine vv_iast hC 22 0 d_M_reckon_40 rfl rfl hin_5 (ws2 := kc_M cA a_M I_M (va_up A_M 21 (upd (A_M 21) ((((A_M 3) (v2).toNatClampNeg) / (2 : Int32))).toNatClampNeg ((v1 >>> (v2 &&& 31)) &&& (1 : Int32))))) (st_M_MA21 ..) ?_
      refine vv_iinc hC d_M_reckon_41 2 rfl (v := (v2 + (1 : Int32))) rfl (by decide) [1, 2, 0] (L2 := [(0, .ref (a_M 0)), (1, .int v1), (2, .int (v2 + (1 : Int32)))]) rfl ?_
      refine vv_goto hC 13 d_M_reckon_44 (by decide) ?_
      exact vv_sub [0, 1, 2] (by rfl) (ih I_M (va_up A_M 21 (upd (A_M 21) ((((A_M 3) (v2).toNatClampNeg) / (2 : Int32))).toNatClampNeg ((v1 >>> (v2 &&& 31)) &&& (1 : Int32)))) v1 (v2 + (1 : Int32)) hw)
set_option maxHeartbeats 4000000 in
set_option maxRecDepth 100000 in
theorem l_M_reckon_L49 {p : Program} {l : Launch} {e : Env} {s : State} {m : MethodId} {args : Array Value} {below : List Frame} {meth : Method} {c : Code} {D : va_G} {cA : Nat → ClassId} {sx : Nat → Nat} {A : Nat → Prop} (a_M : Nat → Nat) (Q : (Nat → Int32) → (Nat → Nat → Int32) → Prop) (X49 : (Nat → Int32) → (Nat → Nat → Int32) → Prop) (hC : CX p s m args meth c b_M_reckon R_M TB 4 D vwCl (tyl cA) A (SPl sx) none) (hX49 : ∀ (I_M : (Nat → Int32)) (A_M : (Nat → Nat → Int32)), X49 I_M A_M → VV p l e ({ frames := 3, cells := 0, slots := 0, locals := 65 } : Room) s m args below meth c 4 D vwCl A 0 0 (QV below args s D vwCl (tyl cA) A (fun (u : (Nat → Int32) × (Nat → Nat → Int32)) => Q u.1 u.2) (fun u : (Nat → Int32) × (Nat → Nat → Int32) => kc_M cA a_M u.1 u.2)) (kc_M cA a_M I_M A_M) 86 [(0, .ref (a_M 0))] []) : ∀ (n49 : Nat) (I_M : (Nat → Int32)) (A_M : (Nat → Nat → Int32)) (v2 : Int32), wp_M_reckon_L49 Q X49 n49 I_M A_M v2 → VV p l e ({ frames := 3, cells := 0, slots := 0, locals := 65 } : Room) s m args below meth c 4 D vwCl A 0 0 (QV below args s D vwCl (tyl cA) A (fun (u : (Nat → Int32) × (Nat → Nat → Int32)) => Q u.1 u.2) (fun u : (Nat → Int32) × (Nat → Nat → Int32) => kc_M cA a_M u.1 u.2)) (kc_M cA a_M I_M A_M) 49 [(0, .ref (a_M 0)), (2, .int v2)] [] := by
  intro n49
  induction n49 with
  | zero =>
    intro I_M A_M v2 hw
    exact absurd hw (fun z => z)
  | succ n49 ih =>
    intro I_M A_M v2 hw
    unfold wp_M_reckon_L49 at hw
    refine vv_iload_n hC d_M_reckon_49 1 rfl rfl ?_
    refine vv_aload_n hC d_M_reckon_50 0 rfl rfl ?_
    refine vv_get hC (v := .ref (a_M 3)) hin_M 0 10 tb_682 d_M_reckon_51 rfl rfl (by decide) rfl rfl ?_
    refine vv_iconst hC d_M_reckon_54 (v := (2 : Int32)) (by decide) ?_
    refine vv_iald hC 3 0 d_M_reckon_55 rfl rfl (vin_c (by decide)) ?_
    refine vv_icmp_ge hC 86 d_M_reckon_56 (by decide) (fun cd => ?_) (fun cd => ?_)
    · have hw := hw.1 cd
      exact vv_sub [0] (by rfl) (hX49 I_M A_M hw)
    · have hw := hw.2 cd
      refine vv_aload_n hC d_M_reckon_59 0 rfl rfl ?_
      refine vv_get hC (v := .ref (a_M 22)) hin_M 0 31 tb_703 d_M_reckon_60 rfl rfl (by decide) rfl rfl ?_
      refine vv_aload_n hC d_M_reckon_63 0 rfl rfl ?_
      refine vv_get hC (v := .ref (a_M 5)) hin_M 0 12 tb_684 d_M_reckon_64 rfl rfl (by decide) rfl rfl ?_
      refine vv_iload_n hC d_M_reckon_67 1 rfl rfl ?_
      obtain ⟨hin_8, hw⟩ := hw
      refine vv_iald hC 5 0 d_M_reckon_68 rfl rfl hin_8 ?_
      refine vv_iconst hC d_M_reckon_69 (v := (2 : Int32)) (by decide) ?_
      refine vv_idiv hC d_M_reckon_70 (by decide) ?_
      refine vv_aload_n hC d_M_reckon_71 0 rfl rfl ?_
      refine vv_get hC (v := .int (I_M 9)) hin_M 0 30 tb_702 d_M_reckon_72 rfl rfl (by decide) rfl rfl ?_
      refine vv_iload_n hC d_M_reckon_75 1 rfl rfl ?_
      refine vv_ishr hC d_M_reckon_76 ?_
      refine vv_iconst hC d_M_reckon_77 (v := (1 : Int32)) (by decide) ?_
      refine vv_iand hC d_M_reckon_78 ?_
      obtain ⟨hin_9, hw⟩ := hw
      refine vv_iast hC 22 0 d_M_reckon_79 rfl rfl hin_9 (ws2 := kc_M cA a_M I_M (va_up A_M 21 (upd (A_M 21) ((((A_M 4) (v2).toNatClampNeg) / (2 : Int32))).toNatClampNeg (((I_M 9) >>> (v2 &&& 31)) &&& (1 : Int32))))) (st_M_MA21 ..) ?_
      refine vv_iinc hC d_M_reckon_80 1 rfl (v := (v2 + (1 : Int32))) rfl (by decide) [1, 0] (L2 := [(0, .ref (a_M 0)), (2, .int (v2 + (1 : Int32)))]) rfl ?_
      refine vv_goto hC 49 d_M_reckon_83 (by decide) ?_
      exact vv_sub [0, 1] (by rfl) (ih I_M (va_up A_M 21 (upd (A_M 21) ((((A_M 4) (v2).toNatClampNeg) / (2 : Int32))).toNatClampNeg (((I_M 9) >>> (v2 &&& 31)) &&& (1 : Int32)))) (v2 + (1 : Int32)) hw)
set_option maxHeartbeats 4000000 in
set_option maxRecDepth 100000 in
theorem l_M_reckon_L88 {p : Program} {l : Launch} {e : Env} {s : State} {m : MethodId} {args : Array Value} {below : List Frame} {meth : Method} {c : Code} {D : va_G} {cA : Nat → ClassId} {sx : Nat → Nat} {A : Nat → Prop} (a_M : Nat → Nat) (Q : (Nat → Int32) → (Nat → Nat → Int32) → Prop) (X88 : (Nat → Int32) → (Nat → Nat → Int32) → Prop) (hC : CX p s m args meth c b_M_reckon R_M TB 4 D vwCl (tyl cA) A (SPl sx) none) (hX88 : ∀ (I_M : (Nat → Int32)) (A_M : (Nat → Nat → Int32)), X88 I_M A_M → VV p l e ({ frames := 3, cells := 0, slots := 0, locals := 65 } : Room) s m args below meth c 4 D vwCl A 0 0 (QV below args s D vwCl (tyl cA) A (fun (u : (Nat → Int32) × (Nat → Nat → Int32)) => Q u.1 u.2) (fun u : (Nat → Int32) × (Nat → Nat → Int32) => kc_M cA a_M u.1 u.2)) (kc_M cA a_M I_M A_M) 145 [] []) : ∀ (n88 : Nat) (I_M : (Nat → Int32)) (A_M : (Nat → Nat → Int32)) (v2 : Int32), wp_M_reckon_L88 Q X88 n88 I_M A_M v2 → VV p l e ({ frames := 3, cells := 0, slots := 0, locals := 65 } : Room) s m args below meth c 4 D vwCl A 0 0 (QV below args s D vwCl (tyl cA) A (fun (u : (Nat → Int32) × (Nat → Nat → Int32)) => Q u.1 u.2) (fun u : (Nat → Int32) × (Nat → Nat → Int32) => kc_M cA a_M u.1 u.2)) (kc_M cA a_M I_M A_M) 88 [(0, .ref (a_M 0)), (2, .int v2)] [] := by
  intro n88
  induction n88 with
  | zero =>
    intro I_M A_M v2 hw
    exact absurd hw (fun z => z)
  | succ n88 ih =>
    intro I_M A_M v2 hw
    unfold wp_M_reckon_L88 at hw
    refine vv_iload_n hC d_M_reckon_88 1 rfl rfl ?_
    refine vv_aload_n hC d_M_reckon_89 0 rfl rfl ?_
    refine vv_get hC (v := .ref (a_M 3)) hin_M 0 10 tb_682 d_M_reckon_90 rfl rfl (by decide) rfl rfl ?_
    refine vv_iconst hC d_M_reckon_93 (v := (4 : Int32)) (by decide) ?_
    refine vv_iald hC 3 0 d_M_reckon_94 rfl rfl (vin_c (by decide)) ?_
    refine vv_icmp_ge hC 145 d_M_reckon_95 (by decide) (fun cd => ?_) (fun cd => ?_)
    · have hw := hw.1 cd
      exact vv_sub [] (by rfl) (hX88 I_M A_M hw)
    · have hw := hw.2 cd
      refine vv_aload_n hC d_M_reckon_98 0 rfl rfl ?_
      refine vv_get hC (v := .ref (a_M 19)) hin_M 0 26 tb_698 d_M_reckon_99 rfl rfl (by decide) rfl rfl ?_
      refine vv_iload_n hC d_M_reckon_102 1 rfl rfl ?_
      obtain ⟨hin_12, hw⟩ := hw
      refine vv_iald hC 19 0 d_M_reckon_103 rfl rfl hin_12 ?_
      refine vv_istore_n hC d_M_reckon_104 rfl (by decide) [1, 2, 0] (L2 := [(0, .ref (a_M 0)), (2, .int v2), (3, .int ((A_M 18) (v2).toNatClampNeg))]) rfl ?_
      refine vv_aload_n hC d_M_reckon_105 0 rfl rfl ?_
      refine vv_get hC (v := .ref (a_M 22)) hin_M 0 31 tb_703 d_M_reckon_106 rfl rfl (by decide) rfl rfl ?_
      refine vv_aload_n hC d_M_reckon_109 0 rfl rfl ?_
      refine vv_get hC (v := .ref (a_M 8)) hin_M 0 15 tb_687 d_M_reckon_110 rfl rfl (by decide) rfl rfl ?_
      refine vv_iload_n hC d_M_reckon_113 2 rfl rfl ?_
      obtain ⟨hin_13, hw⟩ := hw
      refine vv_iald hC 8 0 d_M_reckon_114 rfl rfl hin_13 ?_
      refine vv_iconst hC d_M_reckon_115 (v := (2 : Int32)) (by decide) ?_
      refine vv_idiv hC d_M_reckon_116 (by decide) ?_
      refine vv_aload_n hC d_M_reckon_117 0 rfl rfl ?_
      refine vv_aload_n hC d_M_reckon_118 0 rfl rfl ?_
      refine vv_get hC (v := .ref (a_M 9)) hin_M 0 16 tb_688 d_M_reckon_119 rfl rfl (by decide) rfl rfl ?_
      refine vv_iload_n hC d_M_reckon_122 2 rfl rfl ?_
      refine vv_iald hC 9 0 d_M_reckon_123 rfl rfl hin_13 ?_
      refine vv_callVI (wr := []) hC (c_M_of l D cA sx a_M I_M A_M ((A_M 8) (((A_M 18) (v2).toNatClampNeg)).toNatClampNeg) _ hw) (cw_M_220 hC) d_M_reckon_124 [.int (((A_M 7) (((A_M 18) (v2).toNatClampNeg)).toNatClampNeg) / (2 : Int32)), .ref (a_M 22)] [0, 1, 2, 3, 4, 5, 6, 7, 8, 9, 10, 11, 12, 13, 14, 15, 16, 17, 18, 19, 20, 21, 22, 23] [] [0, 1, 2, 3, 4, 5, 6, 7, 8, 9, 10, 11, 12, 13, 14, 15, 16, 17, 18, 19, 20, 21, 22, 23] (fun u_15 : Unit => kc_M cA a_M I_M A_M) ⟨Nat.zero_le _, Nat.zero_le _⟩ rfl rfl (fun _ => rfl) rfl rfl rfl rfl rfl rfl rfl rfl (Nat.le_of_ble_eq_true rfl) (fun r_14 u_15 hw => ?_)
      refine vv_aload_n hC d_M_reckon_127 0 rfl rfl ?_
      refine vv_aload_n hC d_M_reckon_128 0 rfl rfl ?_
      refine vv_get hC (v := .ref (a_M 10)) hin_M 0 17 tb_689 d_M_reckon_129 rfl rfl (by decide) rfl rfl ?_
      refine vv_iload_n hC d_M_reckon_132 2 rfl rfl ?_
      refine vv_iald hC 10 0 d_M_reckon_133 rfl rfl hin_13 ?_
      refine vv_callVI (wr := []) hC (c_M_of l D cA sx a_M I_M A_M ((A_M 9) (((A_M 18) (v2).toNatClampNeg)).toNatClampNeg) _ hw) (cw_M_220 hC) d_M_reckon_134 [.int r_14, .int (((A_M 7) (((A_M 18) (v2).toNatClampNeg)).toNatClampNeg) / (2 : Int32)), .ref (a_M 22)] [0, 1, 2, 3, 4, 5, 6, 7, 8, 9, 10, 11, 12, 13, 14, 15, 16, 17, 18, 19, 20, 21, 22, 23] [] [0, 1, 2, 3, 4, 5, 6, 7, 8, 9, 10, 11, 12, 13, 14, 15, 16, 17, 18, 19, 20, 21, 22, 23] (fun u_17 : Unit => kc_M cA a_M I_M A_M) ⟨Nat.zero_le _, Nat.zero_le _⟩ rfl rfl (fun _ => rfl) rfl rfl rfl rfl rfl rfl rfl rfl (Nat.le_of_ble_eq_true rfl) (fun r_16 u_17 hw => ?_)
      refine vv_iand hC d_M_reckon_137 ?_
      obtain ⟨hin_18, hw⟩ := hw
      refine vv_iast hC 22 0 d_M_reckon_138 rfl rfl hin_18 (ws2 := kc_M cA a_M I_M (va_up A_M 21 (upd (A_M 21) ((((A_M 7) (((A_M 18) (v2).toNatClampNeg)).toNatClampNeg) / (2 : Int32))).toNatClampNeg (r_14 &&& r_16)))) (st_M_MA21 ..) ?_
      refine vv_iinc hC d_M_reckon_139 1 rfl (v := (v2 + (1 : Int32))) rfl (by decide) [1, 0, 2] (L2 := [(0, .ref (a_M 0)), (2, .int (v2 + (1 : Int32))), (3, .int ((A_M 18) (v2).toNatClampNeg))]) rfl ?_
      refine vv_goto hC 88 d_M_reckon_142 (by decide) ?_
      exact vv_sub [0, 1] (by rfl) (ih I_M (va_up A_M 21 (upd (A_M 21) ((((A_M 7) (((A_M 18) (v2).toNatClampNeg)).toNatClampNeg) / (2 : Int32))).toNatClampNeg (r_14 &&& r_16))) (v2 + (1 : Int32)) hw)
set_option maxHeartbeats 4000000 in
set_option maxRecDepth 100000 in
theorem c_M_reckon (l : Launch) (D : va_G) (cA : Nat → ClassId) (sx : Nat → Nat) (a_M : Nat → Nat) (I_M : (Nat → Int32)) (A_M : (Nat → Nat → Int32)) (x1 : Int32) (Q : (Nat → Int32) → (Nat → Nat → Int32) → Prop) (hw : wp_M_reckon I_M A_M x1 Q) : MetV l y_M_reckon (Cond.code y_M_reckon b_M_reckon 4 none :: TB) ({ frames := 3, cells := 0, slots := 0, locals := 65 } : Room) D vwCl (tyl cA) (SPl sx) [.ref (a_M 0), .int x1] (kc_M cA a_M I_M A_M) (fun (u : (Nat → Int32) × (Nat → Nat → Int32)) => Q u.1 u.2) (fun u : (Nat → Int32) × (Nat → Nat → Int32) => kc_M cA a_M u.1 u.2) := by
  refine vv_entryV (cc := b_M_reckon) (own := R_M) (L := [(0, .ref (a_M 0)), (1, .int x1)]) (by decide) rfl rfl (Nat.le_of_ble_eq_true rfl) rfl (fun p e s m args below meth c A hC => ?_)
  unfold wp_M_reckon at hw
  refine vv_aload_n hC d_M_reckon_0 0 rfl rfl ?_
  refine vv_callVV (wr := []) hC (c_M_sortAgain l D cA sx a_M I_M A_M _ hw) (cw_M_204 hC) d_M_reckon_1 [] [0, 1, 2, 3, 4, 5, 6, 7, 8, 9, 10, 11, 12, 13, 14, 15, 16, 17, 18, 19, 20, 21, 22, 23] [] [0, 1, 2, 3, 4, 5, 6, 7, 8, 9, 10, 11, 12, 13, 14, 15, 16, 17, 18, 19, 20, 21, 22, 23] (fun u_1 : (Nat → Int32) × (Nat → Nat → Int32) => kc_M cA a_M u_1.1 u_1.2) ⟨Nat.zero_le _, Nat.zero_le _⟩ rfl rfl (fun _ => rfl) rfl rfl rfl rfl rfl rfl rfl rfl (Nat.le_of_ble_eq_true rfl) (fun u_1 hw => ?_)
  refine vv_aload_n hC d_M_reckon_4 0 rfl rfl ?_
  refine vv_get hC (v := .ref (a_M 22)) hin_M 0 31 tb_703 d_M_reckon_5 rfl rfl (by decide) rfl rfl ?_
  refine vv_iconst hC d_M_reckon_8 (v := (0 : Int32)) (by decide) ?_
  refine vv_iconst hC d_M_reckon_9 (v := (0 : Int32)) (by decide) ?_
  refine vv_iast hC 22 0 d_M_reckon_10 rfl rfl (vin_c (by decide)) (ws2 := kc_M cA a_M u_1.1 (va_up u_1.2 21 (upd (u_1.2 21) ((0 : Int32)).toNatClampNeg (0 : Int32)))) (st_M_MA21 ..) ?_
  refine vv_iconst hC d_M_reckon_11 (v := (0 : Int32)) (by decide) ?_
  refine vv_istore_n hC d_M_reckon_12 rfl (by decide) [1, 2, 0] (L2 := [(0, .ref (a_M 0)), (1, .int x1), (2, .int (0 : Int32))]) rfl ?_
  obtain ⟨m13, hw⟩ := hw
  refine vv_sub [0, 1, 2] (by rfl) (l_M_reckon_L13 a_M Q _ hC (fun I_M_6 A_M_7 hw => ?_) m13 u_1.1 (va_up u_1.2 21 (upd (u_1.2 21) ((0 : Int32)).toNatClampNeg (0 : Int32))) x1 (0 : Int32) hw)
  refine vv_iconst hC d_M_reckon_47 (v := (0 : Int32)) (by decide) ?_
  refine vv_istore_n hC d_M_reckon_48 rfl (by decide) [1, 0] (L2 := [(0, .ref (a_M 0)), (2, .int (0 : Int32))]) rfl ?_
  obtain ⟨m49, hw⟩ := hw
  refine vv_sub [0, 1] (by rfl) (l_M_reckon_L49 a_M Q _ hC (fun I_M_10 A_M_11 hw => ?_) m49 I_M_6 A_M_7 (0 : Int32) hw)
  refine vv_iconst hC d_M_reckon_86 (v := (0 : Int32)) (by decide) ?_
  refine vv_istore_n hC d_M_reckon_87 rfl (by decide) [1, 0] (L2 := [(0, .ref (a_M 0)), (2, .int (0 : Int32))]) rfl ?_
  obtain ⟨m88, hw⟩ := hw
  refine vv_sub [0, 1] (by rfl) (l_M_reckon_L88 a_M Q _ hC (fun I_M_19 A_M_20 hw => ?_) m88 I_M_10 A_M_11 (0 : Int32) hw)
  exact vv_vret hC d_M_reckon_145 (I_M_19, A_M_20) hw rfl
set_option maxHeartbeats 4000000 in
set_option maxRecDepth 100000 in
theorem l_M_value_b41 {p : Program} {l : Launch} {e : Env} {s : State} {m : MethodId} {args : Array Value} {below : List Frame} {meth : Method} {c : Code} {D : va_G} {cA : Nat → ClassId} {sx : Nat → Nat} {A : Nat → Prop} (a_M : Nat → Nat) (Q : Int32 → (Nat → Int32) → (Nat → Nat → Int32) → Prop) (hC : CX p s m args meth c b_M_value R_M TB 3 D vwCl (tyl cA) A (SPl sx) (some .int)) : ∀ (I_M : (Nat → Int32)) (A_M : (Nat → Nat → Int32)) (v1 : Int32) (v2 : Int32), wp_M_value_b41 Q I_M A_M v1 v2 → VV p l e ({ frames := 4, cells := 0, slots := 0, locals := 88 } : Room) s m args below meth c 3 D vwCl A 0 0 (QI below args s D vwCl (tyl cA) A (fun (r : Int32) (u : (Nat → Int32) × (Nat → Nat → Int32)) => Q r u.1 u.2) (fun u : (Nat → Int32) × (Nat → Nat → Int32) => kc_M cA a_M u.1 u.2)) (kc_M cA a_M I_M A_M) 41 [(0, .ref (a_M 0)), (1, .int v1), (2, .int v2)] [] := by
  intro I_M A_M v1 v2 hw
  unfold wp_M_value_b41 at hw
  refine vv_aload_n hC d_M_value_41 0 rfl rfl ?_
  refine vv_iload_n hC d_M_value_42 2 rfl rfl ?_
  refine vv_callVV (wr := []) hC (c_M_reckon l D cA sx a_M I_M A_M v2 _ hw) (cw_M_223 hC) d_M_value_43 [] [0, 1, 2, 3, 4, 5, 6, 7, 8, 9, 10, 11, 12, 13, 14, 15, 16, 17, 18, 19, 20, 21, 22, 23] [] [0, 1, 2, 3, 4, 5, 6, 7, 8, 9, 10, 11, 12, 13, 14, 15, 16, 17, 18, 19, 20, 21, 22, 23] (fun u_1 : (Nat → Int32) × (Nat → Nat → Int32) => kc_M cA a_M u_1.1 u_1.2) ⟨Nat.zero_le _, Nat.zero_le _⟩ rfl rfl (fun _ => rfl) rfl rfl rfl rfl rfl rfl rfl rfl (Nat.le_of_ble_eq_true rfl) (fun u_1 hw => ?_)
  refine vv_aload_n hC d_M_value_46 0 rfl rfl ?_
  refine vv_iload_n hC d_M_value_47 1 rfl rfl ?_
  refine vv_callVI (wr := []) hC (c_M_of l D cA sx a_M u_1.1 u_1.2 v1 _ hw) (cw_M_220 hC) d_M_value_48 [] [0, 1, 2, 3, 4, 5, 6, 7, 8, 9, 10, 11, 12, 13, 14, 15, 16, 17, 18, 19, 20, 21, 22, 23] [] [0, 1, 2, 3, 4, 5, 6, 7, 8, 9, 10, 11, 12, 13, 14, 15, 16, 17, 18, 19, 20, 21, 22, 23] (fun u_5 : Unit => kc_M cA a_M u_1.1 u_1.2) ⟨Nat.zero_le _, Nat.zero_le _⟩ rfl rfl (fun _ => rfl) rfl rfl rfl rfl rfl rfl rfl rfl (Nat.le_of_ble_eq_true rfl) (fun r_4 u_5 hw => ?_)
  exact vv_iret hC d_M_value_51 (u_1.1, u_1.2) hw rfl
set_option maxHeartbeats 4000000 in
set_option maxRecDepth 100000 in
theorem c_M_value (l : Launch) (D : va_G) (cA : Nat → ClassId) (sx : Nat → Nat) (a_M : Nat → Nat) (I_M : (Nat → Int32)) (A_M : (Nat → Nat → Int32)) (x1 x2 : Int32) (Q : Int32 → (Nat → Int32) → (Nat → Nat → Int32) → Prop) (hw : wp_M_value I_M A_M x1 x2 Q) : MetI l y_M_value (Cond.code y_M_value b_M_value 3 (some .int) :: TB) ({ frames := 4, cells := 0, slots := 0, locals := 88 } : Room) D vwCl (tyl cA) (SPl sx) [.ref (a_M 0), .int x1, .int x2] (kc_M cA a_M I_M A_M) (fun (r : Int32) (u : (Nat → Int32) × (Nat → Nat → Int32)) => Q r u.1 u.2) (fun u : (Nat → Int32) × (Nat → Nat → Int32) => kc_M cA a_M u.1 u.2) := by
  refine vv_entryI (cc := b_M_value) (own := R_M) (L := [(0, .ref (a_M 0)), (1, .int x1), (2, .int x2)]) (by decide) rfl rfl (Nat.le_of_ble_eq_true rfl) rfl (fun p e s m args below meth c A hC => ?_)
  unfold wp_M_value at hw
  refine vv_aload_n hC d_M_value_0 0 rfl rfl ?_
  refine vv_iconst hC d_M_value_1 (v := (0 : Int32)) (by decide) ?_
  refine vv_put hC hin_M ty_M tyok_M nmok_M 0 0 tb_672 d_M_value_2 rfl rfl (by decide) rfl rfl rfl rfl rfl (Nat.le_of_ble_eq_true rfl) (ws2 := kc_M cA a_M (va_up I_M 0 (0 : Int32)) A_M) (st_M_MI0 ..) ?_
  refine vv_iload_n hC d_M_value_5 1 rfl rfl ?_
  refine vv_if_lt hC 39 d_M_value_6 (by decide) (fun cd => ?_) (fun cd => ?_)
  · have hw := hw.1 cd
    refine vv_iconst hC d_M_value_39 (v := (-1 : Int32)) (by decide) ?_
    exact vv_iret hC d_M_value_40 ((va_up I_M 0 (0 : Int32)), A_M) hw rfl
  · have hw := hw.2 cd
    refine vv_iload_n hC d_M_value_9 1 rfl rfl ?_
    refine vv_iconst hC d_M_value_10 (v := (2 : Int32)) (by decide) ?_
    refine vv_aload_n hC d_M_value_11 0 rfl rfl ?_
    refine vv_get hC (v := .ref (a_M 3)) hin_M 0 10 tb_682 d_M_value_12 rfl rfl (by decide) rfl rfl ?_
    refine vv_iconst hC d_M_value_15 (v := (0 : Int32)) (by decide) ?_
    refine vv_iald hC 3 0 d_M_value_16 rfl rfl (vin_c (by decide)) ?_
    refine vv_imul hC d_M_value_17 ?_
    refine vv_iconst hC d_M_value_18 (v := (1 : Int32)) (by decide) ?_
    refine vv_iadd hC d_M_value_19 ?_
    refine vv_icmp_gt hC 39 d_M_value_20 (by decide) (fun cd => ?_) (fun cd => ?_)
    · have hw := hw.1 cd
      refine vv_iconst hC d_M_value_39 (v := (-1 : Int32)) (by decide) ?_
      exact vv_iret hC d_M_value_40 ((va_up I_M 0 (0 : Int32)), A_M) hw rfl
    · have hw := hw.2 cd
      refine vv_iload_n hC d_M_value_23 1 rfl rfl ?_
      refine vv_iconst hC d_M_value_24 (v := (1 : Int32)) (by decide) ?_
      refine vv_icmp_le hC 41 d_M_value_25 (by decide) (fun cd => ?_) (fun cd => ?_)
      · have hw := hw.1 cd
        exact vv_sub [0, 1, 2] (by rfl) (l_M_value_b41 a_M Q hC (va_up I_M 0 (0 : Int32)) A_M x1 x2 hw)
      · have hw := hw.2 cd
        refine vv_aload_n hC d_M_value_28 0 rfl rfl ?_
        refine vv_get hC (v := .ref (a_M 11)) hin_M 0 18 tb_690 d_M_value_29 rfl rfl (by decide) rfl rfl ?_
        refine vv_iload_n hC d_M_value_32 1 rfl rfl ?_
        refine vv_iconst hC d_M_value_33 (v := (2 : Int32)) (by decide) ?_
        refine vv_idiv hC d_M_value_34 (by decide) ?_
        obtain ⟨hin_6, hw⟩ := hw
        refine vv_iald hC 11 0 d_M_value_35 rfl rfl hin_6 ?_
        refine vv_if_ne hC 41 d_M_value_36 (by decide) (fun cd => ?_) (fun cd => ?_)
        · have hw := hw.2 cd
          exact vv_sub [0, 1, 2] (by rfl) (l_M_value_b41 a_M Q hC (va_up I_M 0 (0 : Int32)) A_M x1 x2 hw)
        · have hw := hw.1 cd
          refine vv_iconst hC d_M_value_39 (v := (-1 : Int32)) (by decide) ?_
          exact vv_iret hC d_M_value_40 ((va_up I_M 0 (0 : Int32)), A_M) hw rfl
set_option maxHeartbeats 4000000 in
set_option maxRecDepth 100000 in
theorem l_M_step_L17 {p : Program} {l : Launch} {e : Env} {s : State} {m : MethodId} {args : Array Value} {below : List Frame} {meth : Method} {c : Code} {D : va_G} {cA : Nat → ClassId} {sx : Nat → Nat} {A : Nat → Prop} (a_M : Nat → Nat) (Q : Int32 → (Nat → Int32) → (Nat → Nat → Int32) → Prop) (X17 : (Nat → Int32) → (Nat → Nat → Int32) → Int32 → Int32 → Prop) (hC : CX p s m args meth c b_M_step R_M TB 5 D vwCl (tyl cA) A (SPl sx) (some .int)) (hX17 : ∀ (I_M : (Nat → Int32)) (A_M : (Nat → Nat → Int32)) (v2 : Int32) (v3 : Int32), X17 I_M A_M v2 v3 → VV p l e ({ frames := 4, cells := 0, slots := 0, locals := 88 } : Room) s m args below meth c 5 D vwCl A 0 0 (QI below args s D vwCl (tyl cA) A (fun (r : Int32) (u : (Nat → Int32) × (Nat → Nat → Int32)) => Q r u.1 u.2) (fun u : (Nat → Int32) × (Nat → Nat → Int32) => kc_M cA a_M u.1 u.2)) (kc_M cA a_M I_M A_M) 51 [(0, .ref (a_M 0)), (2, .int v2), (3, .int v3)] []) : ∀ (n17 : Nat) (I_M : (Nat → Int32)) (A_M : (Nat → Nat → Int32)) (v2 : Int32) (v3 : Int32) (v4 : Int32), wp_M_step_L17 Q X17 n17 I_M A_M v2 v3 v4 → VV p l e ({ frames := 4, cells := 0, slots := 0, locals := 88 } : Room) s m args below meth c 5 D vwCl A 0 0 (QI below args s D vwCl (tyl cA) A (fun (r : Int32) (u : (Nat → Int32) × (Nat → Nat → Int32)) => Q r u.1 u.2) (fun u : (Nat → Int32) × (Nat → Nat → Int32) => kc_M cA a_M u.1 u.2)) (kc_M cA a_M I_M A_M) 17 [(0, .ref (a_M 0)), (2, .int v2), (3, .int v3), (4, .int v4)] [] := by
  intro n17
  induction n17 with
  | zero =>
    intro I_M A_M v2 v3 v4 hw
    exact absurd hw (fun z => z)
  | succ n17 ih =>
    intro I_M A_M v2 v3 v4 hw
    unfold wp_M_step_L17 at hw
    refine vv_iload hC d_M_step_17 3 rfl ?_
    refine vv_aload_n hC d_M_step_19 0 rfl rfl ?_
    refine vv_get hC (v := .ref (a_M 3)) hin_M 0 10 tb_682 d_M_step_20 rfl rfl (by decide) rfl rfl ?_
    refine vv_iconst hC d_M_step_23 (v := (3 : Int32)) (by decide) ?_
    refine vv_iald hC 3 0 d_M_step_24 rfl rfl (vin_c (by decide)) ?_
    refine vv_icmp_ge hC 51 d_M_step_25 (by decide) (fun cd => ?_) (fun cd => ?_)
    · have hw := hw.1 cd
      exact vv_sub [0, 1, 2] (by rfl) (hX17 I_M A_M v2 v3 hw)
    · have hw := hw.2 cd
      refine vv_iload_n hC d_M_step_28 1 rfl rfl ?_
      refine vv_aload_n hC d_M_step_29 0 rfl rfl ?_
      refine vv_aload_n hC d_M_step_30 0 rfl rfl ?_
      refine vv_get hC (v := .ref (a_M 7)) hin_M 0 14 tb_686 d_M_step_31 rfl rfl (by decide) rfl rfl ?_
      refine vv_iload hC d_M_step_34 3 rfl ?_
      obtain ⟨hin_4, hw⟩ := hw
      refine vv_iald hC 7 0 d_M_step_36 rfl rfl hin_4 ?_
      refine vv_callVI (wr := []) hC (c_M_of l D cA sx a_M I_M A_M ((A_M 6) (v4).toNatClampNeg) _ hw) (cw_M_220 hC) d_M_step_37 [.int v2] [0, 1, 2, 3, 4, 5, 6, 7, 8, 9, 10, 11, 12, 13, 14, 15, 16, 17, 18, 19, 20, 21, 22, 23] [] [0, 1, 2, 3, 4, 5, 6, 7, 8, 9, 10, 11, 12, 13, 14, 15, 16, 17, 18, 19, 20, 21, 22, 23] (fun u_6 : Unit => kc_M cA a_M I_M A_M) ⟨Nat.zero_le _, Nat.zero_le _⟩ rfl rfl (fun _ => rfl) rfl rfl rfl rfl rfl rfl rfl rfl (Nat.le_of_ble_eq_true rfl) (fun r_5 u_6 hw => ?_)
      refine vv_iload hC d_M_step_40 3 rfl ?_
      refine vv_ishl hC d_M_step_42 ?_
      refine vv_ior hC d_M_step_43 ?_
      refine vv_istore_n hC d_M_step_44 rfl (by decide) [1, 0, 2, 3] (L2 := [(0, .ref (a_M 0)), (2, .int (v2 ||| (r_5 <<< (v4 &&& 31)))), (3, .int v3), (4, .int v4)]) rfl ?_
      refine vv_iinc hC d_M_step_45 3 rfl (v := (v4 + (1 : Int32))) rfl (by decide) [1, 2, 3, 0] (L2 := [(0, .ref (a_M 0)), (2, .int (v2 ||| (r_5 <<< (v4 &&& 31)))), (3, .int v3), (4, .int (v4 + (1 : Int32)))]) rfl ?_
      refine vv_goto hC 17 d_M_step_48 (by decide) ?_
      exact vv_sub [0, 1, 2, 3] (by rfl) (ih I_M A_M (v2 ||| (r_5 <<< (v4 &&& 31))) v3 (v4 + (1 : Int32)) hw)
set_option maxHeartbeats 4000000 in
set_option maxRecDepth 100000 in
theorem l_M_step_L54 {p : Program} {l : Launch} {e : Env} {s : State} {m : MethodId} {args : Array Value} {below : List Frame} {meth : Method} {c : Code} {D : va_G} {cA : Nat → ClassId} {sx : Nat → Nat} {A : Nat → Prop} (a_M : Nat → Nat) (Q : Int32 → (Nat → Int32) → (Nat → Nat → Int32) → Prop) (X54 : (Nat → Int32) → (Nat → Nat → Int32) → Int32 → Int32 → Prop) (hC : CX p s m args meth c b_M_step R_M TB 5 D vwCl (tyl cA) A (SPl sx) (some .int)) (hX54 : ∀ (I_M : (Nat → Int32)) (A_M : (Nat → Nat → Int32)) (v2 : Int32) (v3 : Int32), X54 I_M A_M v2 v3 → VV p l e ({ frames := 4, cells := 0, slots := 0, locals := 88 } : Room) s m args below meth c 5 D vwCl A 0 0 (QI below args s D vwCl (tyl cA) A (fun (r : Int32) (u : (Nat → Int32) × (Nat → Nat → Int32)) => Q r u.1 u.2) (fun u : (Nat → Int32) × (Nat → Nat → Int32) => kc_M cA a_M u.1 u.2)) (kc_M cA a_M I_M A_M) 88 [(0, .ref (a_M 0)), (2, .int v2), (3, .int v3)] []) : ∀ (n54 : Nat) (I_M : (Nat → Int32)) (A_M : (Nat → Nat → Int32)) (v2 : Int32) (v3 : Int32) (v4 : Int32), wp_M_step_L54 Q X54 n54 I_M A_M v2 v3 v4 → VV p l e ({ frames := 4, cells := 0, slots := 0, locals := 88 } : Room) s m args below meth c 5 D vwCl A 0 0 (QI below args s D vwCl (tyl cA) A (fun (r : Int32) (u : (Nat → Int32) × (Nat → Nat → Int32)) => Q r u.1 u.2) (fun u : (Nat → Int32) × (Nat → Nat → Int32) => kc_M cA a_M u.1 u.2)) (kc_M cA a_M I_M A_M) 54 [(0, .ref (a_M 0)), (2, .int v2), (3, .int v3), (4, .int v4)] [] := by
  intro n54
  induction n54 with
  | zero =>
    intro I_M A_M v2 v3 v4 hw
    exact absurd hw (fun z => z)
  | succ n54 ih =>
    intro I_M A_M v2 v3 v4 hw
    unfold wp_M_step_L54 at hw
    refine vv_iload hC d_M_step_54 3 rfl ?_
    refine vv_aload_n hC d_M_step_56 0 rfl rfl ?_
    refine vv_get hC (v := .ref (a_M 3)) hin_M 0 10 tb_682 d_M_step_57 rfl rfl (by decide) rfl rfl ?_
    refine vv_iconst hC d_M_step_60 (v := (2 : Int32)) (by decide) ?_
    refine vv_iald hC 3 0 d_M_step_61 rfl rfl (vin_c (by decide)) ?_
    refine vv_icmp_ge hC 88 d_M_step_62 (by decide) (fun cd => ?_) (fun cd => ?_)
    · have hw := hw.1 cd
      exact vv_sub [0, 1, 2] (by rfl) (hX54 I_M A_M v2 v3 hw)
    · have hw := hw.2 cd
      refine vv_iload_n hC d_M_step_65 2 rfl rfl ?_
      refine vv_aload_n hC d_M_step_66 0 rfl rfl ?_
      refine vv_aload_n hC d_M_step_67 0 rfl rfl ?_
      refine vv_get hC (v := .ref (a_M 6)) hin_M 0 13 tb_685 d_M_step_68 rfl rfl (by decide) rfl rfl ?_
      refine vv_iload hC d_M_step_71 3 rfl ?_
      obtain ⟨hin_11, hw⟩ := hw
      refine vv_iald hC 6 0 d_M_step_73 rfl rfl hin_11 ?_
      refine vv_callVI (wr := []) hC (c_M_of l D cA sx a_M I_M A_M ((A_M 5) (v4).toNatClampNeg) _ hw) (cw_M_220 hC) d_M_step_74 [.int v3] [0, 1, 2, 3, 4, 5, 6, 7, 8, 9, 10, 11, 12, 13, 14, 15, 16, 17, 18, 19, 20, 21, 22, 23] [] [0, 1, 2, 3, 4, 5, 6, 7, 8, 9, 10, 11, 12, 13, 14, 15, 16, 17, 18, 19, 20, 21, 22, 23] (fun u_13 : Unit => kc_M cA a_M I_M A_M) ⟨Nat.zero_le _, Nat.zero_le _⟩ rfl rfl (fun _ => rfl) rfl rfl rfl rfl rfl rfl rfl rfl (Nat.le_of_ble_eq_true rfl) (fun r_12 u_13 hw => ?_)
      refine vv_iload hC d_M_step_77 3 rfl ?_
      refine vv_ishl hC d_M_step_79 ?_
      refine vv_ior hC d_M_step_80 ?_
      refine vv_istore_n hC d_M_step_81 rfl (by decide) [1, 2, 0, 3] (L2 := [(0, .ref (a_M 0)), (2, .int v2), (3, .int (v3 ||| (r_12 <<< (v4 &&& 31)))), (4, .int v4)]) rfl ?_
      refine vv_iinc hC d_M_step_82 3 rfl (v := (v4 + (1 : Int32))) rfl (by decide) [1, 2, 3, 0] (L2 := [(0, .ref (a_M 0)), (2, .int v2), (3, .int (v3 ||| (r_12 <<< (v4 &&& 31)))), (4, .int (v4 + (1 : Int32)))]) rfl ?_
      refine vv_goto hC 54 d_M_step_85 (by decide) ?_
      exact vv_sub [0, 1, 2, 3] (by rfl) (ih I_M A_M v2 (v3 ||| (r_12 <<< (v4 &&& 31))) (v4 + (1 : Int32)) hw)
set_option maxHeartbeats 4000000 in
set_option maxRecDepth 100000 in
theorem c_M_step (l : Launch) (D : va_G) (cA : Nat → ClassId) (sx : Nat → Nat) (a_M : Nat → Nat) (I_M : (Nat → Int32)) (A_M : (Nat → Nat → Int32)) (x1 : Int32) (Q : Int32 → (Nat → Int32) → (Nat → Nat → Int32) → Prop) (hw : wp_M_step I_M A_M x1 Q) : MetI l y_M_step (Cond.code y_M_step b_M_step 5 (some .int) :: TB) ({ frames := 4, cells := 0, slots := 0, locals := 88 } : Room) D vwCl (tyl cA) (SPl sx) [.ref (a_M 0), .int x1] (kc_M cA a_M I_M A_M) (fun (r : Int32) (u : (Nat → Int32) × (Nat → Nat → Int32)) => Q r u.1 u.2) (fun u : (Nat → Int32) × (Nat → Nat → Int32) => kc_M cA a_M u.1 u.2) := by
  refine vv_entryI (cc := b_M_step) (own := R_M) (L := [(0, .ref (a_M 0)), (1, .int x1)]) (by decide) rfl rfl (Nat.le_of_ble_eq_true rfl) rfl (fun p e s m args below meth c A hC => ?_)
  unfold wp_M_step at hw
  refine vv_aload_n hC d_M_step_0 0 rfl rfl ?_
  refine vv_iconst hC d_M_step_1 (v := (0 : Int32)) (by decide) ?_
  refine vv_put hC hin_M ty_M tyok_M nmok_M 0 0 tb_672 d_M_step_2 rfl rfl (by decide) rfl rfl rfl rfl rfl (Nat.le_of_ble_eq_true rfl) (ws2 := kc_M cA a_M (va_up I_M 0 (0 : Int32)) A_M) (st_M_MI0 ..) ?_
  refine vv_aload_n hC d_M_step_5 0 rfl rfl ?_
  refine vv_iload_n hC d_M_step_6 1 rfl rfl ?_
  refine vv_callVV (wr := []) hC (c_M_reckon l D cA sx a_M (va_up I_M 0 (0 : Int32)) A_M x1 _ hw) (cw_M_223 hC) d_M_step_7 [] [0, 1, 2, 3, 4, 5, 6, 7, 8, 9, 10, 11, 12, 13, 14, 15, 16, 17, 18, 19, 20, 21, 22, 23] [] [0, 1, 2, 3, 4, 5, 6, 7, 8, 9, 10, 11, 12, 13, 14, 15, 16, 17, 18, 19, 20, 21, 22, 23] (fun u_1 : (Nat → Int32) × (Nat → Nat → Int32) => kc_M cA a_M u_1.1 u_1.2) ⟨Nat.zero_le _, Nat.zero_le _⟩ rfl rfl (fun _ => rfl) rfl rfl rfl rfl rfl rfl rfl rfl (Nat.le_of_ble_eq_true rfl) (fun u_1 hw => ?_)
  refine vv_iconst hC d_M_step_10 (v := (0 : Int32)) (by decide) ?_
  refine vv_istore_n hC d_M_step_11 rfl (by decide) [1, 2, 0] (L2 := [(0, .ref (a_M 0)), (1, .int x1), (2, .int (0 : Int32))]) rfl ?_
  refine vv_iconst hC d_M_step_12 (v := (0 : Int32)) (by decide) ?_
  refine vv_istore_n hC d_M_step_13 rfl (by decide) [1, 2, 3, 0] (L2 := [(0, .ref (a_M 0)), (1, .int x1), (2, .int (0 : Int32)), (3, .int (0 : Int32))]) rfl ?_
  refine vv_iconst hC d_M_step_14 (v := (0 : Int32)) (by decide) ?_
  refine vv_istore hC d_M_step_15 (by decide) [1, 2, 3, 4, 0] (L2 := [(0, .ref (a_M 0)), (1, .int x1), (2, .int (0 : Int32)), (3, .int (0 : Int32)), (4, .int (0 : Int32))]) rfl ?_
  obtain ⟨m17, hw⟩ := hw
  refine vv_sub [0, 2, 3, 4] (by rfl) (l_M_step_L17 a_M Q _ hC (fun I_M_7 A_M_8 v2_9 v3_10 hw => ?_) m17 u_1.1 u_1.2 (0 : Int32) (0 : Int32) (0 : Int32) hw)
  refine vv_iconst hC d_M_step_51 (v := (0 : Int32)) (by decide) ?_
  refine vv_istore hC d_M_step_52 (by decide) [1, 2, 3, 0] (L2 := [(0, .ref (a_M 0)), (2, .int v2_9), (3, .int v3_10), (4, .int (0 : Int32))]) rfl ?_
  obtain ⟨m54, hw⟩ := hw
  refine vv_sub [0, 1, 2, 3] (by rfl) (l_M_step_L54 a_M Q _ hC (fun I_M_14 A_M_15 v2_16 v3_17 hw => ?_) m54 I_M_7 A_M_8 v2_9 v3_10 (0 : Int32) hw)
  refine vv_aload_n hC d_M_step_88 0 rfl rfl ?_
  refine vv_iload_n hC d_M_step_89 2 rfl rfl ?_
  refine vv_put hC hin_M ty_M tyok_M nmok_M 0 30 tb_702 d_M_step_90 rfl rfl (by decide) rfl rfl rfl rfl rfl (Nat.le_of_ble_eq_true rfl) (ws2 := kc_M cA a_M (va_up I_M_14 9 v3_17) A_M_15) (st_M_MI9 ..) ?_
  refine vv_iload_n hC d_M_step_93 1 rfl rfl ?_
  exact vv_iret hC d_M_step_94 ((va_up I_M_14 9 v3_17), A_M_15) hw rfl
