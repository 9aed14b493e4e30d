set_option maxHeartbeats 4000000 in
set_option maxRecDepth 100000 in
theorem l_C_forget_L2 {p : Program} {l : Launch} {e : Env} {s : State} {m : MethodId} {args : Array Value} {below : List Frame} {meth : Method} {c : Code} {D : va_G} {cA : Nat → ClassId} {sx : Nat → Nat} {A : Nat → Prop} (a_C : Nat → Nat) (Q : (Nat → Int32) → (Nat → Nat → Int32) → Prop) (X2 : (Nat → Int32) → (Nat → Nat → Int32) → Prop) (hC : CX p s m args meth c b_C_forget R_C TB 2 D vwCl (tyl cA) A (SPl sx) none) (hX2 : ∀ (I_C : (Nat → Int32)) (A_C : (Nat → Nat → Int32)), X2 I_C A_C → VV p l e ({ frames := 0, cells := 0, slots := 0, locals := 0 } : Room) s m args below meth c 2 D vwCl A 0 0 (QV below args s D vwCl (tyl cA) A (fun (u : (Nat → Int32) × (Nat → Nat → Int32)) => Q u.1 u.2) (fun u : (Nat → Int32) × (Nat → Nat → Int32) => kc_C cA a_C u.1 u.2)) (kc_C cA a_C I_C A_C) 22 [(0, .ref (a_C 0))] []) : ∀ (n2 : Nat) (I_C : (Nat → Int32)) (A_C : (Nat → Nat → Int32)) (v1 : Int32), wp_C_forget_L2 Q X2 n2 I_C A_C v1 → VV p l e ({ frames := 0, cells := 0, slots := 0, locals := 0 } : Room) s m args below meth c 2 D vwCl A 0 0 (QV below args s D vwCl (tyl cA) A (fun (u : (Nat → Int32) × (Nat → Nat → Int32)) => Q u.1 u.2) (fun u : (Nat → Int32) × (Nat → Nat → Int32) => kc_C cA a_C u.1 u.2)) (kc_C cA a_C I_C A_C) 2 [(0, .ref (a_C 0)), (1, .int v1)] [] := by
  intro n2
  induction n2 with
  | zero =>
    intro I_C A_C v1 hw
    exact absurd hw (fun z => z)
  | succ n2 ih =>
    intro I_C A_C v1 hw
    unfold wp_C_forget_L2 at hw
    refine vv_iload_n hC d_C_forget_2 1 rfl rfl ?_
    refine vv_sipush hC d_C_forget_3 (v := (400 : Int32)) (by decide) ?_
    refine vv_icmp_gt hC 22 d_C_forget_6 (by decide) (fun cd => ?_) (fun cd => ?_)
    · have hw := hw.1 cd
      exact vv_sub [0] (by rfl) (hX2 I_C A_C hw)
    · have hw := hw.2 cd
      refine vv_aload_n hC d_C_forget_9 0 rfl rfl ?_
      refine vv_get hC (v := .ref (a_C 9)) hin_C 0 14 tb_201 d_C_forget_10 rfl rfl (by decide) rfl rfl ?_
      refine vv_iload_n hC d_C_forget_13 1 rfl rfl ?_
      refine vv_iconst hC d_C_forget_14 (v := (0 : Int32)) (by decide) ?_
      obtain ⟨hin_1, hw⟩ := hw
      refine vv_zast hC 9 1 d_C_forget_15 rfl rfl hin_1 (ws2 := kc_C cA a_C I_C (va_up A_C 8 (upd (A_C 8) (v1).toNatClampNeg (0 : Int32)))) (st_C_CA8 ..) ?_
      refine vv_iinc hC d_C_forget_16 1 rfl (v := (v1 + (1 : Int32))) rfl (by decide) [1, 0] (L2 := [(0, .ref (a_C 0)), (1, .int (v1 + (1 : Int32)))]) rfl ?_
      refine vv_goto hC 2 d_C_forget_19 (by decide) ?_
      exact vv_sub [0, 1] (by rfl) (ih I_C (va_up A_C 8 (upd (A_C 8) (v1).toNatClampNeg (0 : Int32))) (v1 + (1 : Int32)) hw)
set_option maxHeartbeats 4000000 in
set_option maxRecDepth 100000 in
theorem l_C_forget_L24 {p : Program} {l : Launch} {e : Env} {s : State} {m : MethodId} {args : Array Value} {below : List Frame} {meth : Method} {c : Code} {D : va_G} {cA : Nat → ClassId} {sx : Nat → Nat} {A : Nat → Prop} (a_C : Nat → Nat) (Q : (Nat → Int32) → (Nat → Nat → Int32) → Prop) (X24 : (Nat → Int32) → (Nat → Nat → Int32) → Prop) (hC : CX p s m args meth c b_C_forget R_C TB 2 D vwCl (tyl cA) A (SPl sx) none) (hX24 : ∀ (I_C : (Nat → Int32)) (A_C : (Nat → Nat → Int32)), X24 I_C A_C → VV p l e ({ frames := 0, cells := 0, slots := 0, locals := 0 } : Room) s m args below meth c 2 D vwCl A 0 0 (QV below args s D vwCl (tyl cA) A (fun (u : (Nat → Int32) × (Nat → Nat → Int32)) => Q u.1 u.2) (fun u : (Nat → Int32) × (Nat → Nat → Int32) => kc_C cA a_C u.1 u.2)) (kc_C cA a_C I_C A_C) 43 [(0, .ref (a_C 0))] []) : ∀ (n24 : Nat) (I_C : (Nat → Int32)) (A_C : (Nat → Nat → Int32)) (v1 : Int32), wp_C_forget_L24 Q X24 n24 I_C A_C v1 → VV p l e ({ frames := 0, cells := 0, slots := 0, locals := 0 } : Room) s m args below meth c 2 D vwCl A 0 0 (QV below args s D vwCl (tyl cA) A (fun (u : (Nat → Int32) × (Nat → Nat → Int32)) => Q u.1 u.2) (fun u : (Nat → Int32) × (Nat → Nat → Int32) => kc_C cA a_C u.1 u.2)) (kc_C cA a_C I_C A_C) 24 [(0, .ref (a_C 0)), (1, .int v1)] [] := by
  intro n24
  induction n24 with
  | zero =>
    intro I_C A_C v1 hw
    exact absurd hw (fun z => z)
  | succ n24 ih =>
    intro I_C A_C v1 hw
    unfold wp_C_forget_L24 at hw
    refine vv_iload_n hC d_C_forget_24 1 rfl rfl ?_
    refine vv_bipush hC d_C_forget_25 (v := (24 : Int32)) (by decide) ?_
    refine vv_icmp_ge hC 43 d_C_forget_27 (by decide) (fun cd => ?_) (fun cd => ?_)
    · have hw := hw.1 cd
      exact vv_sub [0] (by rfl) (hX24 I_C A_C hw)
    · have hw := hw.2 cd
      refine vv_aload_n hC d_C_forget_30 0 rfl rfl ?_
      refine vv_get hC (v := .ref (a_C 10)) hin_C 0 15 tb_203 d_C_forget_31 rfl rfl (by decide) rfl rfl ?_
      refine vv_iload_n hC d_C_forget_34 1 rfl rfl ?_
      refine vv_iconst hC d_C_forget_35 (v := (0 : Int32)) (by decide) ?_
      obtain ⟨hin_4, hw⟩ := hw
      refine vv_iast hC 10 0 d_C_forget_36 rfl rfl hin_4 (ws2 := kc_C cA a_C I_C (va_up A_C 9 (upd (A_C 9) (v1).toNatClampNeg (0 : Int32)))) (st_C_CA9 ..) ?_
      refine vv_iinc hC d_C_forget_37 1 rfl (v := (v1 + (1 : Int32))) rfl (by decide) [1, 0] (L2 := [(0, .ref (a_C 0)), (1, .int (v1 + (1 : Int32)))]) rfl ?_
      refine vv_goto hC 24 d_C_forget_40 (by decide) ?_
      exact vv_sub [0, 1] (by rfl) (ih I_C (va_up A_C 9 (upd (A_C 9) (v1).toNatClampNeg (0 : Int32))) (v1 + (1 : Int32)) hw)
set_option maxHeartbeats 4000000 in
set_option maxRecDepth 100000 in
theorem c_C_forget (l : Launch) (D : va_G) (cA : Nat → ClassId) (sx : Nat → Nat) (a_C : Nat → Nat) (I_C : (Nat → Int32)) (A_C : (Nat → Nat → Int32)) (Q : (Nat → Int32) → (Nat → Nat → Int32) → Prop) (hw : wp_C_forget I_C A_C Q) : MetV l y_C_forget (Cond.code y_C_forget b_C_forget 2 none :: TB) ({ frames := 0, cells := 0, slots := 0, locals := 0 } : Room) D vwCl (tyl cA) (SPl sx) [.ref (a_C 0)] (kc_C cA a_C I_C A_C) (fun (u : (Nat → Int32) × (Nat → Nat → Int32)) => Q u.1 u.2) (fun u : (Nat → Int32) × (Nat → Nat → Int32) => kc_C cA a_C u.1 u.2) := by
  refine vv_entryV (cc := b_C_forget) (own := R_C) (L := [(0, .ref (a_C 0))]) (by decide) rfl rfl (Nat.le_of_ble_eq_true rfl) rfl (fun p e s m args below meth c A hC => ?_)
  unfold wp_C_forget at hw
  refine vv_iconst hC d_C_forget_0 (v := (0 : Int32)) (by decide) ?_
  refine vv_istore_n hC d_C_forget_1 rfl (by decide) [1, 0] (L2 := [(0, .ref (a_C 0)), (1, .int (0 : Int32))]) rfl ?_
  obtain ⟨m2, hw⟩ := hw
  refine vv_sub [0, 1] (by rfl) (l_C_forget_L2 a_C Q _ hC (fun I_C_2 A_C_3 hw => ?_) m2 I_C A_C (0 : Int32) hw)
  refine vv_iconst hC d_C_forget_22 (v := (0 : Int32)) (by decide) ?_
  refine vv_istore_n hC d_C_forget_23 rfl (by decide) [1, 0] (L2 := [(0, .ref (a_C 0)), (1, .int (0 : Int32))]) rfl ?_
  obtain ⟨m24, hw⟩ := hw
  refine vv_sub [0, 1] (by rfl) (l_C_forget_L24 a_C Q _ hC (fun I_C_5 A_C_6 hw => ?_) m24 I_C_2 A_C_3 (0 : Int32) hw)
  refine vv_aload_n hC d_C_forget_43 0 rfl rfl ?_
  refine vv_iconst hC d_C_forget_44 (v := (0 : Int32)) (by decide) ?_
  refine vv_put hC hin_C ty_C tyok_C nmok_C 0 5 tb_170 d_C_forget_45 rfl rfl (by decide) rfl rfl rfl rfl rfl (Nat.le_of_ble_eq_true rfl) (ws2 := kc_C cA a_C (va_up I_C_5 5 (0 : Int32)) A_C_6) (st_C_CI5 ..) ?_
  exact vv_vret hC d_C_forget_48 ((va_up I_C_5 5 (0 : Int32)), A_C_6) hw rfl
set_option maxHeartbeats 4000000 in
set_option maxRecDepth 100000 in
theorem c_C_isWithinBounds (l : Launch) (D : va_G) (cA : Nat → ClassId) (sx : Nat → Nat) (a_C : Nat → Nat) (I_C : (Nat → Int32)) (A_C : (Nat → Nat → Int32)) (x1 : Int32) (Q : Int32 → Prop) (hw : wp_C_isWithinBounds I_C x1 Q) : MetI l y_C_isWithinBounds (Cond.code y_C_isWithinBounds b_C_isWithinBounds 3 (some .boolean) :: TB) ({ frames := 0, cells := 0, slots := 0, locals := 0 } : Room) D vwCl (tyl cA) (SPl sx) [.ref (a_C 0), .int x1] (kc_C cA a_C I_C A_C) (fun (r : Int32) (u : Unit) => Q r) (fun u : Unit => kc_C cA a_C I_C A_C) := by
  refine vv_entryI (cc := b_C_isWithinBounds) (own := R_C) (L := [(0, .ref (a_C 0)), (1, .int x1)]) (by decide) rfl rfl (Nat.le_of_ble_eq_true rfl) rfl (fun p e s m args below meth c A hC => ?_)
  unfold wp_C_isWithinBounds at hw
  refine vv_aload_n hC d_C_isWithinBounds_0 0 rfl rfl ?_
  refine vv_get hC (v := .int (I_C 1)) hin_C 0 1 tb_153 d_C_isWithinBounds_1 rfl rfl (by decide) rfl rfl ?_
  refine vv_aload_n hC d_C_isWithinBounds_4 0 rfl rfl ?_
  refine vv_get hC (v := .int (I_C 2)) hin_C 0 2 tb_157 d_C_isWithinBounds_5 rfl rfl (by decide) rfl rfl ?_
  refine vv_iadd hC d_C_isWithinBounds_8 ?_
  refine vv_aload_n hC d_C_isWithinBounds_9 0 rfl rfl ?_
  refine vv_get hC (v := .int (I_C 4)) hin_C 0 4 tb_165 d_C_isWithinBounds_10 rfl rfl (by decide) rfl rfl ?_
  refine vv_iadd hC d_C_isWithinBounds_13 ?_
  refine vv_istore_n hC d_C_isWithinBounds_14 rfl (by decide) [1, 2, 0] (L2 := [(0, .ref (a_C 0)), (1, .int x1), (2, .int (((I_C 1) + (I_C 2)) + (I_C 4)))]) rfl ?_
  refine vv_aload_n hC d_C_isWithinBounds_15 0 rfl rfl ?_
  refine vv_get hC (v := .int (I_C 0)) hin_C 0 0 tb_148 d_C_isWithinBounds_16 rfl rfl (by decide) rfl rfl ?_
  refine vv_sipush hC d_C_isWithinBounds_19 (v := (400 : Int32)) (by decide) ?_
  refine vv_icmp_gt hC 89 d_C_isWithinBounds_22 (by decide) (fun cd => ?_) (fun cd => ?_)
  · have hw := hw.1 cd
    refine vv_iconst hC d_C_isWithinBounds_89 (v := (0 : Int32)) (by decide) ?_
    exact vv_zret hC d_C_isWithinBounds_90 rfl () hw rfl
  · have hw := hw.2 cd
    refine vv_aload_n hC d_C_isWithinBounds_25 0 rfl rfl ?_
    refine vv_get hC (v := .int (I_C 1)) hin_C 0 1 tb_153 d_C_isWithinBounds_26 rfl rfl (by decide) rfl rfl ?_
    refine vv_bipush hC d_C_isWithinBounds_29 (v := (6 : Int32)) (by decide) ?_
    refine vv_icmp_gt hC 89 d_C_isWithinBounds_31 (by decide) (fun cd => ?_) (fun cd => ?_)
    · have hw := hw.1 cd
      refine vv_iconst hC d_C_isWithinBounds_89 (v := (0 : Int32)) (by decide) ?_
      exact vv_zret hC d_C_isWithinBounds_90 rfl () hw rfl
    · have hw := hw.2 cd
      refine vv_aload_n hC d_C_isWithinBounds_34 0 rfl rfl ?_
      refine vv_get hC (v := .int (I_C 2)) hin_C 0 2 tb_157 d_C_isWithinBounds_35 rfl rfl (by decide) rfl rfl ?_
      refine vv_bipush hC d_C_isWithinBounds_38 (v := (7 : Int32)) (by decide) ?_
      refine vv_icmp_gt hC 89 d_C_isWithinBounds_40 (by decide) (fun cd => ?_) (fun cd => ?_)
      · have hw := hw.1 cd
        refine vv_iconst hC d_C_isWithinBounds_89 (v := (0 : Int32)) (by decide) ?_
        exact vv_zret hC d_C_isWithinBounds_90 rfl () hw rfl
      · have hw := hw.2 cd
        refine vv_aload_n hC d_C_isWithinBounds_43 0 rfl rfl ?_
        refine vv_get hC (v := .int (I_C 3)) hin_C 0 3 tb_161 d_C_isWithinBounds_44 rfl rfl (by decide) rfl rfl ?_
        refine vv_bipush hC d_C_isWithinBounds_47 (v := (8 : Int32)) (by decide) ?_
        refine vv_icmp_gt hC 89 d_C_isWithinBounds_49 (by decide) (fun cd => ?_) (fun cd => ?_)
        · have hw := hw.1 cd
          refine vv_iconst hC d_C_isWithinBounds_89 (v := (0 : Int32)) (by decide) ?_
          exact vv_zret hC d_C_isWithinBounds_90 rfl () hw rfl
        · have hw := hw.2 cd
          refine vv_aload_n hC d_C_isWithinBounds_52 0 rfl rfl ?_
          refine vv_get hC (v := .int (I_C 4)) hin_C 0 4 tb_165 d_C_isWithinBounds_53 rfl rfl (by decide) rfl rfl ?_
          refine vv_sipush hC d_C_isWithinBounds_56 (v := (300 : Int32)) (by decide) ?_
          refine vv_icmp_gt hC 89 d_C_isWithinBounds_59 (by decide) (fun cd => ?_) (fun cd => ?_)
          · have hw := hw.1 cd
            refine vv_iconst hC d_C_isWithinBounds_89 (v := (0 : Int32)) (by decide) ?_
            exact vv_zret hC d_C_isWithinBounds_90 rfl () hw rfl
          · have hw := hw.2 cd
            refine vv_iload_n hC d_C_isWithinBounds_62 1 rfl rfl ?_
            refine vv_if_eq hC 77 d_C_isWithinBounds_63 (by decide) (fun cd => ?_) (fun cd => ?_)
            · have hw := hw.1 cd
              refine vv_aload_n hC d_C_isWithinBounds_77 0 rfl rfl ?_
              refine vv_get hC (v := .int (I_C 0)) hin_C 0 0 tb_148 d_C_isWithinBounds_78 rfl rfl (by decide) rfl rfl ?_
              refine vv_iload_n hC d_C_isWithinBounds_81 2 rfl rfl ?_
              refine vv_icmp_lt hC 89 d_C_isWithinBounds_82 (by decide) (fun cd => ?_) (fun cd => ?_)
              · have hw := hw.1 cd
                refine vv_iconst hC d_C_isWithinBounds_89 (v := (0 : Int32)) (by decide) ?_
                exact vv_zret hC d_C_isWithinBounds_90 rfl () hw rfl
              · have hw := hw.2 cd
                refine vv_iconst hC d_C_isWithinBounds_85 (v := (1 : Int32)) (by decide) ?_
                refine vv_goto hC 90 d_C_isWithinBounds_86 (by decide) ?_
                exact vv_zret hC d_C_isWithinBounds_90 rfl () hw rfl
            · have hw := hw.2 cd
              refine vv_aload_n hC d_C_isWithinBounds_66 0 rfl rfl ?_
              refine vv_get hC (v := .int (I_C 0)) hin_C 0 0 tb_148 d_C_isWithinBounds_67 rfl rfl (by decide) rfl rfl ?_
              refine vv_iload_n hC d_C_isWithinBounds_70 2 rfl rfl ?_
              refine vv_icmp_ne hC 89 d_C_isWithinBounds_71 (by decide) (fun cd => ?_) (fun cd => ?_)
              · have hw := hw.2 cd
                refine vv_iconst hC d_C_isWithinBounds_89 (v := (0 : Int32)) (by decide) ?_
                exact vv_zret hC d_C_isWithinBounds_90 rfl () hw rfl
              · have hw := hw.1 cd
                refine vv_goto hC 85 d_C_isWithinBounds_74 (by decide) ?_
                refine vv_iconst hC d_C_isWithinBounds_85 (v := (1 : Int32)) (by decide) ?_
                refine vv_goto hC 90 d_C_isWithinBounds_86 (by decide) ?_
                exact vv_zret hC d_C_isWithinBounds_90 rfl () hw rfl
set_option maxHeartbeats 4000000 in
set_option maxRecDepth 100000 in
theorem c_C_highestLiteral (l : Launch) (D : va_G) (cA : Nat → ClassId) (sx : Nat → Nat) (a_C : Nat → Nat) (I_C : (Nat → Int32)) (A_C : (Nat → Nat → Int32)) (Q : Int32 → Prop) (hw : wp_C_highestLiteral I_C Q) : MetI l y_C_highestLiteral (Cond.code y_C_highestLiteral b_C_highestLiteral 1 (some .int) :: TB) ({ frames := 0, cells := 0, slots := 0, locals := 0 } : Room) D vwCl (tyl cA) (SPl sx) [.ref (a_C 0)] (kc_C cA a_C I_C A_C) (fun (r : Int32) (u : Unit) => Q r) (fun u : Unit => kc_C cA a_C I_C A_C) := by
  refine vv_entryI (cc := b_C_highestLiteral) (own := R_C) (L := [(0, .ref (a_C 0))]) (by decide) rfl rfl (Nat.le_of_ble_eq_true rfl) rfl (fun p e s m args below meth c A hC => ?_)
  unfold wp_C_highestLiteral at hw
  refine vv_iconst hC d_C_highestLiteral_0 (v := (2 : Int32)) (by decide) ?_
  refine vv_aload_n hC d_C_highestLiteral_1 0 rfl rfl ?_
  refine vv_get hC (v := .int (I_C 0)) hin_C 0 0 tb_148 d_C_highestLiteral_2 rfl rfl (by decide) rfl rfl ?_
  refine vv_imul hC d_C_highestLiteral_5 ?_
  refine vv_iconst hC d_C_highestLiteral_6 (v := (1 : Int32)) (by decide) ?_
  refine vv_iadd hC d_C_highestLiteral_7 ?_
  exact vv_iret hC d_C_highestLiteral_8 () hw rfl
set_option maxHeartbeats 4000000 in
set_option maxRecDepth 100000 in
theorem c_C_countOf (l : Launch) (D : va_G) (cA : Nat → ClassId) (sx : Nat → Nat) (a_C : Nat → Nat) (I_C : (Nat → Int32)) (A_C : (Nat → Nat → Int32)) (x1 : Int32) (Q : Int32 → Prop) (hw : wp_C_countOf I_C x1 Q) : MetI l y_C_countOf (Cond.code y_C_countOf b_C_countOf 2 (some .int) :: TB) ({ frames := 0, cells := 0, slots := 0, locals := 0 } : Room) D vwCl (tyl cA) (SPl sx) [.ref (a_C 0), .int x1] (kc_C cA a_C I_C A_C) (fun (r : Int32) (u : Unit) => Q r) (fun u : Unit => kc_C cA a_C I_C A_C) := by
  refine vv_entryI (cc := b_C_countOf) (own := R_C) (L := [(0, .ref (a_C 0)), (1, .int x1)]) (by decide) rfl rfl (Nat.le_of_ble_eq_true rfl) rfl (fun p e s m args below meth c A hC => ?_)
  unfold wp_C_countOf at hw
  refine vv_iload_n hC d_C_countOf_0 1 rfl rfl ?_
  refine sw_cases (x := x1) (k := (0 : Int32)) (fun cd => ?_) (fun cd0 => ?_)
  · have hw := hw.1 cd
    refine vv_tabIn hC (0 : Int32) 27 28 d_C_countOf_1 cd (by decide) (by decide) rfl (by decide) ?_
    refine vv_aload_n hC d_C_countOf_28 0 rfl rfl ?_
    refine vv_get hC (v := .int (I_C 1)) hin_C 0 1 tb_153 d_C_countOf_29 rfl rfl (by decide) rfl rfl ?_
    exact vv_iret hC d_C_countOf_32 () hw rfl
  · have hw := hw.2 cd0
    refine sw_cases (x := x1) (k := (1 : Int32)) (fun cd => ?_) (fun cd1 => ?_)
    · have hw := hw.1 cd
      refine vv_tabIn hC (1 : Int32) 32 33 d_C_countOf_1 cd (by decide) (by decide) rfl (by decide) ?_
      refine vv_aload_n hC d_C_countOf_33 0 rfl rfl ?_
      refine vv_get hC (v := .int (I_C 2)) hin_C 0 2 tb_157 d_C_countOf_34 rfl rfl (by decide) rfl rfl ?_
      exact vv_iret hC d_C_countOf_37 () hw rfl
    · have hw := hw.2 cd1
      refine sw_cases (x := x1) (k := (2 : Int32)) (fun cd => ?_) (fun cd2 => ?_)
      · have hw := hw.1 cd
        refine vv_tabIn hC (2 : Int32) 37 38 d_C_countOf_1 cd (by decide) (by decide) rfl (by decide) ?_
        refine vv_aload_n hC d_C_countOf_38 0 rfl rfl ?_
        refine vv_get hC (v := .int (I_C 3)) hin_C 0 3 tb_161 d_C_countOf_39 rfl rfl (by decide) rfl rfl ?_
        exact vv_iret hC d_C_countOf_42 () hw rfl
      · have hw := hw.2 cd2
        refine vv_tabOut hC 43 d_C_countOf_1 (sw_out 2 (by decide) (fun k hk => by rcases (show k = 0 ∨ k = 1 ∨ k = 2 by omega) with rfl | rfl | rfl <;> first | exact cd0 | exact cd1 | exact cd2)) (by decide) ?_
        refine vv_iconst hC d_C_countOf_43 (v := (0 : Int32)) (by decide) ?_
        exact vv_iret hC d_C_countOf_44 () hw rfl
set_option maxHeartbeats 4000000 in
set_option maxRecDepth 100000 in
theorem c_C_isKnown (l : Launch) (D : va_G) (cA : Nat → ClassId) (sx : Nat → Nat) (a_C : Nat → Nat) (I_C : (Nat → Int32)) (A_C : (Nat → Nat → Int32)) (x1 : Int32) (Q : Int32 → Prop) (hw : wp_C_isKnown A_C x1 Q) : MetI l y_C_isKnown (Cond.code y_C_isKnown b_C_isKnown 2 (some .boolean) :: TB) ({ frames := 0, cells := 0, slots := 0, locals := 0 } : Room) D vwCl (tyl cA) (SPl sx) [.ref (a_C 0), .int x1] (kc_C cA a_C I_C A_C) (fun (r : Int32) (u : Unit) => Q r) (fun u : Unit => kc_C cA a_C I_C A_C) := by
  refine vv_entryI (cc := b_C_isKnown) (own := R_C) (L := [(0, .ref (a_C 0)), (1, .int x1)]) (by decide) rfl rfl (Nat.le_of_ble_eq_true rfl) rfl (fun p e s m args below meth c A hC => ?_)
  unfold wp_C_isKnown at hw
  refine vv_iload_n hC d_C_isKnown_0 1 rfl rfl ?_
  refine vv_iconst hC d_C_isKnown_1 (v := (2 : Int32)) (by decide) ?_
  refine vv_icmp_lt hC 16 d_C_isKnown_2 (by decide) (fun cd => ?_) (fun cd => ?_)
  · have hw := hw.1 cd
    refine vv_iconst hC d_C_isKnown_16 (v := (1 : Int32)) (by decide) ?_
    refine vv_goto hC 21 d_C_isKnown_17 (by decide) ?_
    exact vv_zret hC d_C_isKnown_21 rfl () hw rfl
  · have hw := hw.2 cd
    refine vv_aload_n hC d_C_isKnown_5 0 rfl rfl ?_
    refine vv_get hC (v := .ref (a_C 9)) hin_C 0 14 tb_201 d_C_isKnown_6 rfl rfl (by decide) rfl rfl ?_
    refine vv_iload_n hC d_C_isKnown_9 1 rfl rfl ?_
    refine vv_iconst hC d_C_isKnown_10 (v := (1 : Int32)) (by decide) ?_
    refine vv_ishr hC d_C_isKnown_11 ?_
    obtain ⟨hin_1, hw⟩ := hw
    refine vv_zald hC 9 1 d_C_isKnown_12 rfl rfl hin_1 ?_
    refine vv_if_eq hC 20 d_C_isKnown_13 (by decide) (fun cd => ?_) (fun cd => ?_)
    · have hw := hw.1 cd
      refine vv_iconst hC d_C_isKnown_20 (v := (0 : Int32)) (by decide) ?_
      exact vv_zret hC d_C_isKnown_21 rfl () hw rfl
    · have hw := hw.2 cd
      refine vv_iconst hC d_C_isKnown_16 (v := (1 : Int32)) (by decide) ?_
      refine vv_goto hC 21 d_C_isKnown_17 (by decide) ?_
      exact vv_zret hC d_C_isKnown_21 rfl () hw rfl
set_option maxHeartbeats 4000000 in
set_option maxRecDepth 100000 in
theorem c_C_bitOf (l : Launch) (D : va_G) (cA : Nat → ClassId) (sx : Nat → Nat) (a_C : Nat → Nat) (I_C : (Nat → Int32)) (A_C : (Nat → Nat → Int32)) (x1 : Int32) (Q : Int32 → Prop) (hw : wp_C_bitOf A_C x1 Q) : MetI l y_C_bitOf (Cond.code y_C_bitOf b_C_bitOf 2 (some .int) :: TB) ({ frames := 0, cells := 0, slots := 0, locals := 0 } : Room) D vwCl (tyl cA) (SPl sx) [.ref (a_C 0), .int x1] (kc_C cA a_C I_C A_C) (fun (r : Int32) (u : Unit) => Q r) (fun u : Unit => kc_C cA a_C I_C A_C) := by
  refine vv_entryI (cc := b_C_bitOf) (own := R_C) (L := [(0, .ref (a_C 0)), (1, .int x1)]) (by decide) rfl rfl (Nat.le_of_ble_eq_true rfl) rfl (fun p e s m args below meth c A hC => ?_)
  unfold wp_C_bitOf at hw
  refine vv_aload_n hC d_C_bitOf_0 0 rfl rfl ?_
  refine vv_get hC (v := .ref (a_C 12)) hin_C 0 17 tb_211 d_C_bitOf_1 rfl rfl (by decide) rfl rfl ?_
  refine vv_iload_n hC d_C_bitOf_4 1 rfl rfl ?_
  refine vv_iconst hC d_C_bitOf_5 (v := (1 : Int32)) (by decide) ?_
  refine vv_ishr hC d_C_bitOf_6 ?_
  obtain ⟨hin_1, hw⟩ := hw
  refine vv_iald hC 12 0 d_C_bitOf_7 rfl rfl hin_1 ?_
  refine vv_iload_n hC d_C_bitOf_8 1 rfl rfl ?_
  refine vv_iconst hC d_C_bitOf_9 (v := (1 : Int32)) (by decide) ?_
  refine vv_iand hC d_C_bitOf_10 ?_
  refine vv_ixor hC d_C_bitOf_11 ?_
  exact vv_iret hC d_C_bitOf_12 () hw rfl
set_option maxHeartbeats 4000000 in
set_option maxRecDepth 100000 in
theorem l_C_settle_L2 {p : Program} {l : Launch} {e : Env} {s : State} {m : MethodId} {args : Array Value} {below : List Frame} {meth : Method} {c : Code} {D : va_G} {cA : Nat → ClassId} {sx : Nat → Nat} {A : Nat → Prop} (a_C : Nat → Nat) (I_C : (Nat → Int32)) (Q : (Nat → Nat → Int32) → Prop) (X2 : (Nat → Nat → Int32) → Prop) (hC : CX p s m args meth c b_C_settle R_C TB 4 D vwCl (tyl cA) A (SPl sx) none) (hX2 : ∀ (A_C : (Nat → Nat → Int32)), X2 A_C → VV p l e ({ frames := 1, cells := 0, slots := 0, locals := 21 } : Room) s m args below meth c 4 D vwCl A 0 0 (QV below args s D vwCl (tyl cA) A (fun (u : (Nat → Nat → Int32)) => Q u) (fun u : (Nat → Nat → Int32) => kc_C cA a_C I_C u)) (kc_C cA a_C I_C A_C) 32 [(0, .ref (a_C 0))] []) : ∀ (n2 : Nat) (A_C : (Nat → Nat → Int32)) (v1 : Int32) (v2 : Int32), wp_C_settle_L2 I_C Q X2 n2 A_C v1 v2 → VV p l e ({ frames := 1, cells := 0, slots := 0, locals := 21 } : Room) s m args below meth c 4 D vwCl A 0 0 (QV below args s D vwCl (tyl cA) A (fun (u : (Nat → Nat → Int32)) => Q u) (fun u : (Nat → Nat → Int32) => kc_C cA a_C I_C u)) (kc_C cA a_C I_C A_C) 2 [(0, .ref (a_C 0)), (1, .int v1), (2, .int v2)] [] := by
  intro n2
  induction n2 with
  | zero =>
    intro A_C v1 v2 hw
    exact absurd hw (fun z => z)
  | succ n2 ih =>
    intro A_C v1 v2 hw
    unfold wp_C_settle_L2 at hw
    refine vv_iload_n hC d_C_settle_2 2 rfl rfl ?_
    refine vv_aload_n hC d_C_settle_3 0 rfl rfl ?_
    refine vv_get hC (v := .int (I_C 1)) hin_C 0 1 tb_153 d_C_settle_4 rfl rfl (by decide) rfl rfl ?_
    refine vv_icmp_ge hC 32 d_C_settle_7 (by decide) (fun cd => ?_) (fun cd => ?_)
    · have hw := hw.1 cd
      exact vv_sub [0] (by rfl) (hX2 A_C hw)
    · have hw := hw.2 cd
      refine vv_aload_n hC d_C_settle_10 0 rfl rfl ?_
      refine vv_get hC (v := .ref (a_C 12)) hin_C 0 17 tb_211 d_C_settle_11 rfl rfl (by decide) rfl rfl ?_
      refine vv_aload_n hC d_C_settle_14 0 rfl rfl ?_
      refine vv_get hC (v := .ref (a_C 1)) hin_C 0 6 tb_172 d_C_settle_15 rfl rfl (by decide) rfl rfl ?_
      refine vv_iload_n hC d_C_settle_18 2 rfl rfl ?_
      obtain ⟨hin_1, hw⟩ := hw
      refine vv_iald hC 1 0 d_C_settle_19 rfl rfl hin_1 ?_
      refine vv_iload_n hC d_C_settle_20 1 rfl rfl ?_
      refine vv_iload_n hC d_C_settle_21 2 rfl rfl ?_
      refine vv_ishr hC d_C_settle_22 ?_
      refine vv_iconst hC d_C_settle_23 (v := (1 : Int32)) (by decide) ?_
      refine vv_iand hC d_C_settle_24 ?_
      obtain ⟨hin_2, hw⟩ := hw
      refine vv_iast hC 12 0 d_C_settle_25 rfl rfl hin_2 (ws2 := kc_C cA a_C I_C (va_up A_C 11 (upd (A_C 11) (((A_C 0) (v2).toNatClampNeg)).toNatClampNeg ((v1 >>> (v2 &&& 31)) &&& (1 : Int32))))) (st_C_CA11 ..) ?_
      refine vv_iinc hC d_C_settle_26 2 rfl (v := (v2 + (1 : Int32))) rfl (by decide) [1, 2, 0] (L2 := [(0, .ref (a_C 0)), (1, .int v1), (2, .int (v2 + (1 : Int32)))]) rfl ?_
      refine vv_goto hC 2 d_C_settle_29 (by decide) ?_
      exact vv_sub [0, 1, 2] (by rfl) (ih (va_up A_C 11 (upd (A_C 11) (((A_C 0) (v2).toNatClampNeg)).toNatClampNeg ((v1 >>> (v2 &&& 31)) &&& (1 : Int32)))) v1 (v2 + (1 : Int32)) hw)
set_option maxHeartbeats 4000000 in
set_option maxRecDepth 100000 in
theorem l_C_settle_L34 {p : Program} {l : Launch} {e : Env} {s : State} {m : MethodId} {args : Array Value} {below : List Frame} {meth : Method} {c : Code} {D : va_G} {cA : Nat → ClassId} {sx : Nat → Nat} {A : Nat → Prop} (a_C : Nat → Nat) (I_C : (Nat → Int32)) (Q : (Nat → Nat → Int32) → Prop) (X34 : (Nat → Nat → Int32) → Prop) (hC : CX p s m args meth c b_C_settle R_C TB 4 D vwCl (tyl cA) A (SPl sx) none) (hX34 : ∀ (A_C : (Nat → Nat → Int32)), X34 A_C → VV p l e ({ frames := 1, cells := 0, slots := 0, locals := 21 } : Room) s m args below meth c 4 D vwCl A 0 0 (QV below args s D vwCl (tyl cA) A (fun (u : (Nat → Nat → Int32)) => Q u) (fun u : (Nat → Nat → Int32) => kc_C cA a_C I_C u)) (kc_C cA a_C I_C A_C) 67 [(0, .ref (a_C 0))] []) : ∀ (n34 : Nat) (A_C : (Nat → Nat → Int32)) (v2 : Int32), wp_C_settle_L34 I_C Q X34 n34 A_C v2 → VV p l e ({ frames := 1, cells := 0, slots := 0, locals := 21 } : Room) s m args below meth c 4 D vwCl A 0 0 (QV below args s D vwCl (tyl cA) A (fun (u : (Nat → Nat → Int32)) => Q u) (fun u : (Nat → Nat → Int32) => kc_C cA a_C I_C u)) (kc_C cA a_C I_C A_C) 34 [(0, .ref (a_C 0)), (2, .int v2)] [] := by
  intro n34
  induction n34 with
  | zero =>
    intro A_C v2 hw
    exact absurd hw (fun z => z)
  | succ n34 ih =>
    intro A_C v2 hw
    unfold wp_C_settle_L34 at hw
    refine vv_iload_n hC d_C_settle_34 1 rfl rfl ?_
    refine vv_aload_n hC d_C_settle_35 0 rfl rfl ?_
    refine vv_get hC (v := .int (I_C 2)) hin_C 0 2 tb_157 d_C_settle_36 rfl rfl (by decide) rfl rfl ?_
    refine vv_icmp_ge hC 67 d_C_settle_39 (by decide) (fun cd => ?_) (fun cd => ?_)
    · have hw := hw.1 cd
      exact vv_sub [0] (by rfl) (hX34 A_C hw)
    · have hw := hw.2 cd
      refine vv_aload_n hC d_C_settle_42 0 rfl rfl ?_
      refine vv_get hC (v := .ref (a_C 12)) hin_C 0 17 tb_211 d_C_settle_43 rfl rfl (by decide) rfl rfl ?_
      refine vv_aload_n hC d_C_settle_46 0 rfl rfl ?_
      refine vv_get hC (v := .ref (a_C 2)) hin_C 0 7 tb_175 d_C_settle_47 rfl rfl (by decide) rfl rfl ?_
      refine vv_iload_n hC d_C_settle_50 1 rfl rfl ?_
      obtain ⟨hin_4, hw⟩ := hw
      refine vv_iald hC 2 0 d_C_settle_51 rfl rfl hin_4 ?_
      refine vv_aload_n hC d_C_settle_52 0 rfl rfl ?_
      refine vv_get hC (v := .int (I_C 5)) hin_C 0 5 tb_170 d_C_settle_53 rfl rfl (by decide) rfl rfl ?_
      refine vv_iload_n hC d_C_settle_56 1 rfl rfl ?_
      refine vv_ishr hC d_C_settle_57 ?_
      refine vv_iconst hC d_C_settle_58 (v := (1 : Int32)) (by decide) ?_
      refine vv_iand hC d_C_settle_59 ?_
      obtain ⟨hin_5, hw⟩ := hw
      refine vv_iast hC 12 0 d_C_settle_60 rfl rfl hin_5 (ws2 := kc_C cA a_C I_C (va_up A_C 11 (upd (A_C 11) (((A_C 1) (v2).toNatClampNeg)).toNatClampNeg (((I_C 5) >>> (v2 &&& 31)) &&& (1 : Int32))))) (st_C_CA11 ..) ?_
      refine vv_iinc hC d_C_settle_61 1 rfl (v := (v2 + (1 : Int32))) rfl (by decide) [1, 0] (L2 := [(0, .ref (a_C 0)), (2, .int (v2 + (1 : Int32)))]) rfl ?_
      refine vv_goto hC 34 d_C_settle_64 (by decide) ?_
      exact vv_sub [0, 1] (by rfl) (ih (va_up A_C 11 (upd (A_C 11) (((A_C 1) (v2).toNatClampNeg)).toNatClampNeg (((I_C 5) >>> (v2 &&& 31)) &&& (1 : Int32)))) (v2 + (1 : Int32)) hw)
set_option maxHeartbeats 4000000 in
set_option maxRecDepth 100000 in
theorem l_C_settle_L69 {p : Program} {l : Launch} {e : Env} {s : State} {m : MethodId} {args : Array Value} {below : List Frame} {meth : Method} {c : Code} {D : va_G} {cA : Nat → ClassId} {sx : Nat → Nat} {A : Nat → Prop} (a_C : Nat → Nat) (I_C : (Nat → Int32)) (Q : (Nat → Nat → Int32) → Prop) (X69 : (Nat → Nat → Int32) → Prop) (hC : CX p s m args meth c b_C_settle R_C TB 4 D vwCl (tyl cA) A (SPl sx) none) (hX69 : ∀ (A_C : (Nat → Nat → Int32)), X69 A_C → VV p l e ({ frames := 1, cells := 0, slots := 0, locals := 21 } : Room) s m args below meth c 4 D vwCl A 0 0 (QV below args s D vwCl (tyl cA) A (fun (u : (Nat → Nat → Int32)) => Q u) (fun u : (Nat → Nat → Int32) => kc_C cA a_C I_C u)) (kc_C cA a_C I_C A_C) 122 [] []) : ∀ (n69 : Nat) (A_C : (Nat → Nat → Int32)) (v2 : Int32), wp_C_settle_L69 I_C Q X69 n69 A_C v2 → VV p l e ({ frames := 1, cells := 0, slots := 0, locals := 21 } : Room) s m args below meth c 4 D vwCl A 0 0 (QV below args s D vwCl (tyl cA) A (fun (u : (Nat → Nat → Int32)) => Q u) (fun u : (Nat → Nat → Int32) => kc_C cA a_C I_C u)) (kc_C cA a_C I_C A_C) 69 [(0, .ref (a_C 0)), (2, .int v2)] [] := by
  intro n69
  induction n69 with
  | zero =>
    intro A_C v2 hw
    exact absurd hw (fun z => z)
  | succ n69 ih =>
    intro A_C v2 hw
    unfold wp_C_settle_L69 at hw
    refine vv_iload_n hC d_C_settle_69 1 rfl rfl ?_
    refine vv_aload_n hC d_C_settle_70 0 rfl rfl ?_
    refine vv_get hC (v := .int (I_C 4)) hin_C 0 4 tb_165 d_C_settle_71 rfl rfl (by decide) rfl rfl ?_
    refine vv_icmp_ge hC 122 d_C_settle_74 (by decide) (fun cd => ?_) (fun cd => ?_)
    · have hw := hw.1 cd
      exact vv_sub [] (by rfl) (hX69 A_C hw)
    · have hw := hw.2 cd
      refine vv_aload_n hC d_C_settle_77 0 rfl rfl ?_
      refine vv_get hC (v := .ref (a_C 8)) hin_C 0 13 tb_198 d_C_settle_78 rfl rfl (by decide) rfl rfl ?_
      refine vv_iload_n hC d_C_settle_81 1 rfl rfl ?_
      obtain ⟨hin_7, hw⟩ := hw
      refine vv_iald hC 8 0 d_C_settle_82 rfl rfl hin_7 ?_
      refine vv_istore_n hC d_C_settle_83 rfl (by decide) [1, 2, 0] (L2 := [(0, .ref (a_C 0)), (2, .int v2), (3, .int ((A_C 7) (v2).toNatClampNeg))]) rfl ?_
      refine vv_aload_n hC d_C_settle_84 0 rfl rfl ?_
      refine vv_get hC (v := .ref (a_C 12)) hin_C 0 17 tb_211 d_C_settle_85 rfl rfl (by decide) rfl rfl ?_
      refine vv_aload_n hC d_C_settle_88 0 rfl rfl ?_
      refine vv_get hC (v := .ref (a_C 5)) hin_C 0 10 tb_186 d_C_settle_89 rfl rfl (by decide) rfl rfl ?_
      refine vv_iload_n hC d_C_settle_92 2 rfl rfl ?_
      obtain ⟨hin_8, hw⟩ := hw
      refine vv_iald hC 5 0 d_C_settle_93 rfl rfl hin_8 ?_
      refine vv_aload_n hC d_C_settle_94 0 rfl rfl ?_
      refine vv_aload_n hC d_C_settle_95 0 rfl rfl ?_
      refine vv_get hC (v := .ref (a_C 6)) hin_C 0 11 tb_190 d_C_settle_96 rfl rfl (by decide) rfl rfl ?_
      refine vv_iload_n hC d_C_settle_99 2 rfl rfl ?_
      refine vv_iald hC 6 0 d_C_settle_100 rfl rfl hin_8 ?_
      refine vv_callVI (wr := []) hC (c_C_bitOf l D cA sx a_C I_C A_C ((A_C 5) (((A_C 7) (v2).toNatClampNeg)).toNatClampNeg) _ hw) (cw_C_68 hC) d_C_settle_101 [.int ((A_C 4) (((A_C 7) (v2).toNatClampNeg)).toNatClampNeg), .ref (a_C 12)] [0, 1, 2, 3, 4, 5, 6, 7, 8, 9, 10, 11, 12] [] [0, 1, 2, 3, 4, 5, 6, 7, 8, 9, 10, 11, 12] (fun u_10 : Unit => kc_C cA a_C I_C A_C) ⟨Nat.zero_le _, Nat.zero_le _⟩ rfl rfl (fun _ => rfl) rfl rfl rfl rfl rfl rfl rfl rfl (Nat.le_of_ble_eq_true rfl) (fun r_9 u_10 hw => ?_)
      refine vv_aload_n hC d_C_settle_104 0 rfl rfl ?_
      refine vv_aload_n hC d_C_settle_105 0 rfl rfl ?_
      refine vv_get hC (v := .ref (a_C 7)) hin_C 0 12 tb_194 d_C_settle_106 rfl rfl (by decide) rfl rfl ?_
      refine vv_iload_n hC d_C_settle_109 2 rfl rfl ?_
      refine vv_iald hC 7 0 d_C_settle_110 rfl rfl hin_8 ?_
      refine vv_callVI (wr := []) hC (c_C_bitOf l D cA sx a_C I_C A_C ((A_C 6) (((A_C 7) (v2).toNatClampNeg)).toNatClampNeg) _ hw) (cw_C_68 hC) d_C_settle_111 [.int r_9, .int ((A_C 4) (((A_C 7) (v2).toNatClampNeg)).toNatClampNeg), .ref (a_C 12)] [0, 1, 2, 3, 4, 5, 6, 7, 8, 9, 10, 11, 12] [] [0, 1, 2, 3, 4, 5, 6, 7, 8, 9, 10, 11, 12] (fun u_12 : Unit => kc_C cA a_C I_C A_C) ⟨Nat.zero_le _, Nat.zero_le _⟩ rfl rfl (fun _ => rfl) rfl rfl rfl rfl rfl rfl rfl rfl (Nat.le_of_ble_eq_true rfl) (fun r_11 u_12 hw => ?_)
      refine vv_iand hC d_C_settle_114 ?_
      obtain ⟨hin_13, hw⟩ := hw
      refine vv_iast hC 12 0 d_C_settle_115 rfl rfl hin_13 (ws2 := kc_C cA a_C I_C (va_up A_C 11 (upd (A_C 11) (((A_C 4) (((A_C 7) (v2).toNatClampNeg)).toNatClampNeg)).toNatClampNeg (r_9 &&& r_11)))) (st_C_CA11 ..) ?_
      refine vv_iinc hC d_C_settle_116 1 rfl (v := (v2 + (1 : Int32))) rfl (by decide) [1, 0, 2] (L2 := [(0, .ref (a_C 0)), (2, .int (v2 + (1 : Int32))), (3, .int ((A_C 7) (v2).toNatClampNeg))]) rfl ?_
      refine vv_goto hC 69 d_C_settle_119 (by decide) ?_
      exact vv_sub [0, 1] (by rfl) (ih (va_up A_C 11 (upd (A_C 11) (((A_C 4) (((A_C 7) (v2).toNatClampNeg)).toNatClampNeg)).toNatClampNeg (r_9 &&& r_11))) (v2 + (1 : Int32)) hw)
set_option maxHeartbeats 4000000 in
set_option maxRecDepth 100000 in
theorem c_C_settle (l : Launch) (D : va_G) (cA : Nat → ClassId) (sx : Nat → Nat) (a_C : Nat → Nat) (I_C : (Nat → Int32)) (A_C : (Nat → Nat → Int32)) (x1 : Int32) (Q : (Nat → Nat → Int32) → Prop) (hw : wp_C_settle I_C A_C x1 Q) : MetV l y_C_settle (Cond.code y_C_settle b_C_settle 4 none :: TB) ({ frames := 1, cells := 0, slots := 0, locals := 21 } : Room) D vwCl (tyl cA) (SPl sx) [.ref (a_C 0), .int x1] (kc_C cA a_C I_C A_C) (fun (u : (Nat → Nat → Int32)) => Q u) (fun u : (Nat → Nat → Int32) => kc_C cA a_C I_C u) := by
  refine vv_entryV (cc := b_C_settle) (own := R_C) (L := [(0, .ref (a_C 0)), (1, .int x1)]) (by decide) rfl rfl (Nat.le_of_ble_eq_true rfl) rfl (fun p e s m args below meth c A hC => ?_)
  unfold wp_C_settle at hw
  refine vv_iconst hC d_C_settle_0 (v := (0 : Int32)) (by decide) ?_
  refine vv_istore_n hC d_C_settle_1 rfl (by decide) [1, 2, 0] (L2 := [(0, .ref (a_C 0)), (1, .int x1), (2, .int (0 : Int32))]) rfl ?_
  obtain ⟨m2, hw⟩ := hw
  refine vv_sub [0, 1, 2] (by rfl) (l_C_settle_L2 a_C I_C Q _ hC (fun A_C_3 hw => ?_) m2 A_C x1 (0 : Int32) hw)
  refine vv_iconst hC d_C_settle_32 (v := (0 : Int32)) (by decide) ?_
  refine vv_istore_n hC d_C_settle_33 rfl (by decide) [1, 0] (L2 := [(0, .ref (a_C 0)), (2, .int (0 : Int32))]) rfl ?_
  obtain ⟨m34, hw⟩ := hw
  refine vv_sub [0, 1] (by rfl) (l_C_settle_L34 a_C I_C Q _ hC (fun A_C_6 hw => ?_) m34 A_C_3 (0 : Int32) hw)
  refine vv_iconst hC d_C_settle_67 (v := (0 : Int32)) (by decide) ?_
  refine vv_istore_n hC d_C_settle_68 rfl (by decide) [1, 0] (L2 := [(0, .ref (a_C 0)), (2, .int (0 : Int32))]) rfl ?_
  obtain ⟨m69, hw⟩ := hw
  refine vv_sub [0, 1] (by rfl) (l_C_settle_L69 a_C I_C Q _ hC (fun A_C_14 hw => ?_) m69 A_C_6 (0 : Int32) hw)
  exact vv_vret hC d_C_settle_122 A_C_14 hw rfl
set_option maxHeartbeats 4000000 in
set_option maxRecDepth 100000 in
theorem l_C_bitsOf_outputLiteral_L5 {p : Program} {l : Launch} {e : Env} {s : State} {m : MethodId} {args : Array Value} {below : List Frame} {meth : Method} {c : Code} {D : va_G} {cA : Nat → ClassId} {sx : Nat → Nat} {A : Nat → Prop} (a_C : Nat → Nat) (I_C : (Nat → Int32)) (A_C : (Nat → Nat → Int32)) (Q : Int32 → Prop) (X5 : Int32 → Prop) (hC : CX p s m args meth c b_C_bitsOf R_C TB 5 D vwCl (tyl cA) A (SPl sx) (some .int)) (hX5 : ∀ (v3 : Int32), X5 v3 → VV p l e ({ frames := 1, cells := 0, slots := 0, locals := 21 } : Room) s m args below meth c 5 D vwCl A 0 0 (QI below args s D vwCl (tyl cA) A (fun (r : Int32) (u : Unit) => Q r) (fun u : Unit => kc_C cA a_C I_C A_C)) (kc_C cA a_C I_C A_C) 31 [(3, .int v3)] []) : ∀ (n5 : Nat) (v2 : Int32) (v3 : Int32) (v4 : Int32), wp_C_bitsOf_outputLiteral_L5 A_C Q X5 n5 v2 v3 v4 → VV p l e ({ frames := 1, cells := 0, slots := 0, locals := 21 } : Room) s m args below meth c 5 D vwCl A 0 0 (QI below args s D vwCl (tyl cA) A (fun (r : Int32) (u : Unit) => Q r) (fun u : Unit => kc_C cA a_C I_C A_C)) (kc_C cA a_C I_C A_C) 5 [(0, .ref (a_C 0)), (1, .ref (a_C 4)), (2, .int v2), (3, .int v3), (4, .int v4)] [] := by
  intro n5
  induction n5 with
  | zero =>
    intro v2 v3 v4 hw
    exact absurd hw (fun z => z)
  | succ n5 ih =>
    intro v2 v3 v4 hw
    unfold wp_C_bitsOf_outputLiteral_L5 at hw
    refine vv_iload hC d_C_bitsOf_5 4 rfl ?_
    refine vv_iload_n hC d_C_bitsOf_7 2 rfl rfl ?_
    refine vv_icmp_ge hC 31 d_C_bitsOf_8 (by decide) (fun cd => ?_) (fun cd => ?_)
    · have hw := hw.1 cd
      exact vv_sub [3] (by rfl) (hX5 v3 hw)
    · have hw := hw.2 cd
      refine vv_iload_n hC d_C_bitsOf_11 3 rfl rfl ?_
      refine vv_aload_n hC d_C_bitsOf_12 0 rfl rfl ?_
      refine vv_aload_n hC d_C_bitsOf_13 1 rfl rfl ?_
      refine vv_iload hC d_C_bitsOf_14 4 rfl ?_
      obtain ⟨hin_1, hw⟩ := hw
      refine vv_iald hC 4 0 d_C_bitsOf_16 rfl rfl hin_1 ?_
      refine vv_callVI (wr := []) hC (c_C_bitOf l D cA sx a_C I_C A_C ((A_C 3) (v4).toNatClampNeg) _ hw) (cw_C_68 hC) d_C_bitsOf_17 [.int v3] [0, 1, 2, 3, 4, 5, 6, 7, 8, 9, 10, 11, 12] [] [0, 1, 2, 3, 4, 5, 6, 7, 8, 9, 10, 11, 12] (fun u_3 : Unit => kc_C cA a_C I_C A_C) ⟨Nat.zero_le _, Nat.zero_le _⟩ rfl rfl (fun _ => rfl) rfl rfl rfl rfl rfl rfl rfl rfl (Nat.le_of_ble_eq_true rfl) (fun r_2 u_3 hw => ?_)
      refine vv_iload hC d_C_bitsOf_20 4 rfl ?_
      refine vv_ishl hC d_C_bitsOf_22 ?_
      refine vv_ior hC d_C_bitsOf_23 ?_
      refine vv_istore_n hC d_C_bitsOf_24 rfl (by decide) [1, 2, 3, 0, 4] (L2 := [(0, .ref (a_C 0)), (1, .ref (a_C 4)), (2, .int v2), (3, .int (v3 ||| (r_2 <<< (v4 &&& 31)))), (4, .int v4)]) rfl ?_
      refine vv_iinc hC d_C_bitsOf_25 4 rfl (v := (v4 + (1 : Int32))) rfl (by decide) [1, 2, 3, 4, 0] (L2 := [(0, .ref (a_C 0)), (1, .ref (a_C 4)), (2, .int v2), (3, .int (v3 ||| (r_2 <<< (v4 &&& 31)))), (4, .int (v4 + (1 : Int32)))]) rfl ?_
      refine vv_goto hC 5 d_C_bitsOf_28 (by decide) ?_
      exact vv_sub [0, 1, 2, 3, 4] (by rfl) (ih v2 (v3 ||| (r_2 <<< (v4 &&& 31))) (v4 + (1 : Int32)) hw)
set_option maxHeartbeats 4000000 in
set_option maxRecDepth 100000 in
theorem c_C_bitsOf_outputLiteral (l : Launch) (D : va_G) (cA : Nat → ClassId) (sx : Nat → Nat) (a_C : Nat → Nat) (I_C : (Nat → Int32)) (A_C : (Nat → Nat → Int32)) (x2 : Int32) (Q : Int32 → Prop) (hw : wp_C_bitsOf_outputLiteral A_C x2 Q) : MetI l y_C_bitsOf (Cond.code y_C_bitsOf b_C_bitsOf 5 (some .int) :: TB) ({ frames := 1, cells := 0, slots := 0, locals := 21 } : Room) D vwCl (tyl cA) (SPl sx) [.ref (a_C 0), .ref (a_C 4), .int x2] (kc_C cA a_C I_C A_C) (fun (r : Int32) (u : Unit) => Q r) (fun u : Unit => kc_C cA a_C I_C A_C) := by
  refine vv_entryI (cc := b_C_bitsOf) (own := R_C) (L := [(0, .ref (a_C 0)), (1, .ref (a_C 4)), (2, .int x2)]) (by decide) rfl rfl (Nat.le_of_ble_eq_true rfl) rfl (fun p e s m args below meth c A hC => ?_)
  unfold wp_C_bitsOf_outputLiteral at hw
  refine vv_iconst hC d_C_bitsOf_0 (v := (0 : Int32)) (by decide) ?_
  refine vv_istore_n hC d_C_bitsOf_1 rfl (by decide) [1, 2, 3, 0] (L2 := [(0, .ref (a_C 0)), (1, .ref (a_C 4)), (2, .int x2), (3, .int (0 : Int32))]) rfl ?_
  refine vv_iconst hC d_C_bitsOf_2 (v := (0 : Int32)) (by decide) ?_
  refine vv_istore hC d_C_bitsOf_3 (by decide) [1, 2, 3, 4, 0] (L2 := [(0, .ref (a_C 0)), (1, .ref (a_C 4)), (2, .int x2), (3, .int (0 : Int32)), (4, .int (0 : Int32))]) rfl ?_
  obtain ⟨m5, hw⟩ := hw
  refine vv_sub [0, 1, 2, 3, 4] (by rfl) (l_C_bitsOf_outputLiteral_L5 a_C I_C A_C Q _ hC (fun v3_4 hw => ?_) m5 x2 (0 : Int32) (0 : Int32) hw)
  refine vv_iload_n hC d_C_bitsOf_31 0 rfl rfl ?_
  exact vv_iret hC d_C_bitsOf_32 () hw rfl
set_option maxHeartbeats 4000000 in
set_option maxRecDepth 100000 in
theorem l_C_bitsOf_latchNext_L5 {p : Program} {l : Launch} {e : Env} {s : State} {m : MethodId} {args : Array Value} {below : List Frame} {meth : Method} {c : Code} {D : va_G} {cA : Nat → ClassId} {sx : Nat → Nat} {A : Nat → Prop} (a_C : Nat → Nat) (I_C : (Nat → Int32)) (A_C : (Nat → Nat → Int32)) (Q : Int32 → Prop) (X5 : Int32 → Prop) (hC : CX p s m args meth c b_C_bitsOf R_C TB 5 D vwCl (tyl cA) A (SPl sx) (some .int)) (hX5 : ∀ (v3 : Int32), X5 v3 → VV p l e ({ frames := 1, cells := 0, slots := 0, locals := 21 } : Room) s m args below meth c 5 D vwCl A 0 0 (QI below args s D vwCl (tyl cA) A (fun (r : Int32) (u : Unit) => Q r) (fun u : Unit => kc_C cA a_C I_C A_C)) (kc_C cA a_C I_C A_C) 31 [(3, .int v3)] []) : ∀ (n5 : Nat) (v2 : Int32) (v3 : Int32) (v4 : Int32), wp_C_bitsOf_latchNext_L5 A_C Q X5 n5 v2 v3 v4 → VV p l e ({ frames := 1, cells := 0, slots := 0, locals := 21 } : Room) s m args below meth c 5 D vwCl A 0 0 (QI below args s D vwCl (tyl cA) A (fun (r : Int32) (u : Unit) => Q r) (fun u : Unit => kc_C cA a_C I_C A_C)) (kc_C cA a_C I_C A_C) 5 [(0, .ref (a_C 0)), (1, .ref (a_C 3)), (2, .int v2), (3, .int v3), (4, .int v4)] [] := by
  intro n5
  induction n5 with
  | zero =>
    intro v2 v3 v4 hw
    exact absurd hw (fun z => z)
  | succ n5 ih =>
    intro v2 v3 v4 hw
    unfold wp_C_bitsOf_latchNext_L5 at hw
    refine vv_iload hC d_C_bitsOf_5 4 rfl ?_
    refine vv_iload_n hC d_C_bitsOf_7 2 rfl rfl ?_
    refine vv_icmp_ge hC 31 d_C_bitsOf_8 (by decide) (fun cd => ?_) (fun cd => ?_)
    · have hw := hw.1 cd
      exact vv_sub [3] (by rfl) (hX5 v3 hw)
    · have hw := hw.2 cd
      refine vv_iload_n hC d_C_bitsOf_11 3 rfl rfl ?_
      refine vv_aload_n hC d_C_bitsOf_12 0 rfl rfl ?_
      refine vv_aload_n hC d_C_bitsOf_13 1 rfl rfl ?_
      refine vv_iload hC d_C_bitsOf_14 4 rfl ?_
      obtain ⟨hin_1, hw⟩ := hw
      refine vv_iald hC 3 0 d_C_bitsOf_16 rfl rfl hin_1 ?_
      refine vv_callVI (wr := []) hC (c_C_bitOf l D cA sx a_C I_C A_C ((A_C 2) (v4).toNatClampNeg) _ hw) (cw_C_68 hC) d_C_bitsOf_17 [.int v3] [0, 1, 2, 3, 4, 5, 6, 7, 8, 9, 10, 11, 12] [] [0, 1, 2, 3, 4, 5, 6, 7, 8, 9, 10, 11, 12] (fun u_3 : Unit => kc_C cA a_C I_C A_C) ⟨Nat.zero_le _, Nat.zero_le _⟩ rfl rfl (fun _ => rfl) rfl rfl rfl rfl rfl rfl rfl rfl (Nat.le_of_ble_eq_true rfl) (fun r_2 u_3 hw => ?_)
      refine vv_iload hC d_C_bitsOf_20 4 rfl ?_
      refine vv_ishl hC d_C_bitsOf_22 ?_
      refine vv_ior hC d_C_bitsOf_23 ?_
      refine vv_istore_n hC d_C_bitsOf_24 rfl (by decide) [1, 2, 3, 0, 4] (L2 := [(0, .ref (a_C 0)), (1, .ref (a_C 3)), (2, .int v2), (3, .int (v3 ||| (r_2 <<< (v4 &&& 31)))), (4, .int v4)]) rfl ?_
      refine vv_iinc hC d_C_bitsOf_25 4 rfl (v := (v4 + (1 : Int32))) rfl (by decide) [1, 2, 3, 4, 0] (L2 := [(0, .ref (a_C 0)), (1, .ref (a_C 3)), (2, .int v2), (3, .int (v3 ||| (r_2 <<< (v4 &&& 31)))), (4, .int (v4 + (1 : Int32)))]) rfl ?_
      refine vv_goto hC 5 d_C_bitsOf_28 (by decide) ?_
      exact vv_sub [0, 1, 2, 3, 4] (by rfl) (ih v2 (v3 ||| (r_2 <<< (v4 &&& 31))) (v4 + (1 : Int32)) hw)
set_option maxHeartbeats 4000000 in
set_option maxRecDepth 100000 in
theorem c_C_bitsOf_latchNext (l : Launch) (D : va_G) (cA : Nat → ClassId) (sx : Nat → Nat) (a_C : Nat → Nat) (I_C : (Nat → Int32)) (A_C : (Nat → Nat → Int32)) (x2 : Int32) (Q : Int32 → Prop) (hw : wp_C_bitsOf_latchNext A_C x2 Q) : MetI l y_C_bitsOf (Cond.code y_C_bitsOf b_C_bitsOf 5 (some .int) :: TB) ({ frames := 1, cells := 0, slots := 0, locals := 21 } : Room) D vwCl (tyl cA) (SPl sx) [.ref (a_C 0), .ref (a_C 3), .int x2] (kc_C cA a_C I_C A_C) (fun (r : Int32) (u : Unit) => Q r) (fun u : Unit => kc_C cA a_C I_C A_C) := by
  refine vv_entryI (cc := b_C_bitsOf) (own := R_C) (L := [(0, .ref (a_C 0)), (1, .ref (a_C 3)), (2, .int x2)]) (by decide) rfl rfl (Nat.le_of_ble_eq_true rfl) rfl (fun p e s m args below meth c A hC => ?_)
  unfold wp_C_bitsOf_latchNext at hw
  refine vv_iconst hC d_C_bitsOf_0 (v := (0 : Int32)) (by decide) ?_
  refine vv_istore_n hC d_C_bitsOf_1 rfl (by decide) [1, 2, 3, 0] (L2 := [(0, .ref (a_C 0)), (1, .ref (a_C 3)), (2, .int x2), (3, .int (0 : Int32))]) rfl ?_
  refine vv_iconst hC d_C_bitsOf_2 (v := (0 : Int32)) (by decide) ?_
  refine vv_istore hC d_C_bitsOf_3 (by decide) [1, 2, 3, 4, 0] (L2 := [(0, .ref (a_C 0)), (1, .ref (a_C 3)), (2, .int x2), (3, .int (0 : Int32)), (4, .int (0 : Int32))]) rfl ?_
  obtain ⟨m5, hw⟩ := hw
  refine vv_sub [0, 1, 2, 3, 4] (by rfl) (l_C_bitsOf_latchNext_L5 a_C I_C A_C Q _ hC (fun v3_4 hw => ?_) m5 x2 (0 : Int32) (0 : Int32) hw)
  refine vv_iload_n hC d_C_bitsOf_31 0 rfl rfl ?_
  exact vv_iret hC d_C_bitsOf_32 () hw rfl
