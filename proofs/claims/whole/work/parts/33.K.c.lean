set_option maxHeartbeats 4000000 in
set_option maxRecDepth 100000 in
theorem c_F_slotOf (l : Launch) (D : va_G) (cA : Nat → ClassId) (sx : Nat → Nat) (x0 x1 : Int32) (Q : Int32 → Prop) (hw : wp_F_slotOf x0 x1 Q) : MetI l y_F_slotOf (Cond.code y_F_slotOf b_F_slotOf 2 (some .int) :: TB) ({ frames := 0, cells := 0, slots := 0, locals := 0 } : Room) D vwCl (tyl cA) (SPl sx) [.int x0, .int x1] ([]) (fun (r : Int32) (u : Unit) => Q r) (fun u : Unit => []) := by
  refine vv_entryI (cc := b_F_slotOf) (own := R_F) (L := [(0, .int x0), (1, .int x1)]) (by decide) rfl rfl (Nat.le_of_ble_eq_true rfl) rfl (fun p e s m args below meth c A hC => ?_)
  unfold wp_F_slotOf at hw
  refine vv_iload_n hC d_F_slotOf_0 0 rfl rfl ?_
  refine vv_bipush hC d_F_slotOf_1 (v := (8 : Int32)) (by decide) ?_
  refine vv_imul hC d_F_slotOf_3 ?_
  refine vv_iload_n hC d_F_slotOf_4 1 rfl rfl ?_
  refine vv_iadd hC d_F_slotOf_5 ?_
  exact vv_iret hC d_F_slotOf_6 () hw rfl
