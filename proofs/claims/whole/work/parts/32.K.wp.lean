def wp_F_slotOf (x0 : Int32) (x1 : Int32) (Q : Int32 → Prop) : Prop := Q ((x0 * (8 : Int32)) + x1)
