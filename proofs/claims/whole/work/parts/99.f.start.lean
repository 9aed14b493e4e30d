section VKA
variable {p : Program} {l : Launch} {e : Env} {R : Room} {s : State} {m : MethodId} {args : Array Value} {below : List Frame} {meth : Method} {c : Code} {cells slots : Nat} {Q : State → Prop}
variable {cc : ByteArray} {own : String} {Ts : List Cond} {SP : (Nat → Prop) → State → Heap → Prop} {nL : Nat} {D : va_G} {cl : List vw_C} {tys : List (ClassId × FieldType)} {A : Nat → Prop} {ret : Option FieldType}
variable {pc : Nat} {L : List (Nat × Value)}
theorem vv_callKa (hC : CX p s m args meth c cc own Ts nL D cl tys A SP ret) {y : MethodName} {wy : List Cond} {rm : Room} {bytes : ByteArray} {maxL n index mc ms b : Nat} {As st0 : List Value} {S : Type} {post : S → Prop} {wf : S → va_W} {wc : va_W} (wr : va_W) (hM : MetK l y wy rm D cl tys SP (.ref b :: As) wc post wf mc ms) (cw : (CallB R s args own index y bytes maxL none wy rm mc ms n ∧ y.name = "<init>" ∧ (Cond.instanceMethod y).before args s = true)) (hdg : decode cc pc = .ok (.invokespecial index, 3)) (rest : List Value) (hc : cells + mc ≤ R.cells ∧ slots + ms ≤ R.slots) (hlen : As.length = n) (hst : st0 = As.reverse ++ .ref b :: rest) (hrm : (rest.map fun v => v.category).sum ≤ 8) (kk : ∀ (u : S), post u → VV p l e R s m args below meth c nL D cl A (cells + mc) (slots + ms) Q (wr ++ wf u) (pc + 3) L rest) : VV p l e R s m args below meth c nL D cl A cells slots Q (wr ++ wc) pc L st0 :=
  vv_callK (wr := wr) hC hM cw hdg rest (List.range' wr.length wc.length) (List.range wr.length) hc (gx1 wr wc) (gx2 wr wc) (va_nd_of _ List.nodup_range') (va_nd_of _ List.nodup_range) (gx4 _ _) hlen hst hrm kk
end VKA
theorem pm4 (a b c : va_W) : ((a ++ b) ++ c).Perm ((c ++ a) ++ b) := by
  rw [List.append_assoc c a b]
  exact List.perm_append_comm
set_option maxHeartbeats 4000000 in
set_option maxRecDepth 100000 in
/-- from the entry, for every script of at most 3072 ints, the law comes to its end with true -/
theorem whole_start {p : Program} {e : Env} {s : State} {m : MethodId} {below : List Frame} {meth : Method} {c : Code} (l : Launch) (hl : l.stackTraces = false) {b L : Nat} {xs : Nat → Int32} (hL : L ≤ 3072) (C0 : lw_At p s m meth c b L xs) : W p l e room_1 s m #[Value.ref b] below meth c s.heap [] 0 0 (lw_Z below #[Value.ref b] s) (entryFrame m ([Value.ref b] : List Value).toArray 7) := by
  obtain ⟨hx, hb, hr, hml, hown, hts, hX, hbl, hlocks, hgv⟩ := C0
  have htb : ∀ w ∈ TB, w.before #[Value.ref b] s = true := fun w h => hts w (List.mem_filter.mp h).1
  obtain ⟨sx, hsp⟩ := law_sp hts hgv
  obtain ⟨D, cA, hK⟩ := law_k htb
  have hC : CX p s m #[Value.ref b] meth c code R_L TB 7 D vwCl (tyl cA) (fun q : Nat => s.heap.size ≤ q) (SPl sx) ret := ⟨hx, hb, hml, hown, htb, hK, fun q h => h, ⟨SPl_ok sx, hsp⟩, hr, hlocks⟩
  have h0 := lv_entry [Value.ref b] (n := 7) (Nat.le_of_ble_eq_true rfl)
  rw [lg_entry_eq]
  have V : VV p l e room_1 s m #[Value.ref b] below meth c 7 D vwCl (fun q : Nat => s.heap.size ≤ q) 0 0 (lw_Z below #[Value.ref b] s) [] 0 [(0, .ref b)] [] := by
    refine vv_new hC (ci := 6) [.null, .null, .null, .null, .null, .null] hin_F ty_F tyok_F tb_18 tb_19 tb_1 rfl (by decide +kernel) (Nat.le_of_ble_eq_true rfl) (Nat.le_of_ble_eq_true rfl) d_law_0 (fun q1 => ?_)
    refine vv_dup hC d_law_3 rfl ?_
    refine vv_callKa hC [] (c_F_init l D cA sx q1) ⟨callB_of 0 htb (gC tb_22) rfl rfl rfl (htb _ tb_1) (htb _ tb_20) (by decide +kernel) ⟨Nat.le_of_ble_eq_true rfl, Nat.le_of_ble_eq_true rfl⟩, rfl, htb _ tb_21⟩ d_law_4 [.ref q1] ⟨Nat.le_of_ble_eq_true rfl, Nat.le_of_ble_eq_true rfl⟩ rfl rfl (Nat.le_of_ble_eq_true rfl) (fun u hw => ?_)
    obtain ⟨a_F, a_R, a_U, a_T, a_S, a_X, a_Y, a_C, a_D⟩ := u
    have hw1 : a_F 0 = q1 := hw
    subst hw1
    refine vv_eqw (ws2 := wF cA a_F a_R a_U a_T a_S a_X a_Y a_C a_D (fun _ => 0) (fun _ _ => 0) (va_up (fun _ => 0) 4 (-1)) (fun _ => 0) (fun _ _ => 0) (fun _ => 0) (fun _ _ => 0) (fun _ => 0) (fun _ _ => 0) (fun _ => 0) (fun _ _ => 0) (fun _ => 0) (fun _ _ => 0) (fun _ => 0) (fun _ _ => 0)) rfl ?_
    refine vv_astore_n hC d_law_7 rfl (by decide) [1, 0] (L2 := [(0, .ref b), (1, .ref (a_F 0))]) rfl ?_
    refine vv_new hC (ci := 7) [.int 0, .null, .null, .int 0, .int 0, .int 0, .int 0, .int 0, .int 0, .int 0, .null, .null, .null, .null, .null, .null, .null, .null, .null, .null, .null, .null, .null, .null, .null, .null, .null, .null, .null, .int 0, .int 0, .null, .null, .int 0] hin_M ty_M tyok_M tb_666 tb_667 tb_8 rfl (by decide +kernel) (Nat.le_of_ble_eq_true rfl) (Nat.le_of_ble_eq_true rfl) d_law_8 (fun q2 => ?_)
    refine vv_dup hC d_law_11 rfl ?_
    refine vv_callKa hC (wF cA a_F a_R a_U a_T a_S a_X a_Y a_C a_D (fun _ => 0) (fun _ _ => 0) (va_up (fun _ => 0) 4 (-1)) (fun _ => 0) (fun _ _ => 0) (fun _ => 0) (fun _ _ => 0) (fun _ => 0) (fun _ _ => 0) (fun _ => 0) (fun _ _ => 0) (fun _ => 0) (fun _ _ => 0) (fun _ => 0) (fun _ _ => 0)) (c_M_init l D cA sx q2) ⟨callB_of 0 htb (gC tb_670) rfl rfl rfl (htb _ tb_8) (htb _ tb_668) (by decide +kernel) ⟨Nat.le_of_ble_eq_true rfl, Nat.le_of_ble_eq_true rfl⟩, rfl, htb _ tb_669⟩ d_law_12 [.ref q2] ⟨Nat.le_of_ble_eq_true rfl, Nat.le_of_ble_eq_true rfl⟩ rfl rfl (Nat.le_of_ble_eq_true rfl) (fun a_M hw => ?_)
    have hw2 : a_M 0 = q2 := hw
    subst hw2
    refine vv_astore_n hC d_law_15 rfl (by decide) [1, 2, 0] (L2 := [(0, .ref b), (1, .ref (a_F 0)), (2, .ref (a_M 0))]) rfl ?_
    refine vv_iconst hC d_law_16 (v := (1 : Int32)) (by decide) ?_
    refine vv_newa hC (atype := .long) (ty := .long) 1 3 (1, .inr (.inl (fun _ => 0))) tb_958 rfl rfl (fun _ => rfl) (fun _ => rfl) (by decide) (by decide) (by decide) (Nat.le_of_ble_eq_true rfl) (Nat.le_of_ble_eq_true rfl) d_law_17 (fun ao => ?_)
    refine vv_astore_n hC d_law_19 rfl (by decide) [1, 2, 3, 0] (L2 := [(0, .ref b), (1, .ref (a_F 0)), (2, .ref (a_M 0)), (3, .ref ao)]) rfl ?_
    refine vv_iconst hC d_law_20 (v := nI 0) (by decide) ?_
    refine vv_istore hC d_law_21 (by decide) [1, 2, 3, 4, 0] (L2 := [(0, .ref b), (1, .ref (a_F 0)), (2, .ref (a_M 0)), (3, .ref ao), (4, .int (nI 0))]) rfl ?_
    refine vv_pm (pm4 _ _ _) ?_
    exact law_loop hl hL hC hX hbl 513 0 70 50414 a_C a_D (fun _ => 0) (fun _ => 0) (fun _ _ => 0) (va_up (fun _ => 0) 4 (-1)) (fun _ => 0) (fun _ _ => 0) (fun _ => 0) (fun _ _ => 0) (fun _ => 0) (fun _ _ => 0) (fun _ => 0) (fun _ _ => 0) (fun _ => 0) (fun _ _ => 0) (fun _ => 0) (fun _ _ => 0) (va_up (fun _ => 0) 3 (-1)) (fun _ _ => 0) (by omega) (by decide) (by decide) (by decide) RL_0
  exact V s.heap [] _ (fun k q h => by simp at h) ⟨fun i j p q h => by simp at h, fun k q h => by simp at h⟩ va_S.rf h0
