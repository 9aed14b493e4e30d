theorem zs_of {args : Array Value} {s : State} {C n d : String} {A : Nat → Prop} (hl : (Cond.laysStatic C n d).before args s = true) (h : (Cond.isRef (.static C n d)).before args s = true) (hA : ∀ a : Nat, a < s.heap.size → ¬ A a) : zs C n d A s s.heap := by
  obtain ⟨c, k, i, f, a, cell, hc, hi, hst, ha, hcell, hs, hcls, hlt, hty⟩ := Cond.laysStatic_spec hl
  obtain ⟨v, hv, hr⟩ := Cond.isRef_spec h
  obtain ⟨hst', a', cell', ha', hcell', -, hslot⟩ := Term.static_spec hi hv
  cases ha.symm.trans ha'
  cases hcell.symm.trans hcell'
  exact ⟨c, k, i, f, a, cell, v, hc, hi, hst, ha, hcell, hs, hcls, hlt, hty, hslot, hr, hA a (Array.getElem?_eq_some_iff.mp hcell).1⟩
theorem eqR {args : Array Value} {s : State} {t u : Term} {a b : Nat} (h : (Cond.eq t u).before args s = true) (ht : t.eval args s none [] s = some (.ref a)) (hu : u.eval args s none [] s = some (.ref b)) : b = a := by
  simp [Cond.before, Cond.holds, Cond.value, ht, hu] at h
  exact h.symm
theorem nw_in : NWl.all (fun w => w.onTables && decide (w ∈ lw_tbl)) = true := by decide +kernel
theorem arr_of {args : Array Value} {s : State} {ty : FieldType} (hp : ∀ x, va_RA s x ty = (s.vm.findClass ("[" ++ ty.toString) = some x)) (h : (Cond.arrayClass ty).before args s = true) : ∃ c, ArrOfT s c ty ∧ va_RA s c ty := by
  obtain ⟨c, k, comp, h1, h2, h3⟩ := Cond.arrayClass_spec h
  exact ⟨c, fun n z => ⟨fun k h => (by cases h), k, h2, comp, h3⟩, by rw [hp]; exact h1⟩
set_option maxHeartbeats 4000000 in
set_option maxRecDepth 100000 in
theorem law_sp {s : State} {args : Array Value} (hts : ∀ w ∈ lw_tbl, w.before args s = true) (hgv : (Jvm.Cond.and given_1 narrow_1).before args s = true) : ∃ sx : Nat → Nat, SPl sx (fun q : Nat => s.heap.size ≤ q) s s.heap := by
  have hA : ∀ a : Nat, a < s.heap.size → ¬ (fun q : Nat => s.heap.size ≤ q) a := fun a h => Nat.not_le.mpr h
  have hq := flat_of_before _ hgv
  obtain ⟨adK, adV, hS, hE⟩ := vk_Sof (args := args) (s := s) (N := 1) (tm := fun _ => .string "CircuitFiles$Form" 115) (len := [3]) (byt := [[105, 108, 111]]) (A := (fun q : Nat => s.heap.size ≤ q))
    (fun i hi => by rw [show i = 0 by omega]; decide)
    (fun i hi => hq _ (by decide +kernel))
    (fun i hi => hq _ (by decide +kernel))
    (fun i hi => hq _ (by decide +kernel))
    (fun i hi => by rw [show i = 0 by omega]; exact hq _ (by decide +kernel))
    (fun i hi j hj => by
      have hi0 : i = 0 := by omega
      subst hi0
      have hj3 : j < 3 := hj
      have : j = 0 ∨ j = 1 ∨ j = 2 := by omega
      rcases this with rfl | rfl | rfl
      · exact hq _ (by decide +kernel)
      · exact hq _ (by decide +kernel)
      · exact hq _ (by decide +kernel))
    (fun i j hi hj hij => absurd (show i = j by omega) hij) hA
  have e0 := hE 0 (by decide)
  obtain ⟨a1, c1, cA1, kA1, q1, -⟩ := Cond.exactly_spec (args := args) (first := s) (o := none) (s := s) (idx := []) (t := .string "CircuitFiles$Reader" 182) (cls := "java/lang/String") (hq _ (by decide +kernel))
  obtain ⟨a2, c2, cA2, kA2, q2, -⟩ := Cond.exactly_spec (args := args) (first := s) (o := none) (s := s) (idx := []) (t := .string "CircuitFiles" 62) (cls := "java/lang/String") (hq _ (by decide +kernel))
  have e1 : a1 = adK 0 := eqR (hq _ (by decide +kernel)) e0 q1
  subst e1
  refine ⟨fun k => if k = 0 then adK 0 else if k = 1 then adV 0 else a2, fun w hw => ?_, ⟨vk_R.of (hts (.stringRef "CircuitFiles$Form" 115 "ilo") (by decide +kernel)) e0, vk_R.of (hts (.stringRef "CircuitFiles$Reader" 182 "ilo") (by decide +kernel)) q1, vk_R.of (hts (.stringRef "CircuitFiles" 62 "the file has a fault") (by decide +kernel)) q2⟩, ⟨fun i hi => ?_, fun i j hi hj _ => by omega⟩, va_Zof (hts (.laysStatic "java/lang/String" "COMPACT_STRINGS" "Z") (by decide +kernel)) (hts (.initialized "java/lang/String") (by decide +kernel)) (va_eqi (hq _ (by decide +kernel))) hA, ⟨zs_of (hts (.laysStatic "java/lang/Throwable" "UNASSIGNED_STACK" "[Ljava/lang/StackTraceElement;") (by decide +kernel)) (hq _ (by decide +kernel)) hA, zs_of (hts (.laysStatic "java/lang/Throwable" "SUPPRESSED_SENTINEL" "Ljava/util/List;") (by decide +kernel)) (hq _ (by decide +kernel)) hA⟩, fun q hq9 => ?_, va_Zqof (hts (.laysStatic "jdk/internal/util/Preconditions" "SIOOBE_FORMATTER" "Ljava/util/function/BiFunction;") (by decide +kernel)) (hts (.initialized "jdk/internal/util/Preconditions") (by decide +kernel)) (hq _ (by decide +kernel)) hA, fun x hx => ?_⟩
  · have := List.all_eq_true.mp nw_in w hw
    rw [Bool.and_eq_true, decide_eq_true_eq] at this
    exact va_Nw.of this.1 (hts w this.2)
  · have hi0 : i = 0 := by omega
    subst hi0
    exact hS.1 0 (by decide)
  · have : q = ("java/lang/IllegalArgumentException", "java/lang/IllegalArgumentException") := by simpa [CWl] using hq9
    subst this
    exact va_Nw.of rfl (hts _ (by decide +kernel))
  · simp only [DWl, List.mem_cons, List.not_mem_nil, or_false] at hx
    rcases hx with rfl | rfl | rfl
    · exact va_Nw.of rfl (hts _ (by decide +kernel))
    · exact va_Nw.of rfl (hts _ (by decide +kernel))
    · exact va_Nw.of rfl (hts _ (by decide +kernel))
set_option maxHeartbeats 4000000 in
set_option maxRecDepth 100000 in
theorem law_k {s : State} {args : Array Value} (htb : ∀ w ∈ TB, w.before args s = true) : ∃ (D : va_G) (cA : Nat → ClassId), va_K D vwCl (tyl cA) s := by
  obtain ⟨c0, i0, hk0⟩ := u_known (C := R_T) (T := T_T) (N := 3) (n := 3) htb hin_T (htb _ tb_27)
  obtain ⟨c1, i1, hk1⟩ := u_known (C := R_U) (T := T_U) (N := 6) (n := 6) htb hin_U (htb _ tb_75)
  obtain ⟨c2, i2, hk2⟩ := u_known (C := R_R) (T := T_R) (N := 6) (n := 6) htb hin_R (htb _ tb_46)
  obtain ⟨c3, i3, hk3⟩ := u_known (C := R_S) (T := T_S) (N := 5) (n := 5) htb hin_S (htb _ tb_52)
  obtain ⟨c4, i4, hk4⟩ := u_known (C := R_X) (T := T_X) (N := 4) (n := 4) htb hin_X (htb _ tb_124)
  obtain ⟨c5, i5, hk5⟩ := u_known (C := R_C) (T := T_C) (N := 18) (n := 18) htb hin_C (htb _ tb_143)
  obtain ⟨c6, i6, hk6⟩ := u_known (C := R_F) (T := T_F) (N := 6) (n := 6) htb hin_F (htb _ tb_19)
  obtain ⟨c7, i7, hk7⟩ := u_known (C := R_M) (T := T_M) (N := 34) (n := 34) htb hin_M (htb _ tb_667)
  obtain ⟨t0, u0⟩ := arr_of (ty := .int) (fun _ => rfl) (htb _ tb_44)
  obtain ⟨t1, u1⟩ := arr_of (ty := .boolean) (fun _ => rfl) (htb _ tb_73)
  obtain ⟨t2, u2⟩ := arr_of (ty := .byte) (fun _ => rfl) (htb _ tb_412)
  obtain ⟨t3, u3⟩ := arr_of (ty := .long) (fun _ => rfl) (htb _ tb_958)
  refine ⟨(fun k => if k = 0 then c0 else if k = 1 then c1 else if k = 2 then c2 else if k = 3 then c3 else if k = 4 then c4 else if k = 5 then c5 else if k = 6 then c6 else c7, fun k => if k = 0 then i0 else if k = 1 then i1 else if k = 2 then i2 else if k = 3 then i3 else if k = 4 then i4 else if k = 5 then i5 else if k = 6 then i6 else i7), fun k => if k = 0 then t0 else if k = 1 then t1 else if k = 2 then t2 else t3, fun k q hq => ?_, fun k q hq => ?_⟩
  · match k, hq with
    | 0, hq => cases hq; exact hk0
    | 1, hq => cases hq; exact hk1
    | 2, hq => cases hq; exact hk2
    | 3, hq => cases hq; exact hk3
    | 4, hq => cases hq; exact hk4
    | 5, hq => cases hq; exact hk5
    | 6, hq => cases hq; exact hk6
    | 7, hq => cases hq; exact hk7
    | k + 8, hq => simp [vwCl] at hq
  · match k, hq with
    | 0, hq => cases hq; exact u0
    | 1, hq => cases hq; exact u1
    | 2, hq => cases hq; exact u2
    | 3, hq => cases hq; exact u3
    | k + 4, hq => simp [tyl] at hq
