/-! THE RELATION between the class's cells and the reference's, and each operation on both -/
def RL (IU IT : NI) (AT : NNI) (IX : NI) (AX : NNI) (IY : NI) (AY : NNI) (IC : NI) (AC AD : NNI) (IM : NI) (AM : NNI) : Prop := ∃ (c : Ck) (h : Nat → Nat) (n : Nat) (rd : Nat → Nat), WF c ∧ CC IC AC c ∧ CM AM c ∧ IC 5 = IM 9 ∧ (AC 11 0 = 0 ∧ AD 11 0 = 0) ∧ TW IT AT h n ∧ TM IM AM h n ∧ RC AT rd ∧ RM AM rd ∧ (IU 3 = IM 2 ∧ IU 4 = IM 3) ∧ ((IX 1 = 0 ∧ IX 0 = 0) ∨ WX 1 (AX 1) IX AX (fText c)) ∧ ((IY 1 = 0 ∧ IY 0 = 0) ∨ WX 1 (AY 1) IY AY (fBin c)) ∧ AY 1 0 = 0
theorem TM_to {I I' : NI} {A B : NNI} {h : Nat → Nat} {n : Nat} (t : TM I A h n) (hI : I' 1 = I 1) (hA : ∀ k, k < 6000 → B 0 k = A 0 k) : TM I' B h n := by
  obtain ⟨t1, t2, t3, t4⟩ := t
  exact ⟨t1, hI.trans t2, fun q hq => by rw [hA q (by omega)]; exact t3 q hq, t4⟩
theorem RM_to {A B : NNI} {rd : Nat → Nat} (t : RM A rd) (hA : ∀ k, k < 20 → B 1 k = A 1 k) : RM B rd := fun i hi => by rw [hA i hi]; exact t i hi
theorem RL_M {IU IT IX IY IC IM IM' : NI} {AT AX AY AC AD AM AM' : NNI} (r : RL IU IT AT IX AX IY AY IC AC AD IM AM) (h1 : IM' 1 = IM 1) (h2 : IM' 2 = IM 2) (h3 : IM' 3 = IM 3) (h9 : IM' 9 = IM 9) (hK : KA AM AM') : RL IU IT AT IX AX IY AY IC AC AD IM' AM' := by
  obtain ⟨c, h, n, rd, r1, r2, r3, r4, r5, r6, r7, r8, r9, r10, r11, r12, r13⟩ := r
  exact ⟨c, h, n, rd, r1, r2, CM_KA r1 hK r3, r4.trans h9.symm, r5, r6, TM_to r7 h1 (fun k hk => hK 0 k hk), r8, RM_to r9 (fun k hk => hK 1 k hk), ⟨r10.1.trans h2.symm, r10.2.trans h3.symm⟩, r11, r12, r13⟩
theorem KA_rf (A : NNI) : KA A A := fun _ _ _ => rfl
theorem CM_oth {A B : NNI} {c : Ck} (h : CM A c) (hF : ∀ a, a ≠ 0 → a ≠ 1 → B a = A a) : CM B c := by
  have f : ∀ a, a ≠ 0 ∧ a ≠ 1 → B a = A a := fun a z => hF a z.1 z.2
  obtain ⟨h1, h2, h3, h4, h5⟩ := h
  exact ⟨HM_same h1 (f 2 (by decide)), VL_same h2 (f 3 (by decide)) (f 4 (by decide)) (f 7 (by decide)), KD_same h3 (f 10 (by decide)), UM_same h4 (f 5 (by decide)) (f 6 (by decide)) (f 8 (by decide)) (f 9 (by decide)), NM_same h5 (f 16 (by decide)) (f 17 (by decide))⟩
theorem CC_11 {IC : NI} {A B : NNI} {c : Ck} (h : CC IC A c) (hF : ∀ a, a ≠ 11 → B a = A a) : CC IC B c := by
  obtain ⟨h1, h2, h3, h4, h5⟩ := h
  refine ⟨h1, VA_same h2 (hF 0 (by decide)) (hF 1 (by decide)) (hF 4 (by decide)) (hF 8 (by decide)), UA_same h3 (hF 2 (by decide)) (hF 3 (by decide)) (hF 5 (by decide)) (hF 6 (by decide)), fun s hs => ?_, fun i hi => ?_⟩
  · rw [hF 9 (by decide), hF 10 (by decide)]; exact h4 s hs
  · rw [hF 7 (by decide)]; exact h5 i hi
theorem p_feed {IU IT IX IY IC IM : NI} {AT AX AY AC AD AM : NNI} {x1 x2 x3 x4 x5 : Int32} (r : RL IU IT AT IX AX IY AY IC AC AD IM AM) : wp_F_feed AT x1 x2 x3 x4 x5 (fun AT' => wp_M_feed IM AM x1 x2 x3 x4 x5 (fun IM' AM' => RL IU IT AT' IX AX IY AY IC AC AD IM' AM')) := by
  obtain ⟨c, h, n, rd, r1, r2, r3, r4, r5, r6, r7, r8, r9, r10, r11, r12, r13⟩ := r
  refine s_feed (fun B hF hB => m_feed (fun B2 hF2 hB2 => ?_))
  refine ⟨c, h, n, fun i => wb (fw x1 x2 x3 x4 x5 (i / 4)) (i % 4), r1, r2, CM_oth r3 (fun a _ z => hF2 a z), r4, r5, ?_, TM_to r7 rfl (fun k _ => by rw [hF2 0 (by decide)]), fun i hi => ⟨hB i hi, wb_lt _ _⟩, fun i hi => ⟨hB2 i hi, wb_lt _ _⟩, r10, r11, r12, r13⟩
  obtain ⟨t1, t2, t3, t4⟩ := r6
  exact ⟨t1, t2, fun q hq => by rw [hF 1 (by decide)]; exact t3 q hq, t4⟩
theorem p_end {IU IT IX IY IC IM : NI} {AT AX AY AC AD AM : NNI} {x : Int32} (r : RL IU IT AT IX AX IY AY IC AC AD IM AM) : wp_F_end IT AT x (fun a IT' AT' => wp_M_end IM AM x (fun b IM' AM' => a = b ∧ RL IU IT' AT' IX AX IY AY IC AC AD IM' AM')) := by
  have r0 := r
  obtain ⟨c, h, n, rd, r1, r2, r3, r4, r5, r6, r7, r8, r9, r10, r11, r12, r13⟩ := r
  refine s_end r6 r8 (fun m e hm hn I1 B1 t1 c1 => m_end r7 r9 (fun m2 e2 hm2 hn2 I2 B2 t2 c2 hI hA => ?_) (fun hno => absurd hn (hno m e hm))) (fun hno => m_end r7 r9 (fun m2 e2 hm2 hn2 => absurd hn2 (hno m2 e2 hm2)) (fun _ => ⟨rfl, RL_M r0 rfl rfl rfl rfl (KA_rf AM)⟩))
  have em : m = m2 := (nI_eq (by omega) (by omega)).mp (e.symm.trans e2)
  subst em
  exact ⟨rfl, c, _, _, fun _ => 0, r1, r2, CM_oth r3 hA, r4.trans (hI 9 (by decide) (by decide)).symm, r5, t1, t2, c1, c2, ⟨r10.1.trans (hI 2 (by decide) (by decide)).symm, r10.2.trans (hI 3 (by decide) (by decide)).symm⟩, r11, r12, r13⟩
theorem TW_0 {IT : NI} {AT : NNI} : TW (va_up IT 0 0) AT (fun _ => 256) 0 := ⟨by decide, rfl, fun q hq => absurd hq (by omega), fun _ _ => rfl⟩
theorem TM_0 {I : NI} {A : NNI} (h : I 1 = 0) : TM I A (fun _ => 256) 0 := ⟨by decide, h, fun q hq => absurd hq (by omega), fun _ _ => rfl⟩
theorem p_load {IR IU IT IS IX IY IC ID IM : NI} {AR AT AS AX AY AC AD AM : NNI} {J : Nat → Int64} (r : RL IU IT AT IX AX IY AY IC AC AD IM AM) : wp_L_load IR AR IU IT AT IS AS IX IY IC AC ID AD J (fun k _ _ IU' IT' _ _ IX' IY' IC' AC' _ AD' J' => wp_M_load IM AM (fun b IM' AM' => IM' 0 = k ∧ (k = 0 → J' ((0 : Int32)).toNatClampNeg = b.toInt64) ∧ RL IU' IT' AT IX' AX IY' AY IC' AC' AD' IM' AM')) := by
  obtain ⟨c, h, n, rd, r1, r2, r3, r4, r5, r6, r7, r8, r9, r10, r11, r12, r13⟩ := r
  unfold wp_L_load wp_F_load wp_T_makeEmpty wp_X_forget
  refine s_file r6 ?_
  cases hp : pFile h with
  | error e =>
    intro R B U S BS I A hE h11
    refine ⟨fun _ => m_load r7 ?_, fun z => absurd rfl z⟩
    rw [hp]
    intro I' B' hK z0 z1 z2 z3 z9
    exact ⟨z0, fun z => absurd z (by decide), c, _, 0, rd, r1, r2, CM_KA r1 hK r3, r4.trans z9.symm, ⟨r5.1, by rw [h11]; exact r5.2⟩, TW_0, TM_0 z1, r8, RM_to r9 (fun k hk => hK 1 k hk), ⟨hE.1.trans z2.symm, hE.2.trans z3.symm⟩, r11, r12, r13⟩
  | ok c2 =>
    intro R B U S BS I A hu3 hu4 hCC h5 h11
    refine ⟨fun z => absurd z (by decide), fun _ => m_load r7 ?_⟩
    rw [hp]
    intro I' B' hCM z0 z1 z2 z3 z9 hrd
    refine ⟨z0, fun _ => ?_, c2, _, 0, rd, WF_of r6.2.2.2 r6.le hp, hCC, hCM, h5.trans z9.symm, ⟨by rw [h11]; exact r5.2, r5.1⟩, TW_0, TM_0 z1, r8, RM_to r9 hrd, ⟨hu3.trans z2.symm, hu4.trans z3.symm⟩, Or.inl ⟨rfl, rfl⟩, Or.inl ⟨rfl, rfl⟩, r13⟩
    rw [pk_uLs, hCC.1.2.2.2.2]
theorem p_fault {IU IT IX IY IC IM : NI} {AT AX AY AC AD AM : NNI} {x : Int32} (r : RL IU IT AT IX AX IY AY IC AC AD IM AM) : wp_F_fault IU x (fun a => wp_M_fault IM x (fun b IM' => a = b ∧ RL IU IT AT IX AX IY AY IC AC AD IM' AM)) := by
  have r0 : RL IU IT AT IX AX IY AY IC AC AD (va_up IM 0 0) AM := RL_M r rfl rfl rfl rfl (KA_rf AM)
  obtain ⟨c, h, n, rd, r1, r2, r3, r4, r5, r6, r7, r8, r9, r10, r11, r12, r13⟩ := r
  unfold wp_F_fault wp_M_fault wp_R_faultKind wp_R_faultPlace
  exact ⟨fun e => ⟨fun _ => ⟨r10.1, r0⟩, fun z => absurd e z⟩, fun e0 => ⟨fun e1 => ⟨fun z => absurd z e0, fun _ => ⟨fun _ => ⟨r10.2, r0⟩, fun z => absurd e1 z⟩⟩, fun e1 => ⟨fun z => absurd z e0, fun _ => ⟨fun z => absurd z e1, fun _ => ⟨rfl, r0⟩⟩⟩⟩⟩
theorem p_many {IU IT IX IY IC IM : NI} {AT AX AY AC AD AM : NNI} {x : Int32} (r : RL IU IT AT IX AX IY AY IC AC AD IM AM) : wp_F_many IC x (fun a => wp_M_many IM AM x (fun b IM' => a = b ∧ RL IU IT AT IX AX IY AY IC AC AD IM' AM)) := by
  have r0 : RL IU IT AT IX AX IY AY IC AC AD (va_up IM 0 0) AM := RL_M r rfl rfl rfl rfl (KA_rf AM)
  obtain ⟨c, h, n, rd, r1, r2, r3, r4, r5, r6, r7, r8, r9, r10, r11, r12, r13⟩ := r
  exact m_many (K := fun a b I' => a = b ∧ RL IU IT AT IX AX IY AY IC AC AD I' AM) r2 r3 (fun _ => ⟨rfl, r0⟩)
theorem p_symb {IU IT IX IY IC IM : NI} {AT AX AY AC AD AM : NNI} {x1 x2 x3 : Int32} (r : RL IU IT AT IX AX IY AY IC AC AD IM AM) : wp_F_symbol IC AC x1 x2 x3 (fun a => wp_M_symbol IM AM x1 x2 x3 (fun b IM' => a = b ∧ RL IU IT AT IX AX IY AY IC AC AD IM' AM)) := by
  have r0 : RL IU IT AT IX AX IY AY IC AC AD (va_up IM 0 0) AM := RL_M r rfl rfl rfl rfl (KA_rf AM)
  obtain ⟨c, h, n, rd, r1, r2, r3, r4, r5, r6, r7, r8, r9, r10, r11, r12, r13⟩ := r
  have c8 : ∀ kd, kcnt c kd ≤ 8 := fun kd => cnt_le r1.1.2.1 r1.1.2.2.1 r1.1.2.2.2.1
  have l40 : ∀ s, (kN c s).length ≤ 40 := fun s => (r1.2.2.2.1 s).1
  refine s_symb r1 r2 (fun kd k i a1 a2 a3 a4 a5 a6 => m_symb r1 r3 (fun kd2 k2 i2 b1 b2 b3 b4 b5 b6 => ?_) (fun hno => absurd a6 (hno kd k i a1 a2 a3 a4 a5))) (fun hno => m_symb r1 r3 (fun kd2 k2 i2 b1 b2 b3 b4 b5 b6 => absurd b6 (hno kd2 k2 i2 b1 b2 b3 b4 b5)) (fun _ => ⟨rfl, r0⟩))
  have e1 : kd = kd2 := (nI_eq (by omega) (by omega)).mp (a2.symm.trans b2)
  have e2 : k = k2 := (nI_eq (by have := c8 kd; omega) (by have := c8 kd2; omega)).mp (a3.symm.trans b3)
  subst e1 e2
  have e3 : i = i2 := (nI_eq (by have := l40 (8 * kd + k); omega) (by have := l40 (8 * kd + k); omega)).mp (a5.symm.trans b5)
  subst e3
  exact ⟨rfl, r0⟩
theorem p_form {IU IT IX IY IC IM : NI} {AT AX AY AC AD AM : NNI} {x1 x2 : Int32} (hx : x1 = 0 ∨ x1 = 1) (r : RL IU IT AT IX AX IY AY IC AC AD IM AM) : wp_F_form IX AX IY AY IC AC x1 x2 (fun a IX' AX' IY' AY' => wp_M_form IM AM x1 x2 (fun b IM' AM' => a = b ∧ RL IU IT AT IX' AX' IY' AY' IC AC AD IM' AM')) := by
  obtain ⟨c, h, n, rd, r1, r2, r3, r4, r5, r6, r7, r8, r9, r10, r11, r12, r13⟩ := r
  have mk : ∀ IX' AX' IY' AY' IM' AM', ((IX' 1 = 0 ∧ IX' 0 = 0) ∨ WX 1 (AX' 1) IX' AX' (fText c)) → ((IY' 1 = 0 ∧ IY' 0 = 0) ∨ WX 1 (AY' 1) IY' AY' (fBin c)) → AY' 1 0 = 0 → KA AM AM' → (∀ i, i ≠ 0 → i ≠ 8 → i ≠ 10 → IM' i = IM i) → RL IU IT AT IX' AX' IY' AY' IC AC AD IM' AM' := fun IX' AX' IY' AY' IM' AM' q1 q2 q3 hK hI => RL_M ⟨c, h, n, rd, r1, r2, r3, r4, r5, r6, r7, r8, r9, r10, q1, q2, q3⟩ (hI 1 (by decide) (by decide) (by decide)) (hI 2 (by decide) (by decide) (by decide)) (hI 3 (by decide) (by decide) (by decide)) (hI 9 (by decide) (by decide) (by decide)) hK
  have tl := text_len r1
  have bl := bin_len r1
  unfold wp_F_form
  refine ⟨fun e => ?_, fun e => ?_⟩
  · subst e
    refine s_text r1 r2 r11 (fun I1 A1 h1 => ?_)
    have hw : WX 1 (A1 1) I1 A1 (fText c) := by rw [h1.2.2.2]; exact h1
    refine s_byte h1 tl (fun i e hi => m_form (bin := false) r1 r3 rfl (fun i2 e2 hi2 I' B hK hI => ?_) (fun hno => absurd hi (hno i e))) (fun hno => m_form (bin := false) r1 r3 rfl (fun i2 e2 hi2 => absurd hi2 (hno i2 e2)) (fun _ I' B hK hI => ⟨rfl, mk _ _ _ _ _ _ (Or.inr hw) r12 r13 hK hI⟩))
    have hi3 : i2 < (fText c).length := hi2
    have : i = i2 := (nI_eq (by omega) (by omega)).mp (e.symm.trans e2)
    subst this
    exact ⟨rfl, mk _ _ _ _ _ _ (Or.inr hw) r12 r13 hK hI⟩
  · have ex := hx.resolve_left e
    subst ex
    refine s_binary r1 r2 r13 r12 (fun I1 A1 h0 h1 => ?_)
    refine s_byte h1 bl (fun i e hi => m_form (bin := true) r1 r3 rfl (fun i2 e2 hi2 I' B hK hI => ?_) (fun hno => absurd hi (hno i e))) (fun hno => m_form (bin := true) r1 r3 rfl (fun i2 e2 hi2 => absurd hi2 (hno i2 e2)) (fun _ I' B hK hI => ⟨rfl, mk _ _ _ _ _ _ r11 (Or.inr h1) h0 hK hI⟩))
    have hi3 : i2 < (fBin c).length := hi2
    have : i = i2 := (nI_eq (by omega) (by omega)).mp (e.symm.trans e2)
    subst this
    exact ⟨rfl, mk _ _ _ _ _ _ r11 (Or.inr h1) h0 hK hI⟩
theorem CC_5 {IC : NI} {A : NNI} {c : Ck} {x : Int32} (h : CC IC A c) : CC (va_up IC 5 x) A c := h
theorem p_reset {IU IT IX IY IC IM : NI} {AT AX AY AC AD AM : NNI} (r : RL IU IT AT IX AX IY AY IC AC AD IM AM) : wp_F_reset IC (fun IC' => wp_M_reset IM (fun IM' => RL IU IT AT IX AX IY AY IC' AC AD IM' AM)) := by
  obtain ⟨c, h, n, rd, r1, r2, r3, r4, r5, r6, r7, r8, r9, r10, r11, r12, r13⟩ := r
  exact ⟨c, h, n, rd, r1, CC_5 r2, r3, rfl, r5, r6, TM_to r7 rfl (fun _ _ => rfl), r8, r9, r10, r11, r12, r13⟩
theorem p_state {IU IT IX IY IC IM : NI} {AT AX AY AC AD AM : NNI} (r : RL IU IT AT IX AX IY AY IC AC AD IM AM) : wp_F_state IC (fun a => wp_M_state IM (fun b IM' => a = b ∧ RL IU IT AT IX AX IY AY IC AC AD IM' AM)) := by
  have r0 : RL IU IT AT IX AX IY AY IC AC AD (va_up IM 0 0) AM := RL_M r rfl rfl rfl rfl (KA_rf AM)
  obtain ⟨c, h, n, rd, r1, r2, r3, r4, r5, r6, r7, r8, r9, r10, r11, r12, r13⟩ := r
  exact ⟨r4, r0⟩
theorem p_value {IU IT IX IY IC IM : NI} {AT AX AY AC AD AM : NNI} {x1 x2 : Int32} (r : RL IU IT AT IX AX IY AY IC AC AD IM AM) : wp_F_value IC AC x1 x2 (fun a AC' => wp_M_value IM AM x1 x2 (fun b IM' AM' => a = b ∧ RL IU IT AT IX AX IY AY IC AC' AD IM' AM')) := by
  obtain ⟨c, h, n, rd, r1, r2, r3, r4, r5, r6, r7, r8, r9, r10, r11, r12, r13⟩ := r
  have mk : ∀ AC' IM' AM', CC IC AC' c → AC' 11 0 = 0 → KA AM AM' → (∀ i, i ≠ 0 → i ≠ 8 → IM' i = IM i) → RL IU IT AT IX AX IY AY IC AC' AD IM' AM' := fun AC' IM' AM' q1 q2 hK hI => RL_M ⟨c, h, n, rd, r1, q1, r3, r4, ⟨q2, r5.2⟩, r6, r7, r8, r9, r10, r11, r12, r13⟩ (hI 1 (by decide) (by decide)) (hI 2 (by decide) (by decide)) (hI 3 (by decide) (by decide)) (hI 9 (by decide) (by decide)) hK
  have hM := r1.1.1
  refine s_value r1 r2 r5.1 (fun l e hl y B hF hB => m_value r1 r3 (fun l2 e2 hl2 y2 I' B' hK hI => ?_) (fun hno => absurd y (hno l e hl))) (fun hno => m_value r1 r3 (fun l2 e2 hl2 y2 => absurd y2 (hno l2 e2 hl2)) (fun _ I' hI => ⟨rfl, mk _ _ _ r2 r5.1 (KA_rf AM) (fun i z _ => hI i z)⟩))
  have : l = l2 := (nI_eq (by omega) (by omega)).mp (e.symm.trans e2)
  subst this
  rw [r4]
  exact ⟨rfl, mk _ _ _ (CC_11 r2 hF) hB hK hI⟩
theorem p_step {IU IT IX IY IC IM : NI} {AT AX AY AC AD AM : NNI} {x : Int32} (r : RL IU IT AT IX AX IY AY IC AC AD IM AM) : wp_F_step IC AC x (fun a IC' AC' => wp_M_step IM AM x (fun b IM' AM' => a = b ∧ RL IU IT AT IX AX IY AY IC' AC' AD IM' AM')) := by
  obtain ⟨c, h, n, rd, r1, r2, r3, r4, r5, r6, r7, r8, r9, r10, r11, r12, r13⟩ := r
  refine s_step r1 r2 r5.1 (fun B hF hB => m_step r1 r3 (fun I' B' hK hI h9 => ?_))
  rw [r4]
  refine ⟨rfl, c, h, n, rd, r1, CC_5 (CC_11 r2 hF), CM_KA r1 hK r3, h9.symm, ⟨hB, r5.2⟩, r6, TM_to r7 (hI 1 (by decide) (by decide) (by decide)) (fun k hk => hK 0 k hk), r8, RM_to r9 (fun k hk => hK 1 k hk), ⟨r10.1.trans (hI 2 (by decide) (by decide) (by decide)).symm, r10.2.trans (hI 3 (by decide) (by decide) (by decide)).symm⟩, r11, r12, r13⟩
/-- at the start -/
theorem RL_0 : RL (va_up (fun _ => 0) 4 (-1)) (fun _ => 0) (fun _ _ => 0) (fun _ => 0) (fun _ _ => 0) (fun _ => 0) (fun _ _ => 0) (fun _ => 0) (fun _ _ => 0) (fun _ _ => 0) (va_up (fun _ => 0) 3 (-1)) (fun _ _ => 0) := by
  refine ⟨c0, fun _ => 256, 0, fun _ => 0, WF_0, ⟨⟨rfl, rfl, rfl, rfl, rfl⟩, ⟨fun k hk => absurd hk (Nat.not_lt_zero k), fun v hv => rfl⟩, fun k hk => absurd hk (Nat.not_lt_zero k), fun s hs => ⟨Nat.zero_le _, rfl, fun i hi => absurd hi (Nat.not_lt_zero i)⟩, fun i hi => absurd hi (Nat.not_lt_zero i)⟩, ⟨⟨rfl, rfl, rfl, rfl, rfl⟩, fun k hk => absurd hk (Nat.not_lt_zero k), ⟨fun v hv _ => rfl, fun k hk => absurd hk (Nat.not_lt_zero k)⟩, fun k hk => absurd hk (Nat.not_lt_zero k), fun s hs hs2 => ⟨Nat.zero_le _, rfl, fun i hi => absurd hi (Nat.not_lt_zero i)⟩⟩, rfl, ⟨rfl, rfl⟩, ⟨by decide, rfl, fun q hq => absurd hq (by omega), fun _ _ => rfl⟩, ⟨by decide, rfl, fun q hq => absurd hq (by omega), fun _ _ => rfl⟩, fun i hi => ⟨rfl, Nat.zero_lt_succ 255⟩, fun i hi => ⟨show (0 : Int32) = sb 0 by decide, Nat.zero_lt_succ 255⟩, ⟨rfl, rfl⟩, Or.inl ⟨rfl, rfl⟩, Or.inl ⟨rfl, rfl⟩, rfl⟩
