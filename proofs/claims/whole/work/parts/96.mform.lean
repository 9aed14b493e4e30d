/-! the reference writes both forms -/
def WM (I0 : NI) (A0 : NNI) (I : NI) (A : NNI) (bs : List Nat) : Prop := I 10 = nI bs.length ∧ (∀ i, i < bs.length → A 22 i = sb (bs.getD i 0)) ∧ (∀ i, i ≠ 10 → I i = I0 i) ∧ ∀ a, a ≠ 22 → A a = A0 a
theorem m_lay {I0 I : NI} {A0 A : NNI} {bs : List Nat} {b : Nat} {x : Int32} {Q : NI → NNI → Prop} (h : WM I0 A0 I A bs) (hl : bs.length < 12000) (hx : x.toInt8.toInt32 = sb b) (k : ∀ I' A', WM I0 A0 I' A' (bs ++ [b]) → Q I' A') : wp_M_lay I A x Q := by
  obtain ⟨h1, h2, h3, h4⟩ := h
  unfold wp_M_lay
  have hlen : (bs ++ [b]).length = bs.length + 1 := by simp
  rw [pk_vb, h1, nI_clamp (n := bs.length) (by omega), nI_1, hx]
  refine ⟨pk_in bs.length 12000 hl, k _ _ ⟨?_, fun i hi => ?_, fun i hi => by rw [va_up_ne _ _ hi]; exact h3 i hi, fun a ha => by rw [va_up_ne _ _ ha]; exact h4 a ha⟩⟩
  · show nI (bs.length + 1) = _
    rw [hlen]
  · show upd (A 22) bs.length (sb b) i = _
    by_cases e : i = bs.length
    · rw [e, pk_us, gD_r]
    · rw [pk_un e, gD_l (by omega)]
      exact h2 i (by omega)
theorem sb_of {x : Int32} {b : Nat} (h : x = nI b) : x.toInt8.toInt32 = sb b := by rw [h]; rfl
theorem app_len {bs l : List Nat} {B : Nat} (h : (bs ++ l).length ≤ B) : bs.length ≤ B := by
  rw [List.length_append] at h
  omega
theorem m_layN {I0 I : NI} {A0 A : NNI} {bs : List Nat} {n b : Nat} {x1 x2 : Int32} {Q : NI → NNI → Prop} (h : WM I0 A0 I A bs) (h1 : x1 = nI n) (h2 : x2 = nI b) (hn : n ≤ 999) (hl : (bs ++ nb n b).length ≤ 5000) (k : ∀ I' A', WM I0 A0 I' A' (bs ++ nb n b) → Q I' A') : wp_M_layNumber I A x1 x2 Q := by
  unfold wp_M_layNumber
  have hl0 := app_len hl
  have dv : ∀ t, 0 < t → t ≤ 100 → x1 / nI t = nI (n / t) := fun t h0 h9 => by rw [h1]; exact pk_div (by omega) h0 (by omega)
  have dq : ∀ t, 0 < t → t ≤ 100 → (48 : Int32) + (x1 / nI t - x1 / nI t / (10 : Int32) * (10 : Int32)) = nI (48 + n / t % 10) := fun t h0 h9 => by
    have hd : n / t ≤ n := Nat.div_le_self n t
    rw [dv t h0 h9, show nI (n / t) - nI (n / t) / (10 : Int32) * (10 : Int32) = nI (n / t % 10) from pk_rem (d := 10) (by omega) (by decide) (by decide)]
    exact nI_add 48 _
  -- one digit and what is behind it
  have one : ∀ (m : Nat) (I : NI) (A : NNI) (bs2 : List Nat), WM I0 A0 I A bs2 → bs2.length ≤ 5010 → (∀ I' A', WM I0 A0 I' A' (bs2 ++ [48 + n % 10] ++ [b]) → Q I' A') → wp_M_layNumber_L18 Q (fun I_M_11 A_M_12 v2_13 => wp_M_lay I_M_11 A_M_12 v2_13 (fun I_M_15 A_M_16 => Q I_M_15 A_M_16)) (m + 2) I A x1 x2 1 := fun m I A bs2 h hl k => by
    unfold wp_M_layNumber_L18
    refine ⟨fun z => absurd z (by decide), fun _ => ⟨by decide, m_lay (b := 48 + n % 10) h (by omega) (sb_of ?_) (fun I1 A1 h1 => ?_)⟩⟩
    · have := dq 1 (by decide) (by decide)
      rw [Nat.div_one] at this
      exact this
    · unfold wp_M_layNumber_L18
      refine ⟨fun _ => m_lay h1 (by rw [List.length_append, List.length_singleton]; omega) (sb_of h2) (fun I2 A2 h2 => k I2 A2 h2), fun z => absurd (by decide) z⟩
  have two : ∀ (m : Nat) (I : NI) (A : NNI) (bs2 : List Nat), WM I0 A0 I A bs2 → bs2.length ≤ 5005 → (∀ I' A', WM I0 A0 I' A' (bs2 ++ [48 + n / 10 % 10] ++ [48 + n % 10] ++ [b]) → Q I' A') → wp_M_layNumber_L18 Q (fun I_M_11 A_M_12 v2_13 => wp_M_lay I_M_11 A_M_12 v2_13 (fun I_M_15 A_M_16 => Q I_M_15 A_M_16)) (m + 3) I A x1 x2 10 := fun m I A bs2 h hl k => by
    unfold wp_M_layNumber_L18
    refine ⟨fun z => absurd z (by decide), fun _ => ⟨by decide, m_lay (b := 48 + n / 10 % 10) h (by omega) (sb_of (dq 10 (by decide) (by decide))) (fun I1 A1 h1 => ?_)⟩⟩
    exact one m I1 A1 _ h1 (by rw [List.length_append, List.length_singleton]; omega) k
  refine ⟨3, ?_⟩
  unfold wp_M_layNumber_L2
  refine ⟨by decide, pk_le n 9 (fun g => ⟨2, one 0 I A bs h (by omega) (fun I' A' h' => k I' A' ?_)⟩) (fun g => ?_) ?_ rfl⟩
  · rw [nb, dg, if_neg (by omega), if_neg (by omega), List.nil_append, List.nil_append, ← List.append_assoc]
    exact h'
  · unfold wp_M_layNumber_L2
    refine ⟨by decide, pk_le (n / 10) 9 (fun g2 => ⟨3, two 0 I A bs h (by omega) (fun I' A' h' => k I' A' ?_)⟩) (fun g2 => ?_) (dv 10 (by decide) (by decide)) rfl⟩
    · rw [nb, dg, if_neg (by omega), if_pos (by omega), List.nil_append]
      simpa only [List.append_assoc] using h'
    · unfold wp_M_layNumber_L2
      refine ⟨by decide, pk_le (n / 100) 9 (fun g3 => ⟨4, ?_⟩) (fun g3 => absurd g3 (by omega)) (dv 100 (by decide) (by decide)) rfl⟩
      unfold wp_M_layNumber_L18
      refine ⟨fun z => absurd z (by decide), fun _ => ⟨by decide, m_lay (b := 48 + n / 100 % 10) h (by omega) (sb_of (dq 100 (by decide) (by decide))) (fun I1 A1 h1 => ?_)⟩⟩
      refine two 0 I1 A1 _ h1 (by rw [List.length_append, List.length_singleton]; omega) (fun I' A' h' => k I' A' ?_)
      rw [nb, dg, if_pos (by omega), if_pos (by omega)]
      rw [show n / 100 % 10 = n / 100 by omega] at h'
      simpa only [List.append_assoc] using h'
  · have := dv 1 (by decide) (by decide)
    rw [Nat.div_one] at this
    exact this
theorem m_layD {I0 I : NI} {A0 A : NNI} {bs : List Nat} {d : Nat} {x1 : Int32} {Q : NI → NNI → Prop} (h : WM I0 A0 I A bs) (h1 : x1 = nI d) (hd : d ≤ 9999) (hl : (bs ++ dl d).length ≤ 5000) (k : ∀ I' A', WM I0 A0 I' A' (bs ++ dl d) → Q I' A') : wp_M_layDelta I A x1 Q := by
  unfold wp_M_layDelta
  have hl0 := app_len hl
  refine ⟨2, ?_⟩
  unfold wp_M_layDelta_L2
  refine pk_le d 127 (fun g => m_lay h (by omega) (sb_of h1) (fun I' A' h' => k I' A' ?_)) (fun g => ?_) h1 rfl
  · rw [dl, if_pos (by omega)]; exact h'
  · have e1 : x1 - x1 / (128 : Int32) * (128 : Int32) + (128 : Int32) = nI (128 + d % 128) := by
      rw [h1, show nI d - nI d / (128 : Int32) * (128 : Int32) = nI (d % 128) from pk_rem (d := 128) (by omega) (by decide) (by decide), Nat.add_comm]
      exact nI_add _ 128
    have e2 : x1 / (128 : Int32) = nI (d / 128) := by rw [h1]; exact pk_div (d := 128) (by omega) (by decide) (by decide)
    refine m_lay h (by omega) (sb_of e1) (fun I1 A1 h2 => ?_)
    unfold wp_M_layDelta_L2
    refine pk_le (d / 128) 127 (fun g2 => m_lay h2 (by rw [List.length_append, List.length_singleton]; omega) (sb_of e2) (fun I' A' h' => k I' A' ?_)) (fun g2 => absurd g2 (by omega)) e2 rfl
    rw [dl, if_neg (by omega)]
    simpa only [List.append_assoc, List.cons_append, List.nil_append] using h'
theorem m_ren {A : NNI} {c : Ck} {l : Nat} {x : Int32} {Q : Int32 → Prop} (hW : WF c) (hN : NWa c (A 19)) (hx : x = nI l) (hl : l / 2 = 0 ∨ l / 2 ∈ kV c) (h8 : l ≤ 801) (k : Q (nI (rn c l))) : wp_M_renamed A x Q := by
  unfold wp_M_renamed
  have ed : x / (2 : Int32) = nI (l / 2) := by rw [hx]; exact pk_div (d := 2) (by omega) (by decide) (by decide)
  have er : x - x / (2 : Int32) * (2 : Int32) = nI (l % 2) := by rw [hx]; exact pk_rem (d := 2) (by omega) (by decide) (by decide)
  refine pk_le 2 l (fun g => ?_) (fun g => ?_) rfl hx
  · have hv := hl.resolve_left (by omega)
    rw [er, ed, nI_clamp (n := l / 2) (by omega), hN _ hv, show (2 : Int32) = nI 2 from rfl, pk_mul, nI_add]
    exact ⟨pk_in (l / 2) 401 (by omega), k⟩
  · have : rn c l = l := by
      unfold rn
      rw [show l / 2 = 0 by omega, nwc_0 hW]
      omega
    rw [this] at k
    rw [hx]
    exact k
theorem NWa_M {A : NNI} {c : Ck} (hW : WF c) (h : NW A (kI c + kL c) (kV c) (kP c)) : NWa c (A 19) := by
  have hpl := hW.2.2.2.2.1
  have e0 : kN0 c = kI c + kL c := rfl
  refine NWa_of hW fun m hm => ?_
  unfold nv
  by_cases g : m < kN0 c
  · rw [if_pos g]
    exact h.1 m (by omega)
  · rw [if_neg g]
    have := h.2 (m - kN0 c) (by omega)
    rw [show kI c + kL c + (m - kN0 c) + 1 = m + 1 by omega] at this
    exact this
/-! the parts of a form -/
theorem m_hdr {I0 I : NI} {A0 A : NNI} {c : Ck} {bin : Bool} {x : Int32} {Q : NI → NNI → Prop} (hW : WF c) (hH : HM 0 A (kM c) (kI c) (kL c) (kO c) (kA c)) (hA : ∀ a, a ≠ 22 → A a = A0 a) (hI : ∀ i, i ≠ 10 → I i = I0 i) (hx : x = if bin then 1 else 0) (k : ∀ I' A', WM I0 A0 I' A' (fHead c (if bin then 105 else 97) (if bin then kI c + kL c + kA c else kM c)) → Q I' A') : wp_M_layHead I A x Q := by
  obtain ⟨w0, w1, w2, w3, w4⟩ := hW.1
  unfold wp_M_layHead
  have hH0 : HM 0 A0 (kM c) (kI c) (kL c) (kO c) (kA c) := HM_same hH (hA 2 (by decide)).symm
  have h0 : WM I0 A0 (va_up I 10 0) A [] := ⟨rfl, fun i hi => absurd hi (Nat.not_lt_zero i), fun i hi => by rw [va_up_ne _ _ hi]; exact hI i hi, hA⟩
  have hh : ∀ {I A bs}, WM I0 A0 I A bs → HM 0 A (kM c) (kI c) (kL c) (kO c) (kA c) := fun h => HM_same hH0 (h.2.2.2 2 (by decide))
  have L : ∀ (top : Nat) (bs : List Nat), bs.length ≤ 20 → (bs ++ nb top 32).length ≤ 4000 := fun top bs hb => by
    rw [List.length_append]
    have := (nb_len top 32).1
    omega
  have L2 : ∀ (n b : Nat) (bs : List Nat), bs.length ≤ 100 → (bs ++ nb n b).length ≤ 5000 ∧ (bs ++ nb n b).length ≤ bs.length + 4 := fun n b bs hb => by
    rw [List.length_append]
    have := (nb_len n b).1
    omega
  have b26 : ∀ (l top : Nat) (I1 : NI) (A1 : NNI), top ≤ 999 → ((bin = false → top = kM c) ∧ (bin = true → top = kI c + kL c + kA c)) → WM I0 A0 I1 A1 ([97] ++ [l]) → (∀ I' A', WM I0 A0 I' A' (fHead c l top) → Q I' A') → wp_M_layHead_b26 Q I1 A1 x := fun l top I1 A1 ht htop h1 k => by
    unfold wp_M_layHead_b26
    refine m_lay (b := 103) h1 (by simp) rfl (fun I2 A2 h2 => m_lay (b := 32) h2 (by simp) rfl (fun I3 A3 h3 => ?_))
    have tl : ∀ I4 A4, WM I0 A0 I4 A4 ([97] ++ [l] ++ [103] ++ [32] ++ nb top 32) → ∃ m79, wp_M_layHead_L79 Q (fun I_M_23 A_M_24 => Q I_M_23 A_M_24) m79 I4 A4 (1 : Int32) := fun I4 A4 h4 => by
      have hl4 : ([97] ++ [l] ++ [103] ++ [32] ++ nb top 32).length ≤ 8 := by
        rw [List.length_append]
        have := (nb_len top 32).1
        simp
        omega
      generalize hb4 : [97] ++ [l] ++ [103] ++ [32] ++ nb top 32 = bs4 at h4 hl4
      refine ⟨5, ?_⟩
      unfold wp_M_layHead_L79
      refine ⟨fun z => absurd z (by decide), fun _ => ⟨pk_in 1 10 (by decide), fun z => absurd z (by decide), fun _ => ?_⟩⟩
      have e1 := L2 (kI c) 32 bs4 (by omega)
      refine m_layN (b := 32) h4 (hh h4).2.1 rfl (by omega) e1.1 (fun I5 A5 h5 => ?_)
      generalize hb5 : bs4 ++ nb (kI c) 32 = bs5 at h5 e1
      unfold wp_M_layHead_L79
      refine ⟨fun z => absurd z (by decide), fun _ => ⟨pk_in 2 10 (by decide), fun z => absurd z (by decide), fun _ => ?_⟩⟩
      have e2 := L2 (kL c) 32 bs5 (by omega)
      refine m_layN (b := 32) h5 (hh h5).2.2.1 rfl (by omega) e2.1 (fun I6 A6 h6 => ?_)
      generalize hb6 : bs5 ++ nb (kL c) 32 = bs6 at h6 e2
      unfold wp_M_layHead_L79
      refine ⟨fun z => absurd z (by decide), fun _ => ⟨pk_in 3 10 (by decide), fun z => absurd z (by decide), fun _ => ?_⟩⟩
      have e3 := L2 (kO c) 32 bs6 (by omega)
      refine m_layN (b := 32) h6 (hh h6).2.2.2.1 rfl (by omega) e3.1 (fun I7 A7 h7 => ?_)
      generalize hb7 : bs6 ++ nb (kO c) 32 = bs7 at h7 e3
      unfold wp_M_layHead_L79
      refine ⟨fun z => absurd z (by decide), fun _ => ⟨pk_in 4 10 (by decide), fun _ => ?_, fun z => absurd (by decide) z⟩⟩
      have e4 := L2 (kA c) 10 bs7 (by omega)
      refine m_layN (b := 10) h7 (hh h7).2.2.2.2 rfl (by omega) e4.1 (fun I8 A8 h8 => ?_)
      unfold wp_M_layHead_L79
      refine ⟨fun _ => k I8 A8 ?_, fun z => absurd (by decide) z⟩
      rw [fHead, hb4, hb5, hb6, hb7]
      exact h8
    have hl3 : ([97] ++ [l] ++ [103] ++ [32]).length ≤ 20 := by simp
    have hl3' : ([97] ++ [l] ++ [103] ++ [32] ++ nb top 32).length ≤ 5000 := Nat.le_trans (L top _ hl3) (by decide)
    cases bin with
    | false =>
      have e0 : A3 2 ((0 : Int32)).toNatClampNeg = nI top := by rw [htop.1 rfl]; exact (hh h3).1
      refine ⟨fun _ => m_layN (b := 32) h3 e0 rfl ht hl3' tl, fun z => absurd hx z⟩
    | true =>
      have e0 : A3 2 ((1 : Int32)).toNatClampNeg + A3 2 ((2 : Int32)).toNatClampNeg + A3 2 ((4 : Int32)).toNatClampNeg = nI top := by
        rw [htop.2 rfl, ← nI_add, ← nI_add, ← (hh h3).2.1, ← (hh h3).2.2.1, ← (hh h3).2.2.2.2]
        rfl
      exact ⟨fun z => absurd (hx.symm.trans z) (by decide), fun _ => m_layN (b := 32) h3 e0 rfl ht hl3' tl⟩
  refine m_lay (b := 97) h0 (by simp) rfl (fun I1 A1 h1 => ?_)
  cases bin with
  | false =>
    refine ⟨fun _ => m_lay (b := 97) h1 (by simp) rfl (fun I2 A2 h2 => b26 97 (kM c) I2 A2 (by omega) ⟨fun _ => rfl, fun z => by cases z⟩ h2 k), fun z => absurd hx z⟩
  | true =>
    exact ⟨fun z => absurd (hx.symm.trans z) (by decide), fun _ => m_lay (b := 105) h1 (by simp) rfl (fun I2 A2 h2 => b26 105 (kI c + kL c + kA c) I2 A2 (by omega) ⟨fun z => (by cases z), fun _ => rfl⟩ h2 k)⟩
theorem fl_app {bs : List Nat} {f : Nat → List Nat} {m n B : Nat} (h : (bs ++ fl f n).length ≤ B) (hm : m < n) : (bs ++ fl f m ++ f m).length ≤ B := by
  have := fl_mono (f := f) (m := m + 1) n (by omega)
  rw [fl, List.length_append] at this
  rw [List.length_append] at h
  rw [List.length_append, List.length_append]
  omega
theorem m_tx1 {I0 : NI} {A0 : NNI} {c : Ck} {bs : List Nat} {Q X : NI → NNI → Prop} (hW : WF c) (hC : CM A0 c) (hb : (bs ++ fl (fun k => nb (2 * kv c k) 10) (kI c)).length ≤ 5000) (k : ∀ I' A', WM I0 A0 I' A' (bs ++ fl (fun k => nb (2 * kv c k) 10) (kI c)) → X I' A') : ∀ (j m : Nat) (I : NI) (A : NNI), m + j = kI c → WM I0 A0 I A (bs ++ fl (fun k => nb (2 * kv c k) 10) m) → wp_M_layText_L2 Q X (j + 1) I A (nI m) := by
  have hvl := hW.2.1.1
  have hI := hW.1.2.1
  intro j
  induction j with
  | zero =>
    intro m I A hl h
    unfold wp_M_layText_L2
    have hm : m = kI c := by omega
    have e1 : A 2 1 = nI (kI c) := by rw [h.2.2.2 2 (by decide)]; exact hC.1.2.1
    exact pk_le (kI c) m (fun _ => k I A (hm ▸ h)) (fun g => absurd g (by omega)) e1 rfl
  | succ j ih =>
    intro m I A hl h
    unfold wp_M_layText_L2
    have e1 : A 2 1 = nI (kI c) := by rw [h.2.2.2 2 (by decide)]; exact hC.1.2.1
    have hv := hW.v400 (getD_mem (d := 0) (show m < (kV c).length by omega))
    have hv2 : kv c m ≤ 400 := hv.2
    have e : A 3 m = nI (2 * kv c m) := by
      rw [h.2.2.2 3 (by decide)]
      exact (hC.2.1 m (by omega)).1 (by omega)
    refine pk_le (kI c) m (fun g => absurd g (by omega)) (fun _ => ⟨pk_in m 12 (by omega), ?_⟩) e1 rfl
    rw [nI_clamp (n := m) (by omega), e, nI_1]
    have hb2 := fl_app hb (show m < kI c by omega)
    refine m_layN (b := 10) h rfl rfl (by omega) hb2 (fun I1 A1 h1 => ih (m + 1) I1 A1 (by omega) ?_)
    rw [fl]
    simpa only [List.append_assoc] using h1
theorem m_tx2 {I0 : NI} {A0 : NNI} {c : Ck} {bs : List Nat} {Q X : NI → NNI → Prop} (hW : WF c) (hC : CM A0 c) (hb : (bs ++ fl (fun k => nb (2 * kv c (kI c + k)) 32 ++ nb (ku c k) 10) (kL c)).length ≤ 5000) (k : ∀ I' A', WM I0 A0 I' A' (bs ++ fl (fun k => nb (2 * kv c (kI c + k)) 32 ++ nb (ku c k) 10) (kL c)) → X I' A') : ∀ (j m : Nat) (I : NI) (A : NNI), m + j = kL c → WM I0 A0 I A (bs ++ fl (fun k => nb (2 * kv c (kI c + k)) 32 ++ nb (ku c k) 10) m) → wp_M_layText_L32 Q X (j + 1) I A (nI m) := by
  have hvl := hW.2.1.1
  have hul := hW.2.2.1.1
  have hL := hW.1.2.2.1
  intro j
  induction j with
  | zero =>
    intro m I A hl h
    unfold wp_M_layText_L32
    have hm : m = kL c := by omega
    have e1 : A 2 2 = nI (kL c) := by rw [h.2.2.2 2 (by decide)]; exact hC.1.2.2.1
    exact pk_le (kL c) m (fun _ => k I A (hm ▸ h)) (fun g => absurd g (by omega)) e1 rfl
  | succ j ih =>
    intro m I A hl h
    unfold wp_M_layText_L32
    have e1 : A 2 2 = nI (kL c) := by rw [h.2.2.2 2 (by decide)]; exact hC.1.2.2.1
    have hv := hW.v400 (getD_mem (d := 0) (show kI c + m < (kV c).length by omega))
    have hv2 : kv c (kI c + m) ≤ 400 := hv.2
    have hu : ku c m ≤ 801 := hW.u801 (getD_mem (by omega))
    have e : A 4 m = nI (2 * kv c (kI c + m)) := by
      rw [h.2.2.2 4 (by decide)]
      have := (hC.2.1 (kI c + m) (by omega)).2.1 (by omega) (by omega)
      rw [show kI c + m - kI c = m by omega] at this
      exact this
    refine pk_le (kL c) m (fun g => absurd g (by omega)) (fun _ => ⟨pk_in m 16 (by omega), ?_⟩) e1 rfl
    rw [nI_clamp (n := m) (by omega), e, nI_1]
    have hb2 := fl_app hb (show m < kL c by omega)
    rw [← List.append_assoc] at hb2
    refine m_layN (b := 32) h rfl rfl (by omega) (app_len hb2) (fun I1 A1 h1 => ?_)
    have e2 : A1 5 m = nI (ku c m) := by
      rw [h1.2.2.2 5 (by decide)]
      exact (hC.2.2.2.1 m (by omega)).1 (by omega)
    rw [e2]
    refine m_layN (b := 10) h1 rfl rfl (by omega) hb2 (fun I2 A2 h2 => ih (m + 1) I2 A2 (by omega) ?_)
    rw [fl]
    simpa only [List.append_assoc] using h2
theorem m_tx3 {I0 : NI} {A0 : NNI} {c : Ck} {bs : List Nat} {Q X : NI → NNI → Prop} (hW : WF c) (hC : CM A0 c) (hb : (bs ++ fl (fun k => nb (ku c (kL c + k)) 10) (kO c)).length ≤ 5000) (k : ∀ I' A', WM I0 A0 I' A' (bs ++ fl (fun k => nb (ku c (kL c + k)) 10) (kO c)) → X I' A') : ∀ (j m : Nat) (I : NI) (A : NNI), m + j = kO c → WM I0 A0 I A (bs ++ fl (fun k => nb (ku c (kL c + k)) 10) m) → wp_M_layText_L74 Q X (j + 1) I A (nI m) := by
  have hul := hW.2.2.1.1
  have hO := hW.1.2.2.2.1
  intro j
  induction j with
  | zero =>
    intro m I A hl h
    unfold wp_M_layText_L74
    have hm : m = kO c := by omega
    have e1 : A 2 3 = nI (kO c) := by rw [h.2.2.2 2 (by decide)]; exact hC.1.2.2.2.1
    exact pk_le (kO c) m (fun _ => k I A (hm ▸ h)) (fun g => absurd g (by omega)) e1 rfl
  | succ j ih =>
    intro m I A hl h
    unfold wp_M_layText_L74
    have e1 : A 2 3 = nI (kO c) := by rw [h.2.2.2 2 (by decide)]; exact hC.1.2.2.2.1
    have hu : ku c (kL c + m) ≤ 801 := hW.u801 (getD_mem (by omega))
    have e : A 6 m = nI (ku c (kL c + m)) := by
      rw [h.2.2.2 6 (by decide)]
      have := (hC.2.2.2.1 (kL c + m) (by omega)).2.1 (by omega) (by omega)
      rw [show kL c + m - kL c = m by omega] at this
      exact this
    refine pk_le (kO c) m (fun g => absurd g (by omega)) (fun _ => ⟨pk_in m 16 (by omega), ?_⟩) e1 rfl
    rw [nI_clamp (n := m) (by omega), e, nI_1]
    have hb2 := fl_app hb (show m < kO c by omega)
    refine m_layN (b := 10) h rfl rfl (by omega) hb2 (fun I1 A1 h1 => ih (m + 1) I1 A1 (by omega) ?_)
    rw [fl]
    simpa only [List.append_assoc] using h1
theorem m_and {A : NNI} {c : Ck} (hW : WF c) (hC : CM A c) {m : Nat} (hm : m < kA c) : A 7 m = nI (2 * kav c m) ∧ (1 ≤ kav c m ∧ kav c m ≤ 400) ∧ A 8 m = nI (kl1 c m) ∧ kl1 c m ≤ 801 ∧ A 9 m = nI (kl2 c m) ∧ kl2 c m ≤ 801 := by
  have hvl := hW.2.1.1
  have hul := hW.2.2.1.1
  refine ⟨?_, hW.v400 (getD_mem (by omega)), (hC.2.2.2.1 (kL c + kO c + 2 * m) (by omega)).2.2.1 m rfl, hW.u801 (getD_mem (by omega)), (hC.2.2.2.1 (kL c + kO c + 2 * m + 1) (by omega)).2.2.2 m rfl, hW.u801 (getD_mem (by omega))⟩
  have := (hC.2.1 (kI c + kL c + m) (by omega)).2.2 (by omega)
  rw [show kI c + kL c + m - kI c - kL c = m by omega] at this
  exact this
theorem m_tx4 {I0 : NI} {A0 : NNI} {c : Ck} {bs : List Nat} {Q X : NI → NNI → Prop} (hW : WF c) (hC : CM A0 c) (hb : (bs ++ fl (fun k => nb (2 * kav c k) 32 ++ nb (kl1 c k) 32 ++ nb (kl2 c k) 10) (kA c)).length ≤ 5000) (k : ∀ I' A', WM I0 A0 I' A' (bs ++ fl (fun k => nb (2 * kav c k) 32 ++ nb (kl1 c k) 32 ++ nb (kl2 c k) 10) (kA c)) → X I' A') : ∀ (j m : Nat) (I : NI) (A : NNI), m + j = kA c → WM I0 A0 I A (bs ++ fl (fun k => nb (2 * kav c k) 32 ++ nb (kl1 c k) 32 ++ nb (kl2 c k) 10) m) → wp_M_layText_L104 Q X (j + 1) I A (nI m) := by
  have hA := hW.1.2.2.2.2
  intro j
  induction j with
  | zero =>
    intro m I A hl h
    unfold wp_M_layText_L104
    have hm : m = kA c := by omega
    have e1 : A 2 4 = nI (kA c) := by rw [h.2.2.2 2 (by decide)]; exact hC.1.2.2.2.2
    exact pk_le (kA c) m (fun _ => k I A (hm ▸ h)) (fun g => absurd g (by omega)) e1 rfl
  | succ j ih =>
    intro m I A hl h
    unfold wp_M_layText_L104
    have e1 : A 2 4 = nI (kA c) := by rw [h.2.2.2 2 (by decide)]; exact hC.1.2.2.2.2
    obtain ⟨d1, ⟨d2, d3⟩, d4, d5, d6, d7⟩ := m_and hW hC (show m < kA c by omega)
    have e : A 7 m = nI (2 * kav c m) := by rw [h.2.2.2 7 (by decide)]; exact d1
    refine pk_le (kA c) m (fun g => absurd g (by omega)) (fun _ => ⟨pk_in m 600 (by omega), ?_⟩) e1 rfl
    rw [nI_clamp (n := m) (by omega), e, nI_1]
    have hb2 := fl_app hb (show m < kA c by omega)
    rw [← List.append_assoc, ← List.append_assoc] at hb2
    refine m_layN (b := 32) h rfl rfl (by omega) (app_len (app_len hb2)) (fun I1 A1 h1 => ?_)
    rw [show A1 8 m = nI (kl1 c m) by rw [h1.2.2.2 8 (by decide)]; exact d4]
    refine m_layN (b := 32) h1 rfl rfl (by omega) (app_len hb2) (fun I2 A2 h2 => ?_)
    rw [show A2 9 m = nI (kl2 c m) by rw [h2.2.2.2 9 (by decide)]; exact d6]
    refine m_layN (b := 10) h2 rfl rfl (by omega) hb2 (fun I3 A3 h3 => ih (m + 1) I3 A3 (by omega) ?_)
    rw [fl]
    simpa only [List.append_assoc] using h3
theorem m_bn1 {I0 : NI} {A0 : NNI} {c : Ck} {bs : List Nat} {Q X : NI → NNI → Prop} (hW : WF c) (hC : CM A0 c) (hN : NWa c (A0 19)) (hb : (bs ++ fl (fun k => nb (rn c (ku c k)) 10) (kL c)).length ≤ 5000) (k : ∀ I' A', WM I0 A0 I' A' (bs ++ fl (fun k => nb (rn c (ku c k)) 10) (kL c)) → X I' A') : ∀ (j m : Nat) (I : NI) (A : NNI), m + j = kL c → WM I0 A0 I A (bs ++ fl (fun k => nb (rn c (ku c k)) 10) m) → wp_M_layBinary_L2 Q X (j + 1) I A (nI m) := by
  have hul := hW.2.2.1.1
  have hL := hW.1.2.2.1
  intro j
  induction j with
  | zero =>
    intro m I A hl h
    unfold wp_M_layBinary_L2
    have hm : m = kL c := by omega
    have e1 : A 2 2 = nI (kL c) := by rw [h.2.2.2 2 (by decide)]; exact hC.1.2.2.1
    exact pk_le (kL c) m (fun _ => k I A (hm ▸ h)) (fun g => absurd g (by omega)) e1 rfl
  | succ j ih =>
    intro m I A hl h
    unfold wp_M_layBinary_L2
    have e1 : A 2 2 = nI (kL c) := by rw [h.2.2.2 2 (by decide)]; exact hC.1.2.2.1
    have hu : ku c m ≤ 801 := hW.u801 (getD_mem (by omega))
    have hr := rn_le hW (ku c m)
    have e2 : A 5 m = nI (ku c m) := by
      rw [h.2.2.2 5 (by decide)]
      exact (hC.2.2.2.1 m (by omega)).1 (by omega)
    refine pk_le (kL c) m (fun g => absurd g (by omega)) (fun _ => ⟨pk_in m 16 (by omega), ?_⟩) e1 rfl
    rw [nI_clamp (n := m) (by omega), e2, nI_1]
    have hb2 := fl_app hb (show m < kL c by omega)
    refine m_ren hW (by rw [h.2.2.2 19 (by decide)]; exact hN) rfl (use_in hW (by omega)) hu (m_layN (b := 10) h rfl rfl (by omega) hb2 (fun I1 A1 h1 => ih (m + 1) I1 A1 (by omega) ?_))
    rw [fl]
    simpa only [List.append_assoc] using h1
theorem m_bn2 {I0 : NI} {A0 : NNI} {c : Ck} {bs : List Nat} {Q X : NI → NNI → Prop} (hW : WF c) (hC : CM A0 c) (hN : NWa c (A0 19)) (hb : (bs ++ fl (fun k => nb (rn c (ku c (kL c + k))) 10) (kO c)).length ≤ 5000) (k : ∀ I' A', WM I0 A0 I' A' (bs ++ fl (fun k => nb (rn c (ku c (kL c + k))) 10) (kO c)) → X I' A') : ∀ (j m : Nat) (I : NI) (A : NNI), m + j = kO c → WM I0 A0 I A (bs ++ fl (fun k => nb (rn c (ku c (kL c + k))) 10) m) → wp_M_layBinary_L36 Q X (j + 1) I A (nI m) := by
  have hul := hW.2.2.1.1
  have hO := hW.1.2.2.2.1
  intro j
  induction j with
  | zero =>
    intro m I A hl h
    unfold wp_M_layBinary_L36
    have hm : m = kO c := by omega
    have e1 : A 2 3 = nI (kO c) := by rw [h.2.2.2 2 (by decide)]; exact hC.1.2.2.2.1
    exact pk_le (kO c) m (fun _ => k I A (hm ▸ h)) (fun g => absurd g (by omega)) e1 rfl
  | succ j ih =>
    intro m I A hl h
    unfold wp_M_layBinary_L36
    have e1 : A 2 3 = nI (kO c) := by rw [h.2.2.2 2 (by decide)]; exact hC.1.2.2.2.1
    have hu : ku c (kL c + m) ≤ 801 := hW.u801 (getD_mem (by omega))
    have hr := rn_le hW (ku c (kL c + m))
    have e2 : A 6 m = nI (ku c (kL c + m)) := by
      rw [h.2.2.2 6 (by decide)]
      have := (hC.2.2.2.1 (kL c + m) (by omega)).2.1 (by omega) (by omega)
      rw [show kL c + m - kL c = m by omega] at this
      exact this
    refine pk_le (kO c) m (fun g => absurd g (by omega)) (fun _ => ⟨pk_in m 16 (by omega), ?_⟩) e1 rfl
    rw [nI_clamp (n := m) (by omega), e2, nI_1]
    have hb2 := fl_app hb (show m < kO c by omega)
    refine m_ren hW (by rw [h.2.2.2 19 (by decide)]; exact hN) rfl (use_in hW (by omega)) hu (m_layN (b := 10) h rfl rfl (by omega) hb2 (fun I1 A1 h1 => ih (m + 1) I1 A1 (by omega) ?_))
    rw [fl]
    simpa only [List.append_assoc] using h1
theorem m_bn3 {I0 : NI} {A0 : NNI} {c : Ck} {bs : List Nat} {Q X : NI → NNI → Prop} (hW : WF c) (hC : CM A0 c) (hN : NWa c (A0 19)) (hP : OM A0 (kP c)) (hb : (bs ++ fl (bd c) (kA c)).length ≤ 5000) (k : ∀ I' A', WM I0 A0 I' A' (bs ++ fl (bd c) (kA c)) → X I' A') : ∀ (j m : Nat) (I : NI) (A : NNI), m + j = kA c → WM I0 A0 I A (bs ++ fl (bd c) m) → wp_M_layBinary_L70 Q X (j + 1) I A (nI m) := by
  have hA := hW.1.2.2.2.2
  have hpl := hW.2.2.2.2.1
  have hvl := hW.2.1.1
  intro j
  induction j with
  | zero =>
    intro m I A hl h
    unfold wp_M_layBinary_L70
    have hm : m = kA c := by omega
    have e1 : A 2 4 = nI (kA c) := by rw [h.2.2.2 2 (by decide)]; exact hC.1.2.2.2.2
    exact pk_le (kA c) m (fun _ => k I A (hm ▸ h)) (fun g => absurd g (by omega)) e1 rfl
  | succ j ih =>
    intro m I A hl h
    unfold wp_M_layBinary_L70
    have e1 : A 2 4 = nI (kA c) := by rw [h.2.2.2 2 (by decide)]; exact hC.1.2.2.2.2
    have e18 : A 18 m = nI ((kP c).getD m 0) := by rw [h.2.2.2 18 (by decide)]; exact hP m (by omega)
    obtain ⟨p1, p2, p3, p4, p5⟩ := P_and hW (show m < kA c by omega)
    obtain ⟨d1, ⟨d2, d3⟩, d4, d5, d6, d7⟩ := m_and hW hC p1
    obtain ⟨k1, k2⟩ := op_kn hW p1
    obtain ⟨r1, r2⟩ := rn_op hW (show m < kA c by omega)
    have hav : kav c ((kP c).getD m 0) ∈ kV c := getD_mem (by omega)
    have b1 := rn_le hW (kl1 c ((kP c).getD m 0))
    have b2 := rn_le hW (kl2 c ((kP c).getD m 0))
    have b3 := nwc_le c (kav c ((kP c).getD m 0))
    have b4 := kN0_le hW
    have hN1 : NWa c (A 19) := by rw [h.2.2.2 19 (by decide)]; exact hN
    have e7 : A 7 ((kP c).getD m 0) = nI (2 * kav c ((kP c).getD m 0)) := by rw [h.2.2.2 7 (by decide)]; exact d1
    have e8 : A 8 ((kP c).getD m 0) = nI (kl1 c ((kP c).getD m 0)) := by rw [h.2.2.2 8 (by decide)]; exact d4
    have e9 : A 9 ((kP c).getD m 0) = nI (kl2 c ((kP c).getD m 0)) := by rw [h.2.2.2 9 (by decide)]; exact d6
    have er : rn c (2 * kav c ((kP c).getD m 0)) = 2 * nwc c (kav c ((kP c).getD m 0)) := by
      unfold rn
      rw [show 2 * kav c ((kP c).getD m 0) / 2 = kav c ((kP c).getD m 0) by omega]
      omega
    have hb2 := fl_app hb (show m < kA c by omega)
    refine pk_le (kA c) m (fun g => absurd g (by omega)) (fun _ => ⟨pk_in m 300 (by omega), ?_⟩) e1 rfl
    rw [nI_clamp (n := m) (by omega), e18, nI_clamp (n := (kP c).getD m 0) (by omega), e8, e9]
    refine ⟨pk_in ((kP c).getD m 0) 600 (by omega), m_ren hW hN1 rfl k1 d5 (m_ren hW hN1 rfl k2 d7 ?_)⟩
    unfold wp_M_layBinary_b124
    rw [nI_clamp (n := (kP c).getD m 0) (by omega), e7, nI_1]
    have kk2 : ∀ I1 A1, WM I0 A0 I1 A1 (bs ++ fl (bd c) m ++ bd c m) → wp_M_layBinary_L70 Q X (j + 1) I1 A1 (nI (m + 1)) := fun I1 A1 h1 => ih (m + 1) I1 A1 (by omega) (by rw [fl]; simpa only [List.append_assoc] using h1)
    have hr : ∀ (Q2 : Int32 → Prop), Q2 (nI (2 * nwc c (kav c ((kP c).getD m 0)))) → wp_M_renamed A (nI (2 * kav c ((kP c).getD m 0))) Q2 := fun Q2 hq => m_ren hW hN1 rfl (Or.inr (by rw [show 2 * kav c ((kP c).getD m 0) / 2 = kav c ((kP c).getD m 0) by omega]; exact hav)) (by omega) (by rw [er]; exact hq)
    unfold bd at hb2 kk2
    generalize rn c (kl1 c ((kP c).getD m 0)) = a at *
    generalize rn c (kl2 c ((kP c).getD m 0)) = b at *
    generalize nwc c (kav c ((kP c).getD m 0)) = v at *
    rw [← List.append_assoc] at hb2
    refine pk_le a b (fun g => ⟨pk_in ((kP c).getD m 0) 600 (by omega), hr _ ?_⟩) (fun g => ⟨pk_in ((kP c).getD m 0) 600 (by omega), hr _ ?_⟩)
    · rw [show max a b = b by omega, show min a b = a by omega] at hb2 kk2
      rw [pk_sub (by omega)]
      refine m_layD h rfl (by omega) (app_len hb2) (fun I1 A1 h1 => pk_le a b (fun _ => ?_) (fun g2 => absurd g2 (by omega)))
      rw [pk_sub (by omega)]
      refine m_layD h1 rfl (by omega) hb2 (fun I2 A2 h2 => kk2 I2 A2 ?_)
      rw [← List.append_assoc]
      exact h2
    · rw [show max a b = a by omega, show min a b = b by omega] at hb2 kk2
      rw [pk_sub (by omega)]
      refine m_layD h rfl (by omega) (app_len hb2) (fun I1 A1 h1 => pk_le a b (fun g2 => absurd g2 (by omega)) (fun _ => ?_))
      rw [pk_sub (by omega)]
      refine m_layD h1 rfl (by omega) hb2 (fun I2 A2 h2 => kk2 I2 A2 ?_)
      rw [← List.append_assoc]
      exact h2
