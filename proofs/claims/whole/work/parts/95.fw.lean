/-! the class writes both forms; how long they are -/
theorem s_tx1 {w : Int32} {f : Nat → Int32} {IC : NI} {AC : NNI} {c : Ck} {bs : List Nat} {Q X : NI → NNI → Prop} (hW : WF c) (hC : CC IC AC c) (k : ∀ I' A', WX w f I' A' (bs ++ fl (fun k => nb (2 * kv c k) 10) (kI c)) → X I' A') : ∀ (j m : Nat) (I : NI) (A : NNI), m + j = kI c → WX w f I A (bs ++ fl (fun k => nb (2 * kv c k) 10) m) → wp_X_writeText_L26 IC AC Q X (j + 1) I A (nI m) := by
  have hvl := hW.2.1.1
  have hI := hW.1.2.1
  intro j
  induction j with
  | zero =>
    intro m I A hl h
    unfold wp_X_writeText_L26
    have hm : m = kI c := by omega
    exact pk_le (kI c) m (fun _ => k I A (hm ▸ h)) (fun g => absurd g (by omega)) hC.1.2.1 rfl
  | succ j ih =>
    intro m I A hl h
    unfold wp_X_writeText_L26
    have hv := hW.v400 (getD_mem (d := 0) (show m < (kV c).length by omega))
    have hv2 : kv c m ≤ 400 := hv.2
    have e : (2 : Int32) * AC 0 m = nI (2 * kv c m) := by
      rw [(hC.2.1.1 m (by omega)).1 (by omega)]
      exact pk_mul 2 _
    refine pk_le (kI c) m (fun g => absurd g (by omega)) (fun _ => ⟨pk_in m 6 (by omega), ?_⟩) hC.1.2.1 rfl
    rw [nI_clamp (n := m) (by omega), e, nI_1]
    refine s_num0 (b := 10) h rfl rfl (by omega) (fun I1 A1 h1 => ih (m + 1) I1 A1 (by omega) ?_)
    rw [fl]
    simpa only [List.append_assoc] using h1
theorem s_tx2 {w : Int32} {f : Nat → Int32} {IC : NI} {AC : NNI} {c : Ck} {bs : List Nat} {Q X : NI → NNI → Prop} (hW : WF c) (hC : CC IC AC c) (k : ∀ I' A', WX w f I' A' (bs ++ fl (fun k => nb (2 * kv c (kI c + k)) 32 ++ nb (ku c k) 10) (kL c)) → X I' A') : ∀ (j m : Nat) (I : NI) (A : NNI), m + j = kL c → WX w f I A (bs ++ fl (fun k => nb (2 * kv c (kI c + k)) 32 ++ nb (ku c k) 10) m) → wp_X_writeText_L56 IC AC Q X (j + 1) I A (nI m) := by
  have hvl := hW.2.1.1
  have hul := hW.2.2.1.1
  have hL := hW.1.2.2.1
  intro j
  induction j with
  | zero =>
    intro m I A hl h
    unfold wp_X_writeText_L56
    have hm : m = kL c := by omega
    exact pk_le (kL c) m (fun _ => k I A (hm ▸ h)) (fun g => absurd g (by omega)) hC.1.2.2.1 rfl
  | succ j ih =>
    intro m I A hl h
    unfold wp_X_writeText_L56
    have hv := hW.v400 (getD_mem (d := 0) (show kI c + m < (kV c).length by omega))
    have hv2 : kv c (kI c + m) ≤ 400 := hv.2
    have hu : ku c m ≤ 801 := hW.u801 (getD_mem (by omega))
    have e : (2 : Int32) * AC 1 m = nI (2 * kv c (kI c + m)) := by
      have := (hC.2.1.1 (kI c + m) (by omega)).2.1 (by omega) (by omega)
      rw [show kI c + m - kI c = m by omega] at this
      rw [this]
      exact pk_mul 2 _
    have e2 : AC 2 m = nI (ku c m) := (hC.2.2.1 m (by omega)).1 (by omega)
    refine pk_le (kL c) m (fun g => absurd g (by omega)) (fun _ => ⟨pk_in m 7 (by omega), ?_⟩) hC.1.2.2.1 rfl
    rw [nI_clamp (n := m) (by omega), e, e2, nI_1]
    refine s_num0 (b := 32) h rfl rfl (by omega) (fun I1 A1 h1 => s_num0 (b := 10) h1 rfl rfl (by omega) (fun I2 A2 h2 => ih (m + 1) I2 A2 (by omega) ?_))
    rw [fl]
    simpa only [List.append_assoc] using h2
theorem s_tx3 {w : Int32} {f : Nat → Int32} {IC : NI} {AC : NNI} {c : Ck} {bs : List Nat} {Q X : NI → NNI → Prop} (hW : WF c) (hC : CC IC AC c) (k : ∀ I' A', WX w f I' A' (bs ++ fl (fun k => nb (ku c (kL c + k)) 10) (kO c)) → X I' A') : ∀ (j m : Nat) (I : NI) (A : NNI), m + j = kO c → WX w f I A (bs ++ fl (fun k => nb (ku c (kL c + k)) 10) m) → wp_X_writeText_L98 IC AC Q X (j + 1) I A (nI m) := by
  have hul := hW.2.2.1.1
  have hO := hW.1.2.2.2.1
  intro j
  induction j with
  | zero =>
    intro m I A hl h
    unfold wp_X_writeText_L98
    have hm : m = kO c := by omega
    exact pk_le (kO c) m (fun _ => k I A (hm ▸ h)) (fun g => absurd g (by omega)) hC.1.2.2.2.1 rfl
  | succ j ih =>
    intro m I A hl h
    unfold wp_X_writeText_L98
    have hu : ku c (kL c + m) ≤ 801 := hW.u801 (getD_mem (by omega))
    have e2 : AC 3 m = nI (ku c (kL c + m)) := by
      have := (hC.2.2.1 (kL c + m) (by omega)).2.1 (by omega) (by omega)
      rw [show kL c + m - kL c = m by omega] at this
      exact this
    refine pk_le (kO c) m (fun g => absurd g (by omega)) (fun _ => ⟨pk_in m 8 (by omega), ?_⟩) hC.1.2.2.2.1 rfl
    rw [nI_clamp (n := m) (by omega), e2, nI_1]
    refine s_num0 (b := 10) h rfl rfl (by omega) (fun I1 A1 h1 => ih (m + 1) I1 A1 (by omega) ?_)
    rw [fl]
    simpa only [List.append_assoc] using h1
theorem c_and {IC : NI} {AC : NNI} {c : Ck} (hW : WF c) (hC : CC IC AC c) {m : Nat} (hm : m < kA c) : AC 4 m = nI (kav c m) ∧ (1 ≤ kav c m ∧ kav c m ≤ 400) ∧ AC 5 m = nI (kl1 c m) ∧ kl1 c m ≤ 801 ∧ AC 6 m = nI (kl2 c m) ∧ kl2 c m ≤ 801 := by
  have hvl := hW.2.1.1
  have hul := hW.2.2.1.1
  refine ⟨?_, hW.v400 (getD_mem (by omega)), (hC.2.2.1 (kL c + kO c + 2 * m) (by omega)).2.2.1 m rfl, hW.u801 (getD_mem (by omega)), (hC.2.2.1 (kL c + kO c + 2 * m + 1) (by omega)).2.2.2 m rfl, hW.u801 (getD_mem (by omega))⟩
  have := (hC.2.1.1 (kI c + kL c + m) (by omega)).2.2 (by omega)
  rw [show kI c + kL c + m - kI c - kL c = m by omega] at this
  exact this
theorem s_tx4 {w : Int32} {f : Nat → Int32} {IC : NI} {AC : NNI} {c : Ck} {bs : List Nat} {Q X : NI → NNI → Prop} (hW : WF c) (hC : CC IC AC c) (k : ∀ I' A', WX w f I' A' (bs ++ fl (fun k => nb (2 * kav c k) 32 ++ nb (kl1 c k) 32 ++ nb (kl2 c k) 10) (kA c)) → X I' A') : ∀ (j m : Nat) (I : NI) (A : NNI), m + j = kA c → WX w f I A (bs ++ fl (fun k => nb (2 * kav c k) 32 ++ nb (kl1 c k) 32 ++ nb (kl2 c k) 10) m) → wp_X_writeText_L126 IC AC Q X (j + 1) I A (nI m) := by
  have hA := hW.1.2.2.2.2
  intro j
  induction j with
  | zero =>
    intro m I A hl h
    unfold wp_X_writeText_L126
    have hm : m = kA c := by omega
    exact pk_le (kA c) m (fun _ => k I A (hm ▸ h)) (fun g => absurd g (by omega)) hC.1.2.2.2.2 rfl
  | succ j ih =>
    intro m I A hl h
    unfold wp_X_writeText_L126
    obtain ⟨d1, ⟨d2, d3⟩, d4, d5, d6, d7⟩ := c_and hW hC (show m < kA c by omega)
    have e : (2 : Int32) * AC 4 m = nI (2 * kav c m) := by rw [d1]; exact pk_mul 2 _
    refine pk_le (kA c) m (fun g => absurd g (by omega)) (fun _ => ⟨pk_in m 300 (by omega), ?_⟩) hC.1.2.2.2.2 rfl
    rw [nI_clamp (n := m) (by omega), e, d4, d6, nI_1]
    refine s_num0 (b := 32) h rfl rfl (by omega) (fun I1 A1 h1 => s_num0 (b := 32) h1 rfl rfl (by omega) (fun I2 A2 h2 => s_num0 (b := 10) h2 rfl rfl (by omega) (fun I3 A3 h3 => ih (m + 1) I3 A3 (by omega) ?_)))
    rw [fl]
    simpa only [List.append_assoc] using h3
theorem s_text {IX IC : NI} {AX AC : NNI} {c : Ck} {Q : NI → NNI → Prop} (hW : WF c) (hC : CC IC AC c) (h : (IX 1 = 0 ∧ IX 0 = 0) ∨ WX 1 (AX 1) IX AX (fText c)) (k : ∀ I' A', WX 1 (AX 1) I' A' (fText c) → Q I' A') : wp_X_writeText IX AX IC AC Q := by
  unfold wp_X_writeText
  have hM := hW.1.1
  refine ⟨fun g => ?_, fun g => k _ _ (h.resolve_left fun z => g z.1)⟩
  have h0 : IX 0 = 0 := by
    rcases h with z | z
    · exact z.2
    · exact absurd (z.2.2.1.symm.trans g) (by decide)
  have hw : WX 1 (AX 1) (va_up IX 1 1) AX [] := ⟨h0, fun i hi => absurd hi (Nat.not_lt_zero i), rfl, rfl⟩
  refine s_hdr (letter := 97) hW hC.1 hw rfl hC.1.1 (by omega) (fun I1 A1 h1 => ?_)
  refine ⟨kI c + 1, s_tx1 hW hC (fun I2 A2 h2 => ?_) (kI c) 0 I1 A1 (by omega) (by rw [fl, List.append_nil]; exact h1)⟩
  refine ⟨kL c + 1, s_tx2 hW hC (fun I3 A3 h3 => ?_) (kL c) 0 I2 A2 (by omega) (by rw [fl, List.append_nil]; exact h2)⟩
  refine ⟨kO c + 1, s_tx3 hW hC (fun I4 A4 h4 => ?_) (kO c) 0 I3 A3 (by omega) (by rw [fl, List.append_nil]; exact h3)⟩
  refine ⟨kA c + 1, s_tx4 hW hC (fun I5 A5 h5 => ?_) (kA c) 0 I4 A4 (by omega) (by rw [fl, List.append_nil]; exact h4)⟩
  exact s_sy hW hC.1 hC.2.2.2.1 h5 (fun I6 A6 h6 => k I6 A6 h6)
/-! new numbers in the class -/
def NX (c : Ck) (A0 A : NNI) (m : Nat) : Prop := (∀ a, a ≠ 1 → A a = A0 a) ∧ A 1 0 = 0 ∧ ∀ i, i < m → A 1 (nv c i) = nI (i + 1)
theorem NX_s {c : Ck} {A0 A : NNI} {m v : Nat} (hW : WF c) (h : NX c A0 A m) (hm : m < kN0 c + kA c) (hv : v = nv c m) : NX c A0 (va_up A 1 (upd (A 1) v (nI (m + 1)))) (m + 1) := by
  have hp := nv_pos hW hm
  subst hv
  refine ⟨fun a ha => by rw [va_up_ne _ _ ha]; exact h.1 a ha, ?_, fun i hi => ?_⟩
  · show upd (A 1) (nv c m) (nI (m + 1)) 0 = 0
    rw [pk_un (by omega)]
    exact h.2.1
  · show upd (A 1) (nv c m) (nI (m + 1)) (nv c i) = _
    by_cases e : i = m
    · subst e; exact pk_us
    · rw [pk_un (fun z => e (nv_inj hW (by omega) hm z))]
      exact h.2.2 i (by omega)
theorem s_nw1 {IC : NI} {AC A0 : NNI} {c : Ck} {Q : NNI → Prop} {X : NNI → Int32 → Prop} (hW : WF c) (hC : CC IC AC c) (k : ∀ A, NX c A0 A (kI c) → X A (nI (kI c))) : ∀ (j m : Nat) (A : NNI), m + j = kI c → NX c A0 A m → wp_X_numberAnew_L4 IC AC Q X (j + 1) A (nI m) (nI m) := by
  have hvl := hW.2.1.1
  have hI := hW.1.2.1
  have e0 : kN0 c = kI c + kL c := rfl
  intro j
  induction j with
  | zero =>
    intro m A hl h
    unfold wp_X_numberAnew_L4
    have hm : m = kI c := by omega
    exact pk_le (kI c) m (fun _ => hm ▸ k A (hm ▸ h)) (fun g => absurd g (by omega)) hC.1.2.1 rfl
  | succ j ih =>
    intro m A hl h
    unfold wp_X_numberAnew_L4
    have hv := hW.v400 (getD_mem (d := 0) (show m < (kV c).length by omega))
    refine pk_le (kI c) m (fun g => absurd g (by omega)) (fun _ => ⟨pk_in m 6 (by omega), ?_⟩) hC.1.2.1 rfl
    rw [nI_clamp (n := m) (by omega), (hC.2.1.1 m (by omega)).1 (by omega), nI_clamp (n := (kV c).getD m 0) (by omega), nI_1]
    exact ⟨pk_in ((kV c).getD m 0) 401 (by omega), ih (m + 1) _ (by omega) (NX_s hW h (by omega) (by unfold nv; rw [if_pos (by omega)]; rfl))⟩
theorem s_nw2 {IC : NI} {AC A0 : NNI} {c : Ck} {Q : NNI → Prop} {X : NNI → Int32 → Prop} (hW : WF c) (hC : CC IC AC c) (k : ∀ A, NX c A0 A (kI c + kL c) → X A (nI (kI c + kL c))) : ∀ (j m : Nat) (A : NNI), m + j = kL c → NX c A0 A (kI c + m) → wp_X_numberAnew_L35 IC AC Q X (j + 1) A (nI (kI c + m)) (nI m) := by
  have hvl := hW.2.1.1
  have hL := hW.1.2.2.1
  have e0 : kN0 c = kI c + kL c := rfl
  intro j
  induction j with
  | zero =>
    intro m A hl h
    unfold wp_X_numberAnew_L35
    have hm : m = kL c := by omega
    exact pk_le (kL c) m (fun _ => hm ▸ k A (hm ▸ h)) (fun g => absurd g (by omega)) hC.1.2.2.1 rfl
  | succ j ih =>
    intro m A hl h
    unfold wp_X_numberAnew_L35
    have hv := hW.v400 (getD_mem (d := 0) (show kI c + m < (kV c).length by omega))
    have e := (hC.2.1.1 (kI c + m) (by omega)).2.1 (by omega) (by omega)
    rw [show kI c + m - kI c = m by omega] at e
    refine pk_le (kL c) m (fun g => absurd g (by omega)) (fun _ => ⟨pk_in m 7 (by omega), ?_⟩) hC.1.2.2.1 rfl
    rw [nI_clamp (n := m) (by omega), e, nI_clamp (n := (kV c).getD (kI c + m) 0) (by omega), nI_1, nI_1]
    exact ⟨pk_in ((kV c).getD (kI c + m) 0) 401 (by omega), ih (m + 1) _ (by omega) (NX_s hW h (by omega) (by unfold nv; rw [if_pos (by omega)]; rfl))⟩
theorem s_nw3 {IC : NI} {AC A0 : NNI} {c : Ck} {Q X : NNI → Prop} (hW : WF c) (hC : CC IC AC c) (k : ∀ A, NX c A0 A (kN0 c + kA c) → X A) : ∀ (j m : Nat) (A : NNI), m + j = kA c → NX c A0 A (kN0 c + m) → wp_X_numberAnew_L66 IC AC Q X (j + 1) A (nI (kN0 c + m)) (nI m) := by
  have hA := hW.1.2.2.2.2
  have hpl := hW.2.2.2.2.1
  intro j
  induction j with
  | zero =>
    intro m A hl h
    unfold wp_X_numberAnew_L66
    have hm : m = kA c := by omega
    exact pk_le (kA c) m (fun _ => k A (hm ▸ h)) (fun g => absurd g (by omega)) hC.1.2.2.2.2 rfl
  | succ j ih =>
    intro m A hl h
    unfold wp_X_numberAnew_L66
    obtain ⟨p1, p2, p3, p4, p5⟩ := P_and hW (show m < kA c by omega)
    obtain ⟨d1, -⟩ := c_and hW hC p1
    refine pk_le (kA c) m (fun g => absurd g (by omega)) (fun _ => ⟨pk_in m 300 (by omega), ?_⟩) hC.1.2.2.2.2 rfl
    rw [nI_clamp (n := m) (by omega), hC.2.2.2.2 m (by omega), nI_clamp (n := (kP c).getD m 0) (by omega), d1, nI_clamp (n := kav c ((kP c).getD m 0)) (by omega), nI_1, nI_1]
    exact ⟨pk_in ((kP c).getD m 0) 300 (by omega), pk_in (kav c ((kP c).getD m 0)) 401 (by omega), ih (m + 1) _ (by omega) (NX_s hW h (by omega) (by unfold nv; rw [if_neg (by omega), show kN0 c + m - kN0 c = m by omega]))⟩
theorem s_nlit {A : NNI} {c : Ck} {l : Nat} {x : Int32} {Q : Int32 → Prop} (hW : WF c) (h0 : A 1 0 = 0) (hN : NWa c (A 1)) (hx : x = nI l) (hl : l / 2 = 0 ∨ l / 2 ∈ kV c) (h8 : l ≤ 801) (k : Q (nI (rn c l))) : wp_X_newLiteral A x Q := by
  unfold wp_X_newLiteral
  rw [hx, shr1 (by omega), nI_clamp (n := l / 2) (by omega), and1 (by omega)]
  refine ⟨pk_in (l / 2) 401 (by omega), ?_⟩
  have e : A 1 (l / 2) = nI (nwc c (l / 2)) := by
    rcases hl with z | z
    · rw [z, h0, nwc_0 hW]; rfl
    · exact hN _ z
  rw [e, show (2 : Int32) = nI 2 from rfl, pk_mul, nI_add]
  exact k
theorem op_kn {c : Ck} (hW : WF c) {p : Nat} (hp : p < kA c) : (kl1 c p / 2 = 0 ∨ kl1 c p / 2 ∈ kV c) ∧ (kl2 c p / 2 = 0 ∨ kl2 c p / 2 ∈ kV c) := by
  have hul := hW.2.2.1.1
  exact ⟨use_in hW (show kL c + kO c + 2 * p < (kU c).length by omega), use_in hW (show kL c + kO c + 2 * p + 1 < (kU c).length by omega)⟩
theorem s_bd {w : Int32} {f : Nat → Int32} {I : NI} {A AC : NNI} {IC : NI} {c : Ck} {bs : List Nat} {m : Nat} {x : Int32} {Q : NI → NNI → Prop} (hW : WF c) (hC : CC IC AC c) (hm : m < kA c) (hx : x = nI ((kP c).getD m 0)) (h : WX w f I A bs) (h0 : f 0 = 0) (hN : NWa c f) (k : ∀ I' A', WX w f I' A' (bs ++ bd c m) → Q I' A') : wp_X_putBinaryAnd I A AC x Q := by
  unfold wp_X_putBinaryAnd
  have hA := hW.1.2.2.2.2
  obtain ⟨p1, p2, p3, p4, p5⟩ := P_and hW hm
  obtain ⟨d1, ⟨d2, d3⟩, d4, d5, d6, d7⟩ := c_and hW hC p1
  obtain ⟨k1, k2⟩ := op_kn hW p1
  obtain ⟨r1, r2⟩ := rn_op hW hm
  have hvl := hW.2.1.1
  have hav : kav c ((kP c).getD m 0) ∈ kV c := getD_mem (by omega)
  have b1 := rn_le hW (kl1 c ((kP c).getD m 0))
  have b2 := rn_le hW (kl2 c ((kP c).getD m 0))
  have b3 := nwc_le c (kav c ((kP c).getD m 0))
  have b4 := kN0_le hW
  have hf1 : A 1 = f := h.2.2.2
  rw [hx, nI_clamp (n := (kP c).getD m 0) (by omega), d1, d4, d6, nI_clamp (n := kav c ((kP c).getD m 0)) (by omega)]
  refine ⟨pk_in ((kP c).getD m 0) 300 (by omega), s_nlit hW (by rw [hf1]; exact h0) (by rw [hf1]; exact hN) rfl k1 d5 (s_nlit hW (by rw [hf1]; exact h0) (by rw [hf1]; exact hN) rfl k2 d7 ⟨pk_in (kav c ((kP c).getD m 0)) 401 (by omega), ?_⟩)⟩
  rw [hf1, hN _ hav]
  unfold bd at k
  generalize rn c (kl1 c ((kP c).getD m 0)) = a at *
  generalize rn c (kl2 c ((kP c).getD m 0)) = b at *
  generalize nwc c (kav c ((kP c).getD m 0)) = v at *
  have eg : (if nI a < nI b then nI b else nI a) = nI (max a b) := by
    by_cases g : a < b
    · rw [if_pos ((nI_ltI (by omega) (by omega)).mpr g), show max a b = b by omega]
    · rw [if_neg (fun z => g ((nI_ltI (by omega) (by omega)).mp z)), show max a b = a by omega]
  have el : (if nI b < nI a then nI b else nI a) = nI (min a b) := by
    by_cases g : b < a
    · rw [if_pos ((nI_ltI (by omega) (by omega)).mpr g), show min a b = b by omega]
    · rw [if_neg (fun z => g ((nI_ltI (by omega) (by omega)).mp z)), show min a b = a by omega]
  rw [eg, el, show (2 : Int32) * nI v = nI (2 * v) from pk_mul 2 v, pk_sub (by omega), pk_sub (by omega)]
  refine s_dlt h rfl (by omega) (fun I1 A1 h1 => s_dlt h1 rfl (by omega) (fun I2 A2 h2 => k I2 A2 ?_))
  simpa only [List.append_assoc] using h2
theorem s_bn1 {w : Int32} {f : Nat → Int32} {IC : NI} {AC : NNI} {c : Ck} {bs : List Nat} {Q X : NI → NNI → Prop} (hW : WF c) (hC : CC IC AC c) (h0 : f 0 = 0) (hN : NWa c f) (k : ∀ I' A', WX w f I' A' (bs ++ fl (fun k => nb (rn c (ku c k)) 10) (kL c)) → X I' A') : ∀ (j m : Nat) (I : NI) (A : NNI), m + j = kL c → WX w f I A (bs ++ fl (fun k => nb (rn c (ku c k)) 10) m) → wp_X_writeBinary_L41 IC AC Q X (j + 1) I A (nI m) := by
  have hul := hW.2.2.1.1
  have hL := hW.1.2.2.1
  intro j
  induction j with
  | zero =>
    intro m I A hl h
    unfold wp_X_writeBinary_L41
    have hm : m = kL c := by omega
    exact pk_le (kL c) m (fun _ => k I A (hm ▸ h)) (fun g => absurd g (by omega)) hC.1.2.2.1 rfl
  | succ j ih =>
    intro m I A hl h
    unfold wp_X_writeBinary_L41
    have hu : ku c m ≤ 801 := hW.u801 (getD_mem (by omega))
    have hr := rn_le hW (ku c m)
    have e2 : AC 2 m = nI (ku c m) := (hC.2.2.1 m (by omega)).1 (by omega)
    have hf1 : A 1 = f := h.2.2.2
    refine pk_le (kL c) m (fun g => absurd g (by omega)) (fun _ => ⟨pk_in m 7 (by omega), ?_⟩) hC.1.2.2.1 rfl
    rw [nI_clamp (n := m) (by omega), e2, nI_1]
    refine s_nlit hW (by rw [hf1]; exact h0) (by rw [hf1]; exact hN) rfl (use_in hW (by omega)) hu (s_num0 (b := 10) h rfl rfl (by omega) (fun I1 A1 h1 => ih (m + 1) I1 A1 (by omega) ?_))
    rw [fl]
    simpa only [List.append_assoc] using h1
theorem s_bn2 {w : Int32} {f : Nat → Int32} {IC : NI} {AC : NNI} {c : Ck} {bs : List Nat} {Q X : NI → NNI → Prop} (hW : WF c) (hC : CC IC AC c) (h0 : f 0 = 0) (hN : NWa c f) (k : ∀ I' A', WX w f I' A' (bs ++ fl (fun k => nb (rn c (ku c (kL c + k))) 10) (kO c)) → X I' A') : ∀ (j m : Nat) (I : NI) (A : NNI), m + j = kO c → WX w f I A (bs ++ fl (fun k => nb (rn c (ku c (kL c + k))) 10) m) → wp_X_writeBinary_L73 IC AC Q X (j + 1) I A (nI m) := by
  have hul := hW.2.2.1.1
  have hO := hW.1.2.2.2.1
  intro j
  induction j with
  | zero =>
    intro m I A hl h
    unfold wp_X_writeBinary_L73
    have hm : m = kO c := by omega
    exact pk_le (kO c) m (fun _ => k I A (hm ▸ h)) (fun g => absurd g (by omega)) hC.1.2.2.2.1 rfl
  | succ j ih =>
    intro m I A hl h
    unfold wp_X_writeBinary_L73
    have hu : ku c (kL c + m) ≤ 801 := hW.u801 (getD_mem (by omega))
    have hr := rn_le hW (ku c (kL c + m))
    have e2 : AC 3 m = nI (ku c (kL c + m)) := by
      have := (hC.2.2.1 (kL c + m) (by omega)).2.1 (by omega) (by omega)
      rw [show kL c + m - kL c = m by omega] at this
      exact this
    have hf1 : A 1 = f := h.2.2.2
    refine pk_le (kO c) m (fun g => absurd g (by omega)) (fun _ => ⟨pk_in m 8 (by omega), ?_⟩) hC.1.2.2.2.1 rfl
    rw [nI_clamp (n := m) (by omega), e2, nI_1]
    refine s_nlit hW (by rw [hf1]; exact h0) (by rw [hf1]; exact hN) rfl (use_in hW (by omega)) hu (s_num0 (b := 10) h rfl rfl (by omega) (fun I1 A1 h1 => ih (m + 1) I1 A1 (by omega) ?_))
    rw [fl]
    simpa only [List.append_assoc] using h1
theorem s_bn3 {w : Int32} {f : Nat → Int32} {IC : NI} {AC : NNI} {c : Ck} {bs : List Nat} {Q X : NI → NNI → Prop} (hW : WF c) (hC : CC IC AC c) (h0 : f 0 = 0) (hN : NWa c f) (k : ∀ I' A', WX w f I' A' (bs ++ fl (bd c) (kA c)) → X I' A') : ∀ (j m : Nat) (I : NI) (A : NNI), m + j = kA c → WX w f I A (bs ++ fl (bd c) m) → wp_X_writeBinary_L105 IC AC Q X (j + 1) I A (nI m) := by
  have hA := hW.1.2.2.2.2
  have hpl := hW.2.2.2.2.1
  intro j
  induction j with
  | zero =>
    intro m I A hl h
    unfold wp_X_writeBinary_L105
    have hm : m = kA c := by omega
    exact pk_le (kA c) m (fun _ => k I A (hm ▸ h)) (fun g => absurd g (by omega)) hC.1.2.2.2.2 rfl
  | succ j ih =>
    intro m I A hl h
    unfold wp_X_writeBinary_L105
    refine pk_le (kA c) m (fun g => absurd g (by omega)) (fun _ => ⟨pk_in m 300 (by omega), ?_⟩) hC.1.2.2.2.2 rfl
    rw [nI_clamp (n := m) (by omega), nI_1]
    refine s_bd hW hC (by omega) (hC.2.2.2.2 m (by omega)) h h0 hN (fun I1 A1 h1 => ih (m + 1) I1 A1 (by omega) ?_)
    rw [fl]
    simpa only [List.append_assoc] using h1
theorem s_binary {IX IC : NI} {AX AC : NNI} {c : Ck} {Q : NI → NNI → Prop} (hW : WF c) (hC : CC IC AC c) (h1z : AX 1 0 = 0) (h : (IX 1 = 0 ∧ IX 0 = 0) ∨ WX 1 (AX 1) IX AX (fBin c)) (k : ∀ I' A', A' 1 0 = 0 → WX 1 (A' 1) I' A' (fBin c) → Q I' A') : wp_X_writeBinary IX AX IC AC Q := by
  unfold wp_X_writeBinary
  obtain ⟨w0, w1, w2, w3, w4⟩ := hW.1
  refine ⟨fun g => ?_, fun g => k _ _ h1z (h.resolve_left fun z => g z.1)⟩
  have h0 : IX 0 = 0 := by
    rcases h with z | z
    · exact z.2
    · exact absurd (z.2.2.1.symm.trans g) (by decide)
  unfold wp_X_numberAnew
  refine ⟨kI c + 1, s_nw1 (A0 := AX) hW hC (fun A1 n1 => ⟨kL c + 1, s_nw2 (A0 := AX) hW hC (fun A2 n2 => ⟨kA c + 1, s_nw3 (A0 := AX) hW hC (fun A3 n3 => ?_) (kA c) 0 A2 (by omega) n2⟩) (kL c) 0 A1 (by omega) n1⟩) (kI c) 0 AX (by omega) ⟨fun a _ => rfl, h1z, fun i hi => absurd hi (by omega)⟩⟩
  have hN := NWa_of hW n3.2.2
  have hz := n3.2.1
  have hw : WX 1 (A3 1) (va_up IX 1 1) A3 [] := ⟨h0, fun i hi => absurd hi (Nat.not_lt_zero i), rfl, rfl⟩
  have et : IC 1 + IC 2 + IC 4 = nI (kI c + kL c + kA c) := by rw [hC.1.2.1, hC.1.2.2.1, hC.1.2.2.2.2, nI_add, nI_add]
  refine s_hdr (letter := 105) hW hC.1 hw rfl et (by omega) (fun I1 A1 h1 => ?_)
  refine ⟨kL c + 1, s_bn1 hW hC hz hN (fun I3 A3 h3 => ?_) (kL c) 0 I1 A1 (by omega) (by rw [fl, List.append_nil]; exact h1)⟩
  refine ⟨kO c + 1, s_bn2 hW hC hz hN (fun I4 A4 h4 => ?_) (kO c) 0 I3 A3 (by omega) (by rw [fl, List.append_nil]; exact h3)⟩
  refine ⟨kA c + 1, s_bn3 hW hC hz hN (fun I5 A5 h5 => ?_) (kA c) 0 I4 A4 (by omega) (by rw [fl, List.append_nil]; exact h4)⟩
  refine s_sy hW hC.1 hC.2.2.2.1 h5 (fun I6 A6 h6 => k I6 A6 ?_ ?_)
  · rw [h6.2.2.2]; exact hz
  · have e : A6 1 = _ := h6.2.2.2
    rw [e]
    exact h6
/-! how long -/
theorem nb_len (n b : Nat) : (nb n b).length ≤ 4 ∧ (n < 10 → (nb n b).length = 2) := by
  unfold nb dg
  by_cases g1 : 100 ≤ n
  · rw [if_pos g1, if_pos (show 10 ≤ n by omega)]
    simp
    omega
  · rw [if_neg g1]
    by_cases g2 : 10 ≤ n
    · rw [if_pos g2]
      simp
      omega
    · rw [if_neg g2]
      simp
theorem fl_len {f : Nat → List Nat} {B : Nat} : ∀ n, (∀ k, k < n → (f k).length ≤ B) → (fl f n).length ≤ n * B := by
  intro n
  induction n with
  | zero => intro _; exact Nat.zero_le _
  | succ n ih =>
    intro h
    rw [fl, List.length_append, Nat.succ_mul]
    have := ih fun k hk => h k (by omega)
    have := h n (by omega)
    omega
theorem fl_mono {f : Nat → List Nat} {m : Nat} : ∀ n, m ≤ n → (fl f m).length ≤ (fl f n).length := by
  intro n
  induction n with
  | zero => intro h; rw [show m = 0 by omega]; exact Nat.le_refl _
  | succ n ih =>
    intro h
    by_cases e : m = n + 1
    · rw [e]; exact Nat.le_refl _
    · have := ih (by omega)
      rw [fl, List.length_append]
      omega
theorem hd_len {c : Ck} (hW : WF c) (letter top : Nat) : (fHead c letter top).length ≤ 18 := by
  obtain ⟨w0, w1, w2, w3, w4⟩ := hW.1
  unfold fHead
  simp only [List.length_append, List.length_singleton]
  have a1 := (nb_len top 32).1
  have a2 := (nb_len (kI c) 32).2 (by omega)
  have a3 := (nb_len (kL c) 32).2 (by omega)
  have a4 := (nb_len (kO c) 32).2 (by omega)
  have a5 := (nb_len (kA c) 10).1
  omega
theorem sy_len {c : Ck} (hW : WF c) {kd k : Nat} (hk : k < 10) : (sy c kd k).length ≤ 44 := by
  unfold sy
  by_cases g : kN c (8 * kd + k) = []
  · rw [if_pos g]; exact Nat.zero_le _
  · rw [if_neg g]
    simp only [List.length_append, List.length_singleton]
    have a1 := (nb_len k 32).2 hk
    have a2 := (hW.2.2.2.1 (8 * kd + k)).1
    omega
theorem syms_len {c : Ck} (hW : WF c) : (fSyms c).length ≤ 924 := by
  obtain ⟨w0, w1, w2, w3, w4⟩ := hW.1
  have h : ∀ kd, (fl (sy c kd) (kcnt c kd)).length ≤ kcnt c kd * 44 := fun kd => fl_len _ fun k hk => sy_len hW (by
    have : kcnt c kd ≤ 8 := cnt_le w1 w2 w3
    omega)
  have h0 := h 0
  have h1 := h 1
  have h2 := h 2
  have e0 : kcnt c 0 = kI c := rfl
  have e1 : kcnt c 1 = kL c := rfl
  have e2 : kcnt c 2 = kO c := rfl
  unfold fSyms
  simp only [fl, List.length_append, List.length_nil]
  omega
theorem text_len {c : Ck} (hW : WF c) : (fText c).length ≤ 4654 := by
  obtain ⟨w0, w1, w2, w3, w4⟩ := hW.1
  unfold fText
  simp only [List.length_append]
  have a1 := hd_len hW 97 (kM c)
  have a2 := fl_len (f := fun k => nb (2 * kv c k) 10) (B := 4) (kI c) (fun k _ => (nb_len _ _).1)
  have a3 := fl_len (f := fun k => nb (2 * kv c (kI c + k)) 32 ++ nb (ku c k) 10) (B := 8) (kL c) (fun k _ => by
    rw [List.length_append]
    have := (nb_len (2 * kv c (kI c + k)) 32).1
    have := (nb_len (ku c k) 10).1
    omega)
  have a4 := fl_len (f := fun k => nb (ku c (kL c + k)) 10) (B := 4) (kO c) (fun k _ => (nb_len _ _).1)
  have a5 := fl_len (f := fun k => nb (2 * kav c k) 32 ++ nb (kl1 c k) 32 ++ nb (kl2 c k) 10) (B := 12) (kA c) (fun k _ => by
    rw [List.length_append, List.length_append]
    have := (nb_len (2 * kav c k) 32).1
    have := (nb_len (kl1 c k) 32).1
    have := (nb_len (kl2 c k) 10).1
    omega)
  have a6 := syms_len hW
  omega
theorem dl_len (d : Nat) : (dl d).length ≤ 2 := by
  unfold dl
  by_cases g : d < 128
  · rw [if_pos g]; exact Nat.le_succ 1
  · rw [if_neg g]; exact Nat.le_refl _
theorem bin_len {c : Ck} (hW : WF c) : (fBin c).length ≤ 4654 := by
  obtain ⟨w0, w1, w2, w3, w4⟩ := hW.1
  unfold fBin
  simp only [List.length_append]
  have a1 := hd_len hW 105 (kI c + kL c + kA c)
  have a3 := fl_len (f := fun k => nb (rn c (ku c k)) 10) (B := 4) (kL c) (fun k _ => (nb_len _ _).1)
  have a4 := fl_len (f := fun k => nb (rn c (ku c (kL c + k))) 10) (B := 4) (kO c) (fun k _ => (nb_len _ _).1)
  have a5 := fl_len (f := bd c) (B := 4) (kA c) (fun k _ => by
    unfold bd
    rw [List.length_append]
    have := dl_len (2 * nwc c (kav c ((kP c).getD k 0)) - max (rn c (kl1 c ((kP c).getD k 0))) (rn c (kl2 c ((kP c).getD k 0))))
    have := dl_len (max (rn c (kl1 c ((kP c).getD k 0))) (rn c (kl2 c ((kP c).getD k 0))) - min (rn c (kl1 c ((kP c).getD k 0))) (rn c (kl2 c ((kP c).getD k 0))))
    omega)
  have a6 := syms_len hW
  omega
theorem s_byte {w : Int32} {f : Nat → Int32} {I : NI} {A : NNI} {bs : List Nat} {x : Int32} {Q : Int32 → Prop} (h : WX w f I A bs) (hl : bs.length ≤ 4654) (k1 : ∀ i, x = nI i → i < bs.length → Q (nI (bs.getD i 0))) (k0 : (∀ i, x = nI i → ¬ i < bs.length) → Q (-1)) : wp_X_byteOf I A x Q := by
  unfold wp_X_byteOf
  refine ⟨fun g => k0 fun i e hi => ?_, fun g => ?_⟩
  · rw [e] at g
    exact nI_pos (by omega) g
  · obtain ⟨i, hi, e⟩ := nI_of g
    have e1 : I 0 = nI bs.length := by rw [h.1]; congr 1; omega
    refine pk_lt i bs.length (fun g2 => ⟨pk_in i 4654 (by omega) e, ?_⟩) (fun g2 => k0 fun m e2 hm => ?_) e e1
    · rw [e, nI_clamp (n := i) (by omega), h.2.1 i g2 (by omega)]
      exact k1 i e g2
    · have : i = m := (nI_eq hi (by omega)).mp (e.symm.trans e2)
      omega
