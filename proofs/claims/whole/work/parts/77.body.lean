/-! the class reads inputs, latches, outputs, ands (text) -/
abbrev NI : Type := Nat → Int32
abbrev NNI : Type := Nat → Nat → Int32
theorem gD_l {α : Type} {l : List α} {x d : α} {k : Nat} (h : k < l.length) : (l ++ [x]).getD k d = l.getD k d := by
  simp only [List.getD]
  rw [List.getElem?_append_left h]
theorem gD_r {α : Type} {l : List α} {x d : α} : (l ++ [x]).getD l.length d = x := by simp [List.getD]
def VA (I L : Nat) (A : NNI) (vs : List Nat) : Prop := (∀ k, k < vs.length → (k < I → A 0 k = nI (vs.getD k 0)) ∧ (I ≤ k → k < I + L → A 1 (k - I) = nI (vs.getD k 0)) ∧ (I + L ≤ k → A 4 (k - I - L) = nI (vs.getD k 0))) ∧ DT A vs
def UA (L O : Nat) (A : NNI) (us : List (Nat × Nat)) : Prop := ∀ k, k < us.length → (k < L → A 2 k = nI (us.getD k (0, 0)).1) ∧ (L ≤ k → k < L + O → A 3 (k - L) = nI (us.getD k (0, 0)).1) ∧ (∀ j, k = L + O + 2 * j → A 5 j = nI (us.getD k (0, 0)).1) ∧ (∀ j, k = L + O + 2 * j + 1 → A 6 j = nI (us.getD k (0, 0)).1)
def UR (I : NI) (A : NNI) (us : List (Nat × Nat)) : Prop := us.length ≤ 615 ∧ I 0 = nI us.length ∧ ∀ k, k < us.length → A 0 k = nI (us.getD k (0, 0)).1 ∧ A 1 k = nI (us.getD k (0, 0)).2
def FA (A B : NNI) : Prop := B 9 = A 9 ∧ B 10 = A 10 ∧ B 11 = A 11
theorem VA_push {I L x : Nat} {A B : NNI} {vs : List Nat} (h : VA I L A vs) (h0 : ∀ k, k < vs.length → B 0 k = A 0 k) (h1 : ∀ k, I + k < vs.length → B 1 k = A 1 k) (h4 : ∀ k, I + L + k < vs.length → B 4 k = A 4 k) (h8 : B 8 = upd (A 8) x 1)
    (x0 : vs.length < I → B 0 vs.length = nI x) (x1 : I ≤ vs.length → vs.length < I + L → B 1 (vs.length - I) = nI x) (x4 : I + L ≤ vs.length → B 4 (vs.length - I - L) = nI x) : VA I L B (vs ++ [x]) := by
  refine ⟨fun k hk => ?_, DT_add h.2 h8⟩
  rw [List.length_append, List.length_singleton] at hk
  by_cases g : k = vs.length
  · subst g
    rw [gD_r]
    exact ⟨x0, x1, x4⟩
  · have hk2 : k < vs.length := by omega
    rw [gD_l hk2]
    obtain ⟨a, b, c⟩ := h.1 k hk2
    exact ⟨fun z => by rw [h0 k hk2]; exact a z, fun z z2 => by rw [h1 (k - I) (by omega)]; exact b z z2, fun z => by rw [h4 (k - I - L) (by omega)]; exact c z⟩
theorem VA_same {I L : Nat} {A B : NNI} {vs : List Nat} (h : VA I L A vs) (h0 : B 0 = A 0) (h1 : B 1 = A 1) (h4 : B 4 = A 4) (h8 : B 8 = A 8) : VA I L B vs := by
  refine ⟨fun k hk => ?_, fun v hv => by rw [h8]; exact h.2 v hv⟩
  rw [h0, h1, h4]
  exact h.1 k hk
theorem UA_push {L O : Nat} {x : Nat × Nat} {A B : NNI} {us : List (Nat × Nat)} (h : UA L O A us) (h2 : ∀ k, k < us.length → B 2 k = A 2 k) (h3 : ∀ k, L + k < us.length → B 3 k = A 3 k) (h5 : ∀ k, L + O + 2 * k < us.length → B 5 k = A 5 k) (h6 : ∀ k, L + O + 2 * k + 1 < us.length → B 6 k = A 6 k)
    (x2 : us.length < L → B 2 us.length = nI x.1) (x3 : L ≤ us.length → us.length < L + O → B 3 (us.length - L) = nI x.1) (x5 : ∀ j, us.length = L + O + 2 * j → B 5 j = nI x.1) (x6 : ∀ j, us.length = L + O + 2 * j + 1 → B 6 j = nI x.1) : UA L O B (us ++ [x]) := by
  intro k hk
  rw [List.length_append, List.length_singleton] at hk
  by_cases g : k = us.length
  · subst g
    rw [gD_r]
    exact ⟨x2, x3, x5, x6⟩
  · have hk2 : k < us.length := by omega
    rw [gD_l hk2]
    obtain ⟨a, b, c, d⟩ := h k hk2
    exact ⟨fun z => by rw [h2 k hk2]; exact a z, fun z z2 => by rw [h3 (k - L) (by omega)]; exact b z z2, fun j z => by rw [h5 j (by omega)]; exact c j z, fun j z => by rw [h6 j (by omega)]; exact d j z⟩
theorem UA_same {L O : Nat} {A B : NNI} {us : List (Nat × Nat)} (h : UA L O A us) (h2 : B 2 = A 2) (h3 : B 3 = A 3) (h5 : B 5 = A 5) (h6 : B 6 = A 6) : UA L O B us := by
  intro k hk
  rw [h2, h3, h5, h6]
  exact h k hk
theorem UR_push {I : NI} {A : NNI} {us : List (Nat × Nat)} {x : Nat × Nat} (h : UR I A us) (hl : us.length < 615) : UR (va_up I 0 (I 0 + 1)) (va_up (va_up A 0 (upd (A 0) us.length (nI x.1))) 1 (upd (A 1) us.length (nI x.2))) (us ++ [x]) := by
  obtain ⟨h1, h2, h3⟩ := h
  refine ⟨by rw [List.length_append, List.length_singleton]; omega, ?_, fun k hk => ?_⟩
  · show I 0 + 1 = _
    rw [h2, nI_1, List.length_append, List.length_singleton]
  · rw [List.length_append, List.length_singleton] at hk
    show upd (A 0) us.length (nI x.1) k = _ ∧ upd (A 1) us.length (nI x.2) k = _
    by_cases g : k = us.length
    · subst g
      rw [gD_r, pk_us, pk_us]
      exact ⟨rfl, rfl⟩
    · rw [gD_l (by omega), pk_un g, pk_un g]
      exact h3 k (by omega)
theorem s_insT {IR IT IC : NI} {AT A0 : NNI} {h : Nat → Nat} {n M I L O A : Nat} {fk fp : Int32} {Q : Int32 → NI → NNI → Prop} {X : NI → NNI → Prop} (t : TW IT AT h n) (hb : IR 1 = 0) (hC : HC IC M I L O A) (hM : M ≤ 400) (hI : I ≤ 6) :
    ∀ (j : Nat) (vs : List Nat) (q st v : Nat) (IU : NI) (AC : NNI), vs.length + j = I → q ≤ n → CU IU q st v fk fp → VA I L AC vs → FA A0 AC → Lk (pIns h M j vs q) (fun z => ∀ U A st v, CU U z.2 st v fk fp → VA I L A z.1 → FA A0 A → X U A) (fun e => ∀ U A, CE U e → FA A0 A → Q 0 U A) → wp_R_readInputs_L2 IR IT AT IC Q X (j + 1) IU AC (nI vs.length) := by
  intro j
  induction j with
  | zero =>
    intro vs q st v IU AC hl hq hU hV hF k
    unfold wp_R_readInputs_L2
    exact pk_le I vs.length (fun _ => k _ _ _ _ hU hV hF) (fun g => absurd g (by omega)) hC.2.1 rfl
  | succ j ih =>
    intro vs q st v IU AC hl hq hU hV hF k
    unfold wp_R_readInputs_L2
    refine pk_le I vs.length (fun g => absurd g (by omega)) (fun _ => ⟨fun _ => ?_, fun g => absurd hb g⟩) hC.2.1 rfl
    rw [pIns, Lk_eB] at k
    refine s_def t hq hU hC.1 hM hV.2 (Lk_imp k (fun z hz k I1 hI1 => ⟨fun c => absurd c (by decide), fun _ => ?_⟩) (fun e he k I hI => ⟨fun _ => k _ _ hI hF, fun c => absurd rfl c⟩))
    obtain ⟨-, b2, -, b4⟩ := pDef_ok t.2.2.2 hz
    rw [Lk_eB] at k
    refine s_expect (c := 10) t (b4 hq) hI1 (by decide) (Lk_imp k (fun r hr k I2 hI2 => ⟨fun c => absurd c (by decide), fun _ => ⟨pk_in vs.length 6 (by omega), ?_⟩⟩) (fun e he k I hI => ⟨fun _ => k _ _ hI hF, fun c => absurd rfl c⟩))
    obtain ⟨-, d2, -⟩ := pExp_ok t.2.2.2 (by decide) hr
    have e0 : (nI vs.length).toNatClampNeg = vs.length := nI_clamp (by omega)
    have e1 : I2 2 >>> ((1 : Int32) &&& 31) = nI (z.1 / 2) := by rw [hI2.2.2.1]; exact shr1 (by omega)
    unfold wp_R_readInputs_b66
    rw [e0, e1]
    have e2 : (va_up AC 0 (upd (AC 0) vs.length (nI (z.1 / 2)))) 0 vs.length = nI (z.1 / 2) := pk_us
    rw [e2, nI_clamp (n := z.1 / 2) (by omega), nI_1]
    refine ⟨pk_in vs.length 6 (by omega), pk_in (z.1 / 2) 401 (by omega), ?_⟩
    have hlen : vs.length + 1 = (vs ++ [z.1 / 2]).length := by simp
    rw [hlen]
    refine ih (vs ++ [z.1 / 2]) r _ _ _ _ (by rw [List.length_append, List.length_singleton]; omega) d2 hI2 ?_ ⟨hF.1, hF.2.1, hF.2.2⟩ k
    exact VA_push hV (fun k hk => pk_un (by omega)) (fun k hk => rfl) (fun k hk => rfl) rfl (fun _ => pk_us) (fun g => absurd g (by omega)) (fun g => absurd g (by omega))
theorem s_insB {IR IT IC : NI} {AT A0 : NNI} {M I L O A : Nat} {Q : Int32 → NI → NNI → Prop} {X : NI → NNI → Prop} (hb : ¬ IR 1 = 0) (hC : HC IC M I L O A) (hI : I ≤ 6) :
    ∀ (j : Nat) (vs : List Nat) (IU : NI) (AC : NNI), vs.length + j = I → vs = List.range' 1 vs.length → VA I L AC vs → FA A0 AC → (∀ A, VA I L A (List.range' 1 I) → FA A0 A → X IU A) → wp_R_readInputs_L2 IR IT AT IC Q X (j + 1) IU AC (nI vs.length) := by
  intro j
  induction j with
  | zero =>
    intro vs IU AC hl hv hV hF k
    unfold wp_R_readInputs_L2
    have hl2 : vs.length = I := by omega
    rw [hl2] at hv
    exact pk_le I vs.length (fun _ => k _ (hv ▸ hV) hF) (fun g => absurd g (by omega)) hC.2.1 rfl
  | succ j ih =>
    intro vs IU AC hl hv hV hF k
    unfold wp_R_readInputs_L2
    refine pk_le I vs.length (fun g => absurd g (by omega)) (fun _ => ⟨fun g => absurd g hb, fun _ => ⟨pk_in vs.length 6 (by omega), ?_⟩⟩) hC.2.1 rfl
    have e0 : (nI vs.length).toNatClampNeg = vs.length := nI_clamp (by omega)
    unfold wp_R_readInputs_b66
    rw [e0, nI_1]
    have e2 : (va_up AC 0 (upd (AC 0) vs.length (nI (vs.length + 1)))) 0 vs.length = nI (vs.length + 1) := pk_us
    rw [e2, nI_clamp (n := vs.length + 1) (by omega)]
    refine ⟨pk_in vs.length 6 (by omega), pk_in (vs.length + 1) 401 (by omega), ?_⟩
    have hlen : vs.length + 1 = (vs ++ [vs.length + 1]).length := by simp
    have hv2 : vs ++ [vs.length + 1] = List.range' 1 (vs ++ [vs.length + 1]).length := by
      rw [← hlen, List.range'_concat, ← hv]
      congr 2
      omega
    have go := ih (vs ++ [vs.length + 1]) IU (va_up (va_up AC 0 (upd (AC 0) vs.length (nI (vs.length + 1)))) 8 (upd (AC 8) (vs.length + 1) 1)) (by rw [List.length_append, List.length_singleton]; omega) hv2
      (VA_push hV (fun k hk => pk_un (by omega)) (fun k hk => rfl) (fun k hk => rfl) rfl (fun _ => pk_us) (fun g => absurd g (by omega)) (fun g => absurd g (by omega))) ⟨hF.1, hF.2.1, hF.2.2⟩ k
    rw [← hlen] at go
    exact go
theorem s_use {IR IU IT IC : NI} {AR AT : NNI} {h : Nat → Nat} {n q st v M : Nat} {us : List (Nat × Nat)} {fk fp : Int32} {Q : Int32 → NI → NNI → NI → Prop} (t : TW IT AT h n) (hq : q ≤ n) (hU : CU IU q st v fk fp) (hM : IC 0 = nI M) (hM4 : M ≤ 9999) (hR : UR IR AR us) (hl : us.length < 615)
    (k : Lk (pLit h M q) (fun z => ∀ R B I, R 1 = IR 1 → UR R B (us ++ [(z.1, q)]) → CU I z.2 q z.1 fk fp → Q 1 R B I) (fun e => ∀ I, CE I e → Q 0 IR AR I)) : wp_R_readUse IR AR IU IT AT IC Q := by
  unfold wp_R_readUse
  refine s_lit t hq hU hM hM4 (Lk_imp k (fun z hz k I hI => ⟨fun c => absurd c (by decide), fun _ => ?_⟩) (fun e he k I hI => ⟨fun _ => k _ hI, fun c => absurd rfl c⟩))
  refine pk_le 615 us.length (fun g => absurd g (by omega)) (fun _ => ⟨?_, ?_⟩) rfl hR.2.1
  · rw [hR.2.1]; exact pk_in us.length 615 (by omega)
  · have e0 : (IR 0).toNatClampNeg = us.length := by rw [hR.2.1]; exact nI_clamp (by omega)
    rw [e0, hI.2.2.1, hI.2.1]
    exact k _ _ _ rfl (UR_push (x := (z.1, q)) hR hl) hI
theorem s_latT {IT IC : NI} {AT A0 : NNI} {h : Nat → Nat} {n M I L O A : Nat} {fk fp : Int32} {Q : Int32 → NI → NNI → NI → NNI → Prop} {X : NI → NNI → NI → NNI → Prop} (t : TW IT AT h n) (hC : HC IC M I L O A) (hM : M ≤ 400) (hI : I ≤ 6) (hL : L ≤ 7) (b1 : Int32) (hb : b1 = 0) :
    ∀ (j : Nat) (vs : List Nat) (us : List (Nat × Nat)) (q st v : Nat) (IR : NI) (AR : NNI) (IU : NI) (AC : NNI), us.length + j = L → vs.length = I + us.length → q ≤ n → IR 1 = b1 → UR IR AR us → CU IU q st v fk fp → VA I L AC vs → UA L O AC us → FA A0 AC → Lk (pLats h M j vs us q) (fun z => ∀ R B U A st v, R 1 = b1 → UR R B z.2.1 → CU U z.2.2 st v fk fp → VA I L A z.1 → UA L O A z.2.1 → FA A0 A → X R B U A) (fun e => ∀ R B U A, CE U e → FA A0 A → Q 0 R B U A) → wp_R_readLatches_L2 IT AT IC Q X (j + 1) IR AR IU AC (nI us.length) := by
  intro j
  induction j with
  | zero =>
    intro vs us q st v IR AR IU AC hl hvl hq hb1 hR hU hV hA hF k
    unfold wp_R_readLatches_L2
    exact pk_le L us.length (fun _ => k _ _ _ _ _ _ hb1 hR hU hV hA hF) (fun g => absurd g (by omega)) hC.2.2.1 rfl
  | succ j ih =>
    intro vs us q st v IR AR IU AC hl hvl hq hb1 hR hU hV hA hF k
    unfold wp_R_readLatches_L2
    refine pk_le L us.length (fun g => absurd g (by omega)) (fun _ => ⟨fun _ => ?_, fun g => absurd (hb1.trans hb) g⟩) hC.2.2.1 rfl
    rw [pLats, Lk_eB] at k
    refine s_def t hq hU hC.1 hM hV.2 (Lk_imp k (fun z hz k I1 hI1 => ⟨fun c => absurd c (by decide), fun _ => ?_⟩) (fun e he k I hI => ⟨fun _ => k _ _ _ _ hI hF, fun c => absurd rfl c⟩))
    obtain ⟨-, c2, -, c4⟩ := pDef_ok t.2.2.2 hz
    rw [Lk_eB] at k
    refine s_expect (c := 32) t (c4 hq) hI1 (by decide) (Lk_imp k (fun r hr k I2 hI2 => ⟨fun c => absurd c (by decide), fun _ => ⟨pk_in us.length 7 (by omega), ?_⟩⟩) (fun e he k I hI => ⟨fun _ => k _ _ _ _ hI hF, fun c => absurd rfl c⟩))
    obtain ⟨-, d2, -⟩ := pExp_ok t.2.2.2 (by decide) hr
    have e0 : (nI us.length).toNatClampNeg = us.length := nI_clamp (by omega)
    have e1 : I2 2 >>> ((1 : Int32) &&& 31) = nI (z.1 / 2) := by rw [hI2.2.2.1]; exact shr1 (by omega)
    unfold wp_R_readLatches_b71
    rw [e0, e1]
    have e2 : (va_up AC 1 (upd (AC 1) us.length (nI (z.1 / 2)))) 1 us.length = nI (z.1 / 2) := pk_us
    rw [e2, nI_clamp (n := z.1 / 2) (by omega), nI_1]
    refine ⟨pk_in us.length 7 (by omega), pk_in (z.1 / 2) 401 (by omega), ?_⟩
    rw [Lk_eB] at k
    have hV2 : VA I L (va_up (va_up AC 1 (upd (AC 1) us.length (nI (z.1 / 2)))) 8 (upd (AC 8) (z.1 / 2) 1)) (vs ++ [z.1 / 2]) :=
      VA_push hV (fun k hk => rfl) (fun k hk => pk_un (by omega)) (fun k hk => rfl) rfl (fun g => absurd g (by omega)) (fun _ _ => by rw [show vs.length - I = us.length by omega]; exact pk_us) (fun g => absurd g (by omega))
    refine s_use t d2 hI2 hC.1 (by omega) hR (by omega) (Lk_imp k (fun y hy k R3 B3 I3 hR1 hR3 hI3 => ⟨fun c => absurd c (by decide), fun _ => ?_⟩) (fun e he k I hI => ⟨fun _ => k _ _ _ _ hI ⟨hF.1, hF.2.1, hF.2.2⟩, fun c => absurd rfl c⟩))
    obtain ⟨-, f1, f2, f3⟩ := pLit_ok t.2.2.2 hy
    rw [Lk_eB] at k
    refine s_expect (c := 10) t (f3 d2) hI3 (by decide) (Lk_imp k (fun r2 hr2 k I4 hI4 => ⟨fun c => absurd c (by decide), fun _ => ?_⟩) (fun e he k I hI => ⟨fun _ => k _ _ _ _ hI ⟨hF.1, hF.2.1, hF.2.2⟩, fun c => absurd rfl c⟩))
    obtain ⟨-, g2, -⟩ := pExp_ok t.2.2.2 (by decide) hr2
    have hlen : us.length + 1 = (us ++ [(y.1, r)]).length := by simp
    rw [hlen]
    refine ih (vs ++ [z.1 / 2]) (us ++ [(y.1, r)]) r2 _ _ _ _ _ _ (by rw [List.length_append, List.length_singleton]; omega) (by rw [List.length_append, List.length_append, List.length_singleton, List.length_singleton]; omega) g2 (hR1.trans hb1) hR3 hI4 (VA_same hV2 rfl rfl rfl rfl) ?_ ⟨hF.1, hF.2.1, hF.2.2⟩ k
    exact UA_push hA (fun k hk => pk_un (by omega)) (fun k hk => rfl) (fun k hk => rfl) (fun k hk => rfl) (fun _ => by rw [← hI4.2.2.1]; exact pk_us) (fun g => absurd g (by omega)) (fun j g => absurd g (by omega)) (fun j g => absurd g (by omega))
theorem s_latB {IT IC : NI} {AT A0 : NNI} {h : Nat → Nat} {n M I L O A : Nat} {fk fp : Int32} {Q : Int32 → NI → NNI → NI → NNI → Prop} {X : NI → NNI → NI → NNI → Prop} (t : TW IT AT h n) (hC : HC IC M I L O A) (hM : M ≤ 400) (hI : I ≤ 6) (hL : L ≤ 7) (b1 : Int32) (hb : ¬ b1 = 0) :
    ∀ (j : Nat) (us : List (Nat × Nat)) (q st v : Nat) (IR : NI) (AR : NNI) (IU : NI) (AC : NNI), us.length + j = L → q ≤ n → IR 1 = b1 → UR IR AR us → CU IU q st v fk fp → VA I L AC (List.range' 1 (I + us.length)) → UA L O AC us → FA A0 AC → Lk (pUses h M j us q) (fun z => ∀ R B U A st v, R 1 = b1 → UR R B z.1 → CU U z.2 st v fk fp → VA I L A (List.range' 1 (I + L)) → UA L O A z.1 → FA A0 A → X R B U A) (fun e => ∀ R B U A, CE U e → FA A0 A → Q 0 R B U A) → wp_R_readLatches_L2 IT AT IC Q X (j + 1) IR AR IU AC (nI us.length) := by
  intro j
  induction j with
  | zero =>
    intro us q st v IR AR IU AC hl hq hb1 hR hU hV hA hF k
    unfold wp_R_readLatches_L2
    have hl2 : us.length = L := by omega
    rw [hl2] at hV
    exact pk_le L us.length (fun _ => k _ _ _ _ _ _ hb1 hR hU hV hA hF) (fun g => absurd g (by omega)) hC.2.2.1 rfl
  | succ j ih =>
    intro us q st v IR AR IU AC hl hq hb1 hR hU hV hA hF k
    unfold wp_R_readLatches_L2
    refine pk_le L us.length (fun g => absurd g (by omega)) (fun _ => ⟨fun g => absurd (hb1.symm.trans g) hb, fun _ => ⟨pk_in us.length 7 (by omega), ?_⟩⟩) hC.2.2.1 rfl
    have e0 : (nI us.length).toNatClampNeg = us.length := nI_clamp (by omega)
    unfold wp_R_readLatches_b71
    rw [e0, hC.2.1, nI_add, nI_1]
    have e2 : (va_up AC 1 (upd (AC 1) us.length (nI (I + us.length + 1)))) 1 us.length = nI (I + us.length + 1) := pk_us
    rw [e2, nI_clamp (n := I + us.length + 1) (by omega), nI_1]
    refine ⟨pk_in us.length 7 (by omega), pk_in (I + us.length + 1) 401 (by omega), ?_⟩
    rw [pUses, Lk_eB] at k
    have hlr : (List.range' 1 (I + us.length)).length = I + us.length := List.length_range'
    have hV2 : VA I L (va_up (va_up AC 1 (upd (AC 1) us.length (nI (I + us.length + 1)))) 8 (upd (AC 8) (I + us.length + 1) 1)) (List.range' 1 (I + us.length) ++ [I + us.length + 1]) :=
      VA_push hV (fun k hk => rfl) (fun k hk => pk_un (by rw [hlr] at hk; omega)) (fun k hk => rfl) rfl (fun g => absurd g (by rw [hlr]; omega)) (fun _ _ => by rw [hlr, show I + us.length - I = us.length by omega]; exact pk_us) (fun g => absurd g (by rw [hlr]; omega))
    have e3 : List.range' 1 (I + us.length) ++ [I + us.length + 1] = List.range' 1 (I + us.length + 1) := by
      rw [List.range'_concat]
      congr 2
      omega
    rw [e3] at hV2
    refine s_use t hq hU hC.1 (by omega) hR (by omega) (Lk_imp k (fun y hy k R3 B3 I3 hR1 hR3 hI3 => ⟨fun c => absurd c (by decide), fun _ => ?_⟩) (fun e he k I hI => ⟨fun _ => k _ _ _ _ hI ⟨hF.1, hF.2.1, hF.2.2⟩, fun c => absurd rfl c⟩))
    obtain ⟨-, f1, f2, f3⟩ := pLit_ok t.2.2.2 hy
    rw [Lk_eB] at k
    refine s_expect (c := 10) t (f3 hq) hI3 (by decide) (Lk_imp k (fun r2 hr2 k I4 hI4 => ⟨fun c => absurd c (by decide), fun _ => ?_⟩) (fun e he k I hI => ⟨fun _ => k _ _ _ _ hI ⟨hF.1, hF.2.1, hF.2.2⟩, fun c => absurd rfl c⟩))
    obtain ⟨-, g2, -⟩ := pExp_ok t.2.2.2 (by decide) hr2
    have hlen : us.length + 1 = (us ++ [(y.1, q)]).length := by simp
    rw [hlen]
    refine ih (us ++ [(y.1, q)]) r2 _ _ _ _ _ _ (by rw [List.length_append, List.length_singleton]; omega) g2 (hR1.trans hb1) hR3 hI4 (by rw [← hlen]; exact VA_same hV2 rfl rfl rfl rfl) ?_ ⟨hF.1, hF.2.1, hF.2.2⟩ k
    exact UA_push hA (fun k hk => pk_un (by omega)) (fun k hk => rfl) (fun k hk => rfl) (fun k hk => rfl) (fun _ => by rw [← hI4.2.2.1]; exact pk_us) (fun g => absurd g (by omega)) (fun j g => absurd g (by omega)) (fun j g => absurd g (by omega))
theorem s_outs {IT IC : NI} {AT A0 : NNI} {h : Nat → Nat} {n M I L O A : Nat} {fk fp : Int32} {vs : List Nat} {Q : Int32 → NI → NNI → NI → NNI → Prop} {X : NI → NNI → NI → NNI → Prop} (t : TW IT AT h n) (hC : HC IC M I L O A) (hM : M ≤ 400) (hL : L ≤ 7) (hO : O ≤ 8) (b1 : Int32) :
    ∀ (j c : Nat) (us : List (Nat × Nat)) (q st v : Nat) (IR : NI) (AR : NNI) (IU : NI) (AC : NNI), c + j = O → us.length = L + c → q ≤ n → IR 1 = b1 → UR IR AR us → CU IU q st v fk fp → VA I L AC vs → UA L O AC us → FA A0 AC → Lk (pUses h M j us q) (fun z => ∀ R B U A st v, R 1 = b1 → UR R B z.1 → CU U z.2 st v fk fp → VA I L A vs → UA L O A z.1 → FA A0 A → X R B U A) (fun e => ∀ R B U A, CE U e → FA A0 A → Q 0 R B U A) → wp_R_readOutputs_L2 IT AT IC Q X (j + 1) IR AR IU AC (nI c) := by
  intro j
  induction j with
  | zero =>
    intro c us q st v IR AR IU AC hl hul hq hb1 hR hU hV hA hF k
    unfold wp_R_readOutputs_L2
    exact pk_le O c (fun _ => k _ _ _ _ _ _ hb1 hR hU hV hA hF) (fun g => absurd g (by omega)) hC.2.2.2.1 rfl
  | succ j ih =>
    intro c us q st v IR AR IU AC hl hul hq hb1 hR hU hV hA hF k
    unfold wp_R_readOutputs_L2
    refine pk_le O c (fun g => absurd g (by omega)) (fun _ => ?_) hC.2.2.2.1 rfl
    rw [pUses, Lk_eB] at k
    refine s_use t hq hU hC.1 (by omega) hR (by omega) (Lk_imp k (fun y hy k R3 B3 I3 hR1 hR3 hI3 => ⟨fun c => absurd c (by decide), fun _ => ?_⟩) (fun e he k I hI => ⟨fun _ => k _ _ _ _ hI hF, fun c => absurd rfl c⟩))
    obtain ⟨-, f1, f2, f3⟩ := pLit_ok t.2.2.2 hy
    rw [Lk_eB] at k
    refine s_expect (c := 10) t (f3 hq) hI3 (by decide) (Lk_imp k (fun r2 hr2 k I4 hI4 => ⟨fun c => absurd c (by decide), fun _ => ⟨pk_in c 8 (by omega), ?_⟩⟩) (fun e he k I hI => ⟨fun _ => k _ _ _ _ hI hF, fun c => absurd rfl c⟩))
    obtain ⟨-, g2, -⟩ := pExp_ok t.2.2.2 (by decide) hr2
    rw [nI_clamp (n := c) (by omega), nI_1]
    refine ih (c + 1) (us ++ [(y.1, q)]) r2 _ _ _ _ _ _ (by omega) (by rw [List.length_append, List.length_singleton]; omega) g2 (hR1.trans hb1) hR3 hI4 (VA_same hV rfl rfl rfl rfl) ?_ ⟨hF.1, hF.2.1, hF.2.2⟩ k
    exact UA_push hA (fun k hk => rfl) (fun k hk => pk_un (by omega)) (fun k hk => rfl) (fun k hk => rfl) (fun g => absurd g (by omega)) (fun _ _ => by rw [← hI4.2.2.1, show us.length - L = c by omega]; exact pk_us) (fun j g => absurd g (by omega)) (fun j g => absurd g (by omega))
