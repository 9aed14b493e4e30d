/-! the reference reads a text body -/
def VL (b I L : Nat) (A : NNI) (vs : List Nat) : Prop := ∀ k, k < vs.length → (k < I → A 3 (k + 6 * b) = nI (2 * vs.getD k 0)) ∧ (I ≤ k → k < I + L → A 4 (k - I + 8 * b) = nI (2 * vs.getD k 0)) ∧ (I + L ≤ k → A 7 (k - I - L + 300 * b) = nI (2 * vs.getD k 0))
def UM (b L O : Nat) (A : NNI) (us : List (Nat × Nat)) : Prop := ∀ k, k < us.length → (k < L → A 5 (k + 8 * b) = nI (us.getD k (0, 0)).1) ∧ (L ≤ k → k < L + O → A 6 (k - L + 8 * b) = nI (us.getD k (0, 0)).1) ∧ (∀ j, k = L + O + 2 * j → A 8 (j + 300 * b) = nI (us.getD k (0, 0)).1) ∧ (∀ j, k = L + O + 2 * j + 1 → A 9 (j + 300 * b) = nI (us.getD k (0, 0)).1)
def UP (L O : Nat) (A : NNI) (us : List (Nat × Nat)) : Prop := ∀ k, k < us.length → (k < L → A 12 k = nI (us.getD k (0, 0)).2) ∧ (L ≤ k → k < L + O → A 13 (k - L) = nI (us.getD k (0, 0)).2) ∧ (∀ j, k = L + O + 2 * j → A 14 j = nI (us.getD k (0, 0)).2) ∧ (∀ j, k = L + O + 2 * j + 1 → A 15 j = nI (us.getD k (0, 0)).2)
def rS (s : Nat) : Nat := if s < 8 then s else s - 2
def sb (c : Nat) : Int32 := (nI c).toInt8.toInt32
def NM (b : Nat) (A : NNI) (nm : Nat → List Nat) : Prop := ∀ s, s < 24 → (s < 6 ∨ 8 ≤ s) → (nm s).length ≤ 40 ∧ A 17 (rS s + 22 * b) = nI (nm s).length ∧ ∀ i, i < (nm s).length → A 16 (40 * (rS s + 22 * b) + i) = sb ((nm s).getD i 0)
/-- the draft -/
def DR (A0 A : NNI) (M I L O Aa : Nat) (vs ws : List Nat) (us : List (Nat × Nat)) (nm : Nat → List Nat) : Prop := KA A0 A ∧ HM 1 A M I L O Aa ∧ VL 1 I L A vs ∧ KD 1 I L A ws ∧ UM 1 L O A us ∧ UP L O A us ∧ NM 1 A nm
theorem VL_push {I L x : Nat} {A B : NNI} {vs : List Nat} (h : VL 1 I L A vs) (h3 : ∀ k, k < vs.length → B 3 (k + 6) = A 3 (k + 6)) (h4 : ∀ k, I + k < vs.length → B 4 (k + 8) = A 4 (k + 8)) (h7 : ∀ k, I + L + k < vs.length → B 7 (k + 300) = A 7 (k + 300))
    (x3 : vs.length < I → B 3 (vs.length + 6) = nI (2 * x)) (x4 : I ≤ vs.length → vs.length < I + L → B 4 (vs.length - I + 8) = nI (2 * x)) (x7 : I + L ≤ vs.length → B 7 (vs.length - I - L + 300) = nI (2 * x)) : VL 1 I L B (vs ++ [x]) := by
  intro k hk
  rw [List.length_append, List.length_singleton] at hk
  by_cases g : k = vs.length
  · subst g
    rw [gD_r]
    exact ⟨x3, x4, x7⟩
  · have hk2 : k < vs.length := by omega
    rw [gD_l hk2]
    obtain ⟨a, b, c⟩ := h k hk2
    exact ⟨fun z => (h3 k hk2).trans (a z), fun z z2 => (h4 (k - I) (by omega)).trans (b z z2), fun z => (h7 (k - I - L) (by omega)).trans (c z)⟩
theorem UM_push {L O : Nat} {x : Nat × Nat} {A B : NNI} {us : List (Nat × Nat)} (h : UM 1 L O A us) (h2 : ∀ k, k < us.length → B 5 (k + 8) = A 5 (k + 8)) (h3 : ∀ k, L + k < us.length → B 6 (k + 8) = A 6 (k + 8)) (h5 : ∀ k, L + O + 2 * k < us.length → B 8 (k + 300) = A 8 (k + 300)) (h6 : ∀ k, L + O + 2 * k + 1 < us.length → B 9 (k + 300) = A 9 (k + 300))
    (x2 : us.length < L → B 5 (us.length + 8) = nI x.1) (x3 : L ≤ us.length → us.length < L + O → B 6 (us.length - L + 8) = nI x.1) (x5 : ∀ j, us.length = L + O + 2 * j → B 8 (j + 300) = nI x.1) (x6 : ∀ j, us.length = L + O + 2 * j + 1 → B 9 (j + 300) = nI x.1) : UM 1 L O B (us ++ [x]) := by
  intro k hk
  rw [List.length_append, List.length_singleton] at hk
  by_cases g : k = us.length
  · subst g
    rw [gD_r]
    exact ⟨x2, x3, x5, x6⟩
  · have hk2 : k < us.length := by omega
    rw [gD_l hk2]
    obtain ⟨a, b, c, d⟩ := h k hk2
    exact ⟨fun z => (h2 k hk2).trans (a z), fun z z2 => (h3 (k - L) (by omega)).trans (b z z2), fun j z => (h5 j (by omega)).trans (c j z), fun j z => (h6 j (by omega)).trans (d j z)⟩
theorem UP_push {L O : Nat} {x : Nat × Nat} {A B : NNI} {us : List (Nat × Nat)} (h : UP L O A us) (h2 : ∀ k, k < us.length → B 12 k = A 12 k) (h3 : ∀ k, L + k < us.length → B 13 k = A 13 k) (h5 : ∀ k, L + O + 2 * k < us.length → B 14 k = A 14 k) (h6 : ∀ k, L + O + 2 * k + 1 < us.length → B 15 k = A 15 k)
    (x2 : us.length < L → B 12 us.length = nI x.2) (x3 : L ≤ us.length → us.length < L + O → B 13 (us.length - L) = nI x.2) (x5 : ∀ j, us.length = L + O + 2 * j → B 14 j = nI x.2) (x6 : ∀ j, us.length = L + O + 2 * j + 1 → B 15 j = nI x.2) : UP L O B (us ++ [x]) := by
  intro k hk
  rw [List.length_append, List.length_singleton] at hk
  by_cases g : k = us.length
  · subst g
    rw [gD_r]
    exact ⟨x2, x3, x5, x6⟩
  · have hk2 : k < us.length := by omega
    rw [gD_l hk2]
    obtain ⟨a, b, c, d⟩ := h k hk2
    exact ⟨fun z => (h2 k hk2).trans (a z), fun z z2 => (h3 (k - L) (by omega)).trans (b z z2), fun j z => (h5 j (by omega)).trans (c j z), fun j z => (h6 j (by omega)).trans (d j z)⟩
theorem VL_same {b I L : Nat} {A B : NNI} {vs : List Nat} (h : VL b I L A vs) (h3 : B 3 = A 3) (h4 : B 4 = A 4) (h7 : B 7 = A 7) : VL b I L B vs := by
  intro k hk
  rw [h3, h4, h7]
  exact h k hk
theorem KD_same {b I L : Nat} {A B : NNI} {vs : List Nat} (h : KD b I L A vs) (h10 : B 10 = A 10) : KD b I L B vs := by
  unfold KD
  rw [h10]
  exact h
theorem UM_same {b L O : Nat} {A B : NNI} {us : List (Nat × Nat)} (h : UM b L O A us) (h5 : B 5 = A 5) (h6 : B 6 = A 6) (h8 : B 8 = A 8) (h9 : B 9 = A 9) : UM b L O B us := by
  intro k hk
  rw [h5, h6, h8, h9]
  exact h k hk
theorem UP_same {L O : Nat} {A B : NNI} {us : List (Nat × Nat)} (h : UP L O A us) (h5 : B 12 = A 12) (h6 : B 13 = A 13) (h8 : B 14 = A 14) (h9 : B 15 = A 15) : UP L O B us := by
  intro k hk
  rw [h5, h6, h8, h9]
  exact h k hk
theorem NM_same {b : Nat} {A B : NNI} {nm : Nat → List Nat} (h : NM b A nm) (h16 : B 16 = A 16) (h17 : B 17 = A 17) : NM b B nm := by
  intro s h1 h2
  rw [h16, h17]
  exact h s h1 h2
theorem HM_same {b M I L O Aa : Nat} {A B : NNI} (h : HM b A M I L O Aa) (h2 : B 2 = A 2) : HM b B M I L O Aa := by
  unfold HM
  rw [h2]
  exact h
theorem DR_var {A0 A B : NNI} {M I L O Aa x kd : Nat} {vs : List Nat} {us : List (Nat × Nat)} {nm : Nat → List Nat} (h : DR A0 A M I L O Aa vs vs us nm) (hK : KA A0 B) (hf : ∀ a, a ≠ 10 → a ≠ 11 → a ≠ 3 → a ≠ 4 → a ≠ 7 → B a = A a) (hx : x ∉ vs) (h10 : B 10 = upd (A 10) (x + 401) (nI kd)) (hk : kd = kk I L vs.length)
    (h3 : ∀ k, k < vs.length → B 3 (k + 6) = A 3 (k + 6)) (h4 : ∀ k, I + k < vs.length → B 4 (k + 8) = A 4 (k + 8)) (h7 : ∀ k, I + L + k < vs.length → B 7 (k + 300) = A 7 (k + 300))
    (x3 : vs.length < I → B 3 (vs.length + 6) = nI (2 * x)) (x4 : I ≤ vs.length → vs.length < I + L → B 4 (vs.length - I + 8) = nI (2 * x)) (x7 : I + L ≤ vs.length → B 7 (vs.length - I - L + 300) = nI (2 * x)) : DR A0 B M I L O Aa (vs ++ [x]) (vs ++ [x]) us nm := by
  obtain ⟨-, d2, d3, d4, d5, d6, d7⟩ := h
  have f : ∀ a, a ≠ 10 ∧ a ≠ 11 ∧ a ≠ 3 ∧ a ≠ 4 ∧ a ≠ 7 → B a = A a := fun a z => hf a z.1 z.2.1 z.2.2.1 z.2.2.2.1 z.2.2.2.2
  exact ⟨hK, HM_same d2 (f 2 (by decide)), VL_push d3 h3 h4 h7 x3 x4 x7, KD_push d4 hx (by rw [h10, hk]), UM_same d5 (f 5 (by decide)) (f 6 (by decide)) (f 8 (by decide)) (f 9 (by decide)), UP_same d6 (f 12 (by decide)) (f 13 (by decide)) (f 14 (by decide)) (f 15 (by decide)), NM_same d7 (f 16 (by decide)) (f 17 (by decide))⟩
/-- the arrays of the uses change alone -/
def FU (A B : NNI) : Prop := ∀ a, a ≠ 5 → a ≠ 6 → a ≠ 8 → a ≠ 9 → a ≠ 12 → a ≠ 13 → a ≠ 14 → a ≠ 15 → B a = A a
theorem DR_use {A0 A B : NNI} {M I L O Aa : Nat} {vs ws : List Nat} {us us' : List (Nat × Nat)} {nm : Nat → List Nat} (h : DR A0 A M I L O Aa vs ws us nm) (hK : KA A0 B) (hf : FU A B) (hU : UM 1 L O B us') (hP : UP L O B us') : DR A0 B M I L O Aa vs ws us' nm := by
  obtain ⟨-, d2, d3, d4, -, -, d7⟩ := h
  have f : ∀ a, a ≠ 5 ∧ a ≠ 6 ∧ a ≠ 8 ∧ a ≠ 9 ∧ a ≠ 12 ∧ a ≠ 13 ∧ a ≠ 14 ∧ a ≠ 15 → B a = A a := fun a z => hf a z.1 z.2.1 z.2.2.1 z.2.2.2.1 z.2.2.2.2.1 z.2.2.2.2.2.1 z.2.2.2.2.2.2.1 z.2.2.2.2.2.2.2
  exact ⟨hK, HM_same d2 (f 2 (by decide)), VL_same d3 (f 3 (by decide)) (f 4 (by decide)) (f 7 (by decide)), KD_same d4 (f 10 (by decide)), hU, hP, NM_same d7 (f 16 (by decide)) (f 17 (by decide))⟩
theorem nI_ad (x : Int32) (a b : Nat) (hx : x = nI a) : x + nI b = nI (b + a) := by rw [hx, nI_add, Nat.add_comm]
theorem m_insT {I0 : NI} {A0 : NNI} {h : Nat → Nat} {n M I L O Aa : Nat} {us : List (Nat × Nat)} {nm : Nat → List Nat} {Q X : NI → NNI → Prop} (t : TM I0 A0 h n) (hM : M ≤ 400) (hI : I ≤ 6) :
    ∀ (j : Nat) (vs : List Nat) (q : Nat) (Im : NI) (A : NNI), vs.length + j = I → q ≤ n → MG I0 Im q → DR A0 A M I L O Aa vs vs us nm → Lk (pIns h M j vs q) (fun z => ∀ I' A', MG I0 I' z.2 → DR A0 A' M I L O Aa z.1 z.1 us nm → X I' A') (fun e => ∀ I' A', MB I0 n I' e → KA A0 A' → X I' A') → wp_M_takeText_L2 Q X (j + 1) Im A (nI vs.length) := by
  intro j
  induction j with
  | zero =>
    intro vs q Im A hl hq hG hD k
    unfold wp_M_takeText_L2
    exact pk_le I vs.length (fun _ => k _ _ hG hD) (fun g => absurd g (by omega)) hD.2.1.2.1 rfl
  | succ j ih =>
    intro vs q Im A hl hq hG hD k
    unfold wp_M_takeText_L2
    refine pk_le I vs.length (fun g => absurd g (by omega)) (fun _ => ⟨fun _ => ?_, fun g => absurd hG.2.2.1 g⟩) hD.2.1.2.1 rfl
    refine m_defs t hD.1 hD.2.1.1 hM hD.2.2.2.1 hq hG (fun r I1 A1 hX1 hv hf hK1 => ?_)
    rw [nI_ad 6 6 vs.length rfl, nI_clamp (n := vs.length + 6) (by omega), nI_1]
    have hK2 : KA A0 (va_up A1 3 (upd (A1 3) (vs.length + 6) r)) := hK1.up (a := 3) (Nat.le_add_left 6 _)
    refine ⟨pk_in (vs.length + 6) 12 (by omega), m_take (c := 10) t hK2 hX1 (by decide) (fun I2 hX2 => ?_)⟩
    have bad : ∀ e, MB I0 n I2 e → (∀ I' A', MB I0 n I' e → KA A0 A' → X I' A') → wp_M_takeText_L2 Q X (j + 1) I2 (va_up A1 3 (upd (A1 3) (vs.length + 6) r)) (nI (vs.length + 1)) := fun e hB k => by
      unfold wp_M_takeText_L2
      exact ⟨fun _ => k _ _ hB hK2, fun _ => ⟨fun g => absurd g hB.ne, fun _ => k _ _ hB hK2⟩⟩
    rw [pIns] at k
    cases h1 : pDef h M vs q with
    | error e =>
      simp only [h1, eB_k, eB_e] at k hX2
      exact bad e hX2 k
    | ok z =>
    cases h2 : pExp h 10 z.2 with
    | error e =>
      simp only [h1, h2, eB_k, eB_e] at k hX2
      exact bad e hX2 k
    | ok r2 =>
      simp only [h1, h2, eB_k, eB_e] at k hX2
      obtain ⟨⟨a1, a2, a3⟩, a4, -, -⟩ := pDef_ok t.2.2.2 h1
      obtain ⟨v1, v2⟩ := hv z h1
      have er : r = nI (2 * (z.1 / 2)) := by rw [v1]; congr 1; omega
      have hlen : vs.length + 1 = (vs ++ [z.1 / 2]).length := by simp
      rw [hlen]
      refine ih (vs ++ [z.1 / 2]) r2 _ _ (by rw [← hlen]; omega) hX2.1 hX2.2 ?_ k
      refine DR_var (kd := kk I L vs.length) hD hK2 (fun a z1 z2 z3 z4 z5 => by rw [va_up_ne _ _ z3]; exact hf a z1 z2) a3 ?_ rfl (fun k hk => ?_) (fun k hk => ?_) (fun k hk => ?_) (fun _ => ?_) (fun g => absurd g (by omega)) (fun g => absurd g (by omega))
      · have : kk I L vs.length = 1 := by unfold kk; rw [if_pos (by omega)]
        rw [this]
        exact v2
      · exact (pk_un (by omega)).trans (by rw [hf 3 (by decide) (by decide)])
      · exact congrFun (hf 4 (by decide) (by decide)) _
      · exact congrFun (hf 7 (by decide) (by decide)) _
      · exact pk_us.trans er
theorem m_next {I0 Im : NI} {A0 A : NNI} {h : Nat → Nat} {n M v : Nat} {x : Except Er Nat} {Q : NI → NNI → Prop} (t : TM I0 A0 h n) (hA : KA A0 A) (hM : A 2 5 = nI M) (hM4 : M ≤ 400) (hX : MX I0 n Im x) (hv : v < 8)
    (k : ∀ r I', MX I0 n I' (eB (eB x fun q => eB (pLit h M q) fun z => .ok z.2) (pExp h 10)) → (∀ q z, x = .ok q → pLit h M q = .ok z → r = nI z.1) → KA A0 (va_up (va_up A 12 (upd (A 12) v (Im 4))) 5 (upd (A 5) (v + 8) r)) → Q I' (va_up (va_up A 12 (upd (A 12) v (Im 4))) 5 (upd (A 5) (v + 8) r))) : wp_M_takeNext Im A (nI v) Q := by
  unfold wp_M_takeNext
  rw [nI_clamp (n := v) (by omega), nI_ad 8 8 v rfl, nI_clamp (n := v + 8) (by omega)]
  have hA1 : KA A0 (va_up A 12 (upd (A 12) v (Im 4))) := hA.z (by decide)
  refine ⟨pk_in v 8 hv, m_lit t hA1 hM (by omega) hX (fun r I1 hX1 hr => ⟨pk_in (v + 8) 16 (by omega), ?_⟩)⟩
  have hA2 : KA A0 (va_up (va_up A 12 (upd (A 12) v (Im 4))) 5 (upd (A 5) (v + 8) r)) := hA1.up (a := 5) (Nat.le_add_left 8 _)
  exact m_take (c := 10) t hA2 hX1 (by decide) (fun I2 hX2 => k r I2 hX2 hr hA2)
theorem m_latT {I0 : NI} {A0 : NNI} {h : Nat → Nat} {n M I L O Aa : Nat} {nm : Nat → List Nat} {Q X : NI → NNI → Prop} (t : TM I0 A0 h n) (hM : M ≤ 400) (hI : I ≤ 6) (hL : L ≤ 7) :
    ∀ (j : Nat) (vs : List Nat) (us : List (Nat × Nat)) (q : Nat) (Im : NI) (A : NNI), us.length + j = L → vs.length = I + us.length → q ≤ n → MG I0 Im q → DR A0 A M I L O Aa vs vs us nm → Lk (pLats h M j vs us q) (fun z => ∀ I' A', MG I0 I' z.2.2 → DR A0 A' M I L O Aa z.1 z.1 z.2.1 nm → X I' A') (fun e => ∀ I' A', MB I0 n I' e → KA A0 A' → X I' A') → wp_M_takeText_L49 Q X (j + 1) Im A (nI us.length) := by
  intro j
  induction j with
  | zero =>
    intro vs us q Im A hl hvl hq hG hD k
    unfold wp_M_takeText_L49
    exact pk_le L us.length (fun _ => k _ _ hG hD) (fun g => absurd g (by omega)) hD.2.1.2.2.1 rfl
  | succ j ih =>
    intro vs us q Im A hl hvl hq hG hD k
    unfold wp_M_takeText_L49
    refine pk_le L us.length (fun g => absurd g (by omega)) (fun _ => ⟨fun _ => ?_, fun g => absurd hG.2.2.1 g⟩) hD.2.1.2.2.1 rfl
    refine m_defs t hD.1 hD.2.1.1 hM hD.2.2.2.1 hq hG (fun r I1 A1 hX1 hv hf hK1 => ?_)
    rw [nI_ad 8 8 us.length rfl, nI_clamp (n := us.length + 8) (by omega), nI_1]
    have hK2 : KA A0 (va_up A1 4 (upd (A1 4) (us.length + 8) r)) := hK1.up (a := 4) (Nat.le_add_left 8 _)
    refine ⟨pk_in (us.length + 8) 16 (by omega), m_take (c := 32) t hK2 hX1 (by decide) (fun I2 hX2 => ?_)⟩
    have hM2 : (va_up A1 4 (upd (A1 4) (us.length + 8) r)) 2 5 = nI M := by
      show A1 2 5 = nI M
      rw [hf 2 (by decide) (by decide)]
      exact hD.2.1.1
    refine m_next t hK2 hM2 hM hX2 (by omega) (fun r3 I3 hX3 hr3 hK3 => ?_)
    have bad : ∀ e, MB I0 n I3 e → (∀ I' A', MB I0 n I' e → KA A0 A' → X I' A') → ∀ B, KA A0 B → wp_M_takeText_L49 Q X (j + 1) I3 B (nI (us.length + 1)) := fun e hB k B hKB => by
      unfold wp_M_takeText_L49
      exact ⟨fun _ => k _ _ hB hKB, fun _ => ⟨fun g => absurd g hB.ne, fun _ => k _ _ hB hKB⟩⟩
    rw [pLats] at k
    cases h1 : pDef h M vs q with
    | error e =>
      simp only [h1, eB_k, eB_e] at k hX3
      exact bad e hX3 k _ hK3
    | ok z =>
    cases h2 : pExp h 32 z.2 with
    | error e =>
      simp only [h1, h2, eB_k, eB_e] at k hX3
      exact bad e hX3 k _ hK3
    | ok r2 =>
    cases h3 : pLit h M r2 with
    | error e =>
      simp only [h1, h2, h3, eB_k, eB_e] at k hX3
      exact bad e hX3 k _ hK3
    | ok y =>
    cases h4 : pExp h 10 y.2 with
    | error e =>
      simp only [h1, h2, h3, h4, eB_k, eB_e] at k hX3
      exact bad e hX3 k _ hK3
    | ok r4 =>
      simp only [h1, h2, h3, h4, eB_k, eB_e] at k hX3 hX2
      obtain ⟨⟨a1, a2, a3⟩, a4, -, -⟩ := pDef_ok t.2.2.2 h1
      obtain ⟨v1, v2⟩ := hv z h1
      have er : r = nI (2 * (z.1 / 2)) := by rw [v1]; congr 1; omega
      have er3 : r3 = nI y.1 := hr3 r2 y (by simp only [h1, h2, eB_k]) h3
      have ei : I2 4 = nI r2 := hX2.2.2.1
      have hlen : us.length + 1 = (us ++ [(y.1, r2)]).length := by simp
      rw [hlen]
      have hD2 : DR A0 (va_up A1 4 (upd (A1 4) (us.length + 8) r)) M I L O Aa (vs ++ [z.1 / 2]) (vs ++ [z.1 / 2]) us nm := by
        refine DR_var (kd := kk I L vs.length) hD hK2 (fun a z1 z2 z3 z4 z5 => by rw [va_up_ne _ _ z4]; exact hf a z1 z2) a3 ?_ rfl (fun k hk => ?_) (fun k hk => ?_) (fun k hk => ?_) (fun g => absurd g (by omega)) (fun _ _ => ?_) (fun g => absurd g (by omega))
        · have : kk I L vs.length = 2 := by unfold kk; rw [if_neg (by omega), if_pos (by omega)]
          rw [this]
          exact v2
        · exact congrFun (hf 3 (by decide) (by decide)) _
        · exact (pk_un (by omega)).trans (by rw [hf 4 (by decide) (by decide)])
        · exact congrFun (hf 7 (by decide) (by decide)) _
        · rw [show vs.length - I = us.length by omega]
          exact pk_us.trans er
      refine ih (vs ++ [z.1 / 2]) (us ++ [(y.1, r2)]) r4 _ _ (by rw [← hlen]; omega) (by rw [List.length_append, List.length_append, List.length_singleton, List.length_singleton]; omega) hX3.1 hX3.2 (DR_use hD2 hK3 (fun a z1 z2 z3 z4 z5 z6 z7 z8 => by rw [va_up_ne _ _ z1, va_up_ne _ _ z5]) ?_ ?_) k
      · exact UM_push hD2.2.2.2.2.1 (fun k hk => pk_un (by omega)) (fun k hk => rfl) (fun k hk => rfl) (fun k hk => rfl) (fun _ => pk_us.trans er3) (fun g => absurd g (by omega)) (fun j g => absurd g (by omega)) (fun j g => absurd g (by omega))
      · exact UP_push hD2.2.2.2.2.2.1 (fun k hk => pk_un (by omega)) (fun k hk => rfl) (fun k hk => rfl) (fun k hk => rfl) (fun _ => pk_us.trans ei) (fun g => absurd g (by omega)) (fun j g => absurd g (by omega)) (fun j g => absurd g (by omega))
theorem m_outs {I0 : NI} {A0 : NNI} {h : Nat → Nat} {n M I L O Aa : Nat} {vs ws : List Nat} {nm : Nat → List Nat} {Q X : NI → NNI → Prop} (t : TM I0 A0 h n) (hM : M ≤ 400) (hL : L ≤ 7) (hO : O ≤ 8) :
    ∀ (j c : Nat) (us : List (Nat × Nat)) (q : Nat) (Im : NI) (A : NNI), c + j = O → us.length = L + c → q ≤ n → MG I0 Im q → DR A0 A M I L O Aa vs ws us nm → Lk (pUses h M j us q) (fun z => ∀ I' A', MG I0 I' z.2 → DR A0 A' M I L O Aa vs ws z.1 nm → X I' A') (fun e => ∀ I' A', MB I0 n I' e → KA A0 A' → X I' A') → wp_M_takeOutputs_L2 Q X (j + 1) Im A (nI c) := by
  intro j
  induction j with
  | zero =>
    intro c us q Im A hl hul hq hG hD k
    unfold wp_M_takeOutputs_L2
    exact pk_le O c (fun _ => k _ _ hG hD) (fun g => absurd g (by omega)) hD.2.1.2.2.2.1 rfl
  | succ j ih =>
    intro c us q Im A hl hul hq hG hD k
    unfold wp_M_takeOutputs_L2
    refine pk_le O c (fun g => absurd g (by omega)) (fun _ => ⟨fun _ => ⟨pk_in c 8 (by omega), ?_⟩, fun g => absurd hG.2.2.1 g⟩) hD.2.1.2.2.2.1 rfl
    rw [nI_clamp (n := c) (by omega), nI_ad 8 8 c rfl, nI_clamp (n := c + 8) (by omega), nI_1]
    have hK1 : KA A0 (va_up A 13 (upd (A 13) c (Im 4))) := hD.1.z (by decide)
    refine m_lit (x := .ok q) t hK1 hD.2.1.1 (by omega) ⟨hq, hG⟩ (fun r I1 hX1 hr => ⟨pk_in (c + 8) 16 (by omega), ?_⟩)
    have hK2 : KA A0 (va_up (va_up A 13 (upd (A 13) c (Im 4))) 6 (upd (A 6) (c + 8) r)) := hK1.up (a := 6) (Nat.le_add_left 8 _)
    refine m_take (c := 10) t hK2 hX1 (by decide) (fun I2 hX2 => ?_)
    have bad : ∀ e, MB I0 n I2 e → (∀ I' A', MB I0 n I' e → KA A0 A' → X I' A') → ∀ B, KA A0 B → wp_M_takeOutputs_L2 Q X (j + 1) I2 B (nI (c + 1)) := fun e hB k B hKB => by
      unfold wp_M_takeOutputs_L2
      exact ⟨fun _ => k _ _ hB hKB, fun _ => ⟨fun g => absurd g hB.ne, fun _ => k _ _ hB hKB⟩⟩
    rw [pUses] at k
    cases h1 : pLit h M q with
    | error e =>
      simp only [h1, eB_k, eB_e] at k hX2
      exact bad e hX2 k _ hK2
    | ok z =>
    cases h2 : pExp h 10 z.2 with
    | error e =>
      simp only [h1, h2, eB_k, eB_e] at k hX2
      exact bad e hX2 k _ hK2
    | ok r2 =>
      simp only [h1, h2, eB_k, eB_e] at k hX2
      have er := hr q z rfl h1
      refine ih (c + 1) (us ++ [(z.1, q)]) r2 _ _ (by omega) (by rw [List.length_append, List.length_singleton]; omega) hX2.1 hX2.2 (DR_use hD hK2 (fun a z1 z2 z3 z4 z5 z6 z7 z8 => by rw [va_up_ne _ _ z2, va_up_ne _ _ z6]) ?_ ?_) k
      · exact UM_push hD.2.2.2.2.1 (fun k hk => rfl) (fun k hk => pk_un (by omega)) (fun k hk => rfl) (fun k hk => rfl) (fun g => absurd g (by omega)) (fun _ _ => by rw [show us.length - L = c by omega]; exact pk_us.trans er) (fun j g => absurd g (by omega)) (fun j g => absurd g (by omega))
      · exact UP_push hD.2.2.2.2.2.1 (fun k hk => rfl) (fun k hk => pk_un (by omega)) (fun k hk => rfl) (fun k hk => rfl) (fun g => absurd g (by omega)) (fun _ _ => by rw [show us.length - L = c by omega]; exact pk_us.trans hG.2.1) (fun j g => absurd g (by omega)) (fun j g => absurd g (by omega))
