/-! the reference keeps what it has read; load -/
def CPY (o c : Nat) (f g : Nat → Int32) : Prop := ∀ k, g k = if k < c then f (k + o) else f k
theorem CPY_0 {o : Nat} {f : Nat → Int32} : CPY o 0 f f := fun k => by rw [if_neg (Nat.not_lt_zero k)]
theorem CPY_s {o c : Nat} {f g : Nat → Int32} (h : CPY o c f g) (hc : c < o) : CPY o (c + 1) f (upd g c (g (c + o))) := by
  intro k
  have e : g (c + o) = f (c + o) := by rw [h, if_neg (by omega)]
  by_cases y : k = c
  · subst y
    rw [pk_us, if_pos (by omega), e]
  · rw [pk_un y, h k]
    by_cases z : k < c
    · rw [if_pos z, if_pos (by omega)]
    · rw [if_neg z, if_neg (by omega)]
def CPN (o c : Nat) (f g : Nat → Int32) : Prop := ∀ k, g k = if k < c then vp_nar .byte (f (k + o)) else f k
theorem CPN_s {o c : Nat} {f g : Nat → Int32} (h : CPN o c f g) (hc : c < o) : CPN o (c + 1) f (upd g c (vp_nar .byte (g (c + o)))) := by
  intro k
  have e : g (c + o) = f (c + o) := by rw [h, if_neg (by omega)]
  by_cases y : k = c
  · subst y
    rw [pk_us, if_pos (by omega), e]
  · rw [pk_un y, h k]
    by_cases z : k < c
    · rw [if_pos z, if_pos (by omega)]
    · rw [if_neg z, if_neg (by omega)]
theorem m_keep1 {Im : NI} {A0 : NNI} {Q X : NI → NNI → Prop} (k : ∀ B, (∀ a, a ≠ 2 → B a = A0 a) → CPY 5 5 (A0 2) (B 2) → X Im B) : ∀ (j c : Nat) (A : NNI), c + j = 5 → (∀ a, a ≠ 2 → A a = A0 a) → CPY 5 c (A0 2) (A 2) → wp_M_keep_L2 Q X (j + 1) Im A (nI c) := by
  intro j
  induction j with
  | zero =>
    intro c A hl hF h
    unfold wp_M_keep_L2
    have hc : c = 5 := by omega
    exact pk_le 5 c (fun _ => k A hF (hc ▸ h)) (fun g => absurd g (by omega))
  | succ j ih =>
    intro c A hl hF h
    unfold wp_M_keep_L2
    refine pk_le 5 c (fun g => absurd g (by omega)) (fun _ => ?_)
    rw [nI_ad 5 5 c rfl, nI_clamp (n := c + 5) (by omega), nI_clamp (n := c) (by omega), nI_1]
    exact ⟨pk_in (c + 5) 10 (by omega), pk_in c 10 (by omega), ih (c + 1) _ (by omega) (fun a z => by rw [va_up_ne _ _ z]; exact hF a z) (CPY_s h (by omega))⟩
theorem m_keep2 {Im : NI} {A0 : NNI} {Q X : NI → NNI → Prop} (k : ∀ B, (∀ a, a ≠ 3 → B a = A0 a) → CPY 6 6 (A0 3) (B 3) → X Im B) : ∀ (j c : Nat) (A : NNI), c + j = 6 → (∀ a, a ≠ 3 → A a = A0 a) → CPY 6 c (A0 3) (A 3) → wp_M_keep_L29 Q X (j + 1) Im A (nI c) := by
  intro j
  induction j with
  | zero =>
    intro c A hl hF h
    unfold wp_M_keep_L29
    have hc : c = 6 := by omega
    exact pk_le 6 c (fun _ => k A hF (hc ▸ h)) (fun g => absurd g (by omega))
  | succ j ih =>
    intro c A hl hF h
    unfold wp_M_keep_L29
    refine pk_le 6 c (fun g => absurd g (by omega)) (fun _ => ?_)
    rw [nI_ad 6 6 c rfl, nI_clamp (n := c + 6) (by omega), nI_clamp (n := c) (by omega), nI_1]
    exact ⟨pk_in (c + 6) 12 (by omega), pk_in c 12 (by omega), ih (c + 1) _ (by omega) (fun a z => by rw [va_up_ne _ _ z]; exact hF a z) (CPY_s h (by omega))⟩
theorem m_keep3 {Im : NI} {A0 : NNI} {Q X : NI → NNI → Prop} (k : ∀ B, (∀ a, a ≠ 4 → a ≠ 5 → a ≠ 6 → B a = A0 a) → CPY 8 8 (A0 4) (B 4) → CPY 8 8 (A0 5) (B 5) → CPY 8 8 (A0 6) (B 6) → X Im B) : ∀ (j c : Nat) (A : NNI), c + j = 8 → (∀ a, a ≠ 4 → a ≠ 5 → a ≠ 6 → A a = A0 a) → CPY 8 c (A0 4) (A 4) → CPY 8 c (A0 5) (A 5) → CPY 8 c (A0 6) (A 6) → wp_M_keep_L58 Q X (j + 1) Im A (nI c) := by
  intro j
  induction j with
  | zero =>
    intro c A hl hF h h2 h3
    unfold wp_M_keep_L58
    have hc : c = 8 := by omega
    exact pk_le 8 c (fun _ => k A hF (hc ▸ h) (hc ▸ h2) (hc ▸ h3)) (fun g => absurd g (by omega))
  | succ j ih =>
    intro c A hl hF h h2 h3
    unfold wp_M_keep_L58
    refine pk_le 8 c (fun g => absurd g (by omega)) (fun _ => ?_)
    rw [nI_ad 8 8 c rfl, nI_clamp (n := c + 8) (by omega), nI_clamp (n := c) (by omega), nI_1]
    exact ⟨pk_in (c + 8) 16 (by omega), pk_in c 16 (by omega), ih (c + 1) _ (by omega) (fun a z1 z2 z3 => by rw [va_up_ne _ _ z3, va_up_ne _ _ z2, va_up_ne _ _ z1]; exact hF a z1 z2 z3) (CPY_s h (by omega)) (CPY_s h2 (by omega)) (CPY_s h3 (by omega))⟩
theorem m_keep4 {Im : NI} {A0 : NNI} {Q X : NI → NNI → Prop} (k : ∀ B, (∀ a, a ≠ 7 → a ≠ 8 → a ≠ 9 → B a = A0 a) → CPY 300 300 (A0 7) (B 7) → CPY 300 300 (A0 8) (B 8) → CPY 300 300 (A0 9) (B 9) → X Im B) : ∀ (j c : Nat) (A : NNI), c + j = 300 → (∀ a, a ≠ 7 → a ≠ 8 → a ≠ 9 → A a = A0 a) → CPY 300 c (A0 7) (A 7) → CPY 300 c (A0 8) (A 8) → CPY 300 c (A0 9) (A 9) → wp_M_keep_L117 Q X (j + 1) Im A (nI c) := by
  intro j
  induction j with
  | zero =>
    intro c A hl hF h h2 h3
    unfold wp_M_keep_L117
    have hc : c = 300 := by omega
    exact pk_le 300 c (fun _ => k A hF (hc ▸ h) (hc ▸ h2) (hc ▸ h3)) (fun g => absurd g (by omega))
  | succ j ih =>
    intro c A hl hF h h2 h3
    unfold wp_M_keep_L117
    refine pk_le 300 c (fun g => absurd g (by omega)) (fun _ => ?_)
    rw [nI_ad 300 300 c rfl, nI_clamp (n := c + 300) (by omega), nI_clamp (n := c) (by omega), nI_1]
    exact ⟨pk_in (c + 300) 600 (by omega), pk_in c 600 (by omega), ih (c + 1) _ (by omega) (fun a z1 z2 z3 => by rw [va_up_ne _ _ z3, va_up_ne _ _ z2, va_up_ne _ _ z1]; exact hF a z1 z2 z3) (CPY_s h (by omega)) (CPY_s h2 (by omega)) (CPY_s h3 (by omega))⟩
theorem m_keep5 {Im : NI} {A0 : NNI} {Q X : NI → NNI → Prop} (k : ∀ B, (∀ a, a ≠ 10 → a ≠ 11 → B a = A0 a) → CPY 401 401 (A0 10) (B 10) → X Im B) : ∀ (j c : Nat) (A : NNI), c + j = 401 → (∀ a, a ≠ 10 → a ≠ 11 → A a = A0 a) → CPY 401 c (A0 10) (A 10) → wp_M_keep_L180 Q X (j + 1) Im A (nI c) := by
  intro j
  induction j with
  | zero =>
    intro c A hl hF h
    unfold wp_M_keep_L180
    have hc : c = 401 := by omega
    exact pk_le 401 c (fun _ => k A hF (hc ▸ h)) (fun g => absurd g (by omega))
  | succ j ih =>
    intro c A hl hF h
    unfold wp_M_keep_L180
    refine pk_le 401 c (fun g => absurd g (by omega)) (fun _ => ?_)
    rw [nI_ad 401 401 c rfl, nI_clamp (n := c + 401) (by omega), nI_clamp (n := c) (by omega), nI_1]
    exact ⟨pk_in (c + 401) 802 (by omega), pk_in c 802 (by omega), ih (c + 1) _ (by omega) (fun a z1 z2 => by rw [va_up_ne _ _ z2, va_up_ne _ _ z1]; exact hF a z1 z2) (CPY_s h (by omega))⟩
theorem m_keep6 {Im : NI} {A0 : NNI} {Q X : NI → NNI → Prop} (k : ∀ B, (∀ a, a ≠ 17 → B a = A0 a) → CPY 22 22 (A0 17) (B 17) → X Im B) : ∀ (j c : Nat) (A : NNI), c + j = 22 → (∀ a, a ≠ 17 → A a = A0 a) → CPY 22 c (A0 17) (A 17) → wp_M_keep_L227 Q X (j + 1) Im A (nI c) := by
  intro j
  induction j with
  | zero =>
    intro c A hl hF h
    unfold wp_M_keep_L227
    have hc : c = 22 := by omega
    exact pk_le 22 c (fun _ => k A hF (hc ▸ h)) (fun g => absurd g (by omega))
  | succ j ih =>
    intro c A hl hF h
    unfold wp_M_keep_L227
    refine pk_le 22 c (fun g => absurd g (by omega)) (fun _ => ?_)
    rw [nI_ad 22 22 c rfl, nI_clamp (n := c + 22) (by omega), nI_clamp (n := c) (by omega), nI_1]
    exact ⟨pk_in (c + 22) 44 (by omega), pk_in c 44 (by omega), ih (c + 1) _ (by omega) (fun a z => by rw [va_up_ne _ _ z]; exact hF a z) (CPY_s h (by omega))⟩
theorem m_keep7 {Im : NI} {A0 : NNI} {Q X : NI → NNI → Prop} (k : ∀ B, (∀ a, a ≠ 16 → B a = A0 a) → CPN 880 880 (A0 16) (B 16) → X Im B) : ∀ (j c : Nat) (A : NNI), c + j = 880 → (∀ a, a ≠ 16 → A a = A0 a) → CPN 880 c (A0 16) (A 16) → wp_M_keep_L256 Q X (j + 1) Im A (nI c) := by
  intro j
  induction j with
  | zero =>
    intro c A hl hF h
    unfold wp_M_keep_L256
    have hc : c = 880 := by omega
    exact pk_le 880 c (fun _ => k A hF (hc ▸ h)) (fun g => absurd g (by omega))
  | succ j ih =>
    intro c A hl hF h
    unfold wp_M_keep_L256
    refine pk_le 880 c (fun g => absurd g (by omega)) (fun _ => ?_)
    rw [nI_ad 880 880 c rfl, nI_clamp (n := c + 880) (by omega), nI_clamp (n := c) (by omega), nI_1]
    exact ⟨pk_in (c + 880) 1760 (by omega), pk_in c 1760 (by omega), ih (c + 1) _ (by omega) (fun a z => by rw [va_up_ne _ _ z]; exact hF a z) (CPN_s h (by omega))⟩
theorem m_keep {Im : NI} {A : NNI} {Q : NI → NNI → Prop} (k : ∀ B, CPY 5 5 (A 2) (B 2) → CPY 6 6 (A 3) (B 3) → CPY 8 8 (A 4) (B 4) → CPY 8 8 (A 5) (B 5) → CPY 8 8 (A 6) (B 6) → CPY 300 300 (A 7) (B 7) → CPY 300 300 (A 8) (B 8) → CPY 300 300 (A 9) (B 9) → CPY 401 401 (A 10) (B 10) → CPY 22 22 (A 17) (B 17) → CPN 880 880 (A 16) (B 16) → B 1 = A 1 → Q (va_up Im 9 0) B) : wp_M_keep Im A Q := by
  unfold wp_M_keep
  refine ⟨6, m_keep1 (A0 := A) (fun B1 f1 h2 => ?_) 5 0 A (by omega) (fun a _ => rfl) CPY_0⟩
  refine ⟨7, m_keep2 (A0 := B1) (fun B2 f2 h3 => ?_) 6 0 B1 (by omega) (fun a _ => rfl) CPY_0⟩
  refine ⟨9, m_keep3 (A0 := B2) (fun B3 f3 h4 h5 h6 => ?_) 8 0 B2 (by omega) (fun a _ _ _ => rfl) CPY_0 CPY_0 CPY_0⟩
  refine ⟨301, m_keep4 (A0 := B3) (fun B4 f4 h7 h8 h9 => ?_) 300 0 B3 (by omega) (fun a _ _ _ => rfl) CPY_0 CPY_0 CPY_0⟩
  refine ⟨402, m_keep5 (A0 := B4) (fun B5 f5 h10 => ?_) 401 0 B4 (by omega) (fun a _ _ => rfl) CPY_0⟩
  refine ⟨23, m_keep6 (A0 := B5) (fun B6 f6 h17 => ?_) 22 0 B5 (by omega) (fun a _ => rfl) CPY_0⟩
  refine ⟨881, m_keep7 (A0 := B6) (fun B7 f7 h16 => ?_) 880 0 B6 (by omega) (fun a _ => rfl) (fun k => by rw [if_neg (Nat.not_lt_zero k)])⟩
  have g7 : ∀ a, a ≠ 16 → B7 a = B6 a := f7
  have s2 : B7 2 = B1 2 := by rw [f7 2 (by decide), f6 2 (by decide), f5 2 (by decide) (by decide), f4 2 (by decide) (by decide) (by decide), f3 2 (by decide) (by decide) (by decide), f2 2 (by decide)]
  have s3 : B7 3 = B2 3 := by rw [f7 3 (by decide), f6 3 (by decide), f5 3 (by decide) (by decide), f4 3 (by decide) (by decide) (by decide), f3 3 (by decide) (by decide) (by decide)]
  have s4 : ∀ a, a ≠ 7 → a ≠ 8 → a ≠ 9 → a ≠ 10 → a ≠ 11 → a ≠ 17 → a ≠ 16 → B7 a = B3 a := fun a z7 z8 z9 z10 z11 z17 z16 => by rw [f7 a z16, f6 a z17, f5 a z10 z11, f4 a z7 z8 z9]
  have s7 : ∀ a, a ≠ 10 → a ≠ 11 → a ≠ 17 → a ≠ 16 → B7 a = B4 a := fun a z10 z11 z17 z16 => by rw [f7 a z16, f6 a z17, f5 a z10 z11]
  have r : ∀ a, a ≠ 2 → a ≠ 3 → B2 a = A a := fun a z2 z3 => by rw [f2 a z3, f1 a z2]
  have r3 : ∀ a, a ≠ 2 → a ≠ 3 → a ≠ 4 → a ≠ 5 → a ≠ 6 → B3 a = A a := fun a z2 z3 z4 z5 z6 => by rw [f3 a z4 z5 z6, r a z2 z3]
  have r4 : ∀ a, a ≠ 2 → a ≠ 3 → a ≠ 4 → a ≠ 5 → a ≠ 6 → a ≠ 7 → a ≠ 8 → a ≠ 9 → B4 a = A a := fun a z2 z3 z4 z5 z6 z7 z8 z9 => by rw [f4 a z7 z8 z9, r3 a z2 z3 z4 z5 z6]
  refine k B7 (s2 ▸ h2) ?_ ?_ ?_ ?_ ?_ ?_ ?_ ?_ ?_ ?_ ?_
  · rw [s3, ← f1 3 (by decide)]; exact h3
  · rw [s4 4 (by decide) (by decide) (by decide) (by decide) (by decide) (by decide) (by decide), ← r 4 (by decide) (by decide)]; exact h4
  · rw [s4 5 (by decide) (by decide) (by decide) (by decide) (by decide) (by decide) (by decide), ← r 5 (by decide) (by decide)]; exact h5
  · rw [s4 6 (by decide) (by decide) (by decide) (by decide) (by decide) (by decide) (by decide), ← r 6 (by decide) (by decide)]; exact h6
  · rw [s7 7 (by decide) (by decide) (by decide) (by decide), ← r3 7 (by decide) (by decide) (by decide) (by decide) (by decide)]; exact h7
  · rw [s7 8 (by decide) (by decide) (by decide) (by decide), ← r3 8 (by decide) (by decide) (by decide) (by decide) (by decide)]; exact h8
  · rw [s7 9 (by decide) (by decide) (by decide) (by decide), ← r3 9 (by decide) (by decide) (by decide) (by decide) (by decide)]; exact h9
  · rw [f7 10 (by decide), f6 10 (by decide), ← r4 10 (by decide) (by decide) (by decide) (by decide) (by decide) (by decide) (by decide) (by decide)]; exact h10
  · rw [f7 17 (by decide), ← r4 17 (by decide) (by decide) (by decide) (by decide) (by decide) (by decide) (by decide) (by decide), ← f5 17 (by decide) (by decide)]; exact h17
  · rw [← r4 16 (by decide) (by decide) (by decide) (by decide) (by decide) (by decide) (by decide) (by decide), ← f5 16 (by decide) (by decide), ← f6 16 (by decide)]; exact h16
  · rw [f7 1 (by decide), f6 1 (by decide), f5 1 (by decide) (by decide)]
    exact r4 1 (by decide) (by decide) (by decide) (by decide) (by decide) (by decide) (by decide) (by decide)
/-- the reference's circuit -/
def CM (A : NNI) (c : Ck) : Prop := HM 0 A (kM c) (kI c) (kL c) (kO c) (kA c) ∧ VL 0 (kI c) (kL c) A (kV c) ∧ KD 0 (kI c) (kL c) A (kV c) ∧ UM 0 (kL c) (kO c) A (kU c) ∧ NM 0 A (kN c)
theorem CM_of {A0 A B : NNI} {M I L O Aa : Nat} {vs : List Nat} {us : List (Nat × Nat)} {nm : Nat → List Nat} {P : List Nat} (hD : DR A0 A M I L O Aa vs vs us nm) (hI : I ≤ 6) (hL : L ≤ 7) (hO : O ≤ 8) (hA3 : Aa ≤ 300) (hvl : vs.length = I + L + Aa) (hv : ∀ v, v ∈ vs → v ≤ 400) (hul : us.length = L + O + 2 * Aa)
    (h2 : CPY 5 5 (A 2) (B 2)) (h3 : CPY 6 6 (A 3) (B 3)) (h4 : CPY 8 8 (A 4) (B 4)) (h5 : CPY 8 8 (A 5) (B 5)) (h6 : CPY 8 8 (A 6) (B 6)) (h7 : CPY 300 300 (A 7) (B 7)) (h8 : CPY 300 300 (A 8) (B 8)) (h9 : CPY 300 300 (A 9) (B 9)) (h10 : CPY 401 401 (A 10) (B 10)) (h17 : CPY 22 22 (A 17) (B 17)) (h16 : CPN 880 880 (A 16) (B 16)) : CM B ((M, I, L, O, Aa), vs, us, nm, P) := by
  obtain ⟨-, d2, d3, d4, d5, -, d7⟩ := hD
  have c : ∀ {o k : Nat} {f g : Nat → Int32}, CPY o o f g → k < o → g k = f (k + o) := fun h hk => by rw [h, if_pos hk]
  refine ⟨⟨(c h2 (by decide)).trans d2.1, (c h2 (by decide)).trans d2.2.1, (c h2 (by decide)).trans d2.2.2.1, (c h2 (by decide)).trans d2.2.2.2.1, (c h2 (by decide)).trans d2.2.2.2.2⟩, fun k hk => ?_, ⟨fun v hv4 hm => ?_, fun k hk => ?_⟩, fun k hk => ?_, fun s hs hs2 => ?_⟩
  · have hk' : k < vs.length := hk
    obtain ⟨x1, x2, x3⟩ := d3 k hk
    exact ⟨fun z => (c h3 (show k < 6 by have : k < I := z; omega)).trans (x1 z), fun z z2 => (c h4 (show k - I < 8 by have : k < I + L := z2; omega)).trans (x2 z z2), fun z => (c h7 (show k - I - L < 300 by omega)).trans (x3 z)⟩
  · exact (c h10 (by omega)).trans (d4.1 v hv4 hm)
  · have := hv _ (getD_mem (d := 0) hk)
    exact (c h10 (show vs.getD k 0 < 401 by omega)).trans (d4.2 k hk)
  · have hk' : k < us.length := hk
    obtain ⟨x1, x2, x3, x4⟩ := d5 k hk
    exact ⟨fun z => (c h5 (show k < 8 by have : k < L := z; omega)).trans (x1 z), fun z z2 => (c h6 (show k - L < 8 by have : k < L + O := z2; omega)).trans (x2 z z2), fun j z => (c h8 (show j < 300 by have : k = L + O + 2 * j := z; omega)).trans (x3 j z), fun j z => (c h9 (show j < 300 by have : k = L + O + 2 * j + 1 := z; omega)).trans (x4 j z)⟩
  · obtain ⟨x1, x2, x3⟩ := d7 s hs hs2
    have hr := rS_lt hs
    refine ⟨x1, (c h17 (show rS s < 22 by omega)).trans x2, fun i hi => ?_⟩
    have hi' : i < (nm s).length := hi
    have e : B 16 (40 * (rS s + 22 * 0) + i) = vp_nar .byte (A 16 (40 * (rS s + 22 * 0) + i + 880)) := by rw [h16, if_pos (by omega)]
    rw [e, show 40 * (rS s + 22 * 0) + i + 880 = 40 * (rS s + 22 * 1) + i by omega, x3 i hi]
    exact pk_vb _
theorem m_ld1 {A0 : NNI} {Q : Int32 → NI → NNI → Prop} {X : NI → NNI → Prop} {Im : NI} (k : ∀ B, KA A0 B → (∀ v, v < 401 → B 10 (v + 401) = 0) → X Im B) : ∀ (j c : Nat) (A : NNI), c + j = 401 → KA A0 A → (∀ v, v < c → A 10 (v + 401) = 0) → wp_M_load_L17 Q X (j + 1) Im A (nI c) := by
  intro j
  induction j with
  | zero =>
    intro c A hl hK h
    unfold wp_M_load_L17
    exact pk_le 401 c (fun _ => k A hK (fun v hv => h v (by omega))) (fun g => absurd g (by omega))
  | succ j ih =>
    intro c A hl hK h
    unfold wp_M_load_L17
    refine pk_le 401 c (fun g => absurd g (by omega)) (fun _ => ?_)
    rw [nI_ad 401 401 c rfl, nI_clamp (n := c + 401) (by omega), nI_1]
    refine ⟨pk_in (c + 401) 802 (by omega), ih (c + 1) _ (by omega) (hK.up (a := 10) (Nat.le_add_left 401 _)) (fun v hv => ?_)⟩
    show upd (A 10) (c + 401) 0 (v + 401) = 0
    by_cases g : v = c
    · rw [g, pk_us]
    · rw [pk_un (by omega)]; exact h v (by omega)
theorem m_ld2 {A0 : NNI} {Q : Int32 → NI → NNI → Prop} {X : NI → NNI → Prop} {Im : NI} (k : ∀ B, KA A0 B → (∀ v, v < 401 → B 10 (v + 401) = 0) → (∀ v, v < 22 → B 17 (v + 22) = 0) → X Im B) : ∀ (j c : Nat) (A : NNI), c + j = 22 → KA A0 A → (∀ v, v < 401 → A 10 (v + 401) = 0) → (∀ v, v < c → A 17 (v + 22) = 0) → wp_M_load_L44 Q X (j + 1) Im A (nI (c + 22)) := by
  intro j
  induction j with
  | zero =>
    intro c A hl hK h10 h
    unfold wp_M_load_L44
    exact pk_le 44 (c + 22) (fun _ => k A hK h10 (fun v hv => h v (by omega))) (fun g => absurd g (by omega))
  | succ j ih =>
    intro c A hl hK h10 h
    unfold wp_M_load_L44
    refine pk_le 44 (c + 22) (fun g => absurd g (by omega)) (fun _ => ?_)
    rw [nI_clamp (n := c + 22) (by omega), nI_1, show c + 22 + 1 = c + 1 + 22 by omega]
    refine ⟨pk_in (c + 22) 44 (by omega), ih (c + 1) _ (by omega) (hK.up (a := 17) (Nat.le_add_left 22 _)) h10 (fun v hv => ?_)⟩
    show upd (A 17) (c + 22) 0 (v + 22) = 0
    by_cases g : v = c
    · rw [g, pk_us]
    · rw [pk_un (by omega)]; exact h v (by omega)
theorem KA_F3 {A0 A B : NNI} (h : KA A0 A) (hF : F3 A B) : KA A0 B := by
  intro a k hk
  by_cases g : a ≠ 18 ∧ a ≠ 19 ∧ a ≠ 20
  · rw [hF a g.1 g.2.1 g.2.2]; exact h a k hk
  · exfalso
    have : a = 18 ∨ a = 19 ∨ a = 20 := by omega
    rcases this with e | e | e <;> subst e <;> exact absurd hk (Nat.not_lt_zero k)
theorem KA_same {A0 A B : NNI} (h : KA A0 A) (a0 : Nat) (hF : ∀ a, a ≠ a0 → B a = A a) (h0 : ∀ k, k < kh a0 → B a0 k = A a0 k) : KA A0 B := by
  intro a k hk
  by_cases g : a = a0
  · subst g; rw [h0 k hk]; exact h a k hk
  · rw [hF a g]; exact h a k hk
theorem m_load {Im : NI} {A : NNI} {h : Nat → Nat} {n : Nat} {Q : Int32 → NI → NNI → Prop} (t : TM Im A h n)
    (k : Lk (pFile h) (fun c => ∀ I' B, CM B c → I' 0 = 0 → I' 1 = 0 → I' 2 = 0 → I' 3 = -1 → I' 9 = 0 → (∀ k, k < 20 → B 1 k = A 1 k) → Q (nI (kA c)) I' B) (fun e => ∀ I' B, KA A B → I' 0 = 1 → I' 1 = 0 → I' 2 = nI e.1 → I' 3 = nI e.2 → I' 9 = Im 9 → Q 0 I' B)) : wp_M_load Im A Q := by
  have hend := t.2.2.2
  unfold wp_M_load
  -- with a fault
  have b130 : ∀ e I' B, MB Im n I' e → KA A B → (∀ I' B, KA A B → I' 0 = 1 → I' 1 = 0 → I' 2 = nI e.1 → I' 3 = nI e.2 → I' 9 = Im 9 → Q 0 I' B) → wp_M_load_b130 Q I' B := fun e I' B hB hK k => by
    unfold wp_M_load_b130 wp_M_load_b167
    refine ⟨fun z => absurd z hB.nle, fun _ => ⟨fun z => absurd z hB.nle, fun _ => k _ _ hK rfl rfl hB.2.2.1 hB.2.2.2.1 (hB.1 9 (by decide) (by decide) (by decide) (by decide) (by decide))⟩⟩
  have b119 : ∀ e I' B, MB Im n I' e → KA A B → (∀ I' B, KA A B → I' 0 = 1 → I' 1 = 0 → I' 2 = nI e.1 → I' 3 = nI e.2 → I' 9 = Im 9 → Q 0 I' B) → wp_M_load_b119 Q I' B := fun e I' B hB hK k => by
    unfold wp_M_load_b119
    exact ⟨fun z => absurd z hB.ne, fun _ => b130 e I' B hB hK k⟩
  have b108 : ∀ e I' B, MB Im n I' e → KA A B → (∀ I' B, KA A B → I' 0 = 1 → I' 1 = 0 → I' 2 = nI e.1 → I' 3 = nI e.2 → I' 9 = Im 9 → Q 0 I' B) → wp_M_load_b108 Q I' B := fun e I' B hB hK k => by
    unfold wp_M_load_b108
    exact ⟨fun z => absurd z hB.ne, fun _ => b119 e I' B hB hK k⟩
  have b97 : ∀ e I' B, MB Im n I' e → KA A B → (∀ I' B, KA A B → I' 0 = 1 → I' 1 = 0 → I' 2 = nI e.1 → I' 3 = nI e.2 → I' 9 = Im 9 → Q 0 I' B) → wp_M_load_b97 Q I' B := fun e I' B hB hK k => by
    unfold wp_M_load_b97
    exact ⟨fun z => absurd z hB.ne, fun _ => b108 e I' B hB hK k⟩
  have b86 : ∀ e I' B, MB Im n I' e → KA A B → (∀ I' B, KA A B → I' 0 = 1 → I' 1 = 0 → I' 2 = nI e.1 → I' 3 = nI e.2 → I' 9 = Im 9 → Q 0 I' B) → wp_M_load_b86 Q I' B := fun e I' B hB hK k => by
    unfold wp_M_load_b86
    exact ⟨fun z => absurd z hB.ne, fun _ => b97 e I' B hB hK k⟩
  refine ⟨402, m_ld1 (A0 := A) (fun B1 hK1 h10 => ⟨23, m_ld2 (A0 := A) (fun B2 hK2 h102 h17 => ?_) 22 0 B1 (by omega) hK1 h10 (fun v hv => absurd hv (by omega))⟩) 401 0 A (by omega) (fun a k _ => rfl) (fun v hv => absurd hv (by omega))⟩
  have hG0 : MG Im (va_up (va_up (va_up Im 4 0) 5 0) 6 (-1)) 0 := ⟨((KI.u (I := Im) (fun _ _ _ _ _ _ => rfl) (by omega)).u (by omega)).u (by omega), rfl, rfl, rfl⟩
  unfold pFile at k
  rw [Lk_eB] at k
  refine m_head t hK2 hG0 (fun r I3 B3 hK3 hf3 hT hr => ?_)
  cases hp : pHead h with
  | error e =>
    rw [hp] at k hT
    have hB : MB Im n I3 e := hT
    exact ⟨fun z => absurd z hB.ne, fun _ => b86 e I3 B3 hB hK3 k⟩
  | ok z =>
    rw [hp] at k hT
    obtain ⟨hfit, -⟩ := pHead_ok hend hp
    obtain ⟨hq, hG, hH⟩ := hT
    have hr2 := hr z hp
    obtain ⟨bin, M, I, L, O, Aa, q⟩ := z
    simp only at hfit hq hG hH hr2
    obtain ⟨f0, f1, f2, f3, f4, f5, f6⟩ := hdFits_is hfit
    have k1 : Lk (eB (pBody h bin M I L O Aa q) fun b => eB (pSyms h I L O 25 (fun _ => []) b.2.2) fun nm => eB (pKnown b.1 b.2.1) fun _ => eB (pOrd Aa (avO I L b.1) (hf (l1O L O b.2.1)) (hf (l2O L O b.2.1))) fun P => (.ok ((M, I, L, O, Aa), b.1, b.2.1, nm, P) : Except Er Ck)) (fun c => ∀ I' B, CM B c → I' 0 = 0 → I' 1 = 0 → I' 2 = 0 → I' 3 = -1 → I' 9 = 0 → (∀ k, k < 20 → B 1 k = A 1 k) → Q (nI (kA c)) I' B) (fun e => ∀ I' B, KA A B → I' 0 = 1 → I' 1 = 0 → I' 2 = nI e.1 → I' 3 = nI e.2 → I' 9 = Im 9 → Q 0 I' B) := k
    rw [Lk_eB] at k1
    have hD0 : DR A B3 M I L O Aa [] [] [] (fun _ => []) := by
      refine ⟨hK3, hH, fun k hk => absurd hk (Nat.not_lt_zero k), ⟨fun v hv _ => ?_, fun k hk => absurd hk (Nat.not_lt_zero k)⟩, fun k hk => absurd hk (Nat.not_lt_zero k), fun k hk => absurd hk (Nat.not_lt_zero k), fun s hs hs2 => ⟨Nat.zero_le _, ?_, fun i hi => absurd hi (Nat.not_lt_zero i)⟩⟩
      · rw [hf3 10 (by decide)]; exact h102 v (by omega)
      · rw [hf3 17 (by decide)]; exact h17 (rS s) (rS_lt hs)
    -- behind the body
    have tail : ∀ b I4 B4, pBody h bin M I L O Aa q = .ok b → Lk (eB (pSyms h I L O 25 (fun _ => []) b.2.2) fun nm => eB (pKnown b.1 b.2.1) fun _ => eB (pOrd Aa (avO I L b.1) (hf (l1O L O b.2.1)) (hf (l2O L O b.2.1))) fun P => (.ok ((M, I, L, O, Aa), b.1, b.2.1, nm, P) : Except Er Ck)) (fun c => ∀ I' B, CM B c → I' 0 = 0 → I' 1 = 0 → I' 2 = 0 → I' 3 = -1 → I' 9 = 0 → (∀ k, k < 20 → B 1 k = A 1 k) → Q (nI (kA c)) I' B) (fun e => ∀ I' B, KA A B → I' 0 = 1 → I' 1 = 0 → I' 2 = nI e.1 → I' 3 = nI e.2 → I' 9 = Im 9 → Q 0 I' B) → MG Im I4 b.2.2 → DR A B4 M I L O Aa b.1 b.1 b.2.1 (fun _ => []) → wp_M_load_b97 Q I4 B4 := by
      intro b I4 B4 hb k hG4 hD4
      obtain ⟨p1, p2, p3, p4, p5, p6, p7⟩ := pBody_ok hend t.le hq f6 hb
      have hl801 : ∀ u, u ∈ b.2.1 → u.1 ≤ 801 := fun u hu => by have := (p5 u hu).1; omega
      rw [Lk_eB] at k
      unfold wp_M_load_b97
      refine ⟨fun _ => ?_, fun z => absurd hG4.2.2.1 z⟩
      unfold wp_M_takeSymbols
      refine ⟨26, m_syms (A1 := B4) t hD4.2.1 f1 f2 f3 (fun I A => Iff.rfl) 25 [] (fun _ => []) b.2.2 I4 B4 (by simp) List.nodup_nil (fun s hs => absurd hs List.not_mem_nil) p6 hG4 hD4.2.2.2.2.2.2 (fun a _ _ => rfl) hD4.1 (Lk_imp k (fun nm hnm k I5 B5 q5 hq5 hG5 hN5 hF5 hK5 => ?_) (fun e he k I5 B5 hB hK5 => b108 e I5 B5 hB hK5 k))⟩
      have hD5 : DR A B5 M I L O Aa b.1 b.1 b.2.1 nm := by
        obtain ⟨-, d2, d3, d4, d5, d6, -⟩ := hD4
        exact ⟨hK5, HM_same d2 (hF5 2 (by decide) (by decide)), VL_same d3 (hF5 3 (by decide) (by decide)) (hF5 4 (by decide) (by decide)) (hF5 7 (by decide) (by decide)), KD_same d4 (hF5 10 (by decide) (by decide)), UM_same d5 (hF5 5 (by decide) (by decide)) (hF5 6 (by decide) (by decide)) (hF5 8 (by decide) (by decide)) (hF5 9 (by decide) (by decide)), UP_same d6 (hF5 12 (by decide) (by decide)) (hF5 13 (by decide) (by decide)) (hF5 14 (by decide) (by decide)) (hF5 15 (by decide) (by decide)), hN5⟩
      rw [Lk_eB] at k
      unfold wp_M_load_b108
      refine ⟨fun _ => ?_, fun z => absurd hG5.2.2.1 z⟩
      refine m_nowhere hD5 f2 f3 f4 p4 hl801 hq5 hG5 (Lk_imp k (fun _ hkn k I6 q6 hq6 hG6 => ?_) (fun e he k I6 hB => b119 e I6 B5 hB hK5 k))
      have hkn2 := pKnown_ok b.2.1 () hkn
      rw [Lk_eB] at k
      unfold wp_M_load_b119
      refine ⟨fun _ => ?_, fun z => absurd hG6.2.2.1 z⟩
      have hv400 : ∀ v, v ∈ b.1 → 1 ≤ v ∧ v ≤ 400 := fun v hv => by have := p3 v hv; omega
      have hCB : CB 1 B5 Aa (avO I L b.1) (l1O L O b.2.1) (l2O L O b.2.1) := by
        refine ⟨f4, hD5.2.1.2.2.2.2, fun k hk => ⟨?_, hv400 _ (getD_mem (by omega)), ?_, hl801 _ (getD_mem (by omega)), ?_, hl801 _ (getD_mem (by omega))⟩, fun i j hi hj e => ?_⟩
        · have := (hD5.2.2.1 (I + L + k) (by omega)).2.2 (by omega)
          rw [show I + L + k - I - L = k by omega] at this
          exact this
        · exact (hD5.2.2.2.2.1 (L + O + 2 * k) (by omega)).2.2.1 k rfl
        · exact (hD5.2.2.2.2.1 (L + O + 2 * k + 1) (by omega)).2.2.2 k rfl
        · by_cases z : i = j
          · exact z
          · exact absurd e (gD_ne p2 (by omega) (by omega) (by omega))
      refine m_ring hD5.2.1 hD5.2.2.1 hD5.2.2.2.1 hCB f0 f1 f2 p1 p2 p3 (fun k hk => rfl) (fun k hk => ⟨hkn2 _ (getD_mem (by omega)), hkn2 _ (getD_mem (by omega))⟩) hq6 hG6 (Lk_imp k (fun P hP k I7 B7 hF7 hG7 => ?_) (fun e he k I7 B7 hF7 hB => b130 e I7 B7 hB (KA_F3 hK5 hF7) k))
      have hK7 := KA_F3 hK5 hF7
      have hD7 : DR A B7 M I L O Aa b.1 b.1 b.2.1 nm := by
        obtain ⟨-, d2, d3, d4, d5, d6, d7⟩ := hD5
        have f : ∀ a, a ≠ 18 ∧ a ≠ 19 ∧ a ≠ 20 → B7 a = B5 a := fun a z => hF7 a z.1 z.2.1 z.2.2
        exact ⟨hK7, HM_same d2 (f 2 (by decide)), VL_same d3 (f 3 (by decide)) (f 4 (by decide)) (f 7 (by decide)), KD_same d4 (f 10 (by decide)), UM_same d5 (f 5 (by decide)) (f 6 (by decide)) (f 8 (by decide)) (f 9 (by decide)), UP_same d6 (f 12 (by decide)) (f 13 (by decide)) (f 14 (by decide)) (f 15 (by decide)), NM_same d7 (f 16 (by decide)) (f 17 (by decide))⟩
      unfold wp_M_load_b130
      refine ⟨fun _ => ?_, fun z => absurd hG7.le z⟩
      unfold wp_M_load_b167
      refine ⟨fun _ => m_keep (fun B8 h2 h3 h4 h5 h6 h7 h8 h9 h10 h17 h16 h1 => ?_), fun z => absurd hG7.le z⟩
      have hcm : CM B8 ((M, I, L, O, Aa), b.1, b.2.1, nm, P) := CM_of hD7 f1 f2 f3 f4 p1 (fun v hv => (hv400 v hv).2) p4 h2 h3 h4 h5 h6 h7 h8 h9 h10 h17 h16
      have e4 : B8 2 ((4 : Int32)).toNatClampNeg = nI Aa := hcm.1.2.2.2.2
      rw [e4]
      exact k _ B8 hcm rfl rfl hG7.2.2.1 hG7.2.2.2 rfl (fun i hi => by rw [h1]; exact hK7 1 i hi)
    cases bin with
    | false =>
      have hr0 : r = 0 := hr2
      refine ⟨fun _ => ⟨fun _ => ?_, fun z => absurd hr0 z⟩, fun z => absurd hG.2.2.1 z⟩
      unfold wp_M_load_b86
      refine ⟨fun _ => m_text t f0 f1 f2 f3 f4 hq hG hD0 (Lk_imp k1 (fun b hb k I4 B4 hG4 hD4 => tail b I4 B4 hb k hG4 hD4) (fun e he k I4 B4 hB hK4 => b97 e I4 B4 hB hK4 k)), fun z => absurd hG.2.2.1 z⟩
    | true =>
      have hr0 : r = 1 := hr2
      refine ⟨fun _ => ⟨fun z => absurd (hr0.symm.trans z) (by decide), fun _ => ?_⟩, fun z => absurd hG.2.2.1 z⟩
      exact m_binary t f0 f1 f2 f3 f4 (f6 rfl) hq hG hD0 (Lk_imp k1 (fun b hb k I4 B4 hG4 hD4 => tail b I4 B4 hb k hG4 hD4) (fun e he k I4 B4 hB hK4 => b97 e I4 B4 hB hK4 k))
