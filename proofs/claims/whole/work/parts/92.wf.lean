/-! a circuit that was read is well formed; the reference sorts again -/
def NF (I L O : Nat) (nm : Nat → List Nat) : Prop := ∀ s, (nm s).length ≤ 40 ∧ (∀ x, x ∈ nm s → x < 256) ∧ (¬ nm s = [] → ∃ kd, kd < 3 ∧ 8 * kd ≤ s ∧ s < 8 * kd + cntOf I L O kd)
theorem pSyms_ok {h : Nat → Nat} {n I L O : Nat} (hend : ∀ q, n ≤ q → h q = 256) (hle : ∀ q, h q ≤ 256) : ∀ (j : Nat) (nm : Nat → List Nat) (q : Nat) (z : Nat → List Nat), q ≤ n → NF I L O nm → pSyms h I L O j nm q = .ok z → NF I L O z := by
  intro j
  induction j with
  | zero => intro nm q z _ hN hz; cases hz; exact hN
  | succ j ih =>
    intro nm q z hq hN hz
    rw [pSyms] at hz
    by_cases g : h q = 256
    · rw [if_pos g] at hz; cases hz; exact hN
    · rw [if_neg g] at hz
      have hlt : q < n := Nat.not_le.mp fun g3 => g (hend q g3)
      by_cases g2 : h q = 99
      · rw [if_pos g2] at hz
        obtain ⟨a, -, h2⟩ := eB_ok hz
        cases h2
        exact hN
      · rw [if_neg g2] at hz
        cases hk : kindOf (h q) with
        | none => rw [hk] at hz; cases hz
        | some kd =>
          rw [hk] at hz
          obtain ⟨a, h1, h2⟩ := eB_ok hz
          obtain ⟨s, w, c1, c2, c3, c4, c5, c6, c7, c8⟩ := pSym_ok hend hle hlt h1
          refine ih a.1 a.2 z c8 (fun s2 => ?_) h2
          rw [c7]
          by_cases y : s2 = s
          · subst y
            rw [va_up_self]
            exact ⟨c5, fun x hx => (c6 x hx).1, fun _ => ⟨kd, kindOf_lt hk, c2, c1⟩⟩
          · rw [va_up_ne _ _ y]
            exact hN s2
def WF (c : Ck) : Prop := (kM c ≤ 400 ∧ kI c ≤ 6 ∧ kL c ≤ 7 ∧ kO c ≤ 8 ∧ kA c ≤ 300) ∧ ((kV c).length = kI c + kL c + kA c ∧ (kV c).Nodup ∧ ∀ v, v ∈ kV c → 1 ≤ v ∧ v ≤ kM c) ∧ ((kU c).length = kL c + kO c + 2 * kA c ∧ ∀ u, u ∈ kU c → u.1 ≤ 2 * kM c + 1 ∧ (u.1 < 2 ∨ u.1 / 2 ∈ kV c)) ∧ NF (kI c) (kL c) (kO c) (kN c) ∧ (kP c).length = kA c ∧ kP c = od (kA c) (avO (kI c) (kL c) (kV c)) (hf (l1O (kL c) (kO c) (kU c))) (hf (l2O (kL c) (kO c) (kU c))) (kA c) [] ∧ OK (kA c) (avO (kI c) (kL c) (kV c)) (hf (l1O (kL c) (kO c) (kU c))) (hf (l2O (kL c) (kO c) (kU c))) (kP c)
theorem WF_of {h : Nat → Nat} {n : Nat} {c : Ck} (hend : ∀ q, n ≤ q → h q = 256) (hle : ∀ q, h q ≤ 256) (hz : pFile h = .ok c) : WF c := by
  unfold pFile at hz
  obtain ⟨z, h1, hz⟩ := eB_ok hz
  obtain ⟨b, h2, hz⟩ := eB_ok hz
  obtain ⟨nm, h3, hz⟩ := eB_ok hz
  obtain ⟨u, h4, hz⟩ := eB_ok hz
  obtain ⟨P, h5, hz⟩ := eB_ok hz
  cases hz
  obtain ⟨hfit, hzn⟩ := pHead_ok hend h1
  obtain ⟨bin, M, I, L, O, A, q⟩ := z
  simp only at h2 h3 h4 h5 hfit hzn
  obtain ⟨f0, f1, f2, f3, f4, f5, f6⟩ := hdFits_is hfit
  obtain ⟨p1, p2, p3, p4, p5, p6, p7⟩ := pBody_ok hend hle hzn f6 h2
  have hkn := pKnown_ok b.2.1 u h4
  have hN := pSyms_ok hend hle 25 (fun _ => []) b.2.2 nm p6 (fun s => ⟨Nat.zero_le _, fun x hx => absurd hx List.not_mem_nil, fun z => absurd rfl z⟩) h3
  obtain ⟨o1, o2⟩ := od_ok (A := A) (av := avO I L b.1) (a1 := hf (l1O L O b.2.1)) (a2 := hf (l2O L O b.2.1)) A [] OK_nil (by simp)
  unfold pOrd at h5
  by_cases g : (od A (avO I L b.1) (hf (l1O L O b.2.1)) (hf (l2O L O b.2.1)) A []).length = A
  · rw [if_pos g] at h5
    cases h5
    exact ⟨⟨f0, f1, f2, f3, f4⟩, ⟨p1, p2, p3⟩, ⟨p4, fun u hu => ⟨(p5 u hu).1, hkn u hu⟩⟩, hN, g, rfl, o1⟩
  · rw [if_neg g] at h5
    cases h5
def c0 : Ck := ((0, 0, 0, 0, 0), [], [], fun _ => [], [])
theorem WF_0 : WF c0 := by
  refine ⟨⟨by decide, by decide, by decide, by decide, by decide⟩, ⟨rfl, List.nodup_nil, fun v hv => absurd hv List.not_mem_nil⟩, ⟨rfl, fun u hu => absurd hu List.not_mem_nil⟩, fun s => ⟨Nat.zero_le _, fun x hx => absurd hx List.not_mem_nil, fun z => absurd rfl z⟩, rfl, rfl, OK_nil⟩
theorem WF.v400 {c : Ck} (h : WF c) {v : Nat} (hv : v ∈ kV c) : 1 ≤ v ∧ v ≤ 400 := by
  have := h.2.1.2.2 v hv
  have := h.1.1
  omega
theorem WF.u801 {c : Ck} (h : WF c) {u : Nat × Nat} (hu : u ∈ kU c) : u.1 ≤ 801 := by
  have := (h.2.2.1.2 u hu).1
  have := h.1.1
  omega
theorem WF.inj {c : Ck} (h : WF c) : ∀ i j, i < kA c → j < kA c → avO (kI c) (kL c) (kV c) i = avO (kI c) (kL c) (kV c) j → i = j := by
  intro i j hi hj e
  have hl := h.2.1.1
  by_cases z : i = j
  · exact z
  · exact absurd e (gD_ne h.2.1.2.1 (by omega) (by omega) (by omega))
/-- the kept halves decide -/
theorem CM_KA {A B : NNI} {c : Ck} (hW : WF c) (hK : KA A B) (h : CM A c) : CM B c := by
  obtain ⟨⟨w0, w1, w2, w3, w4⟩, ⟨v1, v2, v3⟩, ⟨u1, u2⟩, -, -, -, -⟩ := hW
  obtain ⟨h1, h2, h3, h4, h5⟩ := h
  refine ⟨⟨(hK 2 0 (by decide)).trans h1.1, (hK 2 1 (by decide)).trans h1.2.1, (hK 2 2 (by decide)).trans h1.2.2.1, (hK 2 3 (by decide)).trans h1.2.2.2.1, (hK 2 4 (by decide)).trans h1.2.2.2.2⟩, fun k hk => ?_, ⟨fun v hv hm => ?_, fun k hk => ?_⟩, fun k hk => ?_, fun s hs hs2 => ?_⟩
  · obtain ⟨x1, x2, x3⟩ := h2 k hk
    exact ⟨fun z => (hK 3 _ (show k < 6 by omega)).trans (x1 z), fun z z2 => (hK 4 _ (show k - kI c < 8 by omega)).trans (x2 z z2), fun z => (hK 7 _ (show k - kI c - kL c < 300 by omega)).trans (x3 z)⟩
  · exact (hK 10 _ (show v < 401 by omega)).trans (h3.1 v hv hm)
  · have := v3 _ (getD_mem (d := 0) hk)
    exact (hK 10 _ (show (kV c).getD k 0 < 401 by omega)).trans (h3.2 k hk)
  · obtain ⟨x1, x2, x3, x4⟩ := h4 k hk
    exact ⟨fun z => (hK 5 _ (show k < 8 by omega)).trans (x1 z), fun z z2 => (hK 6 _ (show k - kL c < 8 by omega)).trans (x2 z z2), fun j z => (hK 8 _ (show j < 300 by omega)).trans (x3 j z), fun j z => (hK 9 _ (show j < 300 by omega)).trans (x4 j z)⟩
  · obtain ⟨x1, x2, x3⟩ := h5 s hs hs2
    have hr := rS_lt hs
    exact ⟨x1, (hK 17 _ (show rS s < 22 by omega)).trans x2, fun i hi => (hK 16 _ (show 40 * (rS s + 22 * 0) + i < 880 by omega)).trans (x3 i hi)⟩
/-- copied into the draft half -/
def CD (o c : Nat) (f g : Nat → Int32) : Prop := (∀ k, k < o → g k = f k) ∧ ∀ k, k < c → g (k + o) = f k
theorem CD_s {o c : Nat} {f g : Nat → Int32} (h : CD o c f g) (hc : c < o) : CD o (c + 1) f (upd g (c + o) (g c)) := by
  refine ⟨fun k hk => (pk_un (by omega)).trans (h.1 k hk), fun k hk => ?_⟩
  by_cases y : k = c
  · subst y
    rw [pk_us, h.1 k hc]
  · rw [pk_un (by omega)]
    exact h.2 k (by omega)
theorem CD_0 {o : Nat} {f : Nat → Int32} : CD o 0 f f := ⟨fun _ _ => rfl, fun k hk => absurd hk (by omega)⟩
theorem m_ag1 {Im : NI} {A0 : NNI} {Q X : NI → NNI → Prop} (k : ∀ B, (∀ a, a ≠ 2 → B a = A0 a) → CD 5 5 (A0 2) (B 2) → X Im B) : ∀ (j c : Nat) (A : NNI), c + j = 5 → (∀ a, a ≠ 2 → A a = A0 a) → CD 5 c (A0 2) (A 2) → wp_M_sortAgain_L2 Q X (j + 1) Im A (nI c) := by
  intro j
  induction j with
  | zero =>
    intro c A hl hF h
    unfold wp_M_sortAgain_L2
    have hc : c = 5 := by omega
    exact pk_le 5 c (fun _ => k A hF (hc ▸ h)) (fun g => absurd g (by omega))
  | succ j ih =>
    intro c A hl hF h
    unfold wp_M_sortAgain_L2
    refine pk_le 5 c (fun g => absurd g (by omega)) (fun _ => ?_)
    rw [nI_ad 5 5 c rfl, nI_clamp (n := c + 5) (by omega), nI_clamp (n := c) (by omega), nI_1]
    exact ⟨pk_in c 10 (by omega), pk_in (c + 5) 10 (by omega), ih (c + 1) _ (by omega) (fun a z => by rw [va_up_ne _ _ z]; exact hF a z) (CD_s h (by omega))⟩
theorem m_ag2 {Im : NI} {A0 : NNI} {Q X : NI → NNI → Prop} (k : ∀ B, (∀ a, a ≠ 3 → B a = A0 a) → CD 6 6 (A0 3) (B 3) → X Im B) : ∀ (j c : Nat) (A : NNI), c + j = 6 → (∀ a, a ≠ 3 → A a = A0 a) → CD 6 c (A0 3) (A 3) → wp_M_sortAgain_L29 Q X (j + 1) Im A (nI c) := by
  intro j
  induction j with
  | zero =>
    intro c A hl hF h
    unfold wp_M_sortAgain_L29
    have hc : c = 6 := by omega
    exact pk_le 6 c (fun _ => k A hF (hc ▸ h)) (fun g => absurd g (by omega))
  | succ j ih =>
    intro c A hl hF h
    unfold wp_M_sortAgain_L29
    refine pk_le 6 c (fun g => absurd g (by omega)) (fun _ => ?_)
    rw [nI_ad 6 6 c rfl, nI_clamp (n := c + 6) (by omega), nI_clamp (n := c) (by omega), nI_1]
    exact ⟨pk_in c 12 (by omega), pk_in (c + 6) 12 (by omega), ih (c + 1) _ (by omega) (fun a z => by rw [va_up_ne _ _ z]; exact hF a z) (CD_s h (by omega))⟩
theorem m_ag3 {Im : NI} {A0 : NNI} {Q X : NI → NNI → Prop} (k : ∀ B, (∀ a, a ≠ 4 → B a = A0 a) → CD 8 8 (A0 4) (B 4) → X Im B) : ∀ (j c : Nat) (A : NNI), c + j = 8 → (∀ a, a ≠ 4 → A a = A0 a) → CD 8 c (A0 4) (A 4) → wp_M_sortAgain_L58 Q X (j + 1) Im A (nI c) := by
  intro j
  induction j with
  | zero =>
    intro c A hl hF h
    unfold wp_M_sortAgain_L58
    have hc : c = 8 := by omega
    exact pk_le 8 c (fun _ => k A hF (hc ▸ h)) (fun g => absurd g (by omega))
  | succ j ih =>
    intro c A hl hF h
    unfold wp_M_sortAgain_L58
    refine pk_le 8 c (fun g => absurd g (by omega)) (fun _ => ?_)
    rw [nI_ad 8 8 c rfl, nI_clamp (n := c + 8) (by omega), nI_clamp (n := c) (by omega), nI_1]
    exact ⟨pk_in c 16 (by omega), pk_in (c + 8) 16 (by omega), ih (c + 1) _ (by omega) (fun a z => by rw [va_up_ne _ _ z]; exact hF a z) (CD_s h (by omega))⟩
theorem m_ag4 {Im : NI} {A0 : NNI} {Q X : NI → NNI → Prop} (k : ∀ B, (∀ a, a ≠ 7 → a ≠ 8 → a ≠ 9 → B a = A0 a) → CD 300 300 (A0 7) (B 7) → CD 300 300 (A0 8) (B 8) → CD 300 300 (A0 9) (B 9) → X Im B) : ∀ (j c : Nat) (A : NNI), c + j = 300 → (∀ a, a ≠ 7 → a ≠ 8 → a ≠ 9 → A a = A0 a) → CD 300 c (A0 7) (A 7) → CD 300 c (A0 8) (A 8) → CD 300 c (A0 9) (A 9) → wp_M_sortAgain_L87 Q X (j + 1) Im A (nI c) := by
  intro j
  induction j with
  | zero =>
    intro c A hl hF h h2 h3
    unfold wp_M_sortAgain_L87
    have hc : c = 300 := by omega
    exact pk_le 300 c (fun _ => k A hF (hc ▸ h) (hc ▸ h2) (hc ▸ h3)) (fun g => absurd g (by omega))
  | succ j ih =>
    intro c A hl hF h h2 h3
    unfold wp_M_sortAgain_L87
    refine pk_le 300 c (fun g => absurd g (by omega)) (fun _ => ?_)
    rw [nI_ad 300 300 c rfl, nI_clamp (n := c + 300) (by omega), nI_clamp (n := c) (by omega), nI_1]
    exact ⟨pk_in c 600 (by omega), pk_in (c + 300) 600 (by omega), ih (c + 1) _ (by omega) (fun a z1 z2 z3 => by rw [va_up_ne _ _ z3, va_up_ne _ _ z2, va_up_ne _ _ z1]; exact hF a z1 z2 z3) (CD_s h (by omega)) (CD_s h2 (by omega)) (CD_s h3 (by omega))⟩
theorem m_ag5 {Im : NI} {A0 : NNI} {Q X : NI → NNI → Prop} (k : ∀ B, (∀ a, a ≠ 10 → B a = A0 a) → CD 401 401 (A0 10) (B 10) → X Im B) : ∀ (j c : Nat) (A : NNI), c + j = 401 → (∀ a, a ≠ 10 → A a = A0 a) → CD 401 c (A0 10) (A 10) → wp_M_sortAgain_L150 Q X (j + 1) Im A (nI c) := by
  intro j
  induction j with
  | zero =>
    intro c A hl hF h
    unfold wp_M_sortAgain_L150
    have hc : c = 401 := by omega
    exact pk_le 401 c (fun _ => k A hF (hc ▸ h)) (fun g => absurd g (by omega))
  | succ j ih =>
    intro c A hl hF h
    unfold wp_M_sortAgain_L150
    refine pk_le 401 c (fun g => absurd g (by omega)) (fun _ => ?_)
    rw [nI_ad 401 401 c rfl, nI_clamp (n := c + 401) (by omega), nI_clamp (n := c) (by omega), nI_1]
    exact ⟨pk_in c 802 (by omega), pk_in (c + 401) 802 (by omega), ih (c + 1) _ (by omega) (fun a z => by rw [va_up_ne _ _ z]; exact hF a z) (CD_s h (by omega))⟩
theorem m_again {Im : NI} {A : NNI} {c : Ck} {Q : NI → NNI → Prop} (hW : WF c) (hM : CM A c) (k : ∀ I' B, KA A B → CM B c → (∀ i, i ≠ 8 → I' i = Im i) → OM B (kP c) → NW B (kI c + kL c) (kV c) (kP c) → Q I' B) : wp_M_sortAgain Im A Q := by
  unfold wp_M_sortAgain
  refine ⟨6, m_ag1 (A0 := A) (fun B1 f1 h2 => ?_) 5 0 A (by omega) (fun a _ => rfl) CD_0⟩
  refine ⟨7, m_ag2 (A0 := B1) (fun B2 f2 h3 => ?_) 6 0 B1 (by omega) (fun a _ => rfl) CD_0⟩
  refine ⟨9, m_ag3 (A0 := B2) (fun B3 f3 h4 => ?_) 8 0 B2 (by omega) (fun a _ => rfl) CD_0⟩
  refine ⟨301, m_ag4 (A0 := B3) (fun B4 f4 h7 h8 h9 => ?_) 300 0 B3 (by omega) (fun a _ _ _ => rfl) CD_0 CD_0 CD_0⟩
  refine ⟨402, m_ag5 (A0 := B4) (fun B5 f5 h10 => ?_) 401 0 B4 (by omega) (fun a _ => rfl) CD_0⟩
  -- all of it in terms of A
  have r : ∀ a, a ≠ 2 → a ≠ 3 → a ≠ 4 → B3 a = A a := fun a z2 z3 z4 => by rw [f3 a z4, f2 a z3, f1 a z2]
  have e2 : CD 5 5 (A 2) (B5 2) := by
    rw [f5 2 (by decide), f4 2 (by decide) (by decide) (by decide), f3 2 (by decide), f2 2 (by decide)]; exact h2
  have e3 : CD 6 6 (A 3) (B5 3) := by
    rw [f5 3 (by decide), f4 3 (by decide) (by decide) (by decide), f3 3 (by decide), ← f1 3 (by decide)]; exact h3
  have e4 : CD 8 8 (A 4) (B5 4) := by
    rw [f5 4 (by decide), f4 4 (by decide) (by decide) (by decide), ← f1 4 (by decide), ← f2 4 (by decide)]; exact h4
  have e7 : CD 300 300 (A 7) (B5 7) := by
    rw [f5 7 (by decide), ← r 7 (by decide) (by decide) (by decide)]; exact h7
  have e8 : CD 300 300 (A 8) (B5 8) := by
    rw [f5 8 (by decide), ← r 8 (by decide) (by decide) (by decide)]; exact h8
  have e9 : CD 300 300 (A 9) (B5 9) := by
    rw [f5 9 (by decide), ← r 9 (by decide) (by decide) (by decide)]; exact h9
  have e10 : CD 401 401 (A 10) (B5 10) := by
    rw [← r 10 (by decide) (by decide) (by decide), ← f4 10 (by decide) (by decide) (by decide)]; exact h10
  have eo : ∀ a, a ≠ 2 → a ≠ 3 → a ≠ 4 → a ≠ 7 → a ≠ 8 → a ≠ 9 → a ≠ 10 → B5 a = A a := fun a z2 z3 z4 z7 z8 z9 z10 => by rw [f5 a z10, f4 a z7 z8 z9, r a z2 z3 z4]
  have hK5 : KA A B5 := by
    intro a k hk
    by_cases y : a = 2
    · subst y; exact e2.1 k hk
    by_cases y : a = 3
    · subst y; exact e3.1 k hk
    by_cases y : a = 4
    · subst y; exact e4.1 k hk
    by_cases y : a = 7
    · subst y; exact e7.1 k hk
    by_cases y : a = 8
    · subst y; exact e8.1 k hk
    by_cases y : a = 9
    · subst y; exact e9.1 k hk
    by_cases y : a = 10
    · subst y; exact e10.1 k hk
    rw [eo a (by assumption) (by assumption) (by assumption) (by assumption) (by assumption) (by assumption) (by assumption)]
  have hW' := hW
  obtain ⟨⟨w0, w1, w2, w3, w4⟩, ⟨v1, v2, v3⟩, ⟨u1, u2⟩, -, pl, po, pk⟩ := hW'
  obtain ⟨g1, g2, g3, g4, g5⟩ := hM
  have hH : HM 1 B5 (kM c) (kI c) (kL c) (kO c) (kA c) := ⟨(e2.2 0 (by decide)).trans g1.1, (e2.2 1 (by decide)).trans g1.2.1, (e2.2 2 (by decide)).trans g1.2.2.1, (e2.2 3 (by decide)).trans g1.2.2.2.1, (e2.2 4 (by decide)).trans g1.2.2.2.2⟩
  have hV : VL 1 (kI c) (kL c) B5 (kV c) := fun k hk => by
    obtain ⟨x1, x2, x3⟩ := g2 k hk
    exact ⟨fun z => (e3.2 _ (show k < 6 by omega)).trans (x1 z), fun z z2 => (e4.2 _ (show k - kI c < 8 by omega)).trans (x2 z z2), fun z => (e7.2 _ (show k - kI c - kL c < 300 by omega)).trans (x3 z)⟩
  have hKD : KD 1 (kI c) (kL c) B5 (kV c) := ⟨fun v hv hm => (e10.2 _ (show v < 401 by omega)).trans (g3.1 v hv hm), fun k hk => by
    have := v3 _ (getD_mem (d := 0) hk)
    exact (e10.2 _ (show (kV c).getD k 0 < 401 by omega)).trans (g3.2 k hk)⟩
  have hCB : CB 1 B5 (kA c) (avO (kI c) (kL c) (kV c)) (l1O (kL c) (kO c) (kU c)) (l2O (kL c) (kO c) (kU c)) := by
    refine ⟨w4, hH.2.2.2.2, fun k hk => ⟨?_, hW.v400 (getD_mem (by omega)), ?_, hW.u801 (getD_mem (by omega)), ?_, hW.u801 (getD_mem (by omega))⟩, hW.inj⟩
    · have := (hV (kI c + kL c + k) (by omega)).2.2 (by omega)
      rw [show kI c + kL c + k - kI c - kL c = k by omega] at this
      exact this
    · exact (e8.2 k (by omega)).trans ((g4 (kL c + kO c + 2 * k) (by omega)).2.2.1 k rfl)
    · exact (e9.2 k (by omega)).trans ((g4 (kL c + kO c + 2 * k + 1) (by omega)).2.2.2 k rfl)
  refine m_sort hH hV hKD hCB w1 w2 v1 v2 (fun v hv => hW.v400 hv) (fun k hk => rfl) (fun k hk => ⟨(u2 _ (getD_mem (by omega))).2, (u2 _ (getD_mem (by omega))).2⟩) (fun I6 B6 hF hI6 h8 hO hN => ?_)
  rw [← po] at hO hN
  have hK6 := KA_F3 hK5 hF
  exact k I6 B6 hK6 (CM_KA hW hK6 ⟨g1, g2, g3, g4, g5⟩) hI6 hO hN
