/-! a circuit runs: as mathematics, in the class, in the reference -/
def bt (g : Nat → Int32) (l : Nat) : Int32 := g (l / 2) ^^^ (nI l &&& (1 : Int32))
def gI (vs : List Nat) (o : Nat) (x : Int32) (g : Nat → Int32) : Nat → Nat → Int32
  | 0 => g
  | k + 1 => upd (gI vs o x g k) (vs.getD (o + k) 0) ((x >>> (nI k &&& 31)) &&& (1 : Int32))
def kav (c : Ck) : Nat → Nat := avO (kI c) (kL c) (kV c)
def kl1 (c : Ck) : Nat → Nat := l1O (kL c) (kO c) (kU c)
def kl2 (c : Ck) : Nat → Nat := l2O (kL c) (kO c) (kU c)
def gA (c : Ck) (g : Nat → Int32) : Nat → Nat → Int32
  | 0 => g
  | i + 1 => upd (gA c g i) (kav c ((kP c).getD i 0)) (bt (gA c g i) (kl1 c ((kP c).getD i 0)) &&& bt (gA c g i) (kl2 c ((kP c).getD i 0)))
def gL (c : Ck) (x st : Int32) : Nat → Int32 := gI (kV c) (kI c) st (gI (kV c) 0 x (fun _ => 0) (kI c)) (kL c)
def gS (c : Ck) (x st : Int32) : Nat → Int32 := gA c (gL c x st) (kA c)
def gB (us : List (Nat × Nat)) (o : Nat) (g : Nat → Int32) : Nat → Int32
  | 0 => 0
  | k + 1 => gB us o g k ||| (bt g (us.getD (o + k) (0, 0)).1 <<< (nI k &&& 31))
def AG (f g : Nat → Int32) (D : List Nat) : Prop := f 0 = 0 ∧ g 0 = 0 ∧ ∀ v, v ∈ D → f v = g v
theorem AG_u {f g : Nat → Int32} {D : List Nat} {v : Nat} {y : Int32} (h : AG f g D) (hv : v ≠ 0) : AG (upd f v y) (upd g v y) (D ++ [v]) := by
  refine ⟨(pk_un (fun z => hv z.symm)).trans h.1, (pk_un (fun z => hv z.symm)).trans h.2.1, fun w hw => ?_⟩
  by_cases e : w = v
  · rw [e, pk_us, pk_us]
  · rw [pk_un e, pk_un e]
    rcases List.mem_append.mp hw with z | z
    · exact h.2.2 w z
    · exact absurd (by simpa using z) e
theorem AG_bt {f g : Nat → Int32} {D : List Nat} {l : Nat} (h : AG f g D) (hl : l / 2 = 0 ∨ l / 2 ∈ D) : f (l / 2) ^^^ (nI l &&& (1 : Int32)) = bt g l := by
  unfold bt
  rcases hl with z | z
  · rw [z, h.1, h.2.1]
  · rw [h.2.2 _ z]
def dA (c : Ck) : Nat → List Nat
  | 0 => (kV c).take (kI c + kL c)
  | i + 1 => dA c i ++ [kav c ((kP c).getD i 0)]
theorem dA_v {c : Ck} {v : Nat} (h : v ∈ (kV c).take (kI c + kL c)) : ∀ i, v ∈ dA c i := by
  intro i
  induction i with
  | zero => exact h
  | succ i ih => exact List.mem_append.mpr (Or.inl ih)
theorem dA_a {c : Ck} {j : Nat} : ∀ i, j < i → kav c ((kP c).getD j 0) ∈ dA c i := by
  intro i
  induction i with
  | zero => intro h; omega
  | succ i ih =>
    intro h
    by_cases e : j = i
    · subst e
      exact List.mem_append.mpr (Or.inr (by simp))
    · exact List.mem_append.mpr (Or.inl (ih (by omega)))
theorem tk_mem {vs : List Nat} {k N : Nat} (h : k < vs.length) (hk : k < N) : vs.getD k 0 ∈ vs.take N := by
  have e : vs.getD k 0 = vs[k] := by simp [List.getD, h]
  rw [e, List.mem_take_iff_getElem]
  exact ⟨k, by omega, rfl⟩
theorem in_P {P : List Nat} {j : Nat} {i : Nat} (h : j ∈ P.take i) : ∃ m, m < i ∧ m < P.length ∧ P.getD m 0 = j := by
  obtain ⟨m, hm, e⟩ := List.mem_iff_getElem.mp h
  rw [List.length_take] at hm
  rw [List.getElem_take] at e
  exact ⟨m, by omega, by omega, by simp [List.getD, show m < P.length by omega, e]⟩
theorem known_in {c : Ck} (hW : WF c) {i v : Nat} (hv : v ∈ kV c) (hc : Cm (kA c) (kav c) ((kP c).take i) v) : v ∈ dA c i := by
  obtain ⟨k, hk, e⟩ := List.mem_iff_getElem.mp hv
  have e2 : (kV c).getD k 0 = v := by simp [List.getD, hk, e]
  have hl := hW.2.1.1
  by_cases g : k < kI c + kL c
  · rw [← e2]; exact dA_v (tk_mem hk g) i
  · have := hc (k - (kI c + kL c)) (by omega) (by
      show (kV c).getD (kI c + kL c + (k - (kI c + kL c))) 0 = v
      rw [← e2]; congr 1; omega)
    obtain ⟨m, h1, h2, h3⟩ := in_P this
    have := dA_a (c := c) (j := m) i h1
    rw [h3] at this
    have e3 : kav c (k - (kI c + kL c)) = v := by
      show (kV c).getD (kI c + kL c + (k - (kI c + kL c))) 0 = v
      rw [← e2]; congr 1; omega
    rw [e3] at this
    exact this
theorem op_in {c : Ck} (hW : WF c) {i : Nat} (hi : i < kA c) : (kl1 c ((kP c).getD i 0) / 2 = 0 ∨ kl1 c ((kP c).getD i 0) / 2 ∈ dA c i) ∧ (kl2 c ((kP c).getD i 0) / 2 = 0 ∨ kl2 c ((kP c).getD i 0) / 2 ∈ dA c i) := by
  have hok := hW.2.2.2.2.2.2
  have hpl := hW.2.2.2.2.1
  obtain ⟨c1, c2⟩ := hok.2.2 i (by omega)
  have hp := hok.2.1 _ (getD_mem (d := 0) (show i < (kP c).length by omega))
  have hul := hW.2.2.1.1
  have k1 := (hW.2.2.1.2 _ (getD_mem (d := (0, 0)) (show kL c + kO c + 2 * (kP c).getD i 0 < (kU c).length by omega))).2
  have k2 := (hW.2.2.1.2 _ (getD_mem (d := (0, 0)) (show kL c + kO c + 2 * (kP c).getD i 0 + 1 < (kU c).length by omega))).2
  refine ⟨?_, ?_⟩
  · rcases k1 with z | z
    · exact Or.inl (by unfold kl1 l1O; omega)
    · exact Or.inr (known_in hW z c1)
  · rcases k2 with z | z
    · exact Or.inl (by unfold kl2 l2O; omega)
    · exact Or.inr (known_in hW z c2)
theorem all_in {c : Ck} (hW : WF c) {v : Nat} (hv : v ∈ kV c) : v ∈ dA c (kA c) := by
  refine known_in hW hv fun j hj _ => ?_
  have hok := hW.2.2.2.2.2.2
  have hpl := hW.2.2.2.2.1
  rw [← hpl, List.take_length]
  exact pig_full hok.1 hok.2.1 (by omega) hj
theorem AG_all {c : Ck} (hW : WF c) {f g : Nat → Int32} (h : AG f g (dA c (kA c))) : AG f g (kV c) := ⟨h.1, h.2.1, fun v hv => h.2.2 v (all_in hW hv)⟩
/-! the class settles -/
theorem tk1 {vs : List Nat} {k : Nat} (h : k < vs.length) : vs.take (k + 1) = vs.take k ++ [vs.getD k 0] := take_push h
theorem s_set1 {IC : NI} {A0 : NNI} {c : Ck} {x : Int32} {Q X : NNI → Prop} (hW : WF c) (hC : CC IC A0 c) (k : ∀ B, (∀ a, a ≠ 11 → B a = A0 a) → AG (B 11) (gI (kV c) 0 x (fun _ => 0) (kI c)) ((kV c).take (kI c)) → X B) : ∀ (j m : Nat) (A : NNI), m + j = kI c → (∀ a, a ≠ 11 → A a = A0 a) → AG (A 11) (gI (kV c) 0 x (fun _ => 0) m) ((kV c).take m) → wp_C_settle_L2 IC Q X (j + 1) A x (nI m) := by
  have hvl := hW.2.1.1
  have hI := hW.1.2.1
  intro j
  induction j with
  | zero =>
    intro m A hl hF h
    unfold wp_C_settle_L2
    have hm : m = kI c := by omega
    exact pk_le (kI c) m (fun _ => k A hF (hm ▸ h)) (fun g => absurd g (by omega)) hC.1.2.1 rfl
  | succ j ih =>
    intro m A hl hF h
    unfold wp_C_settle_L2
    refine pk_le (kI c) m (fun g => absurd g (by omega)) (fun _ => ?_) hC.1.2.1 rfl
    have hm : m < (kV c).length := by omega
    have hv := hW.v400 (getD_mem (d := 0) hm)
    have e0 : A 0 m = nI ((kV c).getD m 0) := by
      rw [hF 0 (by decide)]
      exact (hC.2.1.1 m hm).1 (by omega)
    rw [nI_clamp (n := m) (by omega), e0, nI_clamp (n := (kV c).getD m 0) (by omega), nI_1]
    refine ⟨pk_in m 6 (by omega), pk_in ((kV c).getD m 0) 401 (by omega), ih (m + 1) _ (by omega) (fun a ha => by rw [va_up_ne _ _ ha]; exact hF a ha) ?_⟩
    rw [tk1 hm, gI, Nat.zero_add]
    exact AG_u h (by omega)
theorem s_set2 {IC : NI} {A0 : NNI} {c : Ck} {g0 : Nat → Int32} {Q X : NNI → Prop} (hW : WF c) (hC : CC IC A0 c) (k : ∀ B, (∀ a, a ≠ 11 → B a = A0 a) → AG (B 11) (gI (kV c) (kI c) (IC 5) g0 (kL c)) ((kV c).take (kI c + kL c)) → X B) : ∀ (j m : Nat) (A : NNI), m + j = kL c → (∀ a, a ≠ 11 → A a = A0 a) → AG (A 11) (gI (kV c) (kI c) (IC 5) g0 m) ((kV c).take (kI c + m)) → wp_C_settle_L34 IC Q X (j + 1) A (nI m) := by
  have hvl := hW.2.1.1
  have hI := hW.1.2.1
  have hL := hW.1.2.2.1
  intro j
  induction j with
  | zero =>
    intro m A hl hF h
    unfold wp_C_settle_L34
    have hm : m = kL c := by omega
    exact pk_le (kL c) m (fun _ => k A hF (hm ▸ h)) (fun g => absurd g (by omega)) hC.1.2.2.1 rfl
  | succ j ih =>
    intro m A hl hF h
    unfold wp_C_settle_L34
    refine pk_le (kL c) m (fun g => absurd g (by omega)) (fun _ => ?_) hC.1.2.2.1 rfl
    have hm : kI c + m < (kV c).length := by omega
    have hv := hW.v400 (getD_mem (d := 0) hm)
    have e0 : A 1 m = nI ((kV c).getD (kI c + m) 0) := by
      rw [hF 1 (by decide)]
      have := (hC.2.1.1 (kI c + m) hm).2.1 (by omega) (by omega)
      rw [show kI c + m - kI c = m by omega] at this
      exact this
    rw [nI_clamp (n := m) (by omega), e0, nI_clamp (n := (kV c).getD (kI c + m) 0) (by omega), nI_1]
    refine ⟨pk_in m 7 (by omega), pk_in ((kV c).getD (kI c + m) 0) 401 (by omega), ih (m + 1) _ (by omega) (fun a ha => by rw [va_up_ne _ _ ha]; exact hF a ha) ?_⟩
    rw [← Nat.add_assoc, tk1 hm, gI]
    exact AG_u h (by omega)
theorem s_bit {A : NNI} {g : Nat → Int32} {D : List Nat} {l : Nat} {x : Int32} {Q : Int32 → Prop} (h : AG (A 11) g D) (hx : x = nI l) (hl : l / 2 = 0 ∨ l / 2 ∈ D) (h8 : l ≤ 801) (k : Q (bt g l)) : wp_C_bitOf A x Q := by
  unfold wp_C_bitOf
  rw [hx, shr1 (by omega), nI_clamp (n := l / 2) (by omega), AG_bt h hl]
  exact ⟨pk_in (l / 2) 401 (by omega), k⟩
theorem P_and {c : Ck} (hW : WF c) {i : Nat} (hi : i < kA c) : (kP c).getD i 0 < kA c ∧ 1 ≤ kav c ((kP c).getD i 0) ∧ kav c ((kP c).getD i 0) ≤ 400 ∧ kl1 c ((kP c).getD i 0) ≤ 801 ∧ kl2 c ((kP c).getD i 0) ≤ 801 := by
  have hok := hW.2.2.2.2.2.2
  have hpl := hW.2.2.2.2.1
  have hp := hok.2.1 _ (getD_mem (d := 0) (show i < (kP c).length by omega))
  have hvl := hW.2.1.1
  have hul := hW.2.2.1.1
  have hv := hW.v400 (getD_mem (d := 0) (show kI c + kL c + (kP c).getD i 0 < (kV c).length by omega))
  exact ⟨hp, hv.1, hv.2, hW.u801 (getD_mem (by omega)), hW.u801 (getD_mem (by omega))⟩
theorem s_set3 {IC : NI} {A0 : NNI} {c : Ck} {g0 : Nat → Int32} {Q X : NNI → Prop} (hW : WF c) (hC : CC IC A0 c) (k : ∀ B, (∀ a, a ≠ 11 → B a = A0 a) → AG (B 11) (gA c g0 (kA c)) (dA c (kA c)) → X B) : ∀ (j m : Nat) (A : NNI), m + j = kA c → (∀ a, a ≠ 11 → A a = A0 a) → AG (A 11) (gA c g0 m) (dA c m) → wp_C_settle_L69 IC Q X (j + 1) A (nI m) := by
  have hvl := hW.2.1.1
  have hul := hW.2.2.1.1
  have hA := hW.1.2.2.2.2
  have hpl := hW.2.2.2.2.1
  intro j
  induction j with
  | zero =>
    intro m A hl hF h
    unfold wp_C_settle_L69
    have hm : m = kA c := by omega
    exact pk_le (kA c) m (fun _ => k A hF (hm ▸ h)) (fun g => absurd g (by omega)) hC.1.2.2.2.2 rfl
  | succ j ih =>
    intro m A hl hF h
    unfold wp_C_settle_L69
    refine pk_le (kA c) m (fun g => absurd g (by omega)) (fun _ => ?_) hC.1.2.2.2.2 rfl
    obtain ⟨p1, p2, p3, p4, p5⟩ := P_and hW (show m < kA c by omega)
    obtain ⟨o1, o2⟩ := op_in hW (show m < kA c by omega)
    have e7 : A 7 m = nI ((kP c).getD m 0) := by
      rw [hF 7 (by decide)]
      exact hC.2.2.2.2 m (by omega)
    have e4 : A 4 ((kP c).getD m 0) = nI (kav c ((kP c).getD m 0)) := by
      rw [hF 4 (by decide)]
      have := (hC.2.1.1 (kI c + kL c + (kP c).getD m 0) (by omega)).2.2 (by omega)
      rw [show kI c + kL c + (kP c).getD m 0 - kI c - kL c = (kP c).getD m 0 by omega] at this
      exact this
    have e5 : A 5 ((kP c).getD m 0) = nI (kl1 c ((kP c).getD m 0)) := by
      rw [hF 5 (by decide)]
      exact (hC.2.2.1 (kL c + kO c + 2 * (kP c).getD m 0) (by omega)).2.2.1 _ rfl
    have e6 : A 6 ((kP c).getD m 0) = nI (kl2 c ((kP c).getD m 0)) := by
      rw [hF 6 (by decide)]
      exact (hC.2.2.1 (kL c + kO c + 2 * (kP c).getD m 0 + 1) (by omega)).2.2.2 _ rfl
    rw [nI_clamp (n := m) (by omega), e7, nI_clamp (n := (kP c).getD m 0) (by omega), e4, e5, e6, nI_clamp (n := kav c ((kP c).getD m 0)) (by omega), nI_1]
    refine ⟨pk_in m 300 (by omega), pk_in ((kP c).getD m 0) 300 (by omega), s_bit h rfl o1 p4 (s_bit h rfl o2 p5 ⟨pk_in (kav c ((kP c).getD m 0)) 401 (by omega), ih (m + 1) _ (by omega) (fun a ha => by rw [va_up_ne _ _ ha]; exact hF a ha) ?_⟩)⟩
    rw [dA, gA]
    exact AG_u h (by omega)
theorem s_settle {IC : NI} {A : NNI} {c : Ck} {x : Int32} {Q : NNI → Prop} (hW : WF c) (hC : CC IC A c) (h0 : A 11 0 = 0) (k : ∀ B, (∀ a, a ≠ 11 → B a = A a) → AG (B 11) (gS c x (IC 5)) (kV c) → Q B) : wp_C_settle IC A x Q := by
  unfold wp_C_settle
  refine ⟨kI c + 1, s_set1 (A0 := A) hW hC (fun B1 f1 h1 => ⟨kL c + 1, s_set2 (A0 := A) hW hC (fun B2 f2 h2 => ⟨kA c + 1, s_set3 (A0 := A) hW hC (fun B3 f3 h3 => k B3 f3 (AG_all hW h3)) (kA c) 0 B2 (by omega) f2 h2⟩) (kL c) 0 B1 (by omega) f1 h1⟩) (kI c) 0 A (by omega) (fun a _ => rfl) ⟨h0, rfl, fun v hv => absurd hv (by simp)⟩⟩
/-! the reference reckons -/
theorem m_set1 {Im : NI} {A0 : NNI} {c : Ck} {x : Int32} {Q X : NI → NNI → Prop} (hW : WF c) (hC : CM A0 c) (k : ∀ B, (∀ a, a ≠ 21 → B a = A0 a) → AG (B 21) (gI (kV c) 0 x (fun _ => 0) (kI c)) ((kV c).take (kI c)) → X Im B) : ∀ (j m : Nat) (A : NNI), m + j = kI c → (∀ a, a ≠ 21 → A a = A0 a) → AG (A 21) (gI (kV c) 0 x (fun _ => 0) m) ((kV c).take m) → wp_M_reckon_L13 Q X (j + 1) Im A x (nI m) := by
  have hvl := hW.2.1.1
  have hI := hW.1.2.1
  intro j
  induction j with
  | zero =>
    intro m A hl hF h
    unfold wp_M_reckon_L13
    have hm : m = kI c := by omega
    have h1 : A 2 1 = nI (kI c) := by rw [hF 2 (by decide)]; exact hC.1.2.1
    exact pk_le (kI c) m (fun _ => k A hF (hm ▸ h)) (fun g => absurd g (by omega)) h1 rfl
  | succ j ih =>
    intro m A hl hF h
    unfold wp_M_reckon_L13
    have h1 : A 2 1 = nI (kI c) := by rw [hF 2 (by decide)]; exact hC.1.2.1
    refine pk_le (kI c) m (fun g => absurd g (by omega)) (fun _ => ?_) h1 rfl
    have hm : m < (kV c).length := by omega
    have hv := hW.v400 (getD_mem (d := 0) hm)
    have e0 : A 3 m = nI (2 * (kV c).getD m 0) := by
      rw [hF 3 (by decide)]
      exact (hC.2.1 m hm).1 (by omega)
    rw [nI_clamp (n := m) (by omega), e0, half2 hv.2, nI_clamp (n := (kV c).getD m 0) (by omega), nI_1]
    refine ⟨pk_in m 12 (by omega), pk_in ((kV c).getD m 0) 401 (by omega), ih (m + 1) _ (by omega) (fun a ha => by rw [va_up_ne _ _ ha]; exact hF a ha) ?_⟩
    rw [tk1 hm, gI, Nat.zero_add]
    exact AG_u h (by omega)
theorem m_set2 {Im : NI} {A0 : NNI} {c : Ck} {g0 : Nat → Int32} {Q X : NI → NNI → Prop} (hW : WF c) (hC : CM A0 c) (k : ∀ B, (∀ a, a ≠ 21 → B a = A0 a) → AG (B 21) (gI (kV c) (kI c) (Im 9) g0 (kL c)) ((kV c).take (kI c + kL c)) → X Im B) : ∀ (j m : Nat) (A : NNI), m + j = kL c → (∀ a, a ≠ 21 → A a = A0 a) → AG (A 21) (gI (kV c) (kI c) (Im 9) g0 m) ((kV c).take (kI c + m)) → wp_M_reckon_L49 Q X (j + 1) Im A (nI m) := by
  have hvl := hW.2.1.1
  have hI := hW.1.2.1
  have hL := hW.1.2.2.1
  intro j
  induction j with
  | zero =>
    intro m A hl hF h
    unfold wp_M_reckon_L49
    have hm : m = kL c := by omega
    have h1 : A 2 2 = nI (kL c) := by rw [hF 2 (by decide)]; exact hC.1.2.2.1
    exact pk_le (kL c) m (fun _ => k A hF (hm ▸ h)) (fun g => absurd g (by omega)) h1 rfl
  | succ j ih =>
    intro m A hl hF h
    unfold wp_M_reckon_L49
    have h1 : A 2 2 = nI (kL c) := by rw [hF 2 (by decide)]; exact hC.1.2.2.1
    refine pk_le (kL c) m (fun g => absurd g (by omega)) (fun _ => ?_) h1 rfl
    have hm : kI c + m < (kV c).length := by omega
    have hv := hW.v400 (getD_mem (d := 0) hm)
    have e0 : A 4 m = nI (2 * (kV c).getD (kI c + m) 0) := by
      rw [hF 4 (by decide)]
      have := (hC.2.1 (kI c + m) hm).2.1 (by omega) (by omega)
      rw [show kI c + m - kI c = m by omega] at this
      exact this
    rw [nI_clamp (n := m) (by omega), e0, half2 hv.2, nI_clamp (n := (kV c).getD (kI c + m) 0) (by omega), nI_1]
    refine ⟨pk_in m 16 (by omega), pk_in ((kV c).getD (kI c + m) 0) 401 (by omega), ih (m + 1) _ (by omega) (fun a ha => by rw [va_up_ne _ _ ha]; exact hF a ha) ?_⟩
    rw [← Nat.add_assoc, tk1 hm, gI]
    exact AG_u h (by omega)
theorem m_of {A : NNI} {g : Nat → Int32} {D : List Nat} {l : Nat} {x : Int32} {Q : Int32 → Prop} (h : AG (A 21) g D) (hx : x = nI l) (hl : l / 2 = 0 ∨ l / 2 ∈ D) (h8 : l ≤ 801) (k : Q (bt g l)) : wp_M_of A x Q := by
  unfold wp_M_of
  rw [hx, show nI l / (2 : Int32) = nI (l / 2) from pk_div (d := 2) (by omega) (by decide) (by decide), nI_clamp (n := l / 2) (by omega), AG_bt h hl]
  exact ⟨pk_in (l / 2) 401 (by omega), k⟩
theorem m_set3 {Im : NI} {A0 : NNI} {c : Ck} {g0 : Nat → Int32} {Q X : NI → NNI → Prop} (hW : WF c) (hC : CM A0 c) (hO : OM A0 (kP c)) (k : ∀ B, (∀ a, a ≠ 21 → B a = A0 a) → AG (B 21) (gA c g0 (kA c)) (dA c (kA c)) → X Im B) : ∀ (j m : Nat) (A : NNI), m + j = kA c → (∀ a, a ≠ 21 → A a = A0 a) → AG (A 21) (gA c g0 m) (dA c m) → wp_M_reckon_L88 Q X (j + 1) Im A (nI m) := by
  have hvl := hW.2.1.1
  have hul := hW.2.2.1.1
  have hA := hW.1.2.2.2.2
  have hpl := hW.2.2.2.2.1
  intro j
  induction j with
  | zero =>
    intro m A hl hF h
    unfold wp_M_reckon_L88
    have hm : m = kA c := by omega
    have h1 : A 2 4 = nI (kA c) := by rw [hF 2 (by decide)]; exact hC.1.2.2.2.2
    exact pk_le (kA c) m (fun _ => k A hF (hm ▸ h)) (fun g => absurd g (by omega)) h1 rfl
  | succ j ih =>
    intro m A hl hF h
    unfold wp_M_reckon_L88
    have h1 : A 2 4 = nI (kA c) := by rw [hF 2 (by decide)]; exact hC.1.2.2.2.2
    refine pk_le (kA c) m (fun g => absurd g (by omega)) (fun _ => ?_) h1 rfl
    obtain ⟨p1, p2, p3, p4, p5⟩ := P_and hW (show m < kA c by omega)
    obtain ⟨o1, o2⟩ := op_in hW (show m < kA c by omega)
    have e7 : A 18 m = nI ((kP c).getD m 0) := by
      rw [hF 18 (by decide)]
      exact hO m (by omega)
    have e4 : A 7 ((kP c).getD m 0) = nI (2 * kav c ((kP c).getD m 0)) := by
      rw [hF 7 (by decide)]
      have := (hC.2.1 (kI c + kL c + (kP c).getD m 0) (by omega)).2.2 (by omega)
      rw [show kI c + kL c + (kP c).getD m 0 - kI c - kL c = (kP c).getD m 0 by omega] at this
      exact this
    have e5 : A 8 ((kP c).getD m 0) = nI (kl1 c ((kP c).getD m 0)) := by
      rw [hF 8 (by decide)]
      exact (hC.2.2.2.1 (kL c + kO c + 2 * (kP c).getD m 0) (by omega)).2.2.1 _ rfl
    have e6 : A 9 ((kP c).getD m 0) = nI (kl2 c ((kP c).getD m 0)) := by
      rw [hF 9 (by decide)]
      exact (hC.2.2.2.1 (kL c + kO c + 2 * (kP c).getD m 0 + 1) (by omega)).2.2.2 _ rfl
    rw [nI_clamp (n := m) (by omega), e7, nI_clamp (n := (kP c).getD m 0) (by omega), e4, e5, e6, half2 p3, nI_clamp (n := kav c ((kP c).getD m 0)) (by omega), nI_1]
    refine ⟨pk_in m 300 (by omega), pk_in ((kP c).getD m 0) 600 (by omega), m_of h rfl o1 p4 (m_of h rfl o2 p5 ⟨pk_in (kav c ((kP c).getD m 0)) 401 (by omega), ih (m + 1) _ (by omega) (fun a ha => by rw [va_up_ne _ _ ha]; exact hF a ha) ?_⟩)⟩
    rw [dA, gA]
    exact AG_u h (by omega)
theorem KA_21 {A B C : NNI} (h : KA A B) (hF : ∀ a, a ≠ 21 → C a = B a) : KA A C := KA_same h 21 hF (fun k hk => absurd hk (Nat.not_lt_zero k))
theorem m_reckon {Im : NI} {A : NNI} {c : Ck} {x : Int32} {Q : NI → NNI → Prop} (hW : WF c) (hM : CM A c) (k : ∀ I' B, KA A B → CM B c → (∀ i, i ≠ 8 → I' i = Im i) → AG (B 21) (gS c x (Im 9)) (kV c) → Q I' B) : wp_M_reckon Im A x Q := by
  unfold wp_M_reckon
  refine m_again hW hM (fun I1 B1 hK1 hM1 hI1 hO hN => ?_)
  have hF2 : ∀ a, a ≠ 21 → (va_up B1 21 (upd (B1 21) ((0 : Int32)).toNatClampNeg 0)) a = B1 a := fun a ha => va_up_ne _ _ ha
  have hK2 := KA_21 hK1 hF2
  have hM2 := CM_KA hW hK2 hM
  have e9 : I1 9 = Im 9 := hI1 9 (by decide)
  refine ⟨kI c + 1, m_set1 (A0 := va_up B1 21 (upd (B1 21) ((0 : Int32)).toNatClampNeg 0)) hW hM2 (fun B3 f3 h3 => ⟨kL c + 1, m_set2 (A0 := va_up B1 21 (upd (B1 21) ((0 : Int32)).toNatClampNeg 0)) hW hM2 (fun B4 f4 h4 => ⟨kA c + 1, m_set3 (A0 := va_up B1 21 (upd (B1 21) ((0 : Int32)).toNatClampNeg 0)) hW hM2 ?_ (fun B5 f5 h5 => ?_) (kA c) 0 B4 (by omega) f4 h4⟩) (kL c) 0 B3 (by omega) f3 h3⟩) (kI c) 0 _ (by omega) (fun a _ => rfl) ⟨?_, rfl, fun v hv => absurd hv (by simp)⟩⟩
  · show upd (B1 21) ((0 : Int32)).toNatClampNeg 0 ((0 : Int32)).toNatClampNeg = 0
    exact pk_us
  · exact hO
  · have hK5 := KA_21 hK2 f5
    rw [e9] at h5
    exact k I1 B5 hK5 (CM_KA hW hK5 hM) hI1 (AG_all hW h5)
/-! values and steps -/
theorem s_value {IC : NI} {A : NNI} {c : Ck} {x1 x2 : Int32} {Q : Int32 → NNI → Prop} (hW : WF c) (hC : CC IC A c) (h0 : A 11 0 = 0) (kn : ∀ l, x1 = nI l → l ≤ 2 * kM c + 1 → (l < 2 ∨ l / 2 ∈ kV c) → ∀ B, (∀ a, a ≠ 11 → B a = A a) → B 11 0 = 0 → Q (bt (gS c x2 (IC 5)) l) B) (k0 : (∀ l, x1 = nI l → l ≤ 2 * kM c + 1 → ¬ (l < 2 ∨ l / 2 ∈ kV c)) → Q (-1) A) : wp_F_value IC A x1 x2 Q := by
  unfold wp_F_value wp_C_highestLiteral
  have hM := hW.1.1
  refine ⟨fun g => k0 fun l e hl => ?_, fun g => ?_⟩
  · rw [e] at g
    exact absurd g (nI_pos (by omega))
  · obtain ⟨l, hl, e⟩ := nI_of g
    subst e
    have e1 : (2 : Int32) * IC 0 + 1 = nI (2 * kM c + 1) := by rw [hC.1.1, show (2 : Int32) = nI 2 from rfl, pk_mul, nI_1]
    have uq : ∀ m, nI l = nI m → m ≤ 2 * kM c + 1 → l = m := fun m e hm => (nI_eq hl (by omega)).mp e
    refine pk_lt (2 * kM c + 1) l (fun g2 => k0 fun m e hm => ?_) (fun g2 => ?_) e1 rfl
    · have := uq m e hm; omega
    · refine s_known hC.2.1.2 (by omega) ?_
      by_cases y : l < 2 ∨ l / 2 ∈ kV c
      · rw [if_pos y]
        refine ⟨fun z => absurd z (by decide), fun _ => s_settle hW hC h0 (fun B hF hG => s_bit hG rfl ?_ (by omega) (kn l rfl g2 y B hF hG.1))⟩
        rcases y with y | y
        · exact Or.inl (by omega)
        · exact Or.inr y
      · rw [if_neg y]
        refine ⟨fun _ => k0 fun m e hm => ?_, fun z => absurd rfl z⟩
        rw [← uq m e hm]
        exact y
theorem m_value {Im : NI} {A : NNI} {c : Ck} {x1 x2 : Int32} {Q : Int32 → NI → NNI → Prop} (hW : WF c) (hM : CM A c) (kn : ∀ l, x1 = nI l → l ≤ 2 * kM c + 1 → (l < 2 ∨ l / 2 ∈ kV c) → ∀ I' B, KA A B → (∀ i, i ≠ 0 → i ≠ 8 → I' i = Im i) → Q (bt (gS c x2 (Im 9)) l) I' B) (k0 : (∀ l, x1 = nI l → l ≤ 2 * kM c + 1 → ¬ (l < 2 ∨ l / 2 ∈ kV c)) → ∀ I', (∀ i, i ≠ 0 → I' i = Im i) → Q (-1) I' A) : wp_M_value Im A x1 x2 Q := by
  unfold wp_M_value
  have hM4 := hW.1.1
  have hI0 : ∀ i, i ≠ 0 → (va_up Im 0 0) i = Im i := fun i hi => va_up_ne _ _ hi
  have b41 : ∀ l, x1 = nI l → l ≤ 2 * kM c + 1 → (l < 2 ∨ l / 2 ∈ kV c) → wp_M_value_b41 Q (va_up Im 0 0) A x1 x2 := fun l e hl y => by
    unfold wp_M_value_b41
    refine m_reckon hW hM (fun I1 B hK hMB hI1 hG => m_of hG e ?_ (by omega) (kn l e hl y I1 B hK (fun i h0 h8 => (hI1 i h8).trans (hI0 i h0))))
    rcases y with y | y
    · exact Or.inl (by omega)
    · exact Or.inr y
  refine ⟨fun g => k0 (fun l e hl => ?_) _ hI0, fun g => ?_⟩
  · rw [e] at g
    exact absurd g (nI_pos (by omega))
  · obtain ⟨l, hl, e⟩ := nI_of g
    have e1 : (2 : Int32) * A 2 ((0 : Int32)).toNatClampNeg + 1 = nI (2 * kM c + 1) := by
      show (2 : Int32) * A 2 0 + 1 = _
      rw [show A 2 0 = nI (kM c) from hM.1.1, show (2 : Int32) = nI 2 from rfl, pk_mul, nI_1]
    have uq : ∀ m, x1 = nI m → m ≤ 2 * kM c + 1 → l = m := fun m e2 hm => (nI_eq hl (by omega)).mp (e.symm.trans e2)
    refine pk_lt (2 * kM c + 1) l (fun g2 => k0 (fun m e2 hm => ?_) _ hI0) (fun g2 => pk_le l 1 (fun g3 => b41 l e g2 (Or.inl (by omega))) (fun g3 => ?_) e rfl) e1 e
    · have := uq m e2 hm; omega
    · have ed : x1 / (2 : Int32) = nI (l / 2) := by rw [e]; exact pk_div (d := 2) (by omega) (by decide) (by decide)
      rw [ed, nI_clamp (n := l / 2) (by omega)]
      have hz := KD_zero hM.2.2.1 (v := l / 2) (by omega)
      refine ⟨pk_in (l / 2) 802 (by omega), fun g4 => k0 (fun m e2 hm => ?_) _ hI0, fun g4 => b41 l e g2 (Or.inr (Classical.byContradiction fun z => g4 (hz.mpr z)))⟩
      have h4 := hz.mp g4
      rw [← uq m e2 hm]
      exact fun z => z.elim (fun z => by omega) h4
theorem use_in {c : Ck} (hW : WF c) {k : Nat} (hk : k < (kU c).length) : ((kU c).getD k (0, 0)).1 / 2 = 0 ∨ ((kU c).getD k (0, 0)).1 / 2 ∈ kV c := by
  rcases (hW.2.2.1.2 _ (getD_mem (d := (0, 0)) hk)).2 with z | z
  · exact Or.inl (by omega)
  · exact Or.inr z
theorem s_outB {A : NNI} {c : Ck} {g : Nat → Int32} {Q X : Int32 → Prop} (hW : WF c) (hU : UA (kL c) (kO c) A (kU c)) (hG : AG (A 11) g (kV c)) (k : X (gB (kU c) (kL c) g (kO c))) : ∀ (j m : Nat), m + j = kO c → wp_C_bitsOf_outputLiteral_L5 A Q X (j + 1) (nI (kO c)) (gB (kU c) (kL c) g m) (nI m) := by
  have hul := hW.2.2.1.1
  have hO := hW.1.2.2.2.1
  intro j
  induction j with
  | zero =>
    intro m hl
    unfold wp_C_bitsOf_outputLiteral_L5
    have hm : m = kO c := by omega
    exact pk_le (kO c) m (fun _ => hm ▸ k) (fun g => absurd g (by omega))
  | succ j ih =>
    intro m hl
    unfold wp_C_bitsOf_outputLiteral_L5
    refine pk_le (kO c) m (fun g => absurd g (by omega)) (fun _ => ⟨pk_in m 8 (by omega), ?_⟩)
    have e := (hU (kL c + m) (by omega)).2.1 (by omega) (by omega)
    rw [show kL c + m - kL c = m by omega] at e
    rw [nI_clamp (n := m) (by omega), e, nI_1]
    exact s_bit hG rfl (use_in hW (by omega)) (hW.u801 (getD_mem (by omega))) (ih (m + 1) (by omega))
theorem s_latB2 {A : NNI} {c : Ck} {g : Nat → Int32} {Q X : Int32 → Prop} (hW : WF c) (hU : UA (kL c) (kO c) A (kU c)) (hG : AG (A 11) g (kV c)) (k : X (gB (kU c) 0 g (kL c))) : ∀ (j m : Nat), m + j = kL c → wp_C_bitsOf_latchNext_L5 A Q X (j + 1) (nI (kL c)) (gB (kU c) 0 g m) (nI m) := by
  have hul := hW.2.2.1.1
  have hL := hW.1.2.2.1
  intro j
  induction j with
  | zero =>
    intro m hl
    unfold wp_C_bitsOf_latchNext_L5
    have hm : m = kL c := by omega
    exact pk_le (kL c) m (fun _ => hm ▸ k) (fun g => absurd g (by omega))
  | succ j ih =>
    intro m hl
    unfold wp_C_bitsOf_latchNext_L5
    refine pk_le (kL c) m (fun g => absurd g (by omega)) (fun _ => ⟨pk_in m 7 (by omega), ?_⟩)
    have e := (hU m (by omega)).1 (by omega)
    rw [nI_clamp (n := m) (by omega), e, nI_1]
    have go := ih (m + 1) (by omega)
    rw [gB, Nat.zero_add] at go
    exact s_bit hG rfl (use_in hW (by omega)) (hW.u801 (getD_mem (by omega))) go
theorem s_step {IC : NI} {A : NNI} {c : Ck} {x : Int32} {Q : Int32 → NI → NNI → Prop} (hW : WF c) (hC : CC IC A c) (h0 : A 11 0 = 0) (k : ∀ B, (∀ a, a ≠ 11 → B a = A a) → B 11 0 = 0 → Q (gB (kU c) (kL c) (gS c x (IC 5)) (kO c)) (va_up IC 5 (gB (kU c) 0 (gS c x (IC 5)) (kL c))) B) : wp_F_step IC A x Q := by
  unfold wp_F_step
  refine s_settle hW hC h0 (fun B hF hG => ?_)
  have hU : UA (kL c) (kO c) B (kU c) := UA_same hC.2.2.1 (hF 2 (by decide)) (hF 3 (by decide)) (hF 5 (by decide)) (hF 6 (by decide))
  unfold wp_C_bitsOf_outputLiteral wp_C_bitsOf_latchNext
  rw [hC.1.2.2.2.1, hC.1.2.2.1]
  exact ⟨kO c + 1, s_outB hW hU hG ⟨kL c + 1, s_latB2 hW hU hG (k B hF hG.1) (kL c) 0 (by omega)⟩ (kO c) 0 (by omega)⟩
theorem m_stp1 {Im : NI} {A : NNI} {c : Ck} {g : Nat → Int32} {v3 : Int32} {Q : Int32 → NI → NNI → Prop} {X : NI → NNI → Int32 → Int32 → Prop} (hW : WF c) (hM : CM A c) (hG : AG (A 21) g (kV c)) (k : X Im A (gB (kU c) (kL c) g (kO c)) v3) : ∀ (j m : Nat), m + j = kO c → wp_M_step_L17 Q X (j + 1) Im A (gB (kU c) (kL c) g m) v3 (nI m) := by
  have hul := hW.2.2.1.1
  have hO := hW.1.2.2.2.1
  intro j
  induction j with
  | zero =>
    intro m hl
    unfold wp_M_step_L17
    have hm : m = kO c := by omega
    exact pk_le (kO c) m (fun _ => hm ▸ k) (fun g => absurd g (by omega)) hM.1.2.2.2.1 rfl
  | succ j ih =>
    intro m hl
    unfold wp_M_step_L17
    refine pk_le (kO c) m (fun g => absurd g (by omega)) (fun _ => ⟨pk_in m 16 (by omega), ?_⟩) hM.1.2.2.2.1 rfl
    have e := (hM.2.2.2.1 (kL c + m) (by omega)).2.1 (by omega) (by omega)
    rw [show kL c + m - kL c = m by omega] at e
    have e2 : A 6 m = nI ((kU c).getD (kL c + m) (0, 0)).1 := e
    rw [nI_clamp (n := m) (by omega), e2, nI_1]
    exact m_of hG rfl (use_in hW (by omega)) (hW.u801 (getD_mem (by omega))) (ih (m + 1) (by omega))
theorem m_stp2 {Im : NI} {A : NNI} {c : Ck} {g : Nat → Int32} {v2 : Int32} {Q : Int32 → NI → NNI → Prop} {X : NI → NNI → Int32 → Int32 → Prop} (hW : WF c) (hM : CM A c) (hG : AG (A 21) g (kV c)) (k : X Im A v2 (gB (kU c) 0 g (kL c))) : ∀ (j m : Nat), m + j = kL c → wp_M_step_L54 Q X (j + 1) Im A v2 (gB (kU c) 0 g m) (nI m) := by
  have hul := hW.2.2.1.1
  have hL := hW.1.2.2.1
  intro j
  induction j with
  | zero =>
    intro m hl
    unfold wp_M_step_L54
    have hm : m = kL c := by omega
    exact pk_le (kL c) m (fun _ => hm ▸ k) (fun g => absurd g (by omega)) hM.1.2.2.1 rfl
  | succ j ih =>
    intro m hl
    unfold wp_M_step_L54
    refine pk_le (kL c) m (fun g => absurd g (by omega)) (fun _ => ⟨pk_in m 16 (by omega), ?_⟩) hM.1.2.2.1 rfl
    have e2 : A 5 m = nI ((kU c).getD m (0, 0)).1 := (hM.2.2.2.1 m (by omega)).1 (by omega)
    rw [nI_clamp (n := m) (by omega), e2, nI_1]
    have go := ih (m + 1) (by omega)
    rw [gB, Nat.zero_add] at go
    exact m_of hG rfl (use_in hW (by omega)) (hW.u801 (getD_mem (by omega))) go
theorem m_step {Im : NI} {A : NNI} {c : Ck} {x : Int32} {Q : Int32 → NI → NNI → Prop} (hW : WF c) (hM : CM A c) (k : ∀ I' B, KA A B → (∀ i, i ≠ 0 → i ≠ 8 → i ≠ 9 → I' i = Im i) → I' 9 = gB (kU c) 0 (gS c x (Im 9)) (kL c) → Q (gB (kU c) (kL c) (gS c x (Im 9)) (kO c)) I' B) : wp_M_step Im A x Q := by
  unfold wp_M_step
  refine m_reckon hW hM (fun I1 B hK hMB hI1 hG => ?_)
  exact ⟨kO c + 1, m_stp1 hW hMB hG ⟨kL c + 1, m_stp2 hW hMB hG (k _ B hK (fun i h0 h8 h9 => by rw [va_up_ne _ _ h9, hI1 i h8, va_up_ne _ _ h0]) rfl) (kL c) 0 (by omega)⟩ (kO c) 0 (by omega)⟩
