/-! the class puts the ands in order, finds the lowest on a loop -/
def CA (IC : NI) (AC : NNI) (A : Nat) (av l1 l2 : Nat → Nat) : Prop := A ≤ 300 ∧ IC 4 = nI A ∧ (∀ k, k < A → AC 4 k = nI (av k) ∧ av k ≤ 400 ∧ AC 5 k = nI (l1 k) ∧ l1 k ≤ 801 ∧ AC 6 k = nI (l2 k) ∧ l2 k ≤ 801) ∧ ∀ i j, i < A → j < A → av i = av j → i = j
def hf (l : Nat → Nat) : Nat → Nat := fun k => l k / 2
def SC (AS : NNI) (A : Nat) (av : Nat → Nat) (P : List Nat) : Prop := (∀ v, v ≤ 400 → (Cm A av P v → AS 0 v = 1) ∧ (¬ Cm A av P v → AS 0 v = 0)) ∧ ∀ k, k < A → AS 2 (av k) = nI k
theorem SC_iff {AS : NNI} {A : Nat} {av : Nat → Nat} {P : List Nat} (h : SC AS A av P) {v : Nat} (hv : v ≤ 400) : AS 0 v = 0 ↔ ¬ Cm A av P v := by
  constructor
  · intro g c
    rw [(h.1 v hv).1 c] at g
    exact absurd g (by decide)
  · exact (h.1 v hv).2
theorem SC_same {AS BS : NNI} {A : Nat} {av : Nat → Nat} {P : List Nat} (h : SC AS A av P) (h0 : BS 0 = AS 0) (h2 : BS 2 = AS 2) : SC BS A av P := by
  unfold SC
  rw [h0, h2]
  exact h
theorem Cm_av {A : Nat} {av : Nat → Nat} {P : List Nat} (hinj : ∀ i j, i < A → j < A → av i = av j → i = j) {k : Nat} (hk : k < A) : Cm A av P (av k) ↔ k ∈ P :=
  ⟨fun h => h k hk rfl, fun h j hj e => by rw [hinj j k hj hk e]; exact h⟩
theorem Cm_push {A : Nat} {av : Nat → Nat} {P : List Nat} (hinj : ∀ i j, i < A → j < A → av i = av j → i = j) {k : Nat} (hk : k < A) (v : Nat) : Cm A av (P ++ [k]) v ↔ v = av k ∨ Cm A av P v := by
  constructor
  · intro h
    by_cases g : v = av k
    · exact Or.inl g
    · refine Or.inr fun j hj e => ?_
      rcases List.mem_append.mp (h j hj e) with z | z
      · exact z
      · have : j = k := by simpa using z
        exact absurd (e.symm.trans (by rw [this])) g
  · rintro (h | h) j hj e
    · exact List.mem_append.mpr (Or.inr (by rw [hinj j k hj hk (e.trans h)]; exact List.mem_singleton.mpr rfl))
    · exact List.mem_append.mpr (Or.inl (h j hj e))
theorem s_aw1 {IC : NI} {AC : NNI} {Q X : NNI → Prop} : ∀ (j v : Nat) (AS : NNI), v + j = 401 → (∀ w, w < v → AS 0 w = 1) → (∀ BS, (∀ w, w ≤ 400 → BS 0 w = 1) → X BS) → wp_S_awaitAnds_L2 IC AC Q X (j + 1) AS (nI v) := by
  intro j
  induction j with
  | zero =>
    intro v AS hl hA k
    unfold wp_S_awaitAnds_L2
    exact pk_lt 400 v (fun _ => k _ (fun w hw => hA w (by omega))) (fun g => absurd g (by omega))
  | succ j ih =>
    intro v AS hl hA k
    unfold wp_S_awaitAnds_L2
    refine pk_lt 400 v (fun g => absurd g (by omega)) (fun _ => ⟨pk_in v 401 (by omega), ?_⟩)
    rw [nI_clamp (n := v) (by omega), nI_1]
    refine ih (v + 1) _ (by omega) (fun w hw => ?_) k
    show upd (AS 0) v 1 w = 1
    by_cases g : w = v
    · rw [g, pk_us]
    · rw [pk_un g]; exact hA w (by omega)
theorem s_aw2 {IC : NI} {AC : NNI} {A : Nat} {av l1 l2 : Nat → Nat} {Q X : NNI → Prop} (hC : CA IC AC A av l1 l2) : ∀ (j c : Nat) (AS : NNI), c + j = A → (∀ w, w ≤ 400 → ((∃ i, i < c ∧ av i = w) → AS 0 w = 0) ∧ ((¬ ∃ i, i < c ∧ av i = w) → AS 0 w = 1)) → (∀ i, i < c → AS 2 (av i) = nI i) → (∀ BS, SC BS A av [] → X BS) → wp_S_awaitAnds_L24 IC AC Q X (j + 1) AS (nI c) := by
  intro j
  obtain ⟨c1, c2, c3, c4⟩ := hC
  induction j with
  | zero =>
    intro c AS hl h0 h2 k
    unfold wp_S_awaitAnds_L24
    have hc : c = A := by omega
    subst hc
    refine pk_le c c (fun _ => k _ ⟨fun v hv => ⟨fun g => (h0 v hv).2 fun ⟨i, hi, e⟩ => absurd (g i hi e) List.not_mem_nil, fun g => (h0 v hv).1 ?_⟩, h2⟩) (fun g => absurd g (by omega)) c2 rfl
    by_cases z : ∃ i, i < c ∧ av i = v
    · exact z
    · exact absurd (fun j hj e => absurd ⟨j, hj, e⟩ z) g
  | succ j ih =>
    intro c AS hl h0 h2 k
    unfold wp_S_awaitAnds_L24
    obtain ⟨d1, d2, -, -, -, -⟩ := c3 c (by omega)
    refine pk_le A c (fun g => absurd g (by omega)) (fun _ => ⟨pk_in c 300 (by omega), ?_⟩) c2 rfl
    rw [nI_clamp (n := c) (by omega), d1, nI_clamp (n := av c) (by omega), nI_1]
    refine ⟨pk_in (av c) 401 (by omega), ih (c + 1) _ (by omega) (fun w hw => ⟨fun ⟨i, hi, e⟩ => ?_, fun g => ?_⟩) (fun i hi => ?_) k⟩
    · show upd (AS 0) (av c) 0 w = 0
      by_cases g : w = av c
      · rw [g, pk_us]
      · rw [pk_un g]
        refine (h0 w hw).1 ⟨i, ?_, e⟩
        have : i ≠ c := fun z => g (by rw [← e, z])
        omega
    · show upd (AS 0) (av c) 0 w = 1
      rw [pk_un (fun z => g ⟨c, by omega, z.symm⟩)]
      exact (h0 w hw).2 fun ⟨i, hi, e⟩ => g ⟨i, by omega, e⟩
    · show upd (AS 2) (av c) (nI c) (av i) = nI i
      by_cases g : i = c
      · rw [g, pk_us]
      · rw [pk_un (fun z => g (c4 i c (by omega) (by omega) z))]
        exact h2 i (by omega)
theorem s_await {AS : NNI} {IC : NI} {AC : NNI} {A : Nat} {av l1 l2 : Nat → Nat} {Q : NNI → Prop} (hC : CA IC AC A av l1 l2) (k : ∀ BS, SC BS A av [] → Q BS) : wp_S_awaitAnds AS IC AC Q := by
  unfold wp_S_awaitAnds
  exact ⟨402, s_aw1 401 0 _ rfl (fun w hw => absurd hw (by omega)) (fun BS hB => ⟨A + 1, s_aw2 hC A 0 _ (by omega) (fun w hw => ⟨fun ⟨i, hi, _⟩ => absurd hi (by omega), fun _ => hB w hw⟩) (fun i hi => absurd hi (by omega)) k⟩)⟩
theorem s_first {AS : NNI} {IC : NI} {AC : NNI} {A : Nat} {av l1 l2 : Nat → Nat} {P : List Nat} {Q : Int32 → Prop} {X : Prop} (hC : CA IC AC A av l1 l2) (hS : SC AS A av P) (k0 : nx A av (hf l1) (hf l2) P = none → X) (k1 : ∀ k, nx A av (hf l1) (hf l2) P = some k → Q (nI k)) : ∀ (j c : Nat), c + j = A → (∀ i, i < c → ¬ Rd A av (hf l1) (hf l2) P i) → wp_S_firstReady_L2 AS IC AC Q X (j + 1) (nI c) := by
  intro j
  obtain ⟨c1, c2, c3, c4⟩ := hC
  induction j with
  | zero =>
    intro c hl h
    unfold wp_S_firstReady_L2
    exact pk_le A c (fun _ => k0 (nx_none fun k hk => h k (by omega))) (fun g => absurd g (by omega)) c2 rfl
  | succ j ih =>
    intro c hl h
    unfold wp_S_firstReady_L2
    have hcA : c < A := by omega
    obtain ⟨d1, d2, d3, d4, d5, d6⟩ := c3 c hcA
    refine pk_le A c (fun g => absurd g (by omega)) (fun _ => ⟨pk_in c 300 (by omega), ?_⟩) c2 rfl
    rw [nI_clamp (n := c) (by omega), d1, d3, d5, nI_clamp (n := av c) (by omega), shr1 (by omega), shr1 (by omega), nI_clamp (n := l1 c / 2) (by omega), nI_clamp (n := l2 c / 2) (by omega), nI_1, SC_iff hS d2, SC_iff hS (v := l1 c / 2) (by omega), SC_iff hS (v := l2 c / 2) (by omega), Cm_av c4 hcA]
    have next : ¬ Rd A av (hf l1) (hf l2) P c → wp_S_firstReady_L2 AS IC AC Q X (j + 1) (nI (c + 1)) := fun g => ih (c + 1) (by omega) (fun i hi => by
      by_cases z : i = c
      · rw [z]; exact g
      · exact h i (by omega))
    refine ⟨pk_in (av c) 401 (by omega), fun g1 => ⟨pk_in (l1 c / 2) 401 (by omega), fun g2 => next fun z => g2 z.2.1, fun g2 => ⟨pk_in (l2 c / 2) 401 (by omega), fun g3 => next fun z => g3 z.2.2, fun g3 => ?_⟩⟩, fun g1 => next fun z => g1 z.1⟩
    exact k1 c (nx_some hcA ⟨g1, Classical.byContradiction g2, Classical.byContradiction g3⟩ h)
def OD (A : NNI) (P : List Nat) : Prop := ∀ i, i < P.length → A 7 i = nI (P.getD i 0)
theorem CA_same {IC : NI} {AC BC : NNI} {A : Nat} {av l1 l2 : Nat → Nat} (h : CA IC AC A av l1 l2) (h4 : BC 4 = AC 4) (h5 : BC 5 = AC 5) (h6 : BC 6 = AC 6) : CA IC BC A av l1 l2 := by
  unfold CA
  rw [h4, h5, h6]
  exact h
theorem s_skip {IC : NI} {AC AS : NNI} {A : Nat} {av l1 l2 : Nat → Nat} {P : List Nat} {v3 : Int32} {Q : Int32 → NNI → NNI → Prop} {K9 : NNI → NNI → Int32 → Int32 → Prop} {X9 : NNI → NNI → Prop} {X : NNI → NNI → Int32 → Int32 → Prop} (hC : CA IC AC A av l1 l2) (hS : SC AS A av P) (k : ∀ c, c ≤ A → (∀ i, i < c → i ∈ P) → X AS AC (nI c) v3) : ∀ (j c : Nat), c + j = A → (∀ i, i < c → i ∈ P) → wp_S_putInOrder_L17 IC Q K9 X9 X (j + 1) AS AC (nI c) v3 := by
  intro j
  obtain ⟨c1, c2, c3, c4⟩ := hC
  induction j with
  | zero =>
    intro c hl h
    unfold wp_S_putInOrder_L17
    exact pk_le A c (fun _ => k c (by omega) h) (fun g => absurd g (by omega)) c2 rfl
  | succ j ih =>
    intro c hl h
    unfold wp_S_putInOrder_L17
    obtain ⟨d1, d2, -, -, -, -⟩ := c3 c (by omega)
    refine pk_le A c (fun g => absurd g (by omega)) (fun _ => ⟨pk_in c 300 (by omega), ?_⟩) c2 rfl
    rw [nI_clamp (n := c) (by omega), d1, nI_clamp (n := av c) (by omega), nI_1, SC_iff hS d2, Cm_av c4 (by omega)]
    refine ⟨pk_in (av c) 401 (by omega), fun g => k c (by omega) h, fun g => ih (c + 1) (by omega) (fun i hi => ?_)⟩
    by_cases z : i = c
    · rw [z]; exact Classical.byContradiction g
    · exact h i (by omega)
theorem s_putG {IC : NI} {A0 : NNI} {A : Nat} {av l1 l2 : Nat → Nat} {Q : Int32 → NNI → NNI → Prop} {X : NNI → NNI → Prop} (hC : CA IC A0 A av l1 l2) : ∀ (f : Nat) (P : List Nat) (fw : Nat) (AS AC : NNI), P.length + f = A → OK A av (hf l1) (hf l2) P → SC AS A av P → fw ≤ A → (∀ i, i < fw → i ∈ P) → OD AC P → (∀ a, a ≠ 7 → AC a = A0 a)
    → ((od A av (hf l1) (hf l2) f P).length = A → ∀ AS AC, SC AS A av (od A av (hf l1) (hf l2) f P) → OD AC (od A av (hf l1) (hf l2) f P) → (∀ a, a ≠ 7 → AC a = A0 a) → X AS AC)
    → (¬ (od A av (hf l1) (hf l2) f P).length = A → ∀ AS AC, SC AS A av (od A av (hf l1) (hf l2) f P) → (∀ a, a ≠ 7 → AC a = A0 a) → Q 0 AS AC) → wp_S_putInOrder_L9 IC Q X (f + 1) AS AC (nI fw) (nI P.length) := by
  intro f
  have c1 := hC.1
  have c2 := hC.2.1
  induction f with
  | zero =>
    intro P fw AS AC hl hP hS hfw hw hO hF k1 k0
    unfold wp_S_putInOrder_L9
    exact pk_le A P.length (fun _ => k1 (by show P.length = A; omega) _ _ hS hO hF) (fun g => absurd g (by omega)) c2 rfl
  | succ f ih =>
    intro P fw AS AC hl hP hS hfw hw hO hF k1 k0
    unfold wp_S_putInOrder_L9
    have hCA : CA IC AC A av l1 l2 := CA_same hC (hF 4 (by decide)) (hF 5 (by decide)) (hF 6 (by decide))
    refine pk_le A P.length (fun g => absurd g (by omega)) (fun _ => ⟨A - fw + 1, s_skip hCA hS (fun c hc hcP => ?_) (A - fw) fw (by omega) hw⟩) c2 rfl
    unfold wp_S_firstReady
    refine ⟨A - c + 1, s_first hCA hS (fun hx => ⟨fun _ => ?_, fun g => absurd rfl g⟩) (fun k hx => ⟨fun g => ?_, fun _ => ?_⟩) (A - c) c (by omega) (fun i hi hr => hr.1 (hcP i hi))⟩
    · rw [od_none hx] at k0
      exact k0 (by omega) _ _ hS hF
    · have := nx_is hx
      have g2 := congrArg Int32.toInt g
      rw [nI_toInt (by omega)] at g2
      have : (-1 : Int32).toInt = -1 := by decide
      omega
    · obtain ⟨hkA, hr⟩ := nx_is hx
      obtain ⟨d1, d2, -, -, -, -⟩ := hCA.2.2.1 k hkA
      rw [nI_clamp (n := k) (by omega), d1, nI_clamp (n := av k) (by omega), nI_clamp (n := P.length) (by omega), nI_1]
      refine ⟨pk_in P.length 300 (by omega), pk_in k 300 (by omega), pk_in (av k) 401 (by omega), ?_⟩
      rw [od_some hx] at k1 k0
      have hlen : P.length + 1 = (P ++ [k]).length := by simp
      rw [hlen]
      refine ih (P ++ [k]) c _ _ (by rw [← hlen]; omega) (OK_push hP hx) ⟨fun v hv => ⟨fun g => ?_, fun g => ?_⟩, hS.2⟩ hc (fun i hi => List.mem_append.mpr (Or.inl (hcP i hi))) (fun i hi => ?_) (fun a ha => by rw [va_up_ne _ _ ha]; exact hF a ha) k1 k0
      · show upd (AS 0) (av k) 1 v = 1
        by_cases z : v = av k
        · rw [z, pk_us]
        · rw [pk_un z]
          exact (hS.1 v hv).1 (((Cm_push hC.2.2.2 hkA v).mp g).resolve_left z)
      · show upd (AS 0) (av k) 1 v = 0
        rw [pk_un (fun z => g ((Cm_push hC.2.2.2 hkA v).mpr (Or.inl z)))]
        exact (hS.1 v hv).2 fun z => g ((Cm_push hC.2.2.2 hkA v).mpr (Or.inr z))
      · show upd (AC 7) P.length (nI k) i = _
        rw [← hlen] at hi
        by_cases z : i = P.length
        · rw [z, pk_us, gD_r]
        · rw [pk_un z, gD_l (by omega)]
          exact hO i (by omega)
/-! the way back to itself -/
def SS (IS : NI) (AS : NNI) (A : Nat) (av : Nat → Nat) (P Rl St : List Nat) : Prop := SC AS A av P ∧ (∀ w, w ≤ 400 → AS 1 w = if w ∈ Rl then 1 else 0) ∧ IS 0 = nI St.length ∧ ∀ i, i < St.length → AS 3 i = nI (St.getD i 0)
def IV (A : Nat) (av a1 a2 : Nat → Nat) (P : List Nat) (s : Nat) (ex : Nat → Prop) (Rl St : List Nat) (vis : Nat) : Prop := Rl.Nodup ∧ (∀ w, w ∈ Rl → RT A av a1 a2 s w ∧ ¬ Cm A av P w ∧ w ≤ 400) ∧ (∀ w, w ∈ St → w = s ∨ w ∈ Rl) ∧ vis + St.length = 1 + Rl.length ∧ ∀ u, (u = s ∨ u ∈ Rl) → u ∈ St ∨ ex u ∨ ∀ x, Ed A av a1 a2 u x → Cm A av P x ∨ x ∈ Rl
theorem IV_len {A : Nat} {av a1 a2 : Nat → Nat} {P : List Nat} {s : Nat} {ex : Nat → Prop} {Rl St : List Nat} {vis : Nat} (h : IV A av a1 a2 P s ex Rl St vis) : Rl.length ≤ A := by
  have := pig Rl ((List.range A).map av) h.1 (fun w hw => by
    have hn := (h.2.1 w hw).2.1
    obtain ⟨j, hj⟩ := Classical.not_forall.mp hn
    simp only [Classical.not_imp] at hj
    exact List.mem_map.mpr ⟨j, List.mem_range.mpr hj.1, hj.2.1⟩)
  rwa [List.length_map, List.length_range] at this
theorem IV_reach {A : Nat} {av a1 a2 : Nat → Nat} {P : List Nat} {s x : Nat} {ex : Nat → Prop} {Rl St Rl' St' : List Nat} {vis : Nat} (h : IV A av a1 a2 P s ex Rl St vis) (hr : RT A av a1 a2 s x) (hx : x ≤ 400)
    (hd : (Rl' = Rl ∧ St' = St ∧ (Cm A av P x ∨ x ∈ Rl)) ∨ (Rl' = Rl ++ [x] ∧ St' = St ++ [x] ∧ ¬ Cm A av P x ∧ x ∉ Rl)) : IV A av a1 a2 P s ex Rl' St' vis ∧ (Cm A av P x ∨ x ∈ Rl') ∧ ∀ u, u ∈ Rl → u ∈ Rl' := by
  rcases hd with ⟨rfl, rfl, h3⟩ | ⟨rfl, rfl, h3, h4⟩
  · exact ⟨h, h3, fun u hu => hu⟩
  · obtain ⟨i1, i2, i3, i4, i5⟩ := h
    have mem : ∀ u, u ∈ Rl → u ∈ Rl ++ [x] := fun u hu => List.mem_append.mpr (Or.inl hu)
    have memx : x ∈ Rl ++ [x] := List.mem_append.mpr (Or.inr (List.mem_singleton.mpr rfl))
    refine ⟨⟨nodup_push i1 h4, fun w hw => ?_, fun w hw => ?_, ?_, fun u hu => ?_⟩, Or.inr memx, mem⟩
    · rcases List.mem_append.mp hw with z | z
      · exact i2 w z
      · have : w = x := by simpa using z
        rw [this]; exact ⟨hr, h3, hx⟩
    · rcases List.mem_append.mp hw with z | z
      · exact (i3 w z).imp id (mem w)
      · have : w = x := by simpa using z
        rw [this]; exact Or.inr memx
    · rw [List.length_append, List.length_append, List.length_singleton]; omega
    · have old : (u = s ∨ u ∈ Rl) → u ∈ St ++ [x] ∨ ex u ∨ ∀ y, Ed A av a1 a2 u y → Cm A av P y ∨ y ∈ Rl ++ [x] := fun z => by
        rcases i5 u z with g | g | g
        · exact Or.inl (List.mem_append.mpr (Or.inl g))
        · exact Or.inr (Or.inl g)
        · exact Or.inr (Or.inr fun y hy => (g y hy).imp id (mem y))
      rcases hu with z | z
      · exact old (Or.inl z)
      · rcases List.mem_append.mp z with z | z
        · exact old (Or.inr z)
        · have : u = x := by simpa using z
          rw [this]; exact Or.inl (List.mem_append.mpr (Or.inr (List.mem_singleton.mpr rfl)))
theorem s_reach {IS : NI} {AS : NNI} {A : Nat} {av : Nat → Nat} {P Rl St : List Nat} {x : Nat} {Q : NI → NNI → Prop} (h : SS IS AS A av P Rl St) (hx : x ≤ 400) (hl : St.length < 301)
    (k : ∀ IS' AS' Rl' St', SS IS' AS' A av P Rl' St' → ((Rl' = Rl ∧ St' = St ∧ (Cm A av P x ∨ x ∈ Rl)) ∨ (Rl' = Rl ++ [x] ∧ St' = St ++ [x] ∧ ¬ Cm A av P x ∧ x ∉ Rl)) → Q IS' AS') : wp_S_reach IS AS (nI x) Q := by
  unfold wp_S_reach
  obtain ⟨h1, h2, h3, h4⟩ := h
  rw [nI_clamp (n := x) (by omega), SC_iff h1 hx, h2 x hx]
  refine ⟨pk_in x 401 (by omega), fun g => ?_, fun g => k _ _ _ _ ⟨h1, h2, h3, h4⟩ (Or.inl ⟨rfl, rfl, Or.inl (Classical.byContradiction g)⟩)⟩
  by_cases g2 : x ∈ Rl
  · rw [if_pos g2]
    exact ⟨fun c => absurd c (by decide), fun _ => k _ _ _ _ ⟨h1, h2, h3, h4⟩ (Or.inl ⟨rfl, rfl, Or.inr g2⟩)⟩
  · rw [if_neg g2]
    refine ⟨fun _ => pk_le 301 St.length (fun z => absurd z (by omega)) (fun _ => ?_) rfl h3, fun c => absurd rfl c⟩
    rw [h3, nI_clamp (n := St.length) (by omega), nI_1]
    refine ⟨pk_in St.length 301 (by omega), k _ _ (Rl ++ [x]) (St ++ [x]) ⟨SC_same h1 rfl rfl, fun w hw => ?_, by rw [List.length_append, List.length_singleton]; rfl, fun i hi => ?_⟩ (Or.inr ⟨rfl, rfl, g, g2⟩)⟩
    · show upd (AS 1) x 1 w = _
      by_cases z : w = x
      · rw [z, pk_us, if_pos (List.mem_append.mpr (Or.inr (List.mem_singleton.mpr rfl)))]
      · rw [pk_un z, h2 w hw]
        by_cases z2 : w ∈ Rl
        · rw [if_pos z2, if_pos (List.mem_append.mpr (Or.inl z2))]
        · rw [if_neg z2, if_neg (fun z3 => by
            rcases List.mem_append.mp z3 with z4 | z4
            · exact z2 z4
            · exact z (by simpa using z4))]
    · show upd (AS 3) St.length (nI x) i = _
      rw [List.length_append, List.length_singleton] at hi
      by_cases z : i = St.length
      · rw [z, pk_us, gD_r]
      · rw [pk_un z, gD_l (by omega)]
        exact h4 i (by omega)
theorem s_itG {AC : NNI} {IC : NI} {A : Nat} {av l1 l2 : Nat → Nat} {P : List Nat} {s : Nat} {Q : Int32 → NI → NNI → Prop} {X : NI → NNI → Int32 → Prop} (hC : CA IC AC A av l1 l2) (hP : OK A av (hf l1) (hf l2) P) (hs : ¬ Cm A av P s) (hs4 : s ≤ 400)
    (k : ∀ IS AS, SC AS A av P → (RT A av (hf l1) (hf l2) s s → AS 1 s = 1) → (¬ RT A av (hf l1) (hf l2) s s → AS 1 s = 0) → X IS AS (nI s)) : ∀ (f vis : Nat) (Rl St : List Nat) (IS : NI) (AS : NNI), f + vis = 301 → SS IS AS A av P Rl St → IV A av (hf l1) (hf l2) P s (fun _ => False) Rl St vis → wp_S_reachesItself_L36 AC Q X (f + 1) IS AS (nI s) (nI vis) := by
  intro f
  have c1 := hC.1
  -- when the stack is empty
  have fin : ∀ (vis : Nat) (Rl : List Nat) (IS : NI) (AS : NNI), SS IS AS A av P Rl [] → IV A av (hf l1) (hf l2) P s (fun _ => False) Rl [] vis → X IS AS (nI s) := by
    intro vis Rl IS AS hSS hIV
    have hcl : ∀ u, (u = s ∨ u ∈ Rl) → ∀ x, Ed A av (hf l1) (hf l2) u x → Cm A av P x ∨ x ∈ Rl := fun u hu => by
      rcases hIV.2.2.2.2 u hu with g | g | g
      · cases g
      · exact g.elim
      · exact g
    have hall : ∀ w, RT A av (hf l1) (hf l2) s w → Cm A av P w ∨ w ∈ Rl := fun w hw => RT_ind (m := fun w => Cm A av P w ∨ w ∈ Rl) (fun w he => hcl s (Or.inl rfl) w he) (fun w x ih he => by
      rcases ih with g | g
      · exact Or.inl (Cm_Ed hP g he)
      · exact hcl w (Or.inr g) x he) hw
    refine k IS AS hSS.1 (fun g => ?_) (fun g => ?_)
    · rw [hSS.2.1 s hs4, if_pos ((hall s g).resolve_left hs)]
    · rw [hSS.2.1 s hs4, if_neg (fun z => g (hIV.2.1 s z).1)]
  induction f with
  | zero =>
    intro vis Rl St IS AS hv hSS hIV
    unfold wp_S_reachesItself_L36
    have := IV_len hIV
    have := hIV.2.2.2.1
    have hnil : St = [] := List.eq_nil_of_length_eq_zero (by omega)
    subst hnil
    exact pk_le 0 0 (fun _ => fin vis Rl IS AS hSS hIV) (fun g => absurd g (by omega)) hSS.2.2.1 rfl
  | succ f ih =>
    intro vis Rl St IS AS hv hSS hIV
    unfold wp_S_reachesItself_L36
    have hl1 := IV_len hIV
    have hl2 := hIV.2.2.2.1
    refine pk_le St.length 0 (fun g => ?_) (fun g => pk_lt 300 vis (fun g2 => absurd g2 (by omega)) (fun _ => ?_)) hSS.2.2.1 rfl
    · have hnil : St = [] := List.eq_nil_of_length_eq_zero (by omega)
      subst hnil
      exact fin vis Rl IS AS hSS hIV
    · -- the top of the stack
      have hlast : St = St.take (St.length - 1) ++ [St.getD (St.length - 1) 0] := by
        have h9 : St.length - 1 < St.length := by omega
        rw [show St.getD (St.length - 1) 0 = St[St.length - 1] by simp [List.getD, h9]]
        have := List.take_append_getElem (l := St) (i := St.length - 1) h9
        rw [this, show St.length - 1 + 1 = St.length by omega, List.take_length]
      generalize hW : St.getD (St.length - 1) 0 = w at hlast
      generalize hT : St.take (St.length - 1) = T at hlast
      have hTl : T.length = St.length - 1 := by rw [← hT, List.length_take]; omega
      have hwm : w ∈ St := by rw [hlast]; exact List.mem_append.mpr (Or.inr (List.mem_singleton.mpr rfl))
      have hwn : ¬ Cm A av P w ∧ w ≤ 400 ∧ (w = s ∨ RT A av (hf l1) (hf l2) s w) := by
        rcases hIV.2.2.1 w hwm with z | z
        · rw [z]; exact ⟨hs, hs4, Or.inl rfl⟩
        · exact ⟨(hIV.2.1 w z).2.1, (hIV.2.1 w z).2.2, Or.inr (hIV.2.1 w z).1⟩
      obtain ⟨j, hj⟩ := Classical.not_forall.mp hwn.1
      simp only [Classical.not_imp] at hj
      obtain ⟨hjA, hjw, -⟩ := hj
      obtain ⟨d1, d2, d3, d4, d5, d6⟩ := hC.2.2.1 j hjA
      have e1 : IS 0 - 1 = nI T.length := by rw [hSS.2.2.1, hTl, show (1 : Int32) = nI 1 from rfl, pk_sub (by omega)]
      have e3 : AS 3 T.length = nI w := by rw [hSS.2.2.2 T.length (by omega), hTl, hW]
      rw [e1, nI_clamp (n := T.length) (by omega), e3, nI_clamp (n := w) (by omega), ← hjw, hSS.1.2 j hjA, nI_clamp (n := j) (by omega), d3, d5, shr1 (by omega), shr1 (by omega), nI_1]
      refine ⟨pk_in T.length 301 (by omega), pk_in (av j) 401 (by omega), pk_in j 300 (by omega), ?_⟩
      have hSS2 : SS (va_up IS 0 (nI T.length)) AS A av P Rl T := ⟨hSS.1, hSS.2.1, rfl, fun i hi => by
        rw [hSS.2.2.2 i (by omega), hlast, show (T ++ [w]).getD i 0 = T.getD i 0 from gD_l hi]⟩
      have hIV2 : IV A av (hf l1) (hf l2) P s (fun u => u = w) Rl T (vis + 1) := ⟨hIV.1, hIV.2.1, fun u hu => hIV.2.2.1 u (by rw [hlast]; exact List.mem_append.mpr (Or.inl hu)), by omega, fun u hu => by
        rcases hIV.2.2.2.2 u hu with g | g | g
        · rw [hlast] at g
          rcases List.mem_append.mp g with z | z
          · exact Or.inl z
          · exact Or.inr (Or.inl (by simpa using z))
        · exact g.elim
        · exact Or.inr (Or.inr g)⟩
      have hr1 : ∀ x, Ed A av (hf l1) (hf l2) w x → RT A av (hf l1) (hf l2) s x := fun x hx => by
        rcases hwn.2.2 with z | z
        · rw [z] at hx; exact RT.one hx
        · exact RT.step z hx
      refine s_reach (x := l1 j / 2) hSS2 (by omega) (by omega) (fun IS3 AS3 Rl3 St3 hSS3 hd3 => ?_)
      obtain ⟨hIV3, hin3, -⟩ := IV_reach (x := l1 j / 2) hIV2 (hr1 _ ⟨j, hjA, hjw, Or.inl rfl⟩) (by omega) hd3
      have hl3 := IV_len hIV3
      have hl4 := hIV3.2.2.2.1
      refine s_reach (x := l2 j / 2) hSS3 (by omega) (by omega) (fun IS4 AS4 Rl4 St4 hSS4 hd4 => ?_)
      obtain ⟨hIV4, hin4, hmem4⟩ := IV_reach (x := l2 j / 2) hIV3 (hr1 _ ⟨j, hjA, hjw, Or.inr rfl⟩) (by omega) hd4
      refine ih (vis + 1) Rl4 St4 IS4 AS4 (by omega) hSS4 ⟨hIV4.1, hIV4.2.1, hIV4.2.2.1, hIV4.2.2.2.1, fun u hu => ?_⟩
      rcases hIV4.2.2.2.2 u hu with g | g | g
      · exact Or.inl g
      · refine Or.inr (Or.inr fun x hx => ?_)
        rw [g] at hx
        obtain ⟨j2, hj2, hv2, hx2⟩ := hx
        have : j2 = j := hC.2.2.2 j2 j hj2 hjA (hv2.trans hjw.symm)
        subst this
        rcases hx2 with z | z
        · rw [← z]; exact hin3.imp id (hmem4 _)
        · rw [← z]; exact hin4
      · exact Or.inr (Or.inr g)
theorem s_it0 {AC : NNI} {A : Nat} {av : Nat → Nat} {P : List Nat} {s : Nat} {Q : Int32 → NI → NNI → Prop} {X : NI → NNI → Int32 → Prop} (k : ∀ IS AS, SC AS A av P → (∀ w, w ≤ 400 → AS 1 w = 0) → X IS AS (nI s)) : ∀ (j v : Nat) (IS : NI) (AS : NNI), v + j = 401 → SC AS A av P → (∀ w, w < v → AS 1 w = 0) → wp_S_reachesItself_L2 AC Q X (j + 1) IS AS (nI s) (nI v) := by
  intro j
  induction j with
  | zero =>
    intro v IS AS hl hS hA
    unfold wp_S_reachesItself_L2
    exact pk_lt 400 v (fun _ => k _ _ hS (fun w hw => hA w (by omega))) (fun g => absurd g (by omega))
  | succ j ih =>
    intro v IS AS hl hS hA
    unfold wp_S_reachesItself_L2
    refine pk_lt 400 v (fun g => absurd g (by omega)) (fun _ => ⟨pk_in v 401 (by omega), ?_⟩)
    rw [nI_clamp (n := v) (by omega), nI_1]
    refine ih (v + 1) _ _ (by omega) (SC_same hS rfl rfl) (fun w hw => ?_)
    show upd (AS 1) v 0 w = 0
    by_cases g : w = v
    · rw [g, pk_us]
    · rw [pk_un g]; exact hA w (by omega)
theorem s_itself {IS : NI} {AS AC : NNI} {IC : NI} {A : Nat} {av l1 l2 : Nat → Nat} {P : List Nat} {s : Nat} {Q : Int32 → NI → NNI → Prop} (hC : CA IC AC A av l1 l2) (hP : OK A av (hf l1) (hf l2) P) (hS : SC AS A av P) (hs : ¬ Cm A av P s) (hs4 : s ≤ 400)
    (k1 : RT A av (hf l1) (hf l2) s s → ∀ IS AS, SC AS A av P → Q 1 IS AS) (k0 : ¬ RT A av (hf l1) (hf l2) s s → ∀ IS AS, SC AS A av P → Q 0 IS AS) : wp_S_reachesItself IS AS AC (nI s) Q := by
  unfold wp_S_reachesItself
  refine ⟨402, s_it0 (P := P) (fun IS AS hS h0 => ⟨302, ?_⟩) 401 0 IS AS rfl hS (fun w hw => absurd hw (by omega))⟩
  refine s_itG hC hP hs hs4 (fun IS AS hS2 g1 g0 => ?_) 301 0 [] [s] _ _ rfl ⟨SC_same hS rfl rfl, fun w hw => by rw [if_neg List.not_mem_nil]; exact h0 w hw, rfl, fun i hi => ?_⟩ ⟨List.nodup_nil, fun w hw => absurd hw List.not_mem_nil, fun w hw => Or.inl (by simpa using hw), rfl, fun u hu => ?_⟩
  · rw [nI_clamp (n := s) (by omega)]
    refine ⟨pk_in s 401 (by omega), ?_⟩
    by_cases g : RT A av (hf l1) (hf l2) s s
    · rw [g1 g]; exact ⟨rfl, k1 g _ _ hS2⟩
    · rw [g0 g]; exact ⟨rfl, k0 g _ _ hS2⟩
  · have : i = 0 := by simpa using hi
    subst this
    rfl
  · rcases hu with z | z
    · exact Or.inl (by simp [z])
    · cases z
theorem s_lowG {AC : NNI} {IC : NI} {A M lo : Nat} {av l1 l2 : Nat → Nat} {P : List Nat} {Q : Int32 → NI → NNI → Prop} {X : NI → NNI → Prop} (hC : CA IC AC A av l1 l2) (hP : OK A av (hf l1) (hf l2) P) (hM : IC 0 = nI M) (hM4 : M ≤ 400) (hlo : lo ≤ M) (hl1 : RT A av (hf l1) (hf l2) lo lo) (hl2 : ∀ u, u < lo → ¬ RT A av (hf l1) (hf l2) u u) (k : ∀ IS AS, Q (nI lo) IS AS) : ∀ (j v : Nat) (IS : NI) (AS : NNI), v + j = lo → SC AS A av P → wp_S_lowestOnLoop_L2 IC AC Q X (j + 1) IS AS (nI v) := by
  have nloop : ∀ v, Cm A av P v → ¬ RT A av (hf l1) (hf l2) v v := fun v hc hr => by
    have : ∃ x, Ed A av (hf l1) (hf l2) v x := by
      obtain ⟨n, hn⟩ := hr
      have : ∀ n w, RTn A av (hf l1) (hf l2) v n w → ∃ x, Ed A av (hf l1) (hf l2) v x := fun n => by
        induction n with
        | zero => intro w h; exact ⟨w, h⟩
        | succ n ih => intro w h; obtain ⟨u, hu, -⟩ := h; exact ih u hu
      exact this n v hn
    obtain ⟨x, q, hq, hqv, -⟩ := this
    rw [← hqv] at hr
    exact come_noloop' hP hC.2.2.2 (hc q hq hqv) hr
  intro j
  induction j with
  | zero =>
    intro v IS AS hl hS
    unfold wp_S_lowestOnLoop_L2
    have hv : v = lo := by omega
    subst hv
    refine pk_lt M v (fun g => absurd g (by omega)) (fun _ => ⟨pk_in v 401 (by omega), ?_⟩) hM rfl
    rw [nI_clamp (n := v) (by omega), SC_iff hS (by omega)]
    refine ⟨fun g => s_itself hC hP hS g (by omega) (fun _ IS AS _ => ⟨fun c => absurd c (by decide), fun _ => k IS AS⟩) (fun g => absurd hl1 g), fun g => absurd hl1 (nloop v (Classical.byContradiction g))⟩
  | succ j ih =>
    intro v IS AS hl hS
    unfold wp_S_lowestOnLoop_L2
    refine pk_lt M v (fun g => absurd g (by omega)) (fun _ => ⟨pk_in v 401 (by omega), ?_⟩) hM rfl
    rw [nI_clamp (n := v) (by omega), SC_iff hS (by omega), nI_1]
    refine ⟨fun g => s_itself hC hP hS g (by omega) (fun g => absurd g (hl2 v (by omega))) (fun _ IS AS hS => ⟨fun _ => ih (v + 1) IS AS (by omega) hS, fun c => absurd rfl c⟩), fun g => ih (v + 1) IS AS (by omega) hS⟩
noncomputable def lowL (A : Nat) (av a1 a2 : Nat → Nat) : Nat := @dite Nat (∃ v, RT A av a1 a2 v v) (Classical.propDecidable _) (fun h => Classical.choose (pk_least _ h)) (fun _ => 0)
theorem lowL_is {A : Nat} {av a1 a2 : Nat → Nat} (h : ∃ v, RT A av a1 a2 v v) : RT A av a1 a2 (lowL A av a1 a2) (lowL A av a1 a2) ∧ ∀ u, u < lowL A av a1 a2 → ¬ RT A av a1 a2 u u := by
  unfold lowL
  rw [dif_pos h]
  exact Classical.choose_spec (pk_least _ h)
theorem RT_from {A : Nat} {av a1 a2 : Nat → Nat} {v w : Nat} (h : RT A av a1 a2 v w) : ∃ k, k < A ∧ av k = v := by
  obtain ⟨n, hn⟩ := h
  have : ∀ n w, RTn A av a1 a2 v n w → ∃ k, k < A ∧ av k = v := fun n => by
    induction n with
    | zero => intro w h; obtain ⟨k, hk, hv, -⟩ := h; exact ⟨k, hk, hv⟩
    | succ n ih => intro w h; obtain ⟨u, hu, -⟩ := h; exact ih u hu
  exact this n w hn
noncomputable def pOrd (A : Nat) (av a1 a2 : Nat → Nat) : Except Er (List Nat) := if (od A av a1 a2 A []).length = A then .ok (od A av a1 a2 A []) else .error (6, lowL A av a1 a2)
theorem s_loops {IU IS : NI} {AS : NNI} {IC : NI} {AC : NNI} {A M : Nat} {av l1 l2 : Nat → Nat} {Q : Int32 → NI → NI → NNI → NNI → Prop} (hC : CA IC AC A av l1 l2) (hM : IC 0 = nI M) (hM4 : M ≤ 400) (hav : ∀ k, k < A → 1 ≤ av k ∧ av k ≤ M)
    (k : Lk (pOrd A av (hf l1) (hf l2)) (fun P => ∀ IS AS B, OD B P → (∀ a, a ≠ 7 → B a = AC a) → Q 1 IU IS AS B) (fun e => ∀ U IS AS B, CE U e → (∀ a, a ≠ 7 → B a = AC a) → Q 0 U IS AS B)) : wp_R_checkLoops IU IS AS IC AC Q := by
  unfold wp_R_checkLoops wp_S_putInOrder
  unfold pOrd at k
  obtain ⟨o1, o2⟩ := od_ok (A := A) (av := av) (a1 := hf l1) (a2 := hf l2) A [] OK_nil (by simp)
  refine s_await hC (fun BS hB => ⟨A + 1, s_putG hC A [] 0 BS AC (by simp) OK_nil hB (by omega) (fun i hi => absurd hi (by omega)) (fun i hi => absurd hi (by simp)) (fun a _ => rfl) (fun g AS2 AC2 hS2 hO hF => ⟨fun c => absurd c (by decide), fun _ => ?_⟩) (fun g AS2 AC2 hS2 hF => ⟨fun _ => ?_, fun c => absurd rfl c⟩)⟩)
  · rw [if_pos g] at k
    exact k _ _ _ hO hF
  · rw [if_neg g] at k
    have hlen := OK_len o1
    obtain ⟨q, hq, hqr⟩ := loop_is o1 o2 (by omega)
    obtain ⟨g1, g2⟩ := lowL_is (A := A) (av := av) (a1 := hf l1) (a2 := hf l2) ⟨av q, hqr⟩
    obtain ⟨q2, hq2, hq3⟩ := RT_from g1
    have hb := hav q2 hq2
    unfold wp_S_lowestOnLoop
    have hCA : CA IC AC2 A av l1 l2 := CA_same hC (hF 4 (by decide)) (hF 5 (by decide)) (hF 6 (by decide))
    exact ⟨lowL A av (hf l1) (hf l2) - 1 + 1, s_lowG hCA o1 hM hM4 (by omega) g1 g2 (fun IS AS => s_fail (k := 6) (fun I hI => ⟨fun _ => k _ _ _ _ hI hF, fun c => absurd rfl c⟩)) (lowL A av (hf l1) (hf l2) - 1) 1 IS AS2 (by omega) hS2⟩
