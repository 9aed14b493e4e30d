/-! the reference: uses of what is defined nowhere; the order -/
theorem pKnown_push {dl : List Nat} {u : Nat × Nat} : ∀ l, pKnown dl (l ++ [u]) = eB (pKnown dl l) fun _ => if u.1 < 2 ∨ u.1 / 2 ∈ dl then .ok () else .error (5, u.2) := by
  intro l
  induction l with
  | nil =>
    show pKnown dl [u] = (if u.1 < 2 ∨ u.1 / 2 ∈ dl then .ok () else .error (5, u.2))
    rw [pKnown]
    rfl
  | cons x l ih =>
    show pKnown dl (x :: (l ++ [u])) = _
    rw [pKnown, pKnown]
    by_cases g : x.1 < 2 ∨ x.1 / 2 ∈ dl
    · rw [if_pos g, if_pos g, ih]
    · rw [if_neg g, if_neg g]; rfl
theorem take_push {α : Type} {l : List α} {c : Nat} {d : α} (h : c < l.length) : l.take (c + 1) = l.take c ++ [l.getD c d] := by
  rw [List.take_add_one]
  congr 1
  simp [List.getD, h]
def MY (I0 : NI) (n : Nat) (dl : List Nat) (us : List (Nat × Nat)) (I : NI) (c : Nat) : Prop := Lk (pKnown dl (us.take c)) (fun _ => ∃ q, q ≤ n ∧ MG I0 I q) (fun e => MB I0 n I e)
theorem m_nowS {I0 Im : NI} {A : NNI} {n I L c : Nat} {dl : List Nat} {us : List (Nat × Nat)} {x1 x2 v : Int32} {N : Nat} {K : NI → Prop} (hD : KD 1 I L A dl) (hY : MY I0 n dl us Im c) (hc : c < us.length) (h1 : x1 = nI (us.getD c (0, 0)).1) (h2 : x2 = nI (us.getD c (0, 0)).2) (hu : (us.getD c (0, 0)).1 ≤ 801) (hv : vp_in v N) (k : ∀ I', MY I0 n dl us I' (c + 1) → K I') :
    wp_M_isNowhere A x1 (fun r_2 => ((r_2 = 0) → K Im) ∧ ((¬ r_2 = 0) → vp_in v N ∧ (wp_M_wrong Im (5 : Int32) x2 (fun I_M_6 => K I_M_6)))) := by
  generalize hug : us.getD c (0, 0) = u at *
  have ht : us.take (c + 1) = us.take c ++ [u] := by rw [take_push (d := (0, 0)) hc, hug]
  have yes : (u.1 < 2 ∨ u.1 / 2 ∈ dl) → K Im := fun g => by
    refine k Im ?_
    unfold MY at hY ⊢
    rw [ht, pKnown_push, if_pos g, Lk_eB]
    exact Lk_imp hY (fun _ _ h => h) (fun _ _ h => h)
  have no : ¬ (u.1 < 2 ∨ u.1 / 2 ∈ dl) → wp_M_wrong Im (5 : Int32) x2 (fun I_M_6 => K I_M_6) := fun g => by
    unfold MY at hY
    cases hp : pKnown dl (us.take c) with
    | error e =>
      rw [hp] at hY
      refine m_wrongB (hB := hY) (k Im ?_)
      unfold MY
      rw [ht, pKnown_push, hp]
      exact hY
    | ok z =>
      rw [hp] at hY
      obtain ⟨q, hq, hG⟩ := hY
      refine m_wrong (ek := 5) (ep := u.2) hG hq rfl h2 (by decide) (fun I' hB => k I' ?_)
      unfold MY
      rw [ht, pKnown_push, hp, eB_k, if_neg g]
      exact hB
  unfold wp_M_isNowhere
  have ed : (401 : Int32) + x1 / (2 : Int32) = nI (u.1 / 2 + 401) := by
    rw [h1, show nI u.1 / (2 : Int32) = nI (u.1 / 2) from pk_div (d := 2) (by omega) (by decide) (by decide)]
    exact nI_ad 401 401 _ rfl
  refine pk_le u.1 1 (fun g => ⟨fun _ => yes (by omega), fun z => absurd rfl z⟩) (fun g => ?_) h1 rfl
  rw [ed, nI_clamp (n := u.1 / 2 + 401) (by omega)]
  refine ⟨pk_in (u.1 / 2 + 401) 802 (by omega), fun g3 => ⟨fun z => absurd z (by decide), fun _ => ⟨hv, no fun z => ?_⟩⟩, fun g3 => ⟨fun _ => yes (Or.inr (Classical.byContradiction fun z => g3 ((KD_zero hD (by omega)).mpr z))), fun z => absurd rfl z⟩⟩
  rcases z with z | z
  · omega
  · exact (KD_zero hD (v := u.1 / 2) (by omega)).mp g3 z
theorem m_now1 {I0 : NI} {A0 A : NNI} {n M I L O Aa : Nat} {vs ws : List Nat} {us : List (Nat × Nat)} {nm : Nat → List Nat} {Q X : NI → Prop} (hD : DR A0 A M I L O Aa vs ws us nm) (hL : L ≤ 7) (hul : us.length = L + O + 2 * Aa) (hu : ∀ u, u ∈ us → u.1 ≤ 801) :
    ∀ (j c : Nat) (Im : NI), c + j = L → MY I0 n ws us Im c → (∀ I', MY I0 n ws us I' L → X I') → wp_M_findNowhere_L2 A Q X (j + 1) Im (nI c) := by
  intro j
  induction j with
  | zero =>
    intro c Im hl hY k
    unfold wp_M_findNowhere_L2
    have hc : c = L := by omega
    exact pk_le L c (fun _ => k _ (hc ▸ hY)) (fun g => absurd g (by omega)) hD.2.1.2.2.1 rfl
  | succ j ih =>
    intro c Im hl hY k
    unfold wp_M_findNowhere_L2
    refine pk_le L c (fun g => absurd g (by omega)) (fun _ => ?_) hD.2.1.2.2.1 rfl
    rw [nI_ad 8 8 c rfl, nI_clamp (n := c + 8) (by omega), nI_clamp (n := c) (by omega), nI_1]
    exact ⟨pk_in (c + 8) 16 (by omega), m_nowS (K := fun I => wp_M_findNowhere_L2 A Q X (j + 1) I (nI (c + 1))) hD.2.2.2.1 hY (by omega) ((hD.2.2.2.2.1 c (by omega)).1 (by omega)) ((hD.2.2.2.2.2.1 c (by omega)).1 (by omega)) (hu _ (getD_mem (by omega))) (pk_in c 8 (by omega)) (fun I' hY' => ih (c + 1) I' (by omega) hY' k)⟩
theorem m_now2 {I0 : NI} {A0 A : NNI} {n M I L O Aa : Nat} {vs ws : List Nat} {us : List (Nat × Nat)} {nm : Nat → List Nat} {Q X : NI → Prop} (hD : DR A0 A M I L O Aa vs ws us nm) (hO : O ≤ 8) (hul : us.length = L + O + 2 * Aa) (hu : ∀ u, u ∈ us → u.1 ≤ 801) :
    ∀ (j c : Nat) (Im : NI), c + j = O → MY I0 n ws us Im (L + c) → (∀ I', MY I0 n ws us I' (L + O) → X I') → wp_M_findNowhere_L48 A Q X (j + 1) Im (nI c) := by
  intro j
  induction j with
  | zero =>
    intro c Im hl hY k
    unfold wp_M_findNowhere_L48
    have hc : c = O := by omega
    exact pk_le O c (fun _ => k _ (hc ▸ hY)) (fun g => absurd g (by omega)) hD.2.1.2.2.2.1 rfl
  | succ j ih =>
    intro c Im hl hY k
    unfold wp_M_findNowhere_L48
    refine pk_le O c (fun g => absurd g (by omega)) (fun _ => ?_) hD.2.1.2.2.2.1 rfl
    rw [nI_ad 8 8 c rfl, nI_clamp (n := c + 8) (by omega), nI_clamp (n := c) (by omega), nI_1]
    have h1 := (hD.2.2.2.2.1 (L + c) (by omega)).2.1 (by omega) (by omega)
    have h2 := (hD.2.2.2.2.2.1 (L + c) (by omega)).2.1 (by omega) (by omega)
    rw [show L + c - L = c by omega] at h1 h2
    exact ⟨pk_in (c + 8) 16 (by omega), m_nowS (K := fun I => wp_M_findNowhere_L48 A Q X (j + 1) I (nI (c + 1))) hD.2.2.2.1 hY (by omega) h1 h2 (hu _ (getD_mem (by omega))) (pk_in c 8 (by omega)) (fun I' hY' => ih (c + 1) I' (by omega) hY' k)⟩
theorem m_now3 {I0 : NI} {A0 A : NNI} {n M I L O Aa : Nat} {vs ws : List Nat} {us : List (Nat × Nat)} {nm : Nat → List Nat} {Q X : NI → Prop} (hD : DR A0 A M I L O Aa vs ws us nm) (hA3 : Aa ≤ 300) (hul : us.length = L + O + 2 * Aa) (hu : ∀ u, u ∈ us → u.1 ≤ 801) :
    ∀ (j c : Nat) (Im : NI), c + j = Aa → MY I0 n ws us Im (L + O + 2 * c) → (∀ I', MY I0 n ws us I' (L + O + 2 * Aa) → X I') → wp_M_findNowhere_L94 A Q X (j + 1) Im (nI c) := by
  intro j
  induction j with
  | zero =>
    intro c Im hl hY k
    unfold wp_M_findNowhere_L94
    have hc : c = Aa := by omega
    exact pk_le Aa c (fun _ => k _ (hc ▸ hY)) (fun g => absurd g (by omega)) hD.2.1.2.2.2.2 rfl
  | succ j ih =>
    intro c Im hl hY k
    unfold wp_M_findNowhere_L94
    refine pk_le Aa c (fun g => absurd g (by omega)) (fun _ => ?_) hD.2.1.2.2.2.2 rfl
    unfold wp_M_findNowhere_b133
    rw [nI_ad 300 300 c rfl, nI_clamp (n := c + 300) (by omega), nI_clamp (n := c) (by omega), nI_1]
    have h1 := (hD.2.2.2.2.1 (L + O + 2 * c) (by omega)).2.2.1 c rfl
    have h2 := (hD.2.2.2.2.2.1 (L + O + 2 * c) (by omega)).2.2.1 c rfl
    have h3 := (hD.2.2.2.2.1 (L + O + 2 * c + 1) (by omega)).2.2.2 c rfl
    have h4 := (hD.2.2.2.2.2.1 (L + O + 2 * c + 1) (by omega)).2.2.2 c rfl
    refine ⟨pk_in (c + 300) 600 (by omega), m_nowS (K := fun I => vp_in (nI (c + 300)) 600 ∧ (wp_M_isNowhere A ((A 9) (c + 300)) (fun r_19 => ((r_19 = 0) → wp_M_findNowhere_L94 A Q X (j + 1) I (nI (c + 1))) ∧ ((¬ r_19 = 0) → vp_in (nI c) 300 ∧ (wp_M_wrong I (5 : Int32) ((A 15) c) (fun I_M_23 => wp_M_findNowhere_L94 A Q X (j + 1) I_M_23 (nI (c + 1)))))))) hD.2.2.2.1 hY (by omega) h1 h2 (hu _ (getD_mem (by omega))) (pk_in c 300 (by omega)) (fun I' hY' => ⟨pk_in (c + 300) 600 (by omega), ?_⟩)⟩
    exact m_nowS (K := fun I => wp_M_findNowhere_L94 A Q X (j + 1) I (nI (c + 1))) hD.2.2.2.1 hY' (by omega) h3 h4 (hu _ (getD_mem (by omega))) (pk_in c 300 (by omega)) (fun I2 hY2 => ih (c + 1) I2 (by omega) hY2 k)
theorem m_nowhere {I0 Im : NI} {A0 A : NNI} {n q M I L O Aa : Nat} {vs ws : List Nat} {us : List (Nat × Nat)} {nm : Nat → List Nat} {Q : NI → Prop} (hD : DR A0 A M I L O Aa vs ws us nm) (hL : L ≤ 7) (hO : O ≤ 8) (hA3 : Aa ≤ 300) (hul : us.length = L + O + 2 * Aa) (hu : ∀ u, u ∈ us → u.1 ≤ 801) (hq : q ≤ n) (hG : MG I0 Im q)
    (k : Lk (pKnown ws us) (fun _ => ∀ I' q, q ≤ n → MG I0 I' q → Q I') (fun e => ∀ I', MB I0 n I' e → Q I')) : wp_M_findNowhere Im A Q := by
  unfold wp_M_findNowhere
  refine ⟨L + 1, m_now1 (I0 := I0) (n := n) hD hL hul hu L 0 Im (by omega) ⟨q, hq, hG⟩ (fun I1 hY1 => ⟨O + 1, m_now2 hD hO hul hu O 0 I1 (by omega) hY1 (fun I2 hY2 => ⟨Aa + 1, m_now3 hD hA3 hul hu Aa 0 I2 (by omega) hY2 (fun I3 hY3 => ?_)⟩)⟩)⟩
  unfold MY at hY3
  rw [← hul, List.take_length] at hY3
  cases hp : pKnown ws us with
  | error e =>
    rw [hp] at k hY3
    exact k I3 hY3
  | ok z =>
    rw [hp] at k hY3
    obtain ⟨q3, hq3, hG3⟩ := hY3
    exact k I3 q3 hq3 hG3
/-! the order -/
def CB (b : Nat) (A : NNI) (Aa : Nat) (av l1 l2 : Nat → Nat) : Prop := Aa ≤ 300 ∧ A 2 (4 + 5 * b) = nI Aa ∧ (∀ k, k < Aa → A 7 (k + 300 * b) = nI (2 * av k) ∧ (1 ≤ av k ∧ av k ≤ 400) ∧ A 8 (k + 300 * b) = nI (l1 k) ∧ l1 k ≤ 801 ∧ A 9 (k + 300 * b) = nI (l2 k) ∧ l2 k ≤ 801) ∧ ∀ i j, i < Aa → j < Aa → av i = av j → i = j
theorem CB_same {b : Nat} {A B : NNI} {Aa : Nat} {av l1 l2 : Nat → Nat} (h : CB b A Aa av l1 l2) (h2 : B 2 = A 2) (h7 : B 7 = A 7) (h8 : B 8 = A 8) (h9 : B 9 = A 9) : CB b B Aa av l1 l2 := by
  unfold CB
  rw [h2, h7, h8, h9]
  exact h
/-- what has come, on the variables that are known -/
def SM (A : NNI) (Aa : Nat) (av : Nat → Nat) (P dl : List Nat) : Prop := ∀ v, v ∈ dl → (Cm Aa av P v → A 20 v = 1) ∧ (¬ Cm Aa av P v → A 20 v = 0)
theorem SM_iff {A : NNI} {Aa : Nat} {av : Nat → Nat} {P dl : List Nat} (h : SM A Aa av P dl) {v : Nat} (hv : v ∈ dl) : A 20 v = 0 ↔ ¬ Cm Aa av P v := by
  constructor
  · intro g c
    rw [(h v hv).1 c] at g
    exact absurd g (by decide)
  · exact (h v hv).2
def OM (A : NNI) (P : List Nat) : Prop := ∀ i, i < P.length → A 18 i = nI (P.getD i 0)
/-- the numbers anew: N variables ahead of the ands -/
def NW (A : NNI) (N : Nat) (vs P : List Nat) : Prop := (∀ k, k < N → A 19 (vs.getD k 0) = nI (k + 1)) ∧ ∀ i, i < P.length → A 19 (vs.getD (N + P.getD i 0) 0) = nI (N + i + 1)
def F3 (A B : NNI) : Prop := ∀ a, a ≠ 18 → a ≠ 19 → a ≠ 20 → B a = A a
theorem F3.t {A B C : NNI} (h : F3 A B) (h2 : F3 B C) : F3 A C := fun a z1 z2 z3 => (h2 a z1 z2 z3).trans (h a z1 z2 z3)
theorem m_srt1 {A0 : NNI} {Q X : NI → NNI → Prop} : ∀ (j c : Nat) (Im : NI) (A : NNI), c + j = 401 → F3 A0 A → (∀ v, v < c → ((A0 10 (v + 401) = 1 ∨ A0 10 (v + 401) = 2) → A 20 v = 1) ∧ (¬ (A0 10 (v + 401) = 1 ∨ A0 10 (v + 401) = 2) → A 20 v = 0)) → (∀ B, F3 A0 B → (∀ v, v < 401 → ((A0 10 (v + 401) = 1 ∨ A0 10 (v + 401) = 2) → B 20 v = 1) ∧ (¬ (A0 10 (v + 401) = 1 ∨ A0 10 (v + 401) = 2) → B 20 v = 0)) → X Im B) → wp_M_sort_L2 Q X (j + 1) Im A (nI c) := by
  intro j
  induction j with
  | zero =>
    intro c Im A hl hF h k
    unfold wp_M_sort_L2
    exact pk_le 401 c (fun _ => k _ hF (fun v hv => h v (by omega))) (fun g => absurd g (by omega))
  | succ j ih =>
    intro c Im A hl hF h k
    unfold wp_M_sort_L2
    refine pk_le 401 c (fun g => absurd g (by omega)) (fun _ => ?_)
    rw [nI_ad 401 401 c rfl, nI_clamp (n := c + 401) (by omega), nI_clamp (n := c) (by omega), hF 10 (by decide) (by decide) (by decide)]
    have go : ∀ x : Int32, ((A0 10 (c + 401) = 1 ∨ A0 10 (c + 401) = 2) → x = 1) → (¬ (A0 10 (c + 401) = 1 ∨ A0 10 (c + 401) = 2) → x = 0) → wp_M_sort_b48 Q (wp_M_sort_L2 Q X (j + 1)) X Im (va_up A 20 (upd (A 20) c x)) (nI c) := fun x x1 x0 => by
      unfold wp_M_sort_b48
      rw [nI_clamp (n := c) (by omega), nI_1]
      refine ⟨pk_in c 401 (by omega), ih (c + 1) _ _ (by omega) (fun a z1 z2 z3 => by rw [va_up_ne _ _ z2, va_up_ne _ _ z3]; exact hF a z1 z2 z3) (fun v hv => ?_) k⟩
      show ((A0 10 (v + 401) = 1 ∨ A0 10 (v + 401) = 2) → upd (A 20) c x v = 1) ∧ (¬ (A0 10 (v + 401) = 1 ∨ A0 10 (v + 401) = 2) → upd (A 20) c x v = 0)
      by_cases g : v = c
      · subst g
        rw [pk_us]
        exact ⟨x1, x0⟩
      · rw [pk_un g]
        exact h v (by omega)
    refine ⟨pk_in (c + 401) 802 (by omega), fun g => ⟨pk_in c 401 (by omega), go 1 (fun _ => rfl) (fun z => absurd (Or.inl g) z)⟩, fun g => ⟨fun g2 => ⟨pk_in c 401 (by omega), go 1 (fun _ => rfl) (fun z => absurd (Or.inr g2) z)⟩, fun g2 => ⟨pk_in c 401 (by omega), go 0 (fun z => absurd z (fun z => z.elim g g2)) (fun _ => rfl)⟩⟩⟩
theorem half2 {v : Nat} (h : v ≤ 400) : nI (2 * v) / (2 : Int32) = nI v := by
  rw [show nI (2 * v) / (2 : Int32) = nI (2 * v / 2) from pk_div (d := 2) (by omega) (by decide) (by decide)]
  congr 1
  omega
theorem gD_ne {vs : List Nat} (hn : vs.Nodup) {i j : Nat} (hi : i < vs.length) (hj : j < vs.length) (h : i ≠ j) : vs.getD i 0 ≠ vs.getD j 0 := by
  have a1 : vs.getD i 0 = vs[i] := by simp [List.getD, hi]
  have a2 : vs.getD j 0 = vs[j] := by simp [List.getD, hj]
  rw [a1, a2]
  intro e
  rcases Nat.lt_trichotomy i j with g | g | g
  · exact (List.pairwise_iff_getElem.mp hn) i j hi hj g e
  · exact h g
  · exact (List.pairwise_iff_getElem.mp hn) j i hj hi g e.symm
theorem m_srt2 {A0 : NNI} {M I L O Aa : Nat} {vs : List Nat} {Q : NI → NNI → Prop} {X : NI → NNI → Int32 → Prop} (hH : HM 1 A0 M I L O Aa) (hV : VL 1 I L A0 vs) (hI : I ≤ 6) (hvl : I + L ≤ vs.length) (hn : vs.Nodup) (hv : ∀ v, v ∈ vs → 1 ≤ v ∧ v ≤ 400) : ∀ (j c : Nat) (Im : NI) (A : NNI), c + j = I → F3 A0 A → (∀ k, k < c → A 19 (vs.getD k 0) = nI (k + 1)) → (∀ B, F3 A0 B → B 20 = A 20 → (∀ k, k < I → B 19 (vs.getD k 0) = nI (k + 1)) → X Im B (nI I)) → wp_M_sort_L65 Q X (j + 1) Im A (nI c) (nI c) := by
  intro j
  induction j with
  | zero =>
    intro c Im A hl hF h k
    unfold wp_M_sort_L65
    have hc : c = I := by omega
    have h6 : A 2 6 = nI I := by rw [hF 2 (by decide) (by decide) (by decide)]; exact hH.2.1
    exact pk_le I c (fun _ => hc ▸ k _ hF rfl (fun v hv => h v (by omega))) (fun g => absurd g (by omega)) h6 rfl
  | succ j ih =>
    intro c Im A hl hF h k
    unfold wp_M_sort_L65
    have h6 : A 2 6 = nI I := by rw [hF 2 (by decide) (by decide) (by decide)]; exact hH.2.1
    refine pk_le I c (fun g => absurd g (by omega)) (fun _ => ?_) h6 rfl
    have hvc := hv _ (getD_mem (d := 0) (show c < vs.length by omega))
    have e3 : A 3 (c + 6) = nI (2 * vs.getD c 0) := by
      rw [hF 3 (by decide) (by decide) (by decide)]
      exact (hV c (by omega)).1 (by omega)
    rw [nI_ad 6 6 c rfl, nI_clamp (n := c + 6) (by omega), e3, half2 hvc.2, nI_clamp (n := vs.getD c 0) (by omega), nI_1]
    refine ⟨pk_in (c + 6) 12 (by omega), pk_in (vs.getD c 0) 401 (by omega), ih (c + 1) _ _ (by omega) (fun a z1 z2 z3 => by rw [va_up_ne _ _ z2]; exact hF a z1 z2 z3) (fun k hk => ?_) k⟩
    show upd (A 19) (vs.getD c 0) (nI (c + 1)) (vs.getD k 0) = _
    by_cases g : k = c
    · subst g; exact pk_us
    · exact (pk_un (gD_ne hn (by omega) (by omega) g)).trans (h k (by omega))
theorem m_srt3 {A0 : NNI} {M I L O Aa : Nat} {vs : List Nat} {Q : NI → NNI → Prop} {X : NI → NNI → Int32 → Prop} (hH : HM 1 A0 M I L O Aa) (hV : VL 1 I L A0 vs) (hI : I ≤ 6) (hL : L ≤ 7) (hvl : I + L ≤ vs.length) (hn : vs.Nodup) (hv : ∀ v, v ∈ vs → 1 ≤ v ∧ v ≤ 400) : ∀ (j c : Nat) (Im : NI) (A : NNI), c + j = L → F3 A0 A → (∀ k, k < I + c → A 19 (vs.getD k 0) = nI (k + 1)) → (∀ B, F3 A0 B → B 20 = A 20 → (∀ k, k < I + L → B 19 (vs.getD k 0) = nI (k + 1)) → X Im B (nI (I + L))) → wp_M_sort_L104 Q X (j + 1) Im A (nI (I + c)) (nI c) := by
  intro j
  induction j with
  | zero =>
    intro c Im A hl hF h k
    unfold wp_M_sort_L104
    have hc : c = L := by omega
    have h6 : A 2 7 = nI L := by rw [hF 2 (by decide) (by decide) (by decide)]; exact hH.2.2.1
    exact pk_le L c (fun _ => hc ▸ k _ hF rfl (fun v hv => h v (by omega))) (fun g => absurd g (by omega)) h6 rfl
  | succ j ih =>
    intro c Im A hl hF h k
    unfold wp_M_sort_L104
    have h6 : A 2 7 = nI L := by rw [hF 2 (by decide) (by decide) (by decide)]; exact hH.2.2.1
    refine pk_le L c (fun g => absurd g (by omega)) (fun _ => ?_) h6 rfl
    have hvc := hv _ (getD_mem (d := 0) (show I + c < vs.length by omega))
    have e3 : A 4 (c + 8) = nI (2 * vs.getD (I + c) 0) := by
      rw [hF 4 (by decide) (by decide) (by decide)]
      have := (hV (I + c) (by omega)).2.1 (by omega) (by omega)
      rw [show I + c - I = c by omega] at this
      exact this
    rw [nI_ad 8 8 c rfl, nI_clamp (n := c + 8) (by omega), e3, half2 hvc.2, nI_clamp (n := vs.getD (I + c) 0) (by omega), nI_1, nI_1]
    refine ⟨pk_in (c + 8) 16 (by omega), pk_in (vs.getD (I + c) 0) 401 (by omega), ih (c + 1) _ _ (by omega) (fun a z1 z2 z3 => by rw [va_up_ne _ _ z2]; exact hF a z1 z2 z3) (fun k hk => ?_) k⟩
    show upd (A 19) (vs.getD (I + c) 0) (nI (I + c + 1)) (vs.getD k 0) = _
    by_cases g : k = I + c
    · subst g; exact pk_us
    · exact (pk_un (gD_ne hn (by omega) (by omega) g)).trans (h k (by omega))
theorem m_has {A : NNI} {Aa l : Nat} {av : Nat → Nat} {P dl : List Nat} {x : Int32} {Q : Int32 → Prop} (hS : SM A Aa av P dl) (hx : x = nI l) (hl : l ≤ 801) (hav : ∀ k, k < Aa → 1 ≤ av k) (hkn : l < 2 ∨ l / 2 ∈ dl) (k1 : Cm Aa av P (l / 2) → Q 1) (k0 : ¬ Cm Aa av P (l / 2) → Q 0) : wp_M_hasCome A x Q := by
  unfold wp_M_hasCome
  rw [hx]
  refine pk_lt l 2 (fun g => k1 fun j hj e => ?_) (fun g => ?_)
  · have := hav j hj
    omega
  · have hm := hkn.resolve_left (by omega)
    rw [show nI l / (2 : Int32) = nI (l / 2) from pk_div (d := 2) (by omega) (by decide) (by decide), nI_clamp (n := l / 2) (by omega), SM_iff hS hm]
    exact ⟨pk_in (l / 2) 401 (by omega), fun g => k0 g, fun g => k1 (Classical.byContradiction g)⟩
theorem m_srt4 {A0 : NNI} {Aa N : Nat} {av l1 l2 : Nat → Nat} {vs : List Nat} {Q X : NI → NNI → Prop} (hC : CB 1 A0 Aa av l1 l2) (hvl : vs.length = N + Aa) (hn : vs.Nodup) (hav : ∀ k, k < Aa → av k = vs.getD (N + k) 0) (hkn : ∀ k, k < Aa → (l1 k < 2 ∨ l1 k / 2 ∈ vs) ∧ (l2 k < 2 ∨ l2 k / 2 ∈ vs)) (hv : ∀ v, v ∈ vs → v ≤ 400) (I0 : NI) :
    ∀ (f : Nat) (P : List Nat), P.length + f = Aa → OK Aa av (hf l1) (hf l2) P → ∀ (j c m : Nat) (Im : NI) (A : NNI), c + j = Aa → f * (Aa + 1) + j + 1 ≤ m → (∀ i, i < c → ¬ Rd Aa av (hf l1) (hf l2) P i) → F3 A0 A → (∀ i, i ≠ 8 → Im i = I0 i) → Im 8 = nI P.length → SM A Aa av P vs → OM A P → NW A N vs P → (∀ I' B, F3 A0 B → (∀ i, i ≠ 8 → I' i = I0 i) → I' 8 = nI (od Aa av (hf l1) (hf l2) f P).length → OM B (od Aa av (hf l1) (hf l2) f P) → NW B N vs (od Aa av (hf l1) (hf l2) f P) → X I' B) → wp_M_sort_L148 Q X m Im A (nI (N + P.length)) (nI c) := by
  obtain ⟨c1, c2, c3, c4⟩ := hC
  have av1 : ∀ k, k < Aa → 1 ≤ av k := fun k hk => (c3 k hk).2.1.1
  intro f
  induction f with
  | zero =>
    intro P hP hOK j
    induction j with
    | zero =>
      intro c m Im A hl hm hno hF hI h8 hS hO hN k
      obtain ⟨m, rfl⟩ : ∃ m', m = m' + 1 := ⟨m - 1, by omega⟩
      unfold wp_M_sort_L148
      have h9 : A 2 9 = nI Aa := by rw [hF 2 (by decide) (by decide) (by decide)]; exact c2
      exact pk_le Aa c (fun _ => k _ _ hF hI h8 hO hN) (fun g => absurd g (by omega)) h9 rfl
    | succ j ih =>
      intro c m Im A hl hm hno hF hI h8 hS hO hN k
      obtain ⟨m, rfl⟩ : ∃ m', m = m' + 1 := ⟨m - 1, by omega⟩
      unfold wp_M_sort_L148
      have h9 : A 2 9 = nI Aa := by rw [hF 2 (by decide) (by decide) (by decide)]; exact c2
      obtain ⟨d1, ⟨d2, d3⟩, d4, d5, d6, d7⟩ := c3 c (by omega)
      have hcP : c ∈ P := pig_full hOK.1 hOK.2.1 (by omega) (by omega)
      have hm1 : av c ∈ vs := by rw [hav c (by omega)]; exact getD_mem (by omega)
      have e7 : A 7 (c + 300) = nI (2 * av c) := by rw [hF 7 (by decide) (by decide) (by decide)]; exact d1
      refine pk_le Aa c (fun g => absurd g (by omega)) (fun _ => ?_) h9 rfl
      rw [nI_ad 300 300 c rfl, nI_clamp (n := c + 300) (by omega), e7, half2 d3, nI_clamp (n := av c) (by omega), SM_iff hS hm1, Cm_av c4 (by omega), nI_1]
      exact ⟨pk_in (c + 300) 600 (by omega), pk_in (av c) 401 (by omega), fun g => absurd hcP g, fun _ => ih (c + 1) m Im A (by omega) (by omega) (fun i hi hr => hr.1 (pig_full hOK.1 hOK.2.1 (by omega) (by omega))) hF hI h8 hS hO hN k⟩
  | succ f ihf =>
    intro P hP hOK j
    induction j with
    | zero =>
      intro c m Im A hl hm hno hF hI h8 hS hO hN k
      obtain ⟨m, rfl⟩ : ∃ m', m = m' + 1 := ⟨m - 1, by omega⟩
      unfold wp_M_sort_L148
      have h9 : A 2 9 = nI Aa := by rw [hF 2 (by decide) (by decide) (by decide)]; exact c2
      have hx : nx Aa av (hf l1) (hf l2) P = none := nx_none fun i hi => hno i (by omega)
      rw [od_none hx] at k
      exact pk_le Aa c (fun _ => k _ _ hF hI h8 hO hN) (fun g => absurd g (by omega)) h9 rfl
    | succ j ih =>
      intro c m Im A hl hm hno hF hI h8 hS hO hN k
      obtain ⟨m, rfl⟩ : ∃ m', m = m' + 1 := ⟨m - 1, by omega⟩
      unfold wp_M_sort_L148
      have h9 : A 2 9 = nI Aa := by rw [hF 2 (by decide) (by decide) (by decide)]; exact c2
      obtain ⟨d1, ⟨d2, d3⟩, d4, d5, d6, d7⟩ := c3 c (by omega)
      have hm1 : av c ∈ vs := by rw [hav c (by omega)]; exact getD_mem (by omega)
      have e7 : A 7 (c + 300) = nI (2 * av c) := by rw [hF 7 (by decide) (by decide) (by decide)]; exact d1
      have e8 : A 8 (c + 300) = nI (l1 c) := by rw [hF 8 (by decide) (by decide) (by decide)]; exact d4
      have e9 : A 9 (c + 300) = nI (l2 c) := by rw [hF 9 (by decide) (by decide) (by decide)]; exact d6
      have next : ¬ Rd Aa av (hf l1) (hf l2) P c → wp_M_sort_L148 Q X m Im A (nI (N + P.length)) (nI (c + 1)) := fun hr => ih (c + 1) m Im A (by omega) (by omega) (fun i hi => by
        by_cases z : i = c
        · rw [z]; exact hr
        · exact hno i (by omega)) hF hI h8 hS hO hN k
      refine pk_le Aa c (fun g => absurd g (by omega)) (fun _ => ?_) h9 rfl
      rw [nI_ad 300 300 c rfl, nI_clamp (n := c + 300) (by omega), e7, e8, e9, half2 d3, nI_clamp (n := av c) (by omega), SM_iff hS hm1, Cm_av c4 (by omega), nI_1, nI_1]
      refine ⟨pk_in (c + 300) 600 (by omega), pk_in (av c) 401 (by omega), fun g => ?_, fun g => next fun hr => g hr.1⟩
      refine m_has hS rfl d5 av1 (hkn c (by omega)).1 (fun g1 => ⟨fun z => absurd z (by decide), fun _ => ?_⟩) (fun g1 => ⟨fun _ => next fun hr => g1 hr.2.1, fun z => absurd rfl z⟩)
      refine m_has hS rfl d7 av1 (hkn c (by omega)).2 (fun g2 => ⟨fun z => absurd z (by decide), fun _ => ?_⟩) (fun g2 => ⟨fun _ => next fun hr => g2 hr.2.2, fun z => absurd rfl z⟩)
      have hx : nx Aa av (hf l1) (hf l2) P = some c := nx_some (by omega) ⟨g, g1, g2⟩ hno
      rw [h8, nI_clamp (n := P.length) (by omega), nI_1]
      refine ⟨pk_in P.length 300 (by omega), ?_⟩
      rw [od_some hx] at k
      have hlen : P.length + 1 = (P ++ [c]).length := by simp
      have e5 : nI (N + P.length + 1) = nI (N + (P ++ [c]).length) := by rw [← hlen]; rfl
      rw [e5]
      have hmul : (f + 1) * (Aa + 1) = f * (Aa + 1) + (Aa + 1) := Nat.succ_mul f (Aa + 1)
      have hcN : N + c < vs.length := by omega
      refine ihf (P ++ [c]) (by rw [← hlen]; omega) (OK_push hOK hx) Aa 0 m _ _ (by omega) (by omega) (fun i hi => absurd hi (by omega)) (fun a z1 z2 z3 => by rw [va_up_ne _ _ z2, va_up_ne _ _ z1, va_up_ne _ _ z3]; exact hF a z1 z2 z3) (fun i hi => by rw [va_up_ne _ _ hi]; exact hI i hi) (by rw [← hlen]; rfl) (fun v hvm => ⟨fun z => ?_, fun z => ?_⟩) (fun i hi => ?_) ⟨fun i hi => ?_, fun i hi => ?_⟩ k
      · show upd (A 20) (av c) 1 v = 1
        by_cases w : v = av c
        · rw [w, pk_us]
        · rw [pk_un w]
          exact (hS v hvm).1 (((Cm_push c4 (by omega) v).mp z).resolve_left w)
      · show upd (A 20) (av c) 1 v = 0
        rw [pk_un (fun w => z ((Cm_push c4 (by omega) v).mpr (Or.inl w)))]
        exact (hS v hvm).2 fun w => z ((Cm_push c4 (by omega) v).mpr (Or.inr w))
      · show upd (A 18) P.length (nI c) i = _
        rw [← hlen] at hi
        by_cases w : i = P.length
        · rw [w, pk_us, gD_r]
        · rw [pk_un w, gD_l (by omega)]
          exact hO i (by omega)
      · show upd (A 19) (av c) (nI (N + (P ++ [c]).length)) (vs.getD i 0) = _
        rw [hav c (by omega), pk_un (gD_ne hn (by omega) hcN (by omega))]
        exact hN.1 i hi
      · show upd (A 19) (av c) (nI (N + (P ++ [c]).length)) (vs.getD (N + (P ++ [c]).getD i 0) 0) = _
        rw [← hlen] at hi
        rw [hav c (by omega)]
        by_cases w : i = P.length
        · rw [w, gD_r, pk_us, ← hlen]; rfl
        · rw [gD_l (by omega)]
          have hp := hOK.2.1 _ (getD_mem (d := 0) (show i < P.length by omega))
          have hpc : P.getD i 0 ≠ c := fun e => g (e ▸ getD_mem (by omega))
          rw [pk_un (gD_ne hn (by omega) hcN (by omega))]
          exact hN.2 i (by omega)
theorem m_sort {Im : NI} {A : NNI} {M I L O Aa : Nat} {av l1 l2 : Nat → Nat} {vs : List Nat} {Q : NI → NNI → Prop} (hH : HM 1 A M I L O Aa) (hV : VL 1 I L A vs) (hK : KD 1 I L A vs) (hC : CB 1 A Aa av l1 l2) (hI : I ≤ 6) (hL : L ≤ 7) (hvl : vs.length = I + L + Aa) (hn : vs.Nodup) (hv : ∀ v, v ∈ vs → 1 ≤ v ∧ v ≤ 400) (hav : ∀ k, k < Aa → av k = vs.getD (I + L + k) 0) (hkn : ∀ k, k < Aa → (l1 k < 2 ∨ l1 k / 2 ∈ vs) ∧ (l2 k < 2 ∨ l2 k / 2 ∈ vs))
    (k : ∀ I' B, F3 A B → (∀ i, i ≠ 8 → I' i = Im i) → I' 8 = nI (od Aa av (hf l1) (hf l2) Aa []).length → OM B (od Aa av (hf l1) (hf l2) Aa []) → NW B (I + L) vs (od Aa av (hf l1) (hf l2) Aa []) → Q I' B) : wp_M_sort Im A Q := by
  unfold wp_M_sort
  refine ⟨402, m_srt1 (A0 := A) 401 0 Im A (by omega) (fun a _ _ _ => rfl) (fun v hv => absurd hv (by omega)) (fun B1 hF1 hB1 => ?_)⟩
  refine ⟨I + 1, m_srt2 (A0 := A) hH hV hI (by omega) hn hv I 0 Im B1 (by omega) hF1 (fun k hk => absurd hk (by omega)) (fun B2 hF2 h20 hN2 => ?_)⟩
  refine ⟨L + 1, m_srt3 (A0 := A) hH hV hI hL (by omega) hn hv L 0 Im B2 (by omega) hF2 (fun k hk => hN2 k (by omega)) (fun B3 hF3 h21 hN3 => ?_)⟩
  refine ⟨Aa * (Aa + 1) + Aa + 1, m_srt4 (N := I + L) (I0 := Im) hC hvl hn hav hkn (fun v hm => (hv v hm).2) Aa [] (by simp) OK_nil Aa 0 _ _ B3 (by omega) (Nat.le_refl _) (fun i hi => absurd hi (by omega)) hF3 (fun i hi => va_up_ne _ _ hi) rfl (fun v hm => ?_) (fun i hi => absurd hi (Nat.not_lt_zero i)) ⟨hN3, fun i hi => absurd hi (Nat.not_lt_zero i)⟩ k⟩
  -- what has come at first
  obtain ⟨i, hi, e⟩ := List.mem_iff_getElem.mp hm
  have e2 : vs.getD i 0 = v := by simp [List.getD, hi, e]
  have hk := hK.2 i hi
  rw [e2] at hk
  have hk' : A 10 (v + 401) = nI (kk I L i) := hk
  have hb := hB1 v (by have := hv v hm; omega)
  rw [h21, h20]
  by_cases g : i < I + L
  · have h12 : A 10 (v + 401) = 1 ∨ A 10 (v + 401) = 2 := by
      rw [hk']
      unfold kk
      by_cases g1 : i < I
      · rw [if_pos g1]; exact Or.inl rfl
      · rw [if_neg g1, if_pos g]; exact Or.inr rfl
    refine ⟨fun _ => hb.1 h12, fun z => absurd (fun j hj e3 => ?_) z⟩
    rw [hav j hj, ← e2] at e3
    exact absurd e3 (gD_ne hn (by omega) (by omega) (by omega))
  · have h12 : ¬ (A 10 (v + 401) = 1 ∨ A 10 (v + 401) = 2) := by
      rw [hk']
      unfold kk
      rw [if_neg (by omega), if_neg g]
      decide
    refine ⟨fun z => ?_, fun _ => hb.2 h12⟩
    have := z (i - (I + L)) (by omega) (by rw [hav _ (by omega), ← e2]; congr 1; omega)
    simp at this
