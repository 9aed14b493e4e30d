/-! the reference: rings -/
def ad (Ms : List Nat) (x : Nat) : List Nat := if x ∈ Ms then Ms else Ms ++ [x]
theorem ad_mem {Ms : List Nat} {x w : Nat} : w ∈ ad Ms x ↔ w ∈ Ms ∨ w = x := by
  unfold ad
  by_cases g : x ∈ Ms
  · rw [if_pos g]
    exact ⟨Or.inl, fun z => z.elim id (fun e => e ▸ g)⟩
  · rw [if_neg g]
    simp
theorem ad_nodup {Ms : List Nat} {x : Nat} (h : Ms.Nodup) : (ad Ms x).Nodup := by
  unfold ad
  by_cases g : x ∈ Ms
  · rw [if_pos g]; exact h
  · rw [if_neg g]; exact nodup_push h g
theorem ad_len {Ms : List Nat} {x : Nat} : Ms.length ≤ (ad Ms x).length ∧ (x ∉ Ms → Ms.length < (ad Ms x).length) := by
  unfold ad
  by_cases g : x ∈ Ms
  · rw [if_pos g]; exact ⟨Nat.le_refl _, fun z => absurd g z⟩
  · rw [if_neg g, List.length_append, List.length_singleton]; exact ⟨by omega, fun _ => by omega⟩
theorem ad_in {Ms : List Nat} {x : Nat} (h : x ∈ Ms) : ad Ms x = Ms := if_pos h
def F20 (A B : NNI) : Prop := ∀ a, a ≠ 20 → B a = A a
def MM (A : NNI) (Ms : List Nat) : Prop := ∀ w, w ≤ 400 → A 20 w = if w ∈ Ms then 1 else 0
theorem MM_z {A : NNI} {Ms : List Nat} (h : MM A Ms) {w : Nat} (hw : w ≤ 400) : A 20 w = 0 ↔ w ∉ Ms := by
  rw [h w hw]
  by_cases g : w ∈ Ms
  · rw [if_pos g]; exact ⟨fun z => absurd z (by decide), fun z => absurd g z⟩
  · rw [if_neg g]; exact ⟨fun _ => g, fun _ => rfl⟩
theorem m_hang0 {A0 : NNI} {v : Nat} {Q : Int32 → NNI → Prop} {X : NNI → Int32 → Prop} : ∀ (j c : Nat) (A : NNI), c + j = 401 → F20 A0 A → (∀ w, w < c → A 20 w = 0) → (∀ B, F20 A0 B → MM B [] → X B (nI v)) → wp_M_hangs_L7 Q X (j + 1) A (nI v) (nI c) := by
  intro j
  induction j with
  | zero =>
    intro c A hl hF h k
    unfold wp_M_hangs_L7
    exact pk_le 401 c (fun _ => k _ hF (fun w hw => by rw [if_neg List.not_mem_nil]; exact h w (by omega))) (fun g => absurd g (by omega))
  | succ j ih =>
    intro c A hl hF h k
    unfold wp_M_hangs_L7
    refine pk_le 401 c (fun g => absurd g (by omega)) (fun _ => ⟨pk_in c 401 (by omega), ?_⟩)
    rw [nI_clamp (n := c) (by omega), nI_1]
    refine ih (c + 1) _ (by omega) (fun a ha => by rw [va_up_ne _ _ ha]; exact hF a ha) (fun w hw => ?_) k
    show upd (A 20) c 0 w = 0
    by_cases g : w = c
    · rw [g, pk_us]
    · rw [pk_un g]; exact h w (by omega)
/-- one pass: c ands are done; begun?, what was met before, what is met, does it grow? -/
def PI (Aa : Nat) (av a1 a2 : Nat → Nat) (v : Nat) (bg : Int32) (M0 Ms : List Nat) (c : Nat) (g : Int32) : Prop := Ms.Nodup ∧ (∀ w, w ∈ Ms → RT Aa av a1 a2 v w ∧ w ≤ 400) ∧ (∀ w, w ∈ M0 → w ∈ Ms) ∧ (g = 0 → Ms = M0 ∧ ∀ k, k < c → (av k ∈ M0 ∨ (av k = v ∧ bg = 0)) → a1 k ∈ M0 ∧ a2 k ∈ M0) ∧ (bg = 0 → ∀ k, k < c → av k = v → a1 k ∈ Ms ∧ a2 k ∈ Ms) ∧ (g = 1 → M0.length < Ms.length) ∧ (g = 0 ∨ g = 1)
theorem m_hangP {A0 : NNI} {Aa v : Nat} {av l1 l2 : Nat → Nat} {M0 : List Nat} {bg : Int32} {Q : Int32 → NNI → Prop} {K29 : NNI → Int32 → Int32 → Int32 → Prop} {X29 : NNI → Int32 → Prop} {X : NNI → Int32 → Int32 → Prop} (hC : CB 1 A0 Aa av l1 l2) (hv : v ≤ 400) (k : ∀ A Ms g, F20 A0 A → MM A Ms → PI Aa av (hf l1) (hf l2) v bg M0 Ms Aa g → X A (nI v) g) :
    ∀ (j c : Nat) (Ms : List Nat) (A : NNI) (g : Int32), c + j = Aa → F20 A0 A → MM A Ms → PI Aa av (hf l1) (hf l2) v bg M0 Ms c g → wp_M_hangs_L38 Q K29 X29 X (j + 1) A (nI v) g bg (nI c) := by
  obtain ⟨c1, c2, c3, c4⟩ := hC
  intro j
  induction j with
  | zero =>
    intro c Ms A g hl hF hM hP
    unfold wp_M_hangs_L38
    have h9 : A 2 9 = nI Aa := by rw [hF 2 (by decide)]; exact c2
    have hc : c = Aa := by omega
    exact pk_le Aa c (fun _ => k A Ms g hF hM (hc ▸ hP)) (fun g => absurd g (by omega)) h9 rfl
  | succ j ih =>
    intro c Ms A g hl hF hM hP
    unfold wp_M_hangs_L38
    have h9 : A 2 9 = nI Aa := by rw [hF 2 (by decide)]; exact c2
    obtain ⟨d1, ⟨d2, d3⟩, d4, d5, d6, d7⟩ := c3 c (by omega)
    have e7 : A 7 (c + 300) = nI (2 * av c) := by rw [hF 7 (by decide)]; exact d1
    have e8 : A 8 (c + 300) = nI (l1 c) := by rw [hF 8 (by decide)]; exact d4
    have e9 : A 9 (c + 300) = nI (l2 c) := by rw [hF 9 (by decide)]; exact d6
    have f8 : nI (l1 c) / (2 : Int32) = nI (hf l1 c) := pk_div (d := 2) (by omega) (by decide) (by decide)
    have f9 : nI (l2 c) / (2 : Int32) = nI (hf l2 c) := pk_div (d := 2) (by omega) (by decide) (by decide)
    have b8 : hf l1 c ≤ 400 := by unfold hf; omega
    have b9 : hf l2 c ≤ 400 := by unfold hf; omega
    obtain ⟨p1, p2, p3, p4, p5, p6, p7⟩ := hP
    -- passed over
    have over : ¬ (av c ∈ Ms ∨ (av c = v ∧ bg = 0)) → wp_M_hangs_L38 Q K29 X29 X (j + 1) A (nI v) g bg (nI (c + 1)) := fun hn => by
      refine ih (c + 1) Ms A g (by omega) hF hM ⟨p1, p2, p3, fun z => ?_, fun z i hi e => ?_, p6, p7⟩
      · obtain ⟨q1, q2⟩ := p4 z
        refine ⟨q1, fun i hi hw => ?_⟩
        by_cases y : i = c
        · subst y
          rw [← q1] at hw
          exact absurd hw hn
        · exact q2 i (by omega) hw
      · by_cases y : i = c
        · subst y
          exact absurd (Or.inr ⟨e, z⟩) hn
        · exact p5 z i (by omega) e
    -- done
    have done : (av c ∈ Ms ∨ (av c = v ∧ bg = 0)) → wp_M_hangs_b99 Q K29 X29 (wp_M_hangs_L38 Q K29 X29 X (j + 1)) X A (nI v) g bg (nI c) := fun hy => by
      have hE : ∀ w, (hf l1 c = w ∨ hf l2 c = w) → RT Aa av (hf l1) (hf l2) v w := fun w hw => by
        have he : Ed Aa av (hf l1) (hf l2) (av c) w := ⟨c, by omega, rfl, hw⟩
        rcases hy with z | z
        · exact (p2 _ z).1.step he
        · rw [z.1] at he; exact RT.one he
      have go : ∀ g2 : Int32, (g2 = 0 ∨ g2 = 1) → (g2 = 0 → g = 0 ∧ hf l1 c ∈ Ms ∧ hf l2 c ∈ Ms) → (g2 = 1 → g = 1 ∨ hf l1 c ∉ Ms ∨ hf l2 c ∉ Ms) → wp_M_hangs_b145 Q K29 X29 (wp_M_hangs_L38 Q K29 X29 X (j + 1)) X A (nI v) g2 bg (nI c) (nI (hf l1 c)) (nI (hf l2 c)) := fun g2 hg hg0 hg1 => by
        unfold wp_M_hangs_b145
        rw [nI_clamp (n := hf l1 c) (by omega), nI_clamp (n := hf l2 c) (by omega), nI_1]
        refine ⟨pk_in (hf l1 c) 401 (by omega), pk_in (hf l2 c) 401 (by omega), ?_⟩
        have la := ad_len (Ms := Ms) (x := hf l1 c)
        have lb := ad_len (Ms := ad Ms (hf l1 c)) (x := hf l2 c)
        have hm : ∀ w, w ∈ ad (ad Ms (hf l1 c)) (hf l2 c) ↔ w ∈ Ms ∨ w = hf l1 c ∨ w = hf l2 c := fun w => by rw [ad_mem, ad_mem, or_assoc]
        refine ih (c + 1) (ad (ad Ms (hf l1 c)) (hf l2 c)) _ g2 (by omega) (fun a ha => by rw [va_up_ne _ _ ha, va_up_ne _ _ ha]; exact hF a ha) (fun w hw => ?_) ⟨ad_nodup (ad_nodup p1), fun w hw => ?_, fun w hw => (hm w).mpr (Or.inl (p3 w hw)), fun z => ?_, fun z i hi e => ?_, fun z => ?_, hg⟩
        · show upd (upd (A 20) (hf l1 c) 1) (hf l2 c) 1 w = _
          by_cases y2 : w = hf l2 c
          · rw [if_pos ((hm w).mpr (Or.inr (Or.inr y2))), y2, pk_us]
          · rw [pk_un y2]
            by_cases y1 : w = hf l1 c
            · rw [if_pos ((hm w).mpr (Or.inr (Or.inl y1))), y1, pk_us]
            · rw [pk_un y1, hM w hw]
              by_cases y : w ∈ Ms
              · rw [if_pos y, if_pos ((hm w).mpr (Or.inl y))]
              · rw [if_neg y, if_neg (fun z => ((hm w).mp z).elim y (fun z => z.elim y1 y2))]
        · rcases (hm w).mp hw with z | z | z
          · exact p2 w z
          · exact ⟨hE w (Or.inl z.symm), by omega⟩
          · exact ⟨hE w (Or.inr z.symm), by omega⟩
        · obtain ⟨z1, z2, z3⟩ := hg0 z
          obtain ⟨q1, q2⟩ := p4 z1
          rw [ad_in z2, ad_in z3]
          refine ⟨q1, fun i hi hw => ?_⟩
          by_cases y : i = c
          · subst y; rw [← q1]; exact ⟨z2, z3⟩
          · exact q2 i (by omega) hw
        · by_cases y : i = c
          · subst y; exact ⟨(hm _).mpr (Or.inr (Or.inl rfl)), (hm _).mpr (Or.inr (Or.inr rfl))⟩
          · obtain ⟨q1, q2⟩ := p5 z i (by omega) e
            exact ⟨(hm _).mpr (Or.inl q1), (hm _).mpr (Or.inl q2)⟩
        · have hle : M0.length ≤ Ms.length := by
            rcases p7 with y | y
            · rw [(p4 y).1]; exact Nat.le_refl _
            · exact Nat.le_of_lt (p6 y)
          rcases hg1 z with y | y | y
          · have := p6 y; omega
          · have := la.2 y; omega
          · by_cases y1 : hf l1 c ∈ Ms
            · have hy2 : hf l2 c ∉ ad Ms (hf l1 c) := by rw [ad_in y1]; exact y
              have := lb.2 hy2
              omega
            · have := la.2 y1; omega
      unfold wp_M_hangs_b99 wp_M_hangs_b143
      rw [nI_ad 300 300 c rfl, nI_clamp (n := c + 300) (by omega), e8, e9, f8, f9, nI_clamp (n := hf l1 c) (by omega), nI_clamp (n := hf l2 c) (by omega), MM_z hM b8, MM_z hM b9]
      refine ⟨pk_in (c + 300) 600 (by omega), pk_in (hf l1 c) 401 (by omega), fun y => go 1 (Or.inr rfl) (fun z => absurd z (by decide)) (fun _ => Or.inr (Or.inl y)), fun y => ⟨pk_in (hf l2 c) 401 (by omega), fun y2 => go 1 (Or.inr rfl) (fun z => absurd z (by decide)) (fun _ => Or.inr (Or.inr y2)), fun y2 => go g p7 (fun z => ⟨z, Classical.byContradiction y, Classical.byContradiction y2⟩) (fun z => Or.inl z)⟩⟩
    refine pk_le Aa c (fun g => absurd g (by omega)) (fun _ => ?_) h9 rfl
    unfold wp_M_hangs_b78
    rw [nI_ad 300 300 c rfl, nI_clamp (n := c + 300) (by omega), e7, half2 d3, nI_clamp (n := av c) (by omega), MM_z hM d3, nI_1]
    refine ⟨pk_in (c + 300) 600 (by omega), ?_⟩
    refine pk_eq (av c) v (fun y => pk_eq (av c) v (fun _ => ⟨fun z => done (Or.inr ⟨y, z⟩), fun z => ⟨pk_in (av c) 401 (by omega), fun w => over fun x => x.elim w (fun x => z x.2), fun w => done (Or.inl (Classical.byContradiction w))⟩⟩) (fun z => absurd y z)) (fun y => ⟨pk_in (av c) 401 (by omega), fun w => over fun x => x.elim w (fun x => y x.1), fun w => pk_eq (av c) v (fun z => absurd z y) (fun _ => done (Or.inl (Classical.byContradiction w)))⟩)
theorem m_hangG {A0 : NNI} {Aa v : Nat} {av l1 l2 : Nat → Nat} {Q : Int32 → NNI → Prop} {X : NNI → Int32 → Prop} (hC : CB 1 A0 Aa av l1 l2) (hv : v ≤ 400) (k : ∀ A Ms, F20 A0 A → MM A Ms → (∀ w, w ∈ Ms ↔ RT Aa av (hf l1) (hf l2) v w) → X A (nI v)) :
    ∀ (f : Nat) (Ms : List Nat) (A : NNI) (bg : Int32), 401 ≤ Ms.length + f → F20 A0 A → MM A Ms → Ms.Nodup → (∀ w, w ∈ Ms → RT Aa av (hf l1) (hf l2) v w ∧ w ≤ 400) → (¬ bg = 0 → ∀ k, k < Aa → av k = v → hf l1 k ∈ Ms ∧ hf l2 k ∈ Ms) → wp_M_hangs_L29 Q X (f + 2) A (nI v) 1 bg := by
  -- a pass that did not grow
  have stop : ∀ (m : Nat) (A : NNI) (M0 Ms : List Nat) (bg : Int32), F20 A0 A → MM A Ms → (¬ bg = 0 → ∀ k, k < Aa → av k = v → hf l1 k ∈ M0 ∧ hf l2 k ∈ M0) → PI Aa av (hf l1) (hf l2) v bg M0 Ms Aa 0 → wp_M_hangs_L29 Q X (m + 1) A (nI v) 0 1 := fun m A M0 Ms bg hF hM hb hP => by
    unfold wp_M_hangs_L29
    refine ⟨fun _ => k A Ms hF hM (fun w => ⟨fun z => (hP.2.1 w z).1, fun z => ?_⟩), fun z => absurd rfl z⟩
    obtain ⟨q1, q2⟩ := hP.2.2.2.1 rfl
    rw [q1]
    refine RT_ind (m := fun w => w ∈ M0) (fun x hx => ?_) (fun x y hx hy => ?_) z
    · obtain ⟨i, hi, e, he⟩ := hx
      have : hf l1 i ∈ M0 ∧ hf l2 i ∈ M0 := by
        by_cases y : bg = 0
        · exact q2 i hi (Or.inr ⟨e, y⟩)
        · exact hb y i hi e
      rcases he with z | z
      · rw [← z]; exact this.1
      · rw [← z]; exact this.2
    · obtain ⟨i, hi, e, he⟩ := hy
      have := q2 i hi (Or.inl (e ▸ hx))
      rcases he with z | z
      · rw [← z]; exact this.1
      · rw [← z]; exact this.2
  have start : ∀ (Ms : List Nat) (bg : Int32), Ms.Nodup → (∀ w, w ∈ Ms → RT Aa av (hf l1) (hf l2) v w ∧ w ≤ 400) → PI Aa av (hf l1) (hf l2) v bg Ms Ms 0 0 := fun Ms bg h1 h2 => ⟨h1, h2, fun w hw => hw, fun _ => ⟨rfl, fun i hi => absurd hi (by omega)⟩, fun _ i hi => absurd hi (by omega), fun z => absurd z (by decide), Or.inl rfl⟩
  intro f
  induction f with
  | zero =>
    intro Ms A bg hl hF hM h1 h2 hb
    unfold wp_M_hangs_L29
    refine ⟨fun z => absurd z (by decide), fun _ => ⟨Aa + 1, m_hangP hC hv (fun B Ns g hF2 hM2 hP => ?_) Aa 0 Ms A 0 (by omega) hF hM (start Ms bg h1 h2)⟩⟩
    rcases hP.2.2.2.2.2.2 with z | z
    · subst z
      exact stop 0 B Ms Ns bg hF2 hM2 hb hP
    · exfalso
      have l1 := hP.2.2.2.2.2.1 z
      have l2 := pig_range hP.1 (n := 401) (fun w hw => by have := (hP.2.1 w hw).2; omega)
      omega
  | succ f ih =>
    intro Ms A bg hl hF hM h1 h2 hb
    unfold wp_M_hangs_L29
    refine ⟨fun z => absurd z (by decide), fun _ => ⟨Aa + 1, m_hangP hC hv (fun B Ns g hF2 hM2 hP => ?_) Aa 0 Ms A 0 (by omega) hF hM (start Ms bg h1 h2)⟩⟩
    rcases hP.2.2.2.2.2.2 with z | z
    · subst z
      exact stop (f + 1) B Ms Ns bg hF2 hM2 hb hP
    · subst z
      refine ih Ns B 1 ?_ hF2 hM2 hP.1 hP.2.1 (fun _ i hi e => ?_)
      · have := hP.2.2.2.2.2.1 rfl
        omega
      · by_cases y : bg = 0
        · exact hP.2.2.2.2.1 y i hi e
        · obtain ⟨z1, z2⟩ := hb y i hi e
          exact ⟨hP.2.2.1 _ z1, hP.2.2.1 _ z2⟩
theorem m_hangs {A : NNI} {Aa v : Nat} {av l1 l2 : Nat → Nat} {Q : Int32 → NNI → Prop} (hC : CB 1 A Aa av l1 l2) (hv : v ≤ 400) (k1 : RT Aa av (hf l1) (hf l2) v v → ∀ B, F20 A B → Q 1 B) (k0 : ¬ RT Aa av (hf l1) (hf l2) v v → ∀ B, F20 A B → Q 0 B) : wp_M_hangs A (nI v) Q := by
  unfold wp_M_hangs
  refine ⟨402, m_hang0 (A0 := A) 401 0 A (by omega) (fun a _ => rfl) (fun w hw => absurd hw (by omega)) (fun B hF hM => ⟨403, m_hangG hC hv (fun B2 Ms hF2 hM2 hR => ?_) 401 [] B 0 (by simp) hF hM List.nodup_nil (fun w hw => absurd hw List.not_mem_nil) (fun z => absurd rfl z)⟩)⟩
  rw [nI_clamp (n := v) (by omega), hM2 v hv]
  refine ⟨pk_in v 401 (by omega), ?_⟩
  by_cases g : v ∈ Ms
  · rw [if_pos g]
    exact ⟨rfl, k1 ((hR v).mp g) B2 hF2⟩
  · rw [if_neg g]
    exact ⟨rfl, k0 (fun z => g ((hR v).mpr z)) B2 hF2⟩
theorem m_lowG {I0 Im : NI} {A0 : NNI} {n q Aa M lo I L O : Nat} {av l1 l2 : Nat → Nat} {vs : List Nat} {Q X : NI → NNI → Prop} (hH : HM 1 A0 M I L O Aa) (hK : KD 1 I L A0 vs) (hC : CB 1 A0 Aa av l1 l2) (hM4 : M ≤ 400) (hvl : vs.length = I + L + Aa) (hav : ∀ k, k < Aa → av k = vs.getD (I + L + k) 0) (hq : q ≤ n) (hG : MG I0 Im q) (hlo : lo ≤ M) (hl1 : RT Aa av (hf l1) (hf l2) lo lo) (hl2 : ∀ u, u < lo → ¬ RT Aa av (hf l1) (hf l2) u u) (k : ∀ I' B, F3 A0 B → MB I0 n I' (6, lo) → X I' B) : ∀ (j v : Nat) (A : NNI), v + j = lo → F3 A0 A → wp_M_findRing_L21 Q X (j + 2) Im A (nI v) := by
  have fr : ∀ A B : NNI, F3 A0 A → F20 A B → F3 A0 B := fun A B h1 h2 a z1 z2 z3 => (h2 a z3).trans (h1 a z1 z2 z3)
  intro j
  induction j with
  | zero =>
    intro v A hl hF
    have hv : v = lo := by omega
    subst hv
    unfold wp_M_findRing_L21
    have h5 : A 2 5 = nI M := by rw [hF 2 (by decide) (by decide) (by decide)]; exact hH.1
    refine pk_lt M v (fun g => absurd g (by omega)) (fun _ => ⟨fun _ => ?_, fun z => absurd hG.2.2.1 z⟩) h5 rfl
    rw [nI_ad 401 401 v rfl, nI_clamp (n := v + 401) (by omega)]
    have h10 : A 10 (v + 401) = 3 := by
      obtain ⟨i, hi, e⟩ := RT_from hl1
      rw [hav i hi] at e
      have := hK.2 (I + L + i) (by omega)
      rw [e, kk, if_neg (by omega), if_neg (by omega)] at this
      rw [hF 10 (by decide) (by decide) (by decide)]
      exact this
    have hCA : CB 1 A Aa av l1 l2 := CB_same hC (hF 2 (by decide) (by decide) (by decide)) (hF 7 (by decide) (by decide) (by decide)) (hF 8 (by decide) (by decide) (by decide)) (hF 9 (by decide) (by decide) (by decide))
    refine ⟨pk_in (v + 401) 802 (by omega), fun _ => m_hangs hCA (by omega) (fun _ B hFB => ⟨fun z => absurd z (by decide), fun _ => ?_⟩) (fun z => absurd hl1 z), fun z => absurd h10 z⟩
    refine m_wrong (ek := 6) (ep := v) hG hq rfl rfl (by decide) (fun I' hB => ?_)
    unfold wp_M_findRing_L21
    exact ⟨fun _ => k _ _ (fr A B hF hFB) hB, fun _ => ⟨fun z => absurd z hB.ne, fun _ => k _ _ (fr A B hF hFB) hB⟩⟩
  | succ j ih =>
    intro v A hl hF
    unfold wp_M_findRing_L21
    have h5 : A 2 5 = nI M := by rw [hF 2 (by decide) (by decide) (by decide)]; exact hH.1
    refine pk_lt M v (fun g => absurd g (by omega)) (fun _ => ⟨fun _ => ?_, fun z => absurd hG.2.2.1 z⟩) h5 rfl
    rw [nI_ad 401 401 v rfl, nI_clamp (n := v + 401) (by omega), nI_1]
    have hCA : CB 1 A Aa av l1 l2 := CB_same hC (hF 2 (by decide) (by decide) (by decide)) (hF 7 (by decide) (by decide) (by decide)) (hF 8 (by decide) (by decide) (by decide)) (hF 9 (by decide) (by decide) (by decide))
    exact ⟨pk_in (v + 401) 802 (by omega), fun _ => m_hangs hCA (by omega) (fun z => absurd z (hl2 v (by omega))) (fun _ B hFB => ⟨fun _ => ih (v + 1) B (by omega) (fr A B hF hFB), fun z => absurd rfl z⟩), fun _ => ih (v + 1) A (by omega) hF⟩
theorem m_ring {I0 Im : NI} {A : NNI} {n q M I L O Aa : Nat} {av l1 l2 : Nat → Nat} {vs : List Nat} {Q : NI → NNI → Prop} (hH : HM 1 A M I L O Aa) (hV : VL 1 I L A vs) (hK : KD 1 I L A vs) (hC : CB 1 A Aa av l1 l2) (hM4 : M ≤ 400) (hI : I ≤ 6) (hL : L ≤ 7) (hvl : vs.length = I + L + Aa) (hn : vs.Nodup) (hv : ∀ v, v ∈ vs → 1 ≤ v ∧ v ≤ M) (hav : ∀ k, k < Aa → av k = vs.getD (I + L + k) 0) (hkn : ∀ k, k < Aa → (l1 k < 2 ∨ l1 k / 2 ∈ vs) ∧ (l2 k < 2 ∨ l2 k / 2 ∈ vs)) (hq : q ≤ n) (hG : MG I0 Im q)
    (k : Lk (pOrd Aa av (hf l1) (hf l2)) (fun _ => ∀ I' B, F3 A B → MG I0 I' q → Q I' B) (fun e => ∀ I' B, F3 A B → MB I0 n I' e → Q I' B)) : wp_M_findRing Im A Q := by
  unfold wp_M_findRing
  refine m_sort hH hV hK hC hI hL hvl hn (fun v hm => ⟨(hv v hm).1, by have := (hv v hm).2; omega⟩) hav hkn (fun I1 B1 hF hI1 h8 hO hN => ?_)
  have hG1 : MG I0 I1 q := ⟨fun i z4 z5 z6 z7 z8 => (hI1 i z8).trans (hG.1 i z4 z5 z6 z7 z8), (hI1 4 (by decide)).trans hG.2.1, (hI1 5 (by decide)).trans hG.2.2.1, (hI1 6 (by decide)).trans hG.2.2.2⟩
  obtain ⟨o1, o2⟩ := od_ok (A := Aa) (av := av) (a1 := hf l1) (a2 := hf l2) Aa [] OK_nil (by simp)
  have hlen := OK_len o1
  unfold pOrd at k
  have h9 : B1 2 9 = nI Aa := by rw [hF 2 (by decide) (by decide) (by decide)]; exact hC.2.1
  have hA3 := hC.1
  refine pk_eq (od Aa av (hf l1) (hf l2) Aa []).length Aa (fun g => ?_) (fun g => ?_) h8 h9
  · rw [if_pos g] at k
    exact k I1 B1 hF hG1
  · rw [if_neg g] at k
    obtain ⟨i, hi, hir⟩ := loop_is o1 o2 (by omega)
    obtain ⟨g1, g2⟩ := lowL_is (A := Aa) (av := av) (a1 := hf l1) (a2 := hf l2) ⟨av i, hir⟩
    obtain ⟨i2, hi2, e⟩ := RT_from g1
    have hb := hv _ (getD_mem (d := 0) (show I + L + i2 < vs.length by omega))
    rw [← hav i2 hi2, e] at hb
    exact ⟨lowL Aa av (hf l1) (hf l2) - 1 + 2, m_lowG hH hK hC hM4 hvl hav hq hG1 hb.2 g1 g2 (fun I' B hFB hB => k I' B hFB hB) (lowL Aa av (hf l1) (hf l2) - 1) 1 B1 (by omega) hF⟩
