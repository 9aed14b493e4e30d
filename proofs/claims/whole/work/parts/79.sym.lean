/-! the class reads symbols; checks uses -/
def NA (A : NNI) (nm : Nat → List Nat) : Prop := ∀ s, s < 24 → (nm s).length ≤ 40 ∧ A 9 s = nI (nm s).length ∧ ∀ i, i < (nm s).length → A 10 (40 * s + i) = nI ((nm s).getD i 0)
def FN (A B : NNI) : Prop := ∀ a, a ≠ 9 → a ≠ 10 → B a = A a
theorem NA_push {A B : NNI} {nm : Nat → List Nat} {s c : Nat} {bs : List Nat} (h : NA A (va_up nm s bs)) (hs : s < 24) (hl : bs.length < 40) (h10 : B 10 = upd (A 10) (40 * s + bs.length) (nI c)) (h9 : B 9 = upd (A 9) s (nI (bs.length + 1))) : NA B (va_up nm s (bs ++ [c])) := by
  intro s2 hs2
  have h2 := h s2 hs2
  rw [h9, h10]
  by_cases g : s2 = s
  · subst g
    rw [va_up_self] at h2 ⊢
    refine ⟨by rw [List.length_append, List.length_singleton]; omega, by rw [pk_us, List.length_append, List.length_singleton], fun i hi => ?_⟩
    rw [List.length_append, List.length_singleton] at hi
    by_cases g2 : i = bs.length
    · subst g2
      rw [gD_r, pk_us]
    · rw [gD_l (by omega), pk_un (by omega)]
      exact h2.2.2 i (by omega)
  · rw [va_up_ne _ _ g] at h2 ⊢
    refine ⟨h2.1, by rw [pk_un g]; exact h2.2.1, fun i hi => ?_⟩
    have := h2.1
    rw [pk_un (by omega)]
    exact h2.2.2 i hi
theorem pName_ok {h : Nat → Nat} {n : Nat} (hend : ∀ q, n ≤ q → h q = 256) (hle : ∀ q, h q ≤ 256) : ∀ (j : Nat) (bs : List Nat) (q : Nat), q ≤ n → (pNameG h j bs q).2 ≤ n ∧ (pNameG h j bs q).1.length ≤ bs.length + j ∧ ((∀ x, x ∈ bs → x < 256 ∧ x ≠ 10) → ∀ x, x ∈ (pNameG h j bs q).1 → x < 256 ∧ x ≠ 10) := by
  intro j
  induction j with
  | zero => intro bs q hq; exact ⟨hq, Nat.le_refl _, fun z => z⟩
  | succ j ih =>
    intro bs q hq
    rw [pNameG]
    by_cases g : h q = 256 ∨ h q = 10
    · rw [if_pos g]; exact ⟨hq, by show bs.length ≤ _; omega, fun z => z⟩
    · rw [if_neg g]
      have hlt : q < n := Nat.not_le.mp fun g3 => g (Or.inl (hend q g3))
      obtain ⟨a, b, c⟩ := ih (bs ++ [h q]) (q + 1) hlt
      rw [List.length_append, List.length_singleton] at b
      refine ⟨a, by omega, fun z => c fun x hx => ?_⟩
      rcases List.mem_append.mp hx with hx | hx
      · exact z x hx
      · have := hle q
        have hx2 : x = h q := by simpa using hx
        subst hx2
        exact ⟨by omega, fun e => g (Or.inr e)⟩
theorem s_nameG {IT : NI} {AT A0 : NNI} {h : Nat → Nat} {n st v s : Nat} {fk fp : Int32} {nm : Nat → List Nat} {Q : Int32 → NI → NNI → Prop} {X : NI → NNI → Int32 → Prop} (t : TW IT AT h n) (hs : s < 24) :
    ∀ (j : Nat) (bs : List Nat) (q : Nat) (I : NI) (A : NNI), bs.length + j = 40 → q ≤ n → CU I q st v fk fp → NA A (va_up nm s bs) → FN A0 A → (∀ I A, CU I (pNameG h j bs q).2 st v fk fp → NA A (va_up nm s (pNameG h j bs q).1) → FN A0 A → X I A (nI s)) → wp_R_readName_L2 IT AT Q X (j + 1) I A (nI s) (nI bs.length) := by
  intro j
  induction j with
  | zero =>
    intro bs q I A hl hq hU hN hF k
    unfold wp_R_readName_L2
    exact pk_le 40 bs.length (fun _ => k _ _ hU hN hF) (fun g => absurd g (by omega))
  | succ j ih =>
    intro bs q I A hl hq hU hN hF k
    unfold wp_R_readName_L2
    rw [pNameG] at k
    refine pk_le 40 bs.length (fun g => absurd g (by omega)) (fun _ => s_peek t hq hU.1 ⟨fun g => ?_, fun g => ⟨fun g2 => ?_, fun g2 => ?_⟩⟩)
    · rw [if_pos (Or.inl ((hv_neg (t.le q)).mp g))] at k
      exact k _ _ hU hN hF
    · rw [if_pos (Or.inr ((hv_eq (d := 10) (t.le q) (by decide)).mp g2))] at k
      exact k _ _ hU hN hF
    · have g3 : ¬ h q = 256 := fun z => g ((hv_neg (t.le q)).mpr z)
      have g4 : ¬ h q = 10 := fun z => g2 ((hv_eq (d := 10) (t.le q) (by decide)).mpr z)
      rw [if_neg (fun z => z.elim g3 g4)] at k
      have hlt := t.lt g3
      rw [show (40 : Int32) = nI 40 from rfl, pk_mul, nI_add, hv_nI (t.2.2.1 q hlt).2, nI_1, nI_clamp (n := s * 40 + bs.length) (by omega), nI_clamp (n := s) (by omega), hU.1, nI_1]
      refine ⟨pk_in (s * 40 + bs.length) 960 (by omega), pk_in s 24 hs, ?_⟩
      have hlen : bs.length + 1 = (bs ++ [h q]).length := by simp
      have go := ih (bs ++ [h q]) (q + 1) (va_up I 0 (nI (q + 1))) (va_up (va_up A 10 (upd (A 10) (s * 40 + bs.length) (nI (h q)))) 9 (upd (A 9) s (nI (bs.length + 1)))) (by rw [← hlen]; omega) hlt ⟨rfl, hU.2.1, hU.2.2.1, hU.2.2.2.1, hU.2.2.2.2⟩
        (NA_push (c := h q) hN hs (by omega) (by rw [Nat.mul_comm 40 s]; rfl) rfl) (fun a h1 h2 => by rw [va_up_ne _ _ h1, va_up_ne _ _ h2]; exact hF a h1 h2) k
      rw [← hlen] at go
      exact go
theorem s_kind {c : Nat} {Q : Int32 → Prop} (hc : c ≤ 256) (h0 : (kindOf c = none → Q (-1)) ∧ ∀ kd, kindOf c = some kd → Q (nI kd)) : wp_R_kindOf (hv c) Q := by
  unfold wp_R_kindOf
  refine ⟨4, ?_⟩
  unfold wp_R_kindOf_L2
  have e0 : kl 0 = nI 105 := by decide
  have e1 : kl (0 + 1) = nI 108 := by decide
  have e2 : kl (0 + 1 + 1) = nI 111 := by decide
  refine ⟨fun g => absurd g (by decide), fun _ => ⟨pk_in 0 3 (by decide), fun g => ?_, fun g => ?_⟩⟩
  · have := (hv_eq (d := 105) hc (by decide)).mp (g.symm.trans e0)
    exact h0.2 0 (by rw [kindOf, if_pos this])
  · have n0 : ¬ c = 105 := fun z => g (e0.trans ((hv_eq (d := 105) hc (by decide)).mpr z).symm)
    unfold wp_R_kindOf_L2
    refine ⟨fun g => absurd g (by decide), fun _ => ⟨pk_in 1 3 (by decide), fun g => ?_, fun g => ?_⟩⟩
    · have := (hv_eq (d := 108) hc (by decide)).mp (g.symm.trans e1)
      exact h0.2 1 (by rw [kindOf, if_neg n0, if_pos this])
    · have n1 : ¬ c = 108 := fun z => g (e1.trans ((hv_eq (d := 108) hc (by decide)).mpr z).symm)
      unfold wp_R_kindOf_L2
      refine ⟨fun g => absurd g (by decide), fun _ => ⟨pk_in 2 3 (by decide), fun g => ?_, fun g => ?_⟩⟩
      · have := (hv_eq (d := 111) hc (by decide)).mp (g.symm.trans e2)
        exact h0.2 2 (by rw [kindOf, if_neg n0, if_neg n1, if_pos this])
      · have n2 : ¬ c = 111 := fun z => g (e2.trans ((hv_eq (d := 111) hc (by decide)).mpr z).symm)
        unfold wp_R_kindOf_L2
        refine ⟨fun _ => h0.1 (by rw [kindOf, if_neg n0, if_neg n1, if_neg n2]), fun g => absurd (by decide) g⟩
theorem s_cntOf {IC : NI} {M I L O A kd : Nat} {Q : Int32 → Prop} (hC : HC IC M I L O A) (hk : kd < 3) (k : Q (nI (cntOf I L O kd))) : wp_C_countOf IC (nI kd) Q := by
  unfold wp_C_countOf
  match kd, hk with
  | 0, _ => exact ⟨fun _ => by rw [hC.2.1]; exact k, fun g => absurd rfl g⟩
  | 1, _ => exact ⟨fun g => absurd g (by decide), fun _ => ⟨fun _ => by rw [hC.2.2.1]; exact k, fun g => absurd rfl g⟩⟩
  | 2, _ => exact ⟨fun g => absurd g (by decide), fun _ => ⟨fun g => absurd g (by decide), fun _ => ⟨fun _ => by rw [hC.2.2.2.1]; exact k, fun g => absurd rfl g⟩⟩⟩
theorem cnt_le {I L O kd : Nat} (hI : I ≤ 6) (hL : L ≤ 7) (hO : O ≤ 8) : cntOf I L O kd ≤ 8 := by
  unfold cntOf
  split
  · omega
  · split
    · omega
    · split <;> omega
theorem s_symbol {IU IT IC : NI} {AT AC A0 : NNI} {h : Nat → Nat} {n q st v M I L O A kd : Nat} {fk fp : Int32} {nm : Nat → List Nat} {Q : Int32 → NI → NNI → Prop} (t : TW IT AT h n) (hC : HC IC M I L O A) (hI : I ≤ 6) (hL : L ≤ 7) (hO : O ≤ 8) (hq : q + 1 ≤ n) (hU : CU IU q st v fk fp) (hN : NA AC nm) (hF : FN A0 AC) (hk : kd < 3)
    (k : Lk (pSym h I L O kd nm (q + 1)) (fun z => ∀ U A st v, CU U z.2 st v fk fp → NA A z.1 → FN A0 A → Q 1 U A) (fun e => ∀ U A, CE U e → FN A0 A → Q 0 U A)) : wp_R_readSymbol IU IT AT IC AC (nI kd) Q := by
  unfold wp_R_readSymbol
  have hk1 : ¬ nI kd = -1 := fun g => by
    have g2 := congrArg Int32.toInt g
    rw [nI_toInt (by omega)] at g2
    have : (-1 : Int32).toInt = -1 := by decide
    omega
  refine ⟨fun g => absurd g hk1, fun _ => ?_⟩
  rw [hU.1, nI_1]
  rw [pSym, Lk_eB] at k
  refine s_num (q := q + 1) (st := st) (v := v) (fk := fk) (fp := fp) t hq ⟨rfl, hU.2.1, hU.2.2.1, hU.2.2.2.1, hU.2.2.2.2⟩ (Lk_imp k (fun z hz k I1 hI1 => ⟨fun c => absurd c (by decide), fun _ => s_cntOf hC hk ?_⟩) (fun e he k I hI => ⟨fun _ => k _ _ hI hF, fun c => absurd rfl c⟩))
  obtain ⟨z9, -, z3⟩ := pNum_ok t.2.2.2 hz
  have c8 := cnt_le (kd := kd) hI hL hO
  have bad : ¬ (z.1 < cntOf I L O kd ∧ nm (8 * kd + z.1) = []) → wp_R_readSymbol_b76 IT AT IC Q I1 AC := fun g => by
    rw [if_neg g] at k
    unfold wp_R_readSymbol_b76
    rw [hI1.1]
    exact s_fail (k := 1) (fun I hI => ⟨rfl, k _ _ hI hF⟩)
  refine pk_le (cntOf I L O kd) z.1 (fun g => bad (by omega)) (fun g1 => ?_) rfl hI1.2.2.1
  unfold wp_F_slotOf
  have es : nI kd * (8 : Int32) + I1 2 = nI (8 * kd + z.1) := by
    rw [hI1.2.2.1, show (8 : Int32) = nI 8 from rfl, pk_mul, nI_add, Nat.mul_comm]
  rw [es]
  simp only []
  rw [nI_clamp (n := 8 * kd + z.1) (by omega)]
  have hsl : 8 * kd + z.1 < 24 := by omega
  refine ⟨pk_in (8 * kd + z.1) 24 hsl, ?_⟩
  obtain ⟨n1, n2, n3⟩ := hN (8 * kd + z.1) hsl
  refine pk_le (nm (8 * kd + z.1)).length 0 (fun g2 => ?_) (fun g2 => bad fun z => ?_) n2 rfl
  · have hnil : nm (8 * kd + z.1) = [] := List.eq_nil_of_length_eq_zero (by omega)
    rw [if_pos ⟨g1, hnil⟩, Lk_eB] at k
    refine s_expect (c := 32) t (z3 hq) hI1 (by decide) (Lk_imp k (fun r hr k I2 hI2 => ⟨fun c => absurd c (by decide), fun _ => ?_⟩) (fun e he k I hI => ⟨fun _ => k _ _ hI hF, fun c => absurd rfl c⟩))
    obtain ⟨-, d2, -⟩ := pExp_ok t.2.2.2 (by decide) hr
    unfold wp_R_readName
    have hN0 : NA AC (va_up nm (8 * kd + z.1) []) := by
      have : va_up nm (8 * kd + z.1) [] = nm := by
        funext j
        by_cases g : j = 8 * kd + z.1
        · rw [g, va_up_self, hnil]
        · rw [va_up_ne _ _ g]
      rw [this]; exact hN
    refine ⟨41, s_nameG (nm := nm) (A0 := A0) t hsl 40 [] r I2 AC rfl d2 hI2 hN0 hF (fun I3 A3 hI3 hN3 hF3 => ?_)⟩
    obtain ⟨w1, w2, -⟩ := pName_ok t.2.2.2 t.le 40 [] r d2
    generalize pNameG h 40 [] r = w at *
    rw [nI_clamp (n := 8 * kd + z.1) (by omega)]
    obtain ⟨m1, m2, m3⟩ := hN3 (8 * kd + z.1) hsl
    rw [va_up_self] at m1 m2
    refine ⟨pk_in (8 * kd + z.1) 24 hsl, pk_le w.1.length 0 (fun g3 => ?_) (fun g3 => ?_) m2 rfl⟩
    · have : w.1 = [] := List.eq_nil_of_length_eq_zero (by omega)
      simp only [if_pos this] at k
      rw [hI3.1]
      exact s_fail (k := 1) (fun I hI => ⟨rfl, fun _ => k _ _ hI hF3, fun c => absurd rfl c⟩)
    · have : ¬ w.1 = [] := fun z => by rw [z] at g3; exact absurd g3 (by decide)
      simp only [if_neg this, Lk_eB] at k
      exact s_expect (c := 10) t w1 hI3 (by decide) (Lk_imp k (fun r2 hr2 k I4 hI4 => ⟨rfl, fun c => absurd c (by decide), fun _ => k _ _ _ _ hI4 hN3 hF3⟩) (fun e he k I hI => ⟨rfl, fun _ => k _ _ hI hF3, fun c => absurd rfl c⟩))
  · rw [z.2] at g2
    exact absurd g2 (by decide)
theorem pSym_ok {h : Nat → Nat} {n I L O kd q : Nat} {nm : Nat → List Nat} {z : (Nat → List Nat) × Nat} (hend : ∀ q, n ≤ q → h q = 256) (hle : ∀ q, h q ≤ 256) (hq : q ≤ n) (hz : pSym h I L O kd nm q = .ok z) : ∃ (s : Nat) (w : List Nat), s < 8 * kd + cntOf I L O kd ∧ 8 * kd ≤ s ∧ nm s = [] ∧ ¬ w = [] ∧ w.length ≤ 40 ∧ (∀ x, x ∈ w → x < 256 ∧ x ≠ 10) ∧ z.1 = va_up nm s w ∧ z.2 ≤ n := by
  obtain ⟨a, h1, h2⟩ := eB_ok hz
  obtain ⟨-, -, a3⟩ := pNum_ok hend h1
  by_cases g : a.1 < cntOf I L O kd ∧ nm (8 * kd + a.1) = []
  · rw [if_pos g] at h2
    obtain ⟨r, h3, h4⟩ := eB_ok h2
    obtain ⟨-, d2, -⟩ := pExp_ok hend (by decide) h3
    obtain ⟨w1, w2, w3⟩ := pName_ok hend hle 40 [] r d2
    generalize pNameG h 40 [] r = w at *
    by_cases g2 : w.1 = []
    · simp only [if_pos g2] at h4; cases h4
    · simp only [if_neg g2] at h4
      obtain ⟨r2, h5, h6⟩ := eB_ok h4
      obtain ⟨-, e2, -⟩ := pExp_ok hend (by decide) h5
      cases h6
      exact ⟨8 * kd + a.1, w.1, by omega, by omega, g.2, g2, by simpa using w2, w3 (fun x hx => by cases hx), rfl, e2⟩
  · rw [if_neg g] at h2; cases h2
theorem kindOf_lt {c kd : Nat} (h : kindOf c = some kd) : kd < 3 := by
  unfold kindOf at h
  split at h
  · cases h; decide
  · split at h
    · cases h; decide
    · split at h
      · cases h; decide
      · cases h
theorem s_syms {IT IC : NI} {AT A0 : NNI} {h : Nat → Nat} {n M I L O A : Nat} {fk fp : Int32} {Q : Int32 → NI → NNI → Prop} {X : NI → NNI → Prop} (t : TW IT AT h n) (hC : HC IC M I L O A) (hI : I ≤ 6) (hL : L ≤ 7) (hO : O ≤ 8) (hX : ∀ I A, Q 1 I A → X I A) :
    ∀ (j c : Nat) (nm : Nat → List Nat) (q st v : Nat) (IU : NI) (AC : NNI), c + j = 25 → q ≤ n → CU IU q st v fk fp → NA AC nm → FN A0 AC → Lk (pSyms h I L O j nm q) (fun z => ∀ U A q st v, CU U q st v fk fp → NA A z → FN A0 A → Q 1 U A) (fun e => ∀ U A, CE U e → FN A0 A → Q 0 U A) → wp_R_readSymbols_L2 IT AT IC Q X (j + 1) IU AC (nI c) := by
  intro j
  induction j with
  | zero =>
    intro c nm q st v IU AC hl hq hU hN hF k
    unfold wp_R_readSymbols_L2
    exact pk_lt 24 c (fun _ => hX _ _ (k _ _ _ _ _ hU hN hF)) (fun g => absurd g (by omega))
  | succ j ih =>
    intro c nm q st v IU AC hl hq hU hN hF k
    unfold wp_R_readSymbols_L2
    rw [pSyms] at k
    refine pk_lt 24 c (fun g => absurd g (by omega)) (fun _ => s_peek t hq hU.1 ⟨fun g => ?_, fun g => ?_⟩)
    · rw [if_pos ((hv_neg (t.le q)).mp g)] at k
      exact k _ _ _ _ _ hU hN hF
    · have g3 : ¬ h q = 256 := fun z => g ((hv_neg (t.le q)).mpr z)
      have hlt := t.lt g3
      rw [if_neg g3] at k
      refine ⟨fun g2 => ?_, fun g2 => ?_⟩
      · rw [if_pos ((hv_eq (d := 99) (t.le q) (by decide)).mp g2), Lk_eB] at k
        rw [hU.1, nI_1]
        exact s_expect (c := 10) (q := q + 1) (st := st) (v := v) (fk := fk) (fp := fp) t hlt ⟨rfl, hU.2.1, hU.2.2.1, hU.2.2.2.1, hU.2.2.2.2⟩ (by decide) (Lk_imp k (fun r2 hr2 k I4 hI4 => ⟨rfl, k _ _ _ _ _ hI4 hN hF⟩) (fun e he k I hI => ⟨rfl, k _ _ hI hF⟩))
      · rw [if_neg (fun z => g2 ((hv_eq (d := 99) (t.le q) (by decide)).mpr z))] at k
        refine s_kind (t.le q) ⟨fun g4 => ?_, fun kd g4 => ?_⟩
        · rw [g4] at k
          unfold wp_R_readSymbol
          refine ⟨fun _ => ?_, fun g => absurd rfl g⟩
          rw [hU.1]
          exact s_fail (k := 1) (fun I hI => ⟨rfl, fun _ => k _ _ hI hF, fun c => absurd rfl c⟩)
        · rw [g4] at k
          simp only [Lk_eB] at k
          refine s_symbol (A0 := A0) t hC hI hL hO hlt hU hN hF (kindOf_lt g4) (Lk_imp k (fun z hz k U A st v hU hN hF => ⟨fun c => absurd c (by decide), fun _ => ?_⟩) (fun e he k I A hI hF => ⟨fun _ => k _ _ hI hF, fun c => absurd rfl c⟩))
          obtain ⟨s, w, -, -, -, -, -, -, -, hzn⟩ := pSym_ok t.2.2.2 t.le hlt hz
          rw [nI_1]
          exact ih (c + 1) z.1 z.2 _ _ _ _ (by omega) hzn hU hN hF k
theorem s_known {A : NNI} {dl : List Nat} {x : Nat} {Q : Int32 → Prop} (hD : DT A dl) (hx : x ≤ 801) (k : Q (if x < 2 ∨ x / 2 ∈ dl then 1 else 0)) : wp_C_isKnown A (nI x) Q := by
  unfold wp_C_isKnown
  rw [shr1 (by omega), nI_clamp (n := x / 2) (by omega)]
  refine pk_lt x 2 (fun g => ?_) (fun g => ⟨pk_in (x / 2) 401 (by omega), ?_⟩)
  · rw [if_pos (Or.inl g)] at k; exact k
  · rw [hD (x / 2) (by omega)]
    by_cases g2 : x / 2 ∈ dl
    · rw [if_pos (Or.inr g2)] at k
      rw [if_pos g2]
      exact ⟨fun c => absurd c (by decide), fun _ => k⟩
    · rw [if_neg (fun z => z.elim (fun z => absurd z (by omega)) g2)] at k
      rw [if_neg g2]
      exact ⟨fun _ => k, fun c => absurd rfl c⟩
theorem s_uses {IR : NI} {AR A : NNI} {dl : List Nat} {us : List (Nat × Nat)} {Q : Int32 → NI → Prop} {X : NI → Prop} (hR : UR IR AR us) (hD : DT A dl) (hus : ∀ u, u ∈ us → u.1 ≤ 801) :
    ∀ (j c : Nat) (IU : NI), c + j = us.length → Lk (pKnown dl (us.drop c)) (fun _ => X IU) (fun e => ∀ I, CE I e → Q 0 I) → wp_R_checkUses_L2 IR AR A Q X (j + 1) IU (nI c) := by
  intro j
  have hR1 := hR.1
  induction j with
  | zero =>
    intro c IU hl k
    unfold wp_R_checkUses_L2
    rw [List.drop_eq_nil_of_le (by omega)] at k
    exact pk_le us.length c (fun _ => k) (fun g => absurd g (by omega)) hR.2.1 rfl
  | succ j ih =>
    intro c IU hl k
    unfold wp_R_checkUses_L2
    have hc : c < us.length := by omega
    rw [List.drop_eq_getElem_cons hc, pKnown] at k
    have hg : us.getD c (0, 0) = us[c] := by simp [List.getD, hc]
    refine pk_le us.length c (fun g => absurd g (by omega)) (fun _ => ⟨pk_in c 615 (by omega), ?_⟩) hR.2.1 rfl
    obtain ⟨r1, r2⟩ := hR.2.2 c hc
    rw [nI_clamp (n := c) (by omega), r1, r2, hg, nI_1]
    refine s_known hD (hus _ (List.getElem_mem hc)) ?_
    by_cases g : us[c].1 < 2 ∨ us[c].1 / 2 ∈ dl
    · rw [if_pos g] at k ⊢
      exact ⟨fun c => absurd c (by decide), fun _ => ih (c + 1) IU (by omega) k⟩
    · rw [if_neg g] at k ⊢
      exact ⟨fun _ => s_fail (k := 5) (fun I hI => ⟨rfl, k I hI⟩), fun c => absurd rfl c⟩
