/-! binary: nexts, deltas, ands; both bodies -/
theorem m_latB {I0 : NI} {A0 : NNI} {h : Nat → Nat} {n M I L O Aa : Nat} {vs ws : List Nat} {nm : Nat → List Nat} {Q X : NI → NNI → Prop} (t : TM I0 A0 h n) (hM : M ≤ 400) (hL : L ≤ 7) :
    ∀ (j : Nat) (us : List (Nat × Nat)) (q : Nat) (Im : NI) (A : NNI), us.length + j = L → q ≤ n → MG I0 Im q → DR A0 A M I L O Aa vs ws us nm → Lk (pUses h M j us q) (fun z => ∀ I' A', MG I0 I' z.2 → DR A0 A' M I L O Aa vs ws z.1 nm → X I' A') (fun e => ∀ I' A', MB I0 n I' e → KA A0 A' → X I' A') → wp_M_takeBinary_L180 Q X (j + 1) Im A (nI us.length) := by
  intro j
  induction j with
  | zero =>
    intro us q Im A hl hq hG hD k
    unfold wp_M_takeBinary_L180
    exact pk_le L us.length (fun _ => k _ _ hG hD) (fun g => absurd g (by omega)) hD.2.1.2.2.1 rfl
  | succ j ih =>
    intro us q Im A hl hq hG hD k
    unfold wp_M_takeBinary_L180
    refine pk_le L us.length (fun g => absurd g (by omega)) (fun _ => ⟨fun _ => ?_, fun g => absurd hG.2.2.1 g⟩) hD.2.1.2.2.1 rfl
    rw [nI_1]
    refine m_next (x := .ok q) t hD.1 hD.2.1.1 hM ⟨hq, hG⟩ (by omega) (fun r I2 hX2 hr hK2 => ?_)
    have bad : ∀ e, MB I0 n I2 e → (∀ I' A', MB I0 n I' e → KA A0 A' → X I' A') → ∀ B, KA A0 B → wp_M_takeBinary_L180 Q X (j + 1) I2 B (nI (us.length + 1)) := fun e hB k B hKB => by
      unfold wp_M_takeBinary_L180
      exact ⟨fun _ => k _ _ hB hKB, fun _ => ⟨fun g => absurd g hB.ne, fun _ => k _ _ hB hKB⟩⟩
    rw [pUses] at k
    cases h1 : pLit h M q with
    | error e =>
      simp only [h1, eB_k, eB_e] at k hX2
      exact bad e hX2 k _ hK2
    | ok z =>
    cases h2 : pExp h 10 z.2 with
    | error e =>
      simp only [h1, h2, eB_k, eB_e] at k hX2
      exact bad e hX2 k _ hK2
    | ok r2 =>
      simp only [h1, h2, eB_k, eB_e] at k hX2
      have er := hr q z rfl h1
      have hlen : us.length + 1 = (us ++ [(z.1, q)]).length := by simp
      rw [hlen]
      refine ih (us ++ [(z.1, q)]) r2 _ _ (by rw [← hlen]; omega) hX2.1 hX2.2 (DR_use hD hK2 (fun a z1 z2 z3 z4 z5 z6 z7 z8 => by rw [va_up_ne _ _ z1, va_up_ne _ _ z5]) ?_ ?_) k
      · exact UM_push hD.2.2.2.2.1 (fun k hk => pk_un (by omega)) (fun k hk => rfl) (fun k hk => rfl) (fun k hk => rfl) (fun _ => pk_us.trans er) (fun g => absurd g (by omega)) (fun j g => absurd g (by omega)) (fun j g => absurd g (by omega))
      · exact UP_push hD.2.2.2.2.2.1 (fun k hk => pk_un (by omega)) (fun k hk => rfl) (fun k hk => rfl) (fun k hk => rfl) (fun _ => pk_us.trans hG.2.1) (fun g => absurd g (by omega)) (fun j g => absurd g (by omega)) (fun j g => absurd g (by omega))
theorem sev_add {i v c : Nat} (hi : i < 3) (hc : c < 256) : nI v + ((nI c &&& (127 : Int32)) <<< (((7 : Int32) * nI i) &&& 31)) = nI (v + c % 128 * 128 ^ i) := by
  have e1 : nI c &&& (127 : Int32) = nI (c % 128) := pk_andN (by omega) 7 (by decide)
  have h2 : c % 128 < 128 := Nat.mod_lt _ (by decide)
  rw [e1]
  match i, hi with
  | 0, _ => rw [pk_shlN _ 0 (by decide) (by omega), nI_add]
  | 1, _ => rw [pk_shlN _ 7 (by decide) (by omega), nI_add]
  | 2, _ => rw [pk_shlN _ 14 (by decide) (by omega), nI_add]
theorem hv_ge0 {c : Nat} (h : c ≤ 256) : 0 ≤ hv c ↔ ¬ c = 256 := by
  by_cases g : c = 256
  · subst g
    exact ⟨fun z => absurd z (by decide), fun z => absurd rfl z⟩
  · rw [hv_nI (by omega)]
    exact ⟨fun _ => g, fun _ => nI_pos' (by omega)⟩
theorem m_sevG {I0 : NI} {A0 A : NNI} {h : Nat → Nat} {n : Nat} {v1 v2 v3 : Int32} {Q : Int32 → NI → Prop} {X : NI → Int32 → Int32 → Int32 → Int32 → Int32 → Prop} (t : TM I0 A0 h n) (hA : KA A0 A) :
    ∀ (j i v q : Nat) (I : NI), i + j = 3 → q ≤ n → v < 128 ^ i → MG I0 I q → (∀ z I', pSevG h j i v q = .ok z → MG I0 I' z.2 → X I' v1 v2 v3 (nI z.1) 0) → (∀ e I' d, pSevG h j i v q = .error e → MB I0 n I' e → X I' v1 v2 v3 d 0) → (∀ q' I' d, pSevG h j i v q = .error (1, q') → q' ≤ n → MG I0 I' q' → X I' v1 v2 v3 d 1) → wp_M_delta_L14 A Q X (j + 1) I v1 v2 v3 (nI v) 1 (nI i) := by
  intro j
  induction j with
  | zero =>
    intro i v q I hij hq hvv hG kok kbad kend
    unfold wp_M_delta_L14
    exact pk_le 3 i (fun _ => kend q I _ rfl hq hG) (fun g => absurd g (by omega))
  | succ j ih =>
    intro i v q I hij hq hvv hG kok kbad kend
    unfold wp_M_delta_L14
    refine pk_le 3 i (fun g => absurd g (by omega)) (fun _ => ⟨fun g => absurd g (by decide), fun _ => ⟨fun _ => ?_, fun g => absurd hG.2.2.1 g⟩⟩)
    have stop : ∀ (I' : NI) (d : Int32), X I' v1 v2 v3 d 0 → wp_M_delta_L14 A Q X (j + 1) I' v1 v2 v3 d 0 (nI i + 1) := fun I' d hx => by
      unfold wp_M_delta_L14
      exact ⟨fun _ => hx, fun _ => ⟨fun _ => hx, fun z => absurd rfl z⟩⟩
    refine m_here t hA hG.1 hq hG.2.1 ⟨fun g => ?_, fun g => ?_⟩
    · have g2 : ¬ h q = 256 := (hv_ge0 (t.le q)).mp g
      have hlt := t.lt g2
      have hc := (t.2.2.1 q hlt).2
      rw [pSevG, if_neg g2] at kok kbad kend
      rw [hv_nI hc]
      unfold wp_M_delta_b52
      rw [sev_add (by omega) hc]
      have hG2 : MG I0 (va_up I 4 (I 4 + 1)) (q + 1) := ⟨hG.1.u (by omega), by show I 4 + 1 = _; rw [hG.2.1, nI_1], hG.2.2⟩
      refine pk_le (h q) 127 (fun g3 => ?_) (fun g3 => ?_)
      · unfold wp_M_delta_b82
        refine ⟨fun _ => stop _ _ ?_, fun z => absurd hG.2.2.1 z⟩
        rw [if_pos (by omega)] at kok
        have := kok _ _ rfl hG2
        rw [show h q % 128 = h q by omega]
        exact this
      · unfold wp_M_delta_b82
        refine ⟨fun _ => ?_, fun z => absurd hG.2.2.1 z⟩
        rw [if_neg (by omega)] at kok kbad kend
        rw [nI_1, show h q % 128 = h q - 128 by omega]
        refine ih (i + 1) _ (q + 1) _ (by omega) hlt ?_ hG2 kok kbad kend
        have hi : i = 0 ∨ i = 1 ∨ i = 2 := by omega
        rcases hi with rfl | rfl | rfl <;> omega
    · have g2 : h q = 256 := Classical.byContradiction fun z => g ((hv_ge0 (t.le q)).mpr z)
      rw [pSevG, if_pos g2] at kbad
      refine m_wrong (ek := 1) (ep := q) hG hq rfl hG.2.1 (by decide) (fun I' hB => ?_)
      unfold wp_M_delta_b52
      have e1 : hv (h q) = -1 := by rw [g2]; rfl
      rw [e1]
      refine ⟨fun _ => ?_, fun z => absurd (by decide) z⟩
      unfold wp_M_delta_b82
      exact ⟨fun z => absurd z hB.ne, fun _ => stop _ _ (kbad _ _ _ rfl hB)⟩
theorem m_del {I0 Im : NI} {A0 A : NNI} {h : Nat → Nat} {n q lo hi : Nat} {x1 x2 : Int32} {Q : Int32 → NI → Prop} (t : TM I0 A0 h n) (hA : KA A0 A) (hq : q ≤ n) (hG : MG I0 Im q) (h1 : x1 = nI hi) (h2 : x2 = nI lo) (hlo : lo ≤ 10) (hhi : hi ≤ 9999)
    (k : ∀ r I', MX I0 n I' (eB (pDel h lo hi q) fun z => .ok z.2) → (∀ z, pDel h lo hi q = .ok z → r = nI (hi - z.1)) → Q r I') : wp_M_delta Im A x1 x2 Q := by
  unfold wp_M_delta
  have badk : ∀ e I' r, pDel h lo hi q = .error e → MB I0 n I' e → Q r I' := fun e I' r hp hB => k r I' (by rw [hp]; exact hB) (fun z hz => by rw [hp] at hz; cases hz)
  have bad119 : ∀ e I' d, pDel h lo hi q = .error e → MB I0 n I' e → wp_M_delta_b119 A Q I' x1 x2 (Im 4) d := fun e I' d hp hB => by
    unfold wp_M_delta_b119
    exact ⟨fun z => absurd z hB.ne, fun _ => badk e I' _ hp hB⟩
  refine ⟨4, m_sevG (A0 := A0) t hA 3 0 0 q Im rfl hq (by decide) hG (fun z I' hz hG' => ?_) (fun e I' d he hB => ?_) (fun q' I' d he hq' hG' => ?_)⟩
  · refine ⟨fun _ => ?_, fun z => absurd rfl z⟩
    obtain ⟨z1, -, z3⟩ := pSev_ok t.2.2.2 t.le 3 0 0 q z rfl (by decide) hz
    have hp : pDel h lo hi q = if lo ≤ z.1 ∧ z.1 ≤ hi then .ok z else .error (3, q) := by rw [pDel, hz]; rfl
    have w : ¬ (lo ≤ z.1 ∧ z.1 ≤ hi) → wp_M_delta_b138 A Q I' x1 (Im 4) (nI z.1) := fun g => by
      rw [if_neg g] at hp
      unfold wp_M_delta_b138
      exact m_wrong (ek := 3) (ep := q) hG' (z3 hq) rfl hG.2.1 (by decide) (fun I2 hB => badk _ I2 _ hp hB)
    unfold wp_M_delta_b119
    refine ⟨fun _ => pk_lt z.1 lo (fun g => w (by omega)) (fun g1 => pk_le z.1 hi (fun g2 => ?_) (fun g2 => w (by omega)) rfl h1) rfl h2, fun z => absurd hG'.2.2.1 z⟩
    rw [if_pos ⟨g1, g2⟩] at hp
    refine k _ _ (by rw [hp]; exact ⟨z3 hq, hG'⟩) (fun z2 hz2 => ?_)
    rw [hp] at hz2
    cases hz2
    rw [h1, pk_sub g2]
  · have hp : pDel h lo hi q = .error e := by rw [pDel, he]; rfl
    exact ⟨fun _ => bad119 e I' d hp hB, fun z => absurd rfl z⟩
  · have hp : pDel h lo hi q = .error (1, q') := by rw [pDel, he]; rfl
    exact ⟨fun z => absurd z (by decide), fun _ => m_wrong (ek := 1) (ep := q') hG' hq' rfl hG'.2.1 (by decide) (fun I2 hB => bad119 _ I2 d hp hB)⟩
theorem m_andB {I0 : NI} {A0 : NNI} {h : Nat → Nat} {n M I L O Aa : Nat} {ws : List Nat} {nm : Nat → List Nat} {Q X : NI → NNI → Prop} (t : TM I0 A0 h n) (hI : I ≤ 6) (hL : L ≤ 7) (hO : O ≤ 8) (hA3 : Aa ≤ 300) :
    ∀ (j c : Nat) (us : List (Nat × Nat)) (q : Nat) (Im : NI) (A : NNI), c + j = Aa → us.length = L + O + 2 * c → q ≤ n → MG I0 Im q → DR A0 A M I L O Aa (List.range' 1 (I + L + c)) ws us nm → Lk (pBinAnds h j (I + L + c + 1) us q) (fun z => ∀ I' A', MG I0 I' z.2 → DR A0 A' M I L O Aa (List.range' 1 (I + L + Aa)) ws z.1 nm → X I' A') (fun e => ∀ I' A', MB I0 n I' e → KA A0 A' → X I' A') → wp_M_takeBinary_L215 Q X (j + 1) Im A (nI c) := by
  intro j
  induction j with
  | zero =>
    intro c us q Im A hl hul hq hG hD k
    unfold wp_M_takeBinary_L215
    have hc : c = Aa := by omega
    exact pk_le Aa c (fun _ => k _ _ hG (hc ▸ hD)) (fun g => absurd g (by omega)) hD.2.1.2.2.2.2 rfl
  | succ j ih =>
    intro c us q Im A hl hul hq hG hD k
    unfold wp_M_takeBinary_L215
    refine pk_le Aa c (fun g => absurd g (by omega)) (fun _ => ⟨fun _ => ?_, fun g => absurd hG.2.2.1 g⟩) hD.2.1.2.2.2.2 rfl
    have es : (2 : Int32) * (A 2 ((6 : Int32)).toNatClampNeg + A 2 ((7 : Int32)).toNatClampNeg + nI c + 1) = nI (2 * (I + L + c + 1)) := by
      show (2 : Int32) * (A 2 6 + A 2 7 + nI c + 1) = _
      rw [show A 2 6 = nI I from hD.2.1.2.1, show A 2 7 = nI L from hD.2.1.2.2.1, nI_add, nI_add, nI_1]
      exact pk_mul 2 _
    rw [es, nI_ad 300 300 c rfl, nI_clamp (n := c + 300) (by omega), nI_clamp (n := c) (by omega), nI_1, pk_us]
    refine ⟨pk_in (c + 300) 600 (by omega), pk_in c 300 (by omega), ?_⟩
    have hK1 : KA A0 (va_up A 7 (upd (A 7) (c + 300) (nI (2 * (I + L + c + 1))))) := hD.1.up (a := 7) (Nat.le_add_left 300 _)
    have hK2 : KA A0 (va_up (va_up A 7 (upd (A 7) (c + 300) (nI (2 * (I + L + c + 1))))) 14 (upd (A 14) c (Im 4))) := hK1.z (by decide)
    refine m_del (lo := 1) (hi := 2 * (I + L + c + 1)) t hK2 hq hG rfl rfl (by omega) (by omega) (fun r3 I3 hX3 hr3 => ?_)
    rw [pk_us]
    have hK3 : KA A0 (va_up (va_up (va_up A 7 (upd (A 7) (c + 300) (nI (2 * (I + L + c + 1))))) 14 (upd (A 14) c (Im 4))) 8 (upd (A 8) (c + 300) r3)) := hK2.up (a := 8) (Nat.le_add_left 300 _)
    have hK4 : KA A0 (va_up (va_up (va_up (va_up A 7 (upd (A 7) (c + 300) (nI (2 * (I + L + c + 1))))) 14 (upd (A 14) c (Im 4))) 8 (upd (A 8) (c + 300) r3)) 15 (upd (A 15) c (I3 4))) := hK3.z (by decide)
    have hK5 : ∀ r5, KA A0 (va_up (va_up (va_up (va_up (va_up A 7 (upd (A 7) (c + 300) (nI (2 * (I + L + c + 1))))) 14 (upd (A 14) c (Im 4))) 8 (upd (A 8) (c + 300) r3)) 15 (upd (A 15) c (I3 4))) 9 (upd (A 9) (c + 300) r5)) := fun r5 => hK4.up (a := 9) (Nat.le_add_left 300 _)
    have bad : ∀ e I6, MB I0 n I6 e → (∀ I' A', MB I0 n I' e → KA A0 A' → X I' A') → ∀ B, KA A0 B → wp_M_takeBinary_L215 Q X (j + 1) I6 B (nI (c + 1)) := fun e I6 hB k B hKB => by
      unfold wp_M_takeBinary_L215
      exact ⟨fun _ => k _ _ hB hKB, fun _ => ⟨fun g => absurd g hB.ne, fun _ => k _ _ hB hKB⟩⟩
    rw [pBinAnds] at k
    cases h1 : pDel h 1 (2 * (I + L + c + 1)) q with
    | error e =>
      simp only [h1, eB_k, eB_e] at k hX3
      have hB : MB I0 n I3 e := hX3
      exact ⟨fun g => absurd g hB.ne, fun _ => bad e I3 hB k _ (hK5 0)⟩
    | ok z =>
      simp only [h1, eB_k, eB_e] at k hX3
      obtain ⟨hz, hG3⟩ : z.2 ≤ n ∧ MG I0 I3 z.2 := hX3
      obtain ⟨⟨z1, z2⟩, -, z4⟩ := pDel_ok t.2.2.2 t.le h1
      have er3 := hr3 z h1
      refine ⟨fun _ => ?_, fun g => absurd hG3.2.2.1 g⟩
      refine m_del (lo := 0) (hi := 2 * (I + L + c + 1) - z.1) t hK4 hz hG3 er3 rfl (by omega) (by omega) (fun r5 I5 hX5 hr5 => ?_)
      cases h2 : pDel h 0 (2 * (I + L + c + 1) - z.1) z.2 with
      | error e =>
        simp only [h2, eB_k, eB_e] at k hX5
        exact bad e I5 hX5 k _ (hK5 r5)
      | ok y =>
        simp only [h2, eB_k, eB_e] at k hX5
        have er5 := hr5 y h2
        have hlr : (List.range' 1 (I + L + c)).length = I + L + c := List.length_range'
        have hD2 : DR A0 (va_up A 7 (upd (A 7) (c + 300) (nI (2 * (I + L + c + 1))))) M I L O Aa (List.range' 1 (I + L + (c + 1))) ws us nm := by
          obtain ⟨-, d2, d3, d4, d5, d6, d7⟩ := hD
          refine ⟨hK1, HM_same d2 rfl, ?_, KD_same d4 rfl, UM_same d5 rfl rfl rfl rfl, UP_same d6 rfl rfl rfl rfl, NM_same d7 rfl rfl⟩
          have e3 : List.range' 1 (I + L + (c + 1)) = List.range' 1 (I + L + c) ++ [I + L + c + 1] := by
            rw [show I + L + (c + 1) = I + L + c + 1 by omega, List.range'_concat]
            congr 2
            omega
          rw [e3]
          exact VL_push d3 (fun k hk => rfl) (fun k hk => rfl) (fun k hk => pk_un (by omega)) (fun g => absurd g (by omega)) (fun _ g => absurd g (by omega)) (fun _ => by rw [hlr, show I + L + c - I - L = c by omega]; exact pk_us)
        have hlen : (us ++ [(2 * (I + L + c + 1) - z.1, q)]).length = L + O + 2 * c + 1 := by rw [List.length_append, List.length_singleton]; omega
        have hU1 : UM 1 L O (va_up (va_up (va_up (va_up A 7 (upd (A 7) (c + 300) (nI (2 * (I + L + c + 1))))) 14 (upd (A 14) c (Im 4))) 8 (upd (A 8) (c + 300) r3)) 15 (upd (A 15) c (I3 4))) (us ++ [(2 * (I + L + c + 1) - z.1, q)]) :=
          UM_push hD2.2.2.2.2.1 (fun k hk => rfl) (fun k hk => rfl) (fun k hk => pk_un (by omega)) (fun k hk => rfl) (fun g => absurd g (by omega)) (fun _ g => absurd g (by omega)) (fun j g => by rw [show j = c by omega]; exact pk_us.trans er3) (fun j g => absurd g (by omega))
        have hP1 : UP L O (va_up (va_up (va_up A 7 (upd (A 7) (c + 300) (nI (2 * (I + L + c + 1))))) 14 (upd (A 14) c (Im 4))) 8 (upd (A 8) (c + 300) r3)) (us ++ [(2 * (I + L + c + 1) - z.1, q)]) :=
          UP_push hD2.2.2.2.2.2.1 (fun k hk => rfl) (fun k hk => rfl) (fun k hk => pk_un (by omega)) (fun k hk => rfl) (fun g => absurd g (by omega)) (fun _ g => absurd g (by omega)) (fun j g => by rw [show j = c by omega]; exact pk_us.trans hG.2.1) (fun j g => absurd g (by omega))
        rw [app2] at k
        refine ih (c + 1) _ y.2 _ _ (by omega) (by rw [List.length_append, List.length_singleton]; omega) hX5.1 hX5.2 (DR_use hD2 (hK5 r5) (fun a z1 z2 z3 z4 z5 z6 z7 z8 => by rw [va_up_ne _ _ z4, va_up_ne _ _ z8, va_up_ne _ _ z3, va_up_ne _ _ z7]) ?_ ?_) k
        · exact UM_push hU1 (fun k hk => rfl) (fun k hk => rfl) (fun k hk => rfl) (fun k hk => pk_un (by omega)) (fun g => absurd g (by omega)) (fun _ g => absurd g (by omega)) (fun j g => absurd g (by omega)) (fun j g => by rw [show j = c by omega]; exact pk_us.trans er5)
        · exact UP_push hP1 (fun k hk => rfl) (fun k hk => rfl) (fun k hk => rfl) (fun k hk => pk_un (by omega)) (fun g => absurd g (by omega)) (fun _ g => absurd g (by omega)) (fun j g => absurd g (by omega)) (fun j g => by rw [show j = c by omega]; exact pk_us.trans hG3.2.1)
/-! both bodies -/
theorem m_text {I0 Im : NI} {A0 A : NNI} {h : Nat → Nat} {n M I L O Aa q : Nat} {nm : Nat → List Nat} {Q : NI → NNI → Prop} (t : TM I0 A0 h n) (hM : M ≤ 400) (hI : I ≤ 6) (hL : L ≤ 7) (hO : O ≤ 8) (hA3 : Aa ≤ 300) (hq : q ≤ n) (hG : MG I0 Im q) (hD : DR A0 A M I L O Aa [] [] [] nm)
    (k : Lk (pBody h false M I L O Aa q) (fun z => ∀ I' A', MG I0 I' z.2.2 → DR A0 A' M I L O Aa z.1 z.1 z.2.1 nm → Q I' A') (fun e => ∀ I' A', MB I0 n I' e → KA A0 A' → Q I' A')) : wp_M_takeText Im A Q := by
  have hend := t.2.2.2
  unfold wp_M_takeText
  have hp : pBody h false M I L O Aa q = eB (pIns h M I [] q) fun a => eB (pLats h M L a.1 [] a.2) fun b => eB (pUses h M O b.2.1 b.2.2) fun c => pAnds h M Aa b.1 c.1 c.2 := rfl
  rw [hp, Lk_eB] at k
  have bL : ∀ e I' A', MB I0 n I' e → KA A0 A' → (∀ I' A', MB I0 n I' e → KA A0 A' → Q I' A') → ∃ m105, wp_M_takeText_L105 Q (fun I_M_43 A_M_44 => Q I_M_43 A_M_44) m105 I' A' (0 : Int32) := fun e I' A' hB hK k => by
    refine ⟨1, ?_⟩
    unfold wp_M_takeText_L105
    exact ⟨fun _ => k _ _ hB hK, fun _ => ⟨fun g => absurd g hB.ne, fun _ => k _ _ hB hK⟩⟩
  have bO : ∀ e I' A', MB I0 n I' e → KA A0 A' → (∀ I' A', MB I0 n I' e → KA A0 A' → Q I' A') → wp_M_takeOutputs I' A' (fun I_M_23 A_M_24 => ∃ m105, wp_M_takeText_L105 Q (fun I_M_43 A_M_44 => Q I_M_43 A_M_44) m105 I_M_23 A_M_24 (0 : Int32)) := fun e I' A' hB hK k => by
    unfold wp_M_takeOutputs
    refine ⟨1, ?_⟩
    unfold wp_M_takeOutputs_L2
    exact ⟨fun _ => bL e _ _ hB hK k, fun _ => ⟨fun g => absurd g hB.ne, fun _ => bL e _ _ hB hK k⟩⟩
  refine ⟨I + 1, m_insT t hM hI I [] q Im A (by simp) hq hG hD (Lk_imp k (fun a ha k I1 A1 hG1 hD1 => ?_) (fun e he k I1 A1 hB hK => ?_))⟩
  · obtain ⟨a1, a2, a3, a4⟩ := pIns_ok hend I [] q a hq List.nodup_nil (fun v hv => absurd hv List.not_mem_nil) ha
    rw [List.length_nil] at a1
    rw [Lk_eB] at k
    refine ⟨L + 1, m_latT t hM hI hL L a.1 [] a.2 I1 A1 (by simp) (by rw [a1]; simp) a4 hG1 hD1 (Lk_imp k (fun b hb k I2 A2 hG2 hD2 => ?_) (fun e he k I2 A2 hB hK => bO e _ _ hB hK k))⟩
    obtain ⟨b1, b2, b3, b4, b5, b6⟩ := pLats_ok hend L _ _ _ b a4 a2 a3 (fun u hu => absurd hu List.not_mem_nil) hb
    rw [List.length_nil] at b4
    rw [Lk_eB] at k
    unfold wp_M_takeOutputs
    refine ⟨O + 1, m_outs t hM hL hO O 0 b.2.1 b.2.2 I2 A2 (by omega) (by omega) b6 hG2 hD2 (Lk_imp k (fun c hc k I3 A3 hG3 hD3 => ?_) (fun e he k I2 A2 hB hK => bL e _ _ hB hK k))⟩
    obtain ⟨c1, c2, c3⟩ := pUses_ok hend O _ _ c b6 b5 hc
    exact ⟨Aa + 1, m_andT t hM hI hL hO hA3 Aa 0 b.1 c.1 c.2 I3 A3 (by omega) (by omega) (by omega) c3 hG3 hD3 k⟩
  · refine ⟨1, ?_⟩
    unfold wp_M_takeText_L49
    exact ⟨fun _ => bO e _ _ hB hK k, fun _ => ⟨fun g => absurd g hB.ne, fun _ => bO e _ _ hB hK k⟩⟩
theorem m_binary {I0 Im : NI} {A0 A : NNI} {h : Nat → Nat} {n M I L O Aa q : Nat} {nm : Nat → List Nat} {Q : NI → NNI → Prop} (t : TM I0 A0 h n) (hM : M ≤ 400) (hI : I ≤ 6) (hL : L ≤ 7) (hO : O ≤ 8) (hA3 : Aa ≤ 300) (hMe : M = I + L + Aa) (hq : q ≤ n) (hG : MG I0 Im q) (hD : DR A0 A M I L O Aa [] [] [] nm)
    (k : Lk (pBody h true M I L O Aa q) (fun z => ∀ I' A', MG I0 I' z.2.2 → DR A0 A' M I L O Aa z.1 z.1 z.2.1 nm → Q I' A') (fun e => ∀ I' A', MB I0 n I' e → KA A0 A' → Q I' A')) : wp_M_takeBinary Im A Q := by
  have hend := t.2.2.2
  unfold wp_M_takeBinary
  have hp : pBody h true M I L O Aa q = eB (pUses h M L [] q) fun z => eB (pUses h M O z.1 z.2) fun y => eB (pBinAnds h Aa (I + L + 1) y.1 y.2) fun x => .ok (List.range' 1 (I + L + Aa), x.1, x.2) := rfl
  rw [hp, Lk_eB] at k
  have bL : ∀ e I' A', MB I0 n I' e → KA A0 A' → (∀ I' A', MB I0 n I' e → KA A0 A' → Q I' A') → ∃ m215, wp_M_takeBinary_L215 Q (fun I_M_39 A_M_40 => Q I_M_39 A_M_40) m215 I' A' (0 : Int32) := fun e I' A' hB hK k => by
    refine ⟨1, ?_⟩
    unfold wp_M_takeBinary_L215
    exact ⟨fun _ => k _ _ hB hK, fun _ => ⟨fun g => absurd g hB.ne, fun _ => k _ _ hB hK⟩⟩
  have bO : ∀ e I' A', MB I0 n I' e → KA A0 A' → (∀ I' A', MB I0 n I' e → KA A0 A' → Q I' A') → wp_M_takeOutputs I' A' (fun I_M_29 A_M_30 => ∃ m215, wp_M_takeBinary_L215 Q (fun I_M_39 A_M_40 => Q I_M_39 A_M_40) m215 I_M_29 A_M_30 (0 : Int32)) := fun e I' A' hB hK k => by
    unfold wp_M_takeOutputs
    refine ⟨1, ?_⟩
    unfold wp_M_takeOutputs_L2
    exact ⟨fun _ => bL e _ _ hB hK k, fun _ => ⟨fun g => absurd g hB.ne, fun _ => bL e _ _ hB hK k⟩⟩
  refine ⟨M + 1, m_all (I0 := I0) hM hI hL hMe M 0 Im A (by omega) (by rw [Nat.zero_min]; exact hD) (fun A1 hD1 => ?_)⟩
  refine ⟨L + 1, m_latB t hM hL L [] q Im A1 (by simp) hq hG hD1 (Lk_imp k (fun b hb k I2 A2 hG2 hD2 => ?_) (fun e he k I2 A2 hB hK => bO e _ _ hB hK k))⟩
  obtain ⟨b1, b2, b3⟩ := pUses_ok (M := M) hend L [] q b hq (fun u hu => absurd hu List.not_mem_nil) hb
  rw [List.length_nil] at b1
  rw [Lk_eB] at k
  unfold wp_M_takeOutputs
  refine ⟨O + 1, m_outs t hM hL hO O 0 b.1 b.2 I2 A2 (by omega) (by omega) b3 hG2 hD2 (Lk_imp k (fun c hc k I3 A3 hG3 hD3 => ?_) (fun e he k I2 A2 hB hK => bL e _ _ hB hK k))⟩
  obtain ⟨c1, c2, c3⟩ := pUses_ok hend O _ _ c b3 b2 hc
  rw [Lk_eB] at k
  refine ⟨Aa + 1, m_andB t hI hL hO hA3 Aa 0 c.1 c.2 I3 A3 (by omega) (by omega) c3 hG3 hD3 (Lk_imp k (fun d hd k I4 A4 hG4 hD4 => ?_) (fun e he k => k))⟩
  have e : List.range' 1 M = List.range' 1 (I + L + Aa) := by rw [hMe]
  exact k I4 A4 hG4 (by rw [e] at hD4; exact hD4)
