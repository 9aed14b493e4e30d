/-! the reference reads ands, and a binary body -/
theorem m_andT {I0 : NI} {A0 : NNI} {h : Nat → Nat} {n M I L O Aa : Nat} {nm : Nat → List Nat} {Q X : NI → NNI → Prop} (t : TM I0 A0 h n) (hM : M ≤ 400) (hI : I ≤ 6) (hL : L ≤ 7) (hO : O ≤ 8) (hA3 : Aa ≤ 300) :
    ∀ (j c : Nat) (vs : List Nat) (us : List (Nat × Nat)) (q : Nat) (Im : NI) (A : NNI), c + j = Aa → vs.length = I + L + c → us.length = L + O + 2 * c → q ≤ n → MG I0 Im q → DR A0 A M I L O Aa vs vs us nm → Lk (pAnds h M j vs us q) (fun z => ∀ I' A', MG I0 I' z.2.2 → DR A0 A' M I L O Aa z.1 z.1 z.2.1 nm → X I' A') (fun e => ∀ I' A', MB I0 n I' e → KA A0 A' → X I' A') → wp_M_takeText_L105 Q X (j + 1) Im A (nI c) := by
  intro j
  induction j with
  | zero =>
    intro c vs us q Im A hl hvl hul hq hG hD k
    unfold wp_M_takeText_L105
    exact pk_le Aa c (fun _ => k _ _ hG hD) (fun g => absurd g (by omega)) hD.2.1.2.2.2.2 rfl
  | succ j ih =>
    intro c vs us q Im A hl hvl hul hq hG hD k
    unfold wp_M_takeText_L105
    refine pk_le Aa c (fun g => absurd g (by omega)) (fun _ => ⟨fun _ => ?_, fun g => absurd hG.2.2.1 g⟩) hD.2.1.2.2.2.2 rfl
    refine m_defs t hD.1 hD.2.1.1 hM hD.2.2.2.1 hq hG (fun r I1 A1 hX1 hv hf hK1 => ?_)
    rw [nI_ad 300 300 c rfl, nI_clamp (n := c + 300) (by omega), nI_clamp (n := c) (by omega), nI_1]
    have hK2 : KA A0 (va_up A1 7 (upd (A1 7) (c + 300) r)) := hK1.up (a := 7) (Nat.le_add_left 300 _)
    have hM1 : A1 2 5 = nI M := by
      rw [hf 2 (by decide) (by decide)]
      exact hD.2.1.1
    refine ⟨pk_in (c + 300) 600 (by omega), m_take (c := 32) t hK2 hX1 (by decide) (fun I2 hX2 => ⟨pk_in c 300 (by omega), ?_⟩)⟩
    have hK3 : KA A0 (va_up (va_up A1 7 (upd (A1 7) (c + 300) r)) 14 (upd (A1 14) c (I2 4))) := hK2.z (by decide)
    refine m_lit t hK3 hM1 (by omega) hX2 (fun r3 I3 hX3 hr3 => ?_)
    have hK4 : KA A0 (va_up (va_up (va_up A1 7 (upd (A1 7) (c + 300) r)) 14 (upd (A1 14) c (I2 4))) 8 (upd (A1 8) (c + 300) r3)) := hK3.up (a := 8) (Nat.le_add_left 300 _)
    refine m_take (c := 32) t hK4 hX3 (by decide) (fun I4 hX4 => ?_)
    have hK5 : KA A0 (va_up (va_up (va_up (va_up A1 7 (upd (A1 7) (c + 300) r)) 14 (upd (A1 14) c (I2 4))) 8 (upd (A1 8) (c + 300) r3)) 15 (upd (A1 15) c (I4 4))) := hK4.z (by decide)
    refine m_lit t hK5 hM1 (by omega) hX4 (fun r5 I5 hX5 hr5 => ?_)
    have hK6 : KA A0 (va_up (va_up (va_up (va_up (va_up A1 7 (upd (A1 7) (c + 300) r)) 14 (upd (A1 14) c (I2 4))) 8 (upd (A1 8) (c + 300) r3)) 15 (upd (A1 15) c (I4 4))) 9 (upd (A1 9) (c + 300) r5)) := hK5.up (a := 9) (Nat.le_add_left 300 _)
    refine m_take (c := 10) t hK6 hX5 (by decide) (fun I6 hX6 => ?_)
    have bad : ∀ e, MB I0 n I6 e → (∀ I' A', MB I0 n I' e → KA A0 A' → X I' A') → ∀ B, KA A0 B → wp_M_takeText_L105 Q X (j + 1) I6 B (nI (c + 1)) := fun e hB k B hKB => by
      unfold wp_M_takeText_L105
      exact ⟨fun _ => k _ _ hB hKB, fun _ => ⟨fun g => absurd g hB.ne, fun _ => k _ _ hB hKB⟩⟩
    rw [pAnds] at k
    cases h1 : pDef h M vs q with
    | error e =>
      simp only [h1, eB_k, eB_e] at k hX6
      exact bad e hX6 k _ hK6
    | ok z =>
    cases h2 : pExp h 32 z.2 with
    | error e =>
      simp only [h1, h2, eB_k, eB_e] at k hX6
      exact bad e hX6 k _ hK6
    | ok r2 =>
    cases h3 : pLit h M r2 with
    | error e =>
      simp only [h1, h2, h3, eB_k, eB_e] at k hX6
      exact bad e hX6 k _ hK6
    | ok y =>
    cases h4 : pExp h 32 y.2 with
    | error e =>
      simp only [h1, h2, h3, h4, eB_k, eB_e] at k hX6
      exact bad e hX6 k _ hK6
    | ok r4 =>
    cases h5 : pLit h M r4 with
    | error e =>
      simp only [h1, h2, h3, h4, h5, eB_k, eB_e] at k hX6
      exact bad e hX6 k _ hK6
    | ok w =>
    cases h6 : pExp h 10 w.2 with
    | error e =>
      simp only [h1, h2, h3, h4, h5, h6, eB_k, eB_e] at k hX6
      exact bad e hX6 k _ hK6
    | ok r6 =>
      simp only [h1, h2, h3, h4, h5, h6, eB_k, eB_e] at k hX6 hX2 hX4
      obtain ⟨⟨a1, a2, a3⟩, a4, -, -⟩ := pDef_ok t.2.2.2 h1
      obtain ⟨v1, v2⟩ := hv z h1
      have er : r = nI (2 * (z.1 / 2)) := by rw [v1]; congr 1; omega
      have er3 : r3 = nI y.1 := hr3 r2 y (by simp only [h1, h2, eB_k]) h3
      have er5 : r5 = nI w.1 := hr5 r4 w (by simp only [h1, h2, h3, h4, eB_k]) h5
      have ei2 : I2 4 = nI r2 := hX2.2.2.1
      have ei4 : I4 4 = nI r4 := hX4.2.2.1
      have hD2 : DR A0 (va_up A1 7 (upd (A1 7) (c + 300) r)) M I L O Aa (vs ++ [z.1 / 2]) (vs ++ [z.1 / 2]) us nm := by
        refine DR_var (kd := kk I L vs.length) hD hK2 (fun a z1 z2 z3 z4 z5 => by rw [va_up_ne _ _ z5]; exact hf a z1 z2) a3 ?_ rfl (fun k hk => ?_) (fun k hk => ?_) (fun k hk => ?_) (fun g => absurd g (by omega)) (fun _ g => absurd g (by omega)) (fun _ => ?_)
        · have : kk I L vs.length = 3 := by unfold kk; rw [if_neg (by omega), if_neg (by omega)]
          rw [this]
          exact v2
        · exact congrFun (hf 3 (by decide) (by decide)) _
        · exact congrFun (hf 4 (by decide) (by decide)) _
        · exact (pk_un (by omega)).trans (by rw [hf 7 (by decide) (by decide)])
        · rw [show vs.length - I - L = c by omega]
          exact pk_us.trans er
      have hlen : (us ++ [(y.1, r2)]).length = L + O + 2 * c + 1 := by rw [List.length_append, List.length_singleton]; omega
      have hU1 : UM 1 L O (va_up (va_up (va_up (va_up A1 7 (upd (A1 7) (c + 300) r)) 14 (upd (A1 14) c (I2 4))) 8 (upd (A1 8) (c + 300) r3)) 15 (upd (A1 15) c (I4 4))) (us ++ [(y.1, r2)]) :=
        UM_push hD2.2.2.2.2.1 (fun k hk => rfl) (fun k hk => rfl) (fun k hk => pk_un (by omega)) (fun k hk => rfl) (fun g => absurd g (by omega)) (fun _ g => absurd g (by omega)) (fun j g => by rw [show j = c by omega]; exact pk_us.trans er3) (fun j g => absurd g (by omega))
      have hP1 : UP L O (va_up (va_up (va_up A1 7 (upd (A1 7) (c + 300) r)) 14 (upd (A1 14) c (I2 4))) 8 (upd (A1 8) (c + 300) r3)) (us ++ [(y.1, r2)]) :=
        UP_push hD2.2.2.2.2.2.1 (fun k hk => rfl) (fun k hk => rfl) (fun k hk => pk_un (by omega)) (fun k hk => rfl) (fun g => absurd g (by omega)) (fun _ g => absurd g (by omega)) (fun j g => by rw [show j = c by omega]; exact pk_us.trans ei2) (fun j g => absurd g (by omega))
      rw [app2] at k
      refine ih (c + 1) (vs ++ [z.1 / 2]) (us ++ [(y.1, r2)] ++ [(w.1, r4)]) r6 _ _ (by omega) (by rw [List.length_append, List.length_singleton]; omega) (by rw [List.length_append, List.length_singleton]; omega) hX6.1 hX6.2 (DR_use hD2 hK6 (fun a z1 z2 z3 z4 z5 z6 z7 z8 => by rw [va_up_ne _ _ z4, va_up_ne _ _ z8, va_up_ne _ _ z3, va_up_ne _ _ z7]) ?_ ?_) k
      · exact UM_push hU1 (fun k hk => rfl) (fun k hk => rfl) (fun k hk => rfl) (fun k hk => pk_un (by omega)) (fun g => absurd g (by omega)) (fun _ g => absurd g (by omega)) (fun j g => absurd g (by omega)) (fun j g => by rw [show j = c by omega]; exact pk_us.trans er5)
      · exact UP_push hP1 (fun k hk => rfl) (fun k hk => rfl) (fun k hk => rfl) (fun k hk => pk_un (by omega)) (fun g => absurd g (by omega)) (fun _ g => absurd g (by omega)) (fun j g => absurd g (by omega)) (fun j g => by rw [show j = c by omega]; exact pk_us.trans ei4)
/-! binary: all variables at once -/
theorem m_all {I0 : NI} {A0 : NNI} {M I L O Aa : Nat} {nm : Nat → List Nat} {Q X : NI → NNI → Prop} (hM : M ≤ 400) (hI : I ≤ 6) (hL : L ≤ 7) (hMe : M = I + L + Aa) :
    ∀ (j c : Nat) (Im : NI) (A : NNI), c + j = M → DR A0 A M I L O Aa (List.range' 1 (min c (I + L))) (List.range' 1 c) [] nm → (∀ A', DR A0 A' M I L O Aa (List.range' 1 (I + L)) (List.range' 1 M) [] nm → X Im A') → wp_M_takeBinary_L2 Q X (j + 1) Im A (nI (c + 1)) := by
  intro j
  induction j with
  | zero =>
    intro c Im A hl hD k
    unfold wp_M_takeBinary_L2
    have hc : c = M := by omega
    rw [hc, show min M (I + L) = I + L by omega] at hD
    exact pk_lt M (c + 1) (fun _ => k _ hD) (fun g => absurd g (by omega)) hD.2.1.1 rfl
  | succ j ih =>
    intro c Im A hl hD k
    unfold wp_M_takeBinary_L2
    have h6 : A 2 6 = nI I := hD.2.1.2.1
    have h7 : A 2 7 = nI L := hD.2.1.2.2.1
    have e1 : nI (c + 1) - 1 = nI c := nI_pred c
    rw [e1]
    refine pk_lt M (c + 1) (fun g => absurd g (by omega)) (fun _ => ?_) hD.2.1.1 rfl
    -- what is kept when the kind is set
    have hKd : ∀ (kd : Nat) (x : Int32) (B : NNI), kd = kk I L c → KA A0 B → B 10 = upd (A 10) (c + 1 + 401) (nI kd) → KA A0 B ∧ KD 1 I L B (List.range' 1 (c + 1)) := fun kd x B hk hB h10 => by
      refine ⟨hB, ?_⟩
      have hlr : (List.range' 1 c).length = c := List.length_range'
      have : List.range' 1 (c + 1) = List.range' 1 c ++ [c + 1] := by
        rw [List.range'_concat]
        congr 2
        omega
      rw [this]
      refine KD_push hD.2.2.2.1 (fun hm => ?_) (by rw [h10, hk, hlr])
      have := List.mem_range'_1.mp hm
      omega
    have hdef : ∀ (kd : Nat) (x : Int32) (R : NNI → Prop), (∀ B, (∀ a, a ≠ 10 → a ≠ 11 → B a = A a) → KA A0 B → B 10 = upd (A 10) (c + 1 + 401) (nI kd) → R B) → wp_M_define A (nI (c + 1)) (nI kd) x R := fun kd x R hR => by
      unfold wp_M_define
      rw [nI_ad 401 401 (c + 1) rfl, nI_clamp (n := c + 1 + 401) (by omega)]
      refine ⟨pk_in (c + 1 + 401) 802 (by omega), hR _ (fun a z1 z2 => by rw [va_up_ne _ _ z2, va_up_ne _ _ z1]) ?_ rfl⟩
      exact (hD.1.up (a := 10) (Nat.le_add_left 401 _)).up (a := 11) (Nat.le_add_left 401 _)
    have em : (2 : Int32) * nI (c + 1) = nI (2 * (c + 1)) := pk_mul 2 (c + 1)
    have mk : ∀ (B : NNI) (d : Nat), KA A0 B → KD 1 I L B (List.range' 1 (c + 1)) → (∀ a, a ≠ 10 → a ≠ 11 → a ≠ 3 → a ≠ 4 → B a = A a) → VL 1 I L B (List.range' 1 (min (c + 1) (I + L))) → DR A0 B M I L O Aa (List.range' 1 (min (c + 1) (I + L))) (List.range' 1 (c + 1)) [] nm := fun B d hB hKD hf hV =>
      ⟨hB, HM_same hD.2.1 (hf 2 (by decide) (by decide) (by decide) (by decide)), hV, hKD, fun k hk => absurd hk (Nat.not_lt_zero k), fun k hk => absurd hk (Nat.not_lt_zero k), NM_same hD.2.2.2.2.2.2 (hf 16 (by decide) (by decide) (by decide) (by decide)) (hf 17 (by decide) (by decide) (by decide) (by decide))⟩
    have rp : ∀ d, List.range' 1 (d + 1) = List.range' 1 d ++ [d + 1] := fun d => by
      rw [List.range'_concat]
      congr 2
      omega
    refine pk_le I c (fun g => ?_) (fun g => ?_) h6 rfl
    · -- no input
      unfold wp_M_takeBinary_b33
      have es : A 2 ((6 : Int32)).toNatClampNeg + A 2 ((7 : Int32)).toNatClampNeg = nI (I + L) := by
        show A 2 6 + A 2 7 = _
        rw [h6, h7, nI_add]
      refine ⟨fun _ => pk_le (I + L) c (fun g2 => ?_) (fun g2 => ?_) es rfl, fun z => absurd rfl z⟩
      · -- an and
        unfold wp_M_takeBinary_b60 wp_M_takeBinary_b63
        refine ⟨fun _ => ⟨fun _ => ⟨fun _ => ⟨fun _ => hdef 3 _ _ (fun B hf hB h10 => ?_), fun z => absurd rfl z⟩, fun z => absurd rfl z⟩, fun z => absurd rfl z⟩, fun z => absurd rfl z⟩
        unfold wp_M_takeBinary_b128
        refine ⟨fun _ => ⟨fun _ => ?_, fun z => absurd rfl z⟩, fun z => absurd rfl z⟩
        rw [nI_1]
        obtain ⟨-, hKD⟩ := hKd 3 0 B (by unfold kk; rw [if_neg (by omega), if_neg (by omega)]) hB h10
        refine ih (c + 1) Im B (by omega) (mk B 0 hB hKD (fun a z1 z2 _ _ => hf a z1 z2) ?_) k
        rw [show min (c + 1) (I + L) = min c (I + L) by omega]
        exact VL_same hD.2.2.1 (hf 3 (by decide) (by decide)) (hf 4 (by decide) (by decide)) (hf 7 (by decide) (by decide))
      · -- a latch
        unfold wp_M_takeBinary_b63
        refine ⟨fun _ => ⟨fun z => absurd z (by decide), fun _ => ⟨fun _ => ⟨fun z => absurd z (by decide), fun _ => hdef 2 _ _ (fun B hf hB h10 => ?_)⟩, fun z => absurd rfl z⟩⟩, fun z => absurd rfl z⟩
        unfold wp_M_takeBinary_b128
        refine ⟨fun _ => ⟨fun z => absurd z (by decide), fun _ => ?_⟩, fun z => absurd rfl z⟩
        have ei : (8 : Int32) + nI c - B 2 ((6 : Int32)).toNatClampNeg = nI (c - I + 8) := by
          show (8 : Int32) + nI c - B 2 6 = _
          rw [hf 2 (by decide) (by decide), h6, nI_ad 8 8 c rfl, pk_sub (by omega)]
          congr 1
          omega
        rw [ei, nI_clamp (n := c - I + 8) (by omega), em, nI_1]
        refine ⟨pk_in (c - I + 8) 16 (by omega), ?_⟩
        have hB2 : KA A0 (va_up B 4 (upd (B 4) (c - I + 8) (nI (2 * (c + 1))))) := hB.up (a := 4) (Nat.le_add_left 8 _)
        obtain ⟨-, hKD⟩ := hKd 2 0 (va_up B 4 (upd (B 4) (c - I + 8) (nI (2 * (c + 1))))) (by unfold kk; rw [if_neg (by omega), if_pos (by omega)]) hB2 h10
        refine ih (c + 1) Im _ (by omega) (mk _ 0 hB2 hKD (fun a z1 z2 z3 z4 => by rw [va_up_ne _ _ z4]; exact hf a z1 z2) ?_) k
        have hV0 := hD.2.2.1
        rw [show min c (I + L) = c by omega] at hV0
        rw [show min (c + 1) (I + L) = c + 1 by omega, rp c]
        have hlr : (List.range' 1 c).length = c := List.length_range'
        refine VL_push hV0 (fun k hk => ?_) (fun k hk => ?_) (fun k hk => ?_) (fun z => absurd z (by omega)) (fun _ _ => ?_) (fun z => absurd z (by omega))
        · exact congrFun (hf 3 (by decide) (by decide)) _
        · exact (pk_un (by omega)).trans (by rw [hf 4 (by decide) (by decide)])
        · exact congrFun (hf 7 (by decide) (by decide)) _
        · rw [hlr]; exact pk_us
    · -- an input
      unfold wp_M_takeBinary_b33
      refine ⟨fun z => absurd z (by decide), fun _ => ?_⟩
      unfold wp_M_takeBinary_b60 wp_M_takeBinary_b63
      refine ⟨fun z => absurd z (by decide), fun _ => ⟨fun z => absurd z (by decide), fun _ => hdef 1 _ _ (fun B hf hB h10 => ?_)⟩⟩
      unfold wp_M_takeBinary_b128
      refine ⟨fun z => absurd z (by decide), fun _ => ?_⟩
      rw [nI_ad 6 6 c rfl, nI_clamp (n := c + 6) (by omega), em, nI_1]
      refine ⟨pk_in (c + 6) 12 (by omega), ?_⟩
      have hB2 : KA A0 (va_up B 3 (upd (B 3) (c + 6) (nI (2 * (c + 1))))) := hB.up (a := 3) (Nat.le_add_left 6 _)
      obtain ⟨-, hKD⟩ := hKd 1 0 (va_up B 3 (upd (B 3) (c + 6) (nI (2 * (c + 1))))) (by unfold kk; rw [if_pos (by omega)]) hB2 h10
      refine ih (c + 1) Im _ (by omega) (mk _ 0 hB2 hKD (fun a z1 z2 z3 z4 => by rw [va_up_ne _ _ z3]; exact hf a z1 z2) ?_) k
      have hV0 := hD.2.2.1
      rw [show min c (I + L) = c by omega] at hV0
      rw [show min (c + 1) (I + L) = c + 1 by omega, rp c]
      have hlr : (List.range' 1 c).length = c := List.length_range'
      refine VL_push hV0 (fun k hk => ?_) (fun k hk => ?_) (fun k hk => ?_) (fun _ => ?_) (fun z => absurd z (by omega)) (fun z => absurd z (by omega))
      · exact (pk_un (by omega)).trans (by rw [hf 3 (by decide) (by decide)])
      · exact congrFun (hf 4 (by decide) (by decide)) _
      · exact congrFun (hf 7 (by decide) (by decide)) _
      · rw [hlr]; exact pk_us
