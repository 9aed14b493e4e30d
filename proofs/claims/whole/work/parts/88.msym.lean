/-! the reference reads symbols -/
def FS (A1 A : NNI) : Prop := ∀ a, a ≠ 16 → a ≠ 17 → A a = A1 a
theorem rS_inj {s s2 : Nat} (h1 : s < 6 ∨ 8 ≤ s) (h2 : s2 < 6 ∨ 8 ≤ s2) (h : rS s = rS s2) : s = s2 := by
  unfold rS at h
  split at h <;> split at h <;> omega
theorem rS_lt {s : Nat} (h : s < 24) : rS s < 22 := by
  unfold rS
  split <;> omega
theorem NM_push {A B : NNI} {nm : Nat → List Nat} {s c : Nat} {bs : List Nat} (h : NM 1 A (va_up nm s bs)) (hs : s < 24) (hs2 : s < 6 ∨ 8 ≤ s) (hl : bs.length < 40) (h16 : B 16 = upd (A 16) (40 * (rS s + 22) + bs.length) (sb c)) (h17 : B 17 = upd (A 17) (rS s + 22) (nI (bs.length + 1))) : NM 1 B (va_up nm s (bs ++ [c])) := by
  intro s2 hs3 hs4
  have h2 := h s2 hs3 hs4
  rw [h16, h17]
  by_cases g : s2 = s
  · subst g
    rw [va_up_self] at h2 ⊢
    refine ⟨by rw [List.length_append, List.length_singleton]; omega, by rw [List.length_append, List.length_singleton]; exact pk_us, fun i hi => ?_⟩
    rw [List.length_append, List.length_singleton] at hi
    by_cases g2 : i = bs.length
    · subst g2
      rw [gD_r]
      exact pk_us
    · rw [gD_l (by omega)]
      exact (pk_un (by omega)).trans (h2.2.2 i (by omega))
  · rw [va_up_ne _ _ g] at h2 ⊢
    have hr : rS s2 ≠ rS s := fun z => g (rS_inj hs4 hs2 z)
    refine ⟨h2.1, (pk_un (by omega)).trans h2.2.1, fun i hi => ?_⟩
    have := h2.1
    exact (pk_un (by omega)).trans (h2.2.2 i hi)
theorem m_nameX {I0 I : NI} {n : Nat} {A : NNI} {e : Er} {v2 : Int32} {m : Nat} {Q : NI → NNI → Prop} {K0 X0 : NI → NNI → Prop} {X : NI → NNI → Int32 → Prop} (hB : MB I0 n I e) (k : X I A v2) : wp_M_takeSymbols_L150 Q K0 X0 X (m + 1) I A v2 := by
  unfold wp_M_takeSymbols_L150
  exact ⟨fun g => absurd g hB.ne, fun _ => k⟩
theorem m_nameG {I0 : NI} {A0 A1 : NNI} {h : Nat → Nat} {n s : Nat} {nm : Nat → List Nat} {v2 : Int32} {Q : NI → NNI → Prop} {K0 X0 : NI → NNI → Prop} {X : NI → NNI → Int32 → Prop} (t : TM I0 A0 h n) (hs : s < 24) (hs2 : s < 6 ∨ 8 ≤ s) (hv2 : v2 = nI (rS s + 22)) :
    ∀ (j : Nat) (bs : List Nat) (q : Nat) (I : NI) (A : NNI), bs.length + j = 40 → q ≤ n → MG I0 I q → NM 1 A (va_up nm s bs) → FS A1 A → KA A0 A → (∀ I A, MG I0 I (pNameG h j bs q).2 → NM 1 A (va_up nm s (pNameG h j bs q).1) → FS A1 A → KA A0 A → X I A v2) → (∀ I A, MB I0 n I (1, (pNameG h j bs q).2) → (pNameG h j bs q).1.length = 40 → ¬ h (pNameG h j bs q).2 = 10 → KA A0 A → X I A v2) → wp_M_takeSymbols_L150 Q K0 X0 X (j + 2) I A v2 := by
  intro j
  have hrl := rS_lt hs
  induction j with
  | zero =>
    intro bs q I A hl hq hG hN hF hK kg kb
    have hN2 := hN s hs hs2
    rw [va_up_self] at hN2
    unfold wp_M_takeSymbols_L150
    refine ⟨fun _ => m_here t hK hG.1 hq hG.2.1 ⟨fun g => kg _ _ hG hN hF hK, fun g => m_here t hK hG.1 hq hG.2.1 ⟨fun g2 => kg _ _ hG hN hF hK, fun g2 => ⟨pk_in (rS s + 22) 44 (by omega) hv2, fun _ => ?_, fun g3 => absurd ?_ g3⟩⟩⟩, fun g => absurd hG.2.2.1 g⟩
    · refine m_wrong (ek := 1) (ep := q) hG hq rfl hG.2.1 (by decide) (fun I' hB => m_nameX hB (kb _ _ hB (by show bs.length = 40; omega) (fun z => g2 ((hv_eq (d := 10) (t.le q) (by decide)).mpr z)) hK))
    · rw [hv2, nI_clamp (n := rS s + 22) (by omega)]
      exact hN2.2.1.trans (by rw [show bs.length = 40 by omega]; rfl)
  | succ j ih =>
    intro bs q I A hl hq hG hN hF hK kg kb
    have hN2 := hN s hs hs2
    rw [va_up_self] at hN2
    unfold wp_M_takeSymbols_L150
    rw [pNameG] at kg kb
    refine ⟨fun _ => m_here t hK hG.1 hq hG.2.1 ⟨fun g => ?_, fun g => m_here t hK hG.1 hq hG.2.1 ⟨fun g2 => ?_, fun g2 => ⟨pk_in (rS s + 22) 44 (by omega) hv2, ?_⟩⟩⟩, fun g => absurd hG.2.2.1 g⟩
    · have : h q = 256 := Classical.byContradiction fun z => Int32.not_lt.mpr ((hv_ge0 (t.le q)).mpr z) g
      rw [if_pos (Or.inl this)] at kg
      exact kg _ _ hG hN hF hK
    · rw [if_pos (Or.inr ((hv_eq (d := 10) (t.le q) (by decide)).mp g2))] at kg
      exact kg _ _ hG hN hF hK
    · have g3 : ¬ h q = 256 := (hv_ge0 (t.le q)).mp (Int32.not_lt.mp g)
      have g4 : ¬ h q = 10 := fun z => g2 ((hv_eq (d := 10) (t.le q) (by decide)).mpr z)
      rw [if_neg (fun z => z.elim g3 g4)] at kg kb
      have hlt := t.lt g3
      have e17 : A 17 (v2).toNatClampNeg = nI bs.length := by
        rw [hv2, nI_clamp (n := rS s + 22) (by omega)]
        exact hN2.2.1
      rw [e17]
      refine pk_eq bs.length 40 (fun z => absurd z (by omega)) (fun _ => m_here t hK hG.1 hq hG.2.1 ?_)
      rw [pk_vb, hv_nI (t.2.2.1 q hlt).2, nI_1, hv2, show (40 : Int32) = nI 40 from rfl, pk_mul, nI_add, nI_clamp (n := rS s + 22) (by omega), nI_clamp (n := 40 * (rS s + 22) + bs.length) (by omega)]
      refine ⟨pk_in (40 * (rS s + 22) + bs.length) 1760 (by omega), ?_⟩
      rw [← hv2]
      refine ih (bs ++ [h q]) (q + 1) _ _ (by rw [List.length_append, List.length_singleton]; omega) hlt ⟨hG.1.u (by omega), by show I 4 + 1 = _; rw [hG.2.1, nI_1], hG.2.2⟩ (NM_push (c := h q) hN hs hs2 (by omega) rfl rfl) (fun a z1 z2 => by rw [va_up_ne _ _ z2, va_up_ne _ _ z1]; exact hF a z1 z2) ?_ kg kb
      exact (hK.up (a := 16) (by show 880 ≤ _; omega)).up (a := 17) (Nat.le_add_left 22 _)
theorem m_symB {I0 I : NI} {A0 A : NNI} {h : Nat → Nat} {n : Nat} {e : Er} {v2 : Int32} {Q : NI → NNI → Prop} {K0 X0 : NI → NNI → Prop} (t : TM I0 A0 h n) (hK : KA A0 A) (hB : MB I0 n I e) (k : K0 I A) : wp_M_take I A (32 : Int32) (fun I_M_33 => ∃ m150, wp_M_takeSymbols_L150 Q K0 X0 (fun I_M_34 A_M_35 v2_36 => (((I_M_34 5) = 0) → vp_in v2_36 44 ∧ (((((A_M_35 17) (v2_36).toNatClampNeg) = 0) → wp_M_wrong I_M_34 (1 : Int32) (I_M_34 4) (fun I_M_39 => wp_M_takeSymbols_b265 Q K0 X0 I_M_39 A_M_35)) ∧ ((¬ ((A_M_35 17) (v2_36).toNatClampNeg) = 0) → wp_M_takeSymbols_b265 Q K0 X0 I_M_34 A_M_35))) ∧ ((¬ (I_M_34 5) = 0) → wp_M_takeSymbols_b265 Q K0 X0 I_M_34 A_M_35)) m150 I_M_33 A v2) := by
  unfold wp_M_take
  refine ⟨fun g => absurd g hB.nle, fun _ => ⟨1, m_nameX hB ⟨fun g => absurd g hB.ne, fun _ => ?_⟩⟩⟩
  unfold wp_M_takeSymbols_b265 wp_M_take
  exact ⟨fun g => absurd g hB.nle, fun _ => k⟩
theorem m_sym {I0 Im : NI} {A0 A1 A : NNI} {h : Nat → Nat} {n q M I L O Aa kd : Nat} {nm : Nat → List Nat} {Q : NI → NNI → Prop} {K0 X0 : NI → NNI → Prop} (t : TM I0 A0 h n) (hH : HM 1 A M I L O Aa) (hI : I ≤ 6) (hL : L ≤ 7) (hO : O ≤ 8) (hq : q + 1 ≤ n) (hG : MG I0 Im q) (hN : NM 1 A nm) (hF : FS A1 A) (hK : KA A0 A) (hk : kd < 3)
    (k : Lk (pSym h I L O kd nm (q + 1)) (fun z => ∀ I' A', MG I0 I' z.2 → NM 1 A' z.1 → FS A1 A' → KA A0 A' → K0 I' A') (fun e => ∀ I' A', MB I0 n I' e → KA A0 A' → K0 I' A')) : wp_M_takeSymbols_b62 Q K0 X0 Im A (nI kd) := by
  unfold wp_M_takeSymbols_b62
  have hend := t.2.2.2
  refine m_num (x := .ok (q + 1)) t hK ⟨hq, hG.1.u (by omega), by show Im 4 + 1 = _; rw [hG.2.1, nI_1], hG.2.2⟩ (fun I1 hX1 h7 => ?_)
  have c8 := cnt_le (kd := kd) hI hL hO
  have main : ∀ o, (kd = 0 → o = 22) → (kd = 1 → o = 28) → (kd = 2 → o = 36) → wp_M_takeSymbols_b103 Q K0 X0 I1 A (nI kd) (nI o + I1 7) := fun o o0 o1 o2 => by
    unfold wp_M_takeSymbols_b103
    have hX2 : MX I0 n I1 (eB (pNum h (q + 1)) fun z => .ok z.2) := hX1
    rw [pSym] at k
    cases h1 : pNum h (q + 1) with
    | error e =>
      simp only [h1, eB_k, eB_e] at k hX2
      have hB : MB I0 n I1 e := hX2
      exact ⟨fun g => absurd g hB.ne, fun _ => m_symB t hK hB (k _ _ hB hK)⟩
    | ok z =>
      simp only [h1, eB_k, eB_e] at k hX2
      obtain ⟨hz2, hG1⟩ : z.2 ≤ n ∧ MG I0 I1 z.2 := hX2
      have z9 := (pNum_ok hend h1).1
      have hz7 := h7 (q + 1) z rfl h1
      have bad : ¬ (z.1 < cntOf I L O kd ∧ nm (8 * kd + z.1) = []) → wp_M_takeSymbols_b135 Q K0 X0 I1 A (nI o + I1 7) := fun g => by
        rw [if_neg g] at k
        unfold wp_M_takeSymbols_b135
        exact m_wrong (ek := 1) (ep := z.2) hG1 hz2 rfl hG1.2.1 (by decide) (fun I2 hB => m_symB t hK hB (k _ _ hB hK))
      refine ⟨fun _ => ?_, fun g => absurd hG1.2.2.1 g⟩
      rw [nI_ad 6 6 kd rfl, nI_clamp (n := kd + 6) (by omega)]
      refine ⟨pk_in (kd + 6) 10 (by omega), ?_⟩
      have hc : A 2 (kd + 6) = nI (cntOf I L O kd) := by
        have : kd = 0 ∨ kd = 1 ∨ kd = 2 := by omega
        rcases this with rfl | rfl | rfl
        · exact hH.2.1
        · exact hH.2.2.1
        · exact hH.2.2.2.1
      refine pk_le (cntOf I L O kd) z.1 (fun g => bad (by omega)) (fun g1 => ?_) hc hz7
      have hI2 : kd = 0 → z.1 < 6 := fun e => by
        subst e
        have : cntOf I L O 0 = I := rfl
        omega
      have hs : 8 * kd + z.1 < 24 := by omega
      have hs2 : 8 * kd + z.1 < 6 ∨ 8 ≤ 8 * kd + z.1 := by
        by_cases e : kd = 0
        · have := hI2 e; omega
        · omega
      have er : nI o + I1 7 = nI (rS (8 * kd + z.1) + 22) := by
        rw [hz7, nI_add]
        congr 1
        unfold rS
        have : kd = 0 ∨ kd = 1 ∨ kd = 2 := by omega
        rcases this with rfl | rfl | rfl
        · rw [if_pos (by omega), o0 rfl]; omega
        · rw [if_neg (by omega), o1 rfl]; omega
        · rw [if_neg (by omega), o2 rfl]; omega
      have hrl := rS_lt hs
      obtain ⟨n1, n2, n3⟩ := hN (8 * kd + z.1) hs hs2
      have e17 : A 17 (nI o + I1 7).toNatClampNeg = nI (nm (8 * kd + z.1)).length := by
        rw [er, nI_clamp (n := rS (8 * kd + z.1) + 22) (by omega)]
        exact n2
      refine ⟨pk_in (rS (8 * kd + z.1) + 22) 44 (by omega) er, ?_⟩
      rw [e17]
      refine pk_le (nm (8 * kd + z.1)).length 0 (fun g2 => ?_) (fun g2 => bad fun z => ?_)
      · have hnil : nm (8 * kd + z.1) = [] := List.eq_nil_of_length_eq_zero (by omega)
        rw [if_pos ⟨g1, hnil⟩] at k
        refine m_take (x := .ok z.2) (c := 32) t hK ⟨hz2, hG1⟩ (by decide) (fun I2 hX3 => ?_)
        have hX4 : MX I0 n I2 (pExp h 32 z.2) := hX3
        cases h2 : pExp h 32 z.2 with
        | error e =>
          simp only [h2, eB_k, eB_e] at k hX4
          have hB : MB I0 n I2 e := hX4
          refine ⟨1, m_nameX hB ⟨fun g => absurd g hB.ne, fun _ => ?_⟩⟩
          unfold wp_M_takeSymbols_b265 wp_M_take
          exact ⟨fun g => absurd g hB.nle, fun _ => k _ _ hB hK⟩
        | ok r =>
          simp only [h2, eB_k, eB_e] at k hX4
          obtain ⟨hr, hG2⟩ : r ≤ n ∧ MG I0 I2 r := hX4
          have hN0 : NM 1 A (va_up nm (8 * kd + z.1) []) := by
            have : va_up nm (8 * kd + z.1) [] = nm := by
              funext j
              by_cases g : j = 8 * kd + z.1
              · rw [g, va_up_self, hnil]
              · rw [va_up_ne _ _ g]
            rw [this]; exact hN
          obtain ⟨w1, w2, -⟩ := pName_ok hend t.le 40 [] r hr
          refine ⟨42, m_nameG (nm := nm) (A1 := A1) t hs hs2 er 40 [] r I2 A rfl hr hG2 hN0 hF hK (fun I3 A3 hG3 hN3 hF3 hK3 => ?_) (fun I3 A3 hB hw hh hK3 => ?_)⟩
          · generalize pNameG h 40 [] r = w at *
            have m2 := (hN3 (8 * kd + z.1) hs hs2).2.1
            rw [va_up_self] at m2
            have e18 : A3 17 (nI o + I1 7).toNatClampNeg = nI w.1.length := by
              rw [er, nI_clamp (n := rS (8 * kd + z.1) + 22) (by omega)]
              exact m2
            have w40 : w.1.length ≤ 40 := by simpa using w2
            refine ⟨fun _ => ⟨pk_in (rS (8 * kd + z.1) + 22) 44 (by omega) er, ?_⟩, fun g => absurd hG3.2.2.1 g⟩
            rw [e18]
            refine pk_eq w.1.length 0 (fun g3 => ?_) (fun g3 => ?_)
            · have : w.1 = [] := List.eq_nil_of_length_eq_zero (by omega)
              simp only [if_pos this] at k
              refine m_wrong (ek := 1) (ep := w.2) hG3 w1 rfl hG3.2.1 (by decide) (fun I4 hB => ?_)
              unfold wp_M_takeSymbols_b265 wp_M_take
              exact ⟨fun g => absurd g hB.nle, fun _ => k _ _ hB hK3⟩
            · have : ¬ w.1 = [] := fun z => by rw [z] at g3; exact absurd rfl g3
              simp only [if_neg this] at k
              unfold wp_M_takeSymbols_b265
              refine m_take (x := .ok w.2) (c := 10) t hK3 ⟨w1, hG3⟩ (by decide) (fun I4 hX5 => ?_)
              have hX6 : MX I0 n I4 (pExp h 10 w.2) := hX5
              cases h3 : pExp h 10 w.2 with
              | error e =>
                simp only [h3, eB_k, eB_e] at k hX6
                exact k _ _ hX6 hK3
              | ok r4 =>
                simp only [h3, eB_k, eB_e] at k hX6
                exact k _ _ hX6.2 hN3 hF3 hK3
          · generalize pNameG h 40 [] r = w at *
            have : ¬ w.1 = [] := fun z => by rw [z] at hw; exact absurd hw (by decide)
            simp only [if_neg this] at k
            have h3 : pExp h 10 w.2 = .error (1, w.2) := by rw [pExp, if_neg hh]
            simp only [h3, eB_k, eB_e] at k
            refine ⟨fun g => absurd g hB.ne, fun _ => ?_⟩
            unfold wp_M_takeSymbols_b265 wp_M_take
            exact ⟨fun g => absurd g hB.nle, fun _ => k _ _ hB hK3⟩
      · rw [z.2] at g2
        exact absurd g2 (by decide)
  refine pk_eq kd 0 (fun e => main 22 (fun _ => rfl) (fun z => by omega) (fun z => by omega)) (fun e0 => pk_eq kd 1 (fun e => main 28 (fun z => by omega) (fun _ => rfl) (fun z => by omega)) (fun e1 => main 36 (fun z => by omega) (fun z => by omega) (fun _ => rfl)))
theorem m_syms {I0 : NI} {A0 A1 : NNI} {h : Nat → Nat} {n M I L O Aa : Nat} {Q X : NI → NNI → Prop} (t : TM I0 A0 h n) (hH : HM 1 A1 M I L O Aa) (hI : I ≤ 6) (hL : L ≤ 7) (hO : O ≤ 8) (hX : ∀ I A, X I A ↔ (((0 < (I 5)) → Q I A) ∧ ((¬ 0 < (I 5)) → wp_M_here I A (fun r_55 => ((r_55 = (-1 : Int32)) → Q I A) ∧ ((¬ r_55 = (-1 : Int32)) → wp_M_take I A (99 : Int32) (fun I_M_58 => wp_M_take I_M_58 A (10 : Int32) (fun I_M_60 => Q I_M_60 A))))))) :
    ∀ (j : Nat) (sl : List Nat) (nm : Nat → List Nat) (q : Nat) (Im : NI) (A : NNI), sl.length + j = 25 → sl.Nodup → (∀ s, s ∈ sl → s < 24 ∧ ¬ nm s = []) → q ≤ n → MG I0 Im q → NM 1 A nm → FS A1 A → KA A0 A → Lk (pSyms h I L O j nm q) (fun z => ∀ I' A' q, q ≤ n → MG I0 I' q → NM 1 A' z → FS A1 A' → KA A0 A' → Q I' A') (fun e => ∀ I' A', MB I0 n I' e → KA A0 A' → Q I' A') → wp_M_takeSymbols_L0 Q X (j + 1) Im A := by
  have hend := t.2.2.2
  have badX : ∀ e I A, MB I0 n I e → Q I A → X I A := fun e I A hB hQ => by
    rw [hX]
    refine ⟨fun _ => hQ, fun g => absurd ?_ g⟩
    rw [hB.2.2.1]
    exact (nI_ltI (a := 0) (by decide) (by have := hB.2.2.2.2; omega)).mpr (by have := hB.2.2.2.2; omega)
  intro j
  induction j with
  | zero =>
    intro sl nm q Im A hl hn hs hq hG hN hF hK k
    exfalso
    have := pig_range hn (fun s hs' => (hs s hs').1)
    omega
  | succ j ih =>
    intro sl nm q Im A hl hn hs hq hG hN hF hK k
    unfold wp_M_takeSymbols_L0
    rw [pSyms] at k
    have hHA : HM 1 A M I L O Aa := HM_same hH (hF 2 (by decide) (by decide))
    have g0 : ¬ 0 < Im 5 := by rw [hG.2.2.1]; decide
    have one : ∀ kd, kindOf (h q) = some kd → wp_M_takeSymbols_b62 Q (wp_M_takeSymbols_L0 Q X (j + 1)) X Im A (nI kd) := fun kd hkd => by
      have n256 : ¬ h q = 256 := fun z => by rw [z] at hkd; cases hkd
      have n99 : ¬ h q = 99 := fun z => by rw [z] at hkd; cases hkd
      have hlt := t.lt n256
      rw [if_neg n256, if_neg n99, hkd] at k
      simp only [Lk_eB] at k
      refine m_sym (A1 := A1) t hHA hI hL hO hlt hG hN hF hK (kindOf_lt hkd) (Lk_imp k (fun z hz k I' A' hG' hN' hF' hK' => ?_) (fun e he k I' A' hB hK' => ?_))
      · obtain ⟨s, w, c1, c2, c3, c4, -, -, c7, c8⟩ := pSym_ok hend t.le hlt hz
        have hk3 := kindOf_lt hkd
        have c9 := cnt_le (kd := kd) hI hL hO
        have hsl : s ∉ sl := fun z => (hs s z).2 c3
        refine ih (s :: sl) z.1 z.2 I' A' (by rw [List.length_cons]; omega) (List.nodup_cons.mpr ⟨hsl, hn⟩) (fun s2 hs2 => ?_) c8 hG' hN' hF' hK' k
        rw [c7]
        rcases List.mem_cons.mp hs2 with e | e
        · subst e
          rw [va_up_self]
          exact ⟨by omega, c4⟩
        · have : s2 ≠ s := fun z => hsl (z ▸ e)
          rw [va_up_ne _ _ this]
          exact hs s2 e
      · unfold wp_M_takeSymbols_L0
        exact ⟨fun g => absurd g hB.ne, fun _ => badX e _ _ hB (k _ _ hB hK')⟩
    have he : ∀ d, d < 256 → (hv (h q) = nI d ↔ h q = d) := fun d hd => hv_eq (t.le q) hd
    refine ⟨fun _ => m_here t hK hG.1 hq hG.2.1 ⟨fun c1 => ?_, fun c1 => m_here t hK hG.1 hq hG.2.1 ⟨fun c2 => ?_, fun c2 => m_here t hK hG.1 hq hG.2.1 ⟨fun c3 => ?_, fun c3 => ?_⟩⟩⟩, fun g => absurd hG.2.2.1 g⟩
    · have e1 := (he 105 (by decide)).mp c1
      unfold wp_M_takeSymbols_b34
      refine m_here t hK hG.1 hq hG.2.1 ⟨fun _ => one 0 ?_, fun g => absurd c1 g⟩
      rw [e1]; rfl
    · have e1 := (he 108 (by decide)).mp c2
      unfold wp_M_takeSymbols_b34
      refine m_here t hK hG.1 hq hG.2.1 ⟨fun g => absurd g c1, fun _ => m_here t hK hG.1 hq hG.2.1 ⟨fun _ => one 1 ?_, fun g => absurd c2 g⟩⟩
      rw [e1]; rfl
    · have e1 := (he 111 (by decide)).mp c3
      unfold wp_M_takeSymbols_b34
      refine m_here t hK hG.1 hq hG.2.1 ⟨fun g => absurd g c1, fun _ => m_here t hK hG.1 hq hG.2.1 ⟨fun g => absurd g c2, fun _ => one 2 ?_⟩⟩
      rw [e1]; rfl
    · rw [hX]
      have m1 : ¬ h q = 105 := fun z => c1 ((he 105 (by decide)).mpr z)
      have m2 : ¬ h q = 108 := fun z => c2 ((he 108 (by decide)).mpr z)
      have m3 : ¬ h q = 111 := fun z => c3 ((he 111 (by decide)).mpr z)
      refine ⟨fun g => absurd g g0, fun _ => m_here t hK hG.1 hq hG.2.1 ⟨fun c4 => ?_, fun c4 => ?_⟩⟩
      · rw [if_pos ((hv_neg (t.le q)).mp c4)] at k
        exact k _ _ q hq hG hN hF hK
      · have n256 : ¬ h q = 256 := fun z => c4 ((hv_neg (t.le q)).mpr z)
        rw [if_neg n256] at k
        refine m_take (x := .ok q) (c := 99) t hK ⟨hq, hG⟩ (by decide) (fun I1 hX1 => m_take (c := 10) t hK hX1 (by decide) (fun I2 hX2 => ?_))
        have hX3 : MX I0 n I2 (eB (pExp h 99 q) (pExp h 10)) := hX2
        by_cases g99 : h q = 99
        · have h1 : pExp h 99 q = .ok (q + 1) := by rw [pExp, if_pos g99]
          rw [if_pos g99] at k
          rw [h1, eB_k] at hX3
          cases h2 : pExp h 10 (q + 1) with
          | error e =>
            simp only [h2, eB_k, eB_e] at k hX3
            exact k _ _ hX3 hK
          | ok r =>
            simp only [h2, eB_k, eB_e] at k hX3
            exact k _ _ r hX3.1 hX3.2 hN hF hK
        · have h1 : pExp h 99 q = .error (1, q) := by rw [pExp, if_neg g99]
          rw [if_neg g99, show kindOf (h q) = none by rw [kindOf, if_neg m1, if_neg m2, if_neg m3]] at k
          rw [h1, eB_e] at hX3
          exact k _ _ hX3 hK
