/-! REFERENCE SIDE: the tape, the place, faults, numbers, literals, definitions -/
def TM (I : NI) (A : NNI) (h : Nat → Nat) (n : Nat) : Prop := n ≤ 6000 ∧ I 1 = nI n ∧ (∀ q, q < n → A 0 q &&& (255 : Int32) = nI (h q) ∧ h q < 256) ∧ ∀ q, n ≤ q → h q = 256
/-- how much of each array is kept while a file is read -/
def kh (a : Nat) : Nat := if a = 0 then 6000 else if a = 1 then 20 else if a = 2 then 5 else if a = 3 then 6 else if a < 7 then 8 else if a < 10 then 300 else if a < 12 then 401 else if a = 16 then 880 else if a = 17 then 22 else 0
def KA (A0 A : NNI) : Prop := ∀ a k, k < kh a → A a k = A0 a k
theorem KA.up {A0 A : NNI} {a k : Nat} {x : Int32} (h : KA A0 A) (hk : kh a ≤ k) : KA A0 (va_up A a (upd (A a) k x)) := by
  intro b j hj
  by_cases g : b = a
  · subst g
    rw [va_up_self, pk_un (by omega)]
    exact h b j hj
  · rw [va_up_ne _ _ g]
    exact h b j hj
theorem KA.z {A0 A : NNI} {a : Nat} {f : Nat → Int32} (h : KA A0 A) (hk : kh a = 0) : KA A0 (va_up A a f) := by
  intro b j hj
  by_cases g : b = a
  · subst g; omega
  · rw [va_up_ne _ _ g]
    exact h b j hj
def KI (I0 I : NI) : Prop := ∀ i, i ≠ 4 → i ≠ 5 → i ≠ 6 → i ≠ 7 → i ≠ 8 → I i = I0 i
/-- reading goes well, at q -/
def MG (I0 I : NI) (q : Nat) : Prop := KI I0 I ∧ I 4 = nI q ∧ I 5 = 0 ∧ I 6 = -1
/-- a fault stands -/
def MB (I0 : NI) (n : Nat) (I : NI) (e : Er) : Prop := KI I0 I ∧ (∃ q, q ≤ n ∧ I 4 = nI q) ∧ I 5 = nI e.1 ∧ I 6 = nI e.2 ∧ 1 ≤ e.1 ∧ e.1 ≤ 6
/-- behind a reading that ends at a place -/
def MX (I0 : NI) (n : Nat) (I : NI) (x : Except Er Nat) : Prop := Lk x (fun q => q ≤ n ∧ MG I0 I q) (fun e => MB I0 n I e)
theorem KI.u {I0 I : NI} {i : Nat} {x : Int32} (h : KI I0 I) (hi : i = 4 ∨ i = 5 ∨ i = 6 ∨ i = 7 ∨ i = 8) : KI I0 (va_up I i x) := by
  intro j h4 h5 h6 h7 h8
  rw [va_up_ne _ _ (by omega)]
  exact h j h4 h5 h6 h7 h8
theorem MB.ne {I0 I : NI} {n : Nat} {e : Er} (h : MB I0 n I e) : ¬ I 5 = 0 := by
  obtain ⟨-, -, h5, -, h1, h6⟩ := h
  rw [h5]
  exact nI_ne0 (by omega) (by omega)
theorem MB.nle {I0 I : NI} {n : Nat} {e : Er} (h : MB I0 n I e) : ¬ I 5 ≤ 0 := by
  obtain ⟨-, -, h5, -, h1, h6⟩ := h
  rw [h5]
  exact nI_nle (by omega) (by omega)
theorem MG.le {I0 I : NI} {q : Nat} (h : MG I0 I q) : I 5 ≤ 0 := by
  rw [h.2.2.1]; decide
theorem TM.le {I : NI} {A : NNI} {h : Nat → Nat} {n : Nat} (t : TM I A h n) (q : Nat) : h q ≤ 256 := by
  by_cases hq : q < n
  · have := (t.2.2.1 q hq).2; omega
  · have := t.2.2.2 q (by omega); omega
theorem TM.lt {I : NI} {A : NNI} {h : Nat → Nat} {n q : Nat} (t : TM I A h n) (hq : ¬ h q = 256) : q < n := by
  by_cases g : q < n
  · exact g
  · exact absurd (t.2.2.2 q (by omega)) hq
theorem MX.pos {I0 I : NI} {n : Nat} {x : Except Er Nat} (h : MX I0 n I x) : KI I0 I ∧ ∃ q, q ≤ n ∧ I 4 = nI q := by
  cases x with
  | error e => exact ⟨h.1, h.2.1⟩
  | ok q => exact ⟨h.2.1, q, h.1, h.2.2.1⟩
theorem m_here {I0 I : NI} {A0 A : NNI} {h : Nat → Nat} {n q : Nat} {Q : Int32 → Prop} (t : TM I0 A0 h n) (hA : KA A0 A) (hI : KI I0 I) (hq : q ≤ n) (h4 : I 4 = nI q) (k : Q (hv (h q))) : wp_M_here I A Q := by
  obtain ⟨t1, t2, t3, t4⟩ := t
  unfold wp_M_here
  have h1 : I 1 = nI n := (hI 1 (by decide) (by decide) (by decide) (by decide) (by decide)).trans t2
  refine pk_le n q (fun g => ?_) (fun g => ⟨pk_in q 6000 (by omega) h4, ?_⟩) h1 h4
  · rw [t4 q g] at k; exact k
  · rw [h4, nI_clamp (by omega), hA 0 q (by show q < 6000; omega), (t3 q g).1, ← hv_nI (t3 q g).2]
    exact k
theorem m_hereX {I0 I : NI} {A0 A : NNI} {h : Nat → Nat} {n : Nat} {x : Except Er Nat} {Q : Int32 → Prop} (t : TM I0 A0 h n) (hA : KA A0 A) (hX : MX I0 n I x) (k : ∀ r, (∀ q, x = .ok q → r = hv (h q)) → Q r) : wp_M_here I A Q := by
  obtain ⟨hI, q, hq, h4⟩ := hX.pos
  refine m_here t hA hI hq h4 (k _ fun q2 e => ?_)
  subst e
  have : nI q2 = nI q := hX.2.2.1.symm.trans h4
  have : q2 = q := (nI_eq (by have := t.1; have := hX.1; omega) (by have := t.1; omega)).mp this
  rw [this]
theorem m_wrong {I0 I : NI} {n q ek ep : Nat} {x1 x2 : Int32} {Q : NI → Prop} (hG : MG I0 I q) (hq : q ≤ n) (h1 : x1 = nI ek) (h2 : x2 = nI ep) (b : 1 ≤ ek ∧ ek ≤ 6) (k : ∀ I', MB I0 n I' (ek, ep) → Q I') : wp_M_wrong I x1 x2 Q := by
  unfold wp_M_wrong
  refine ⟨fun _ => k _ ⟨(hG.1.u (by omega)).u (by omega), ⟨q, hq, hG.2.1⟩, h1, h2, b⟩, fun c => absurd hG.le c⟩
theorem m_wrongB {I0 I : NI} {n : Nat} {e : Er} {x1 x2 : Int32} {Q : NI → Prop} (hB : MB I0 n I e) (k : Q I) : wp_M_wrong I x1 x2 Q := by
  unfold wp_M_wrong
  exact ⟨fun c => absurd c hB.nle, fun _ => k⟩
theorem m_take {I0 I : NI} {A0 A : NNI} {h : Nat → Nat} {n c : Nat} {x : Except Er Nat} {Q : NI → Prop} (t : TM I0 A0 h n) (hA : KA A0 A) (hX : MX I0 n I x) (hc : c < 256) (k : ∀ I', MX I0 n I' (eB x (pExp h c)) → Q I') : wp_M_take I A (nI c) Q := by
  unfold wp_M_take
  cases x with
  | error e =>
    have hB : MB I0 n I e := hX
    exact ⟨fun g => absurd g hB.nle, fun _ => k I hB⟩
  | ok q =>
    obtain ⟨hq, hG⟩ := hX
    refine ⟨fun _ => m_here t hA hG.1 hq hG.2.1 ⟨fun g => ?_, fun g => ?_⟩, fun g => absurd hG.le g⟩
    · have g2 := (hv_eq (t.le q) hc).mp g
      refine k _ ?_
      show Lk (pExp h c q) _ _
      rw [pExp, if_pos g2]
      exact ⟨t.lt (q := q) (by omega), hG.1.u (by omega), by show I 4 + 1 = _; rw [hG.2.1, nI_1], hG.2.2⟩
    · have g2 : ¬ h q = c := fun z => g ((hv_eq (t.le q) hc).mpr z)
      refine m_wrong (ek := 1) (ep := q) hG hq rfl hG.2.1 (by decide) (fun I' hB => k _ ?_)
      show Lk (pExp h c q) _ _
      rw [pExp, if_neg g2]
      exact hB
theorem m_digit {I0 I : NI} {A0 A : NNI} {h : Nat → Nat} {n q : Nat} {Q : Int32 → Prop} (t : TM I0 A0 h n) (hA : KA A0 A) (hI : KI I0 I) (hq : q ≤ n) (h4 : I 4 = nI q) (k : Q (if isD (h q) then 1 else 0)) : wp_M_isDigit I A Q := by
  unfold wp_M_isDigit
  have hle := t.le q
  refine m_here t hA hI hq h4 ⟨fun g => ?_, fun g => m_here t hA hI hq h4 ⟨fun g2 => ?_, fun g2 => ?_⟩⟩
  · have : ¬ isD (h q) = true := fun z => by
      have := isD_iff.mp z
      rcases (hv_lt48 hle).mp g with z | z <;> omega
    rw [if_neg this] at k; exact k
  · have : ¬ isD (h q) = true := fun z => by
      have := isD_iff.mp z
      exact absurd ((hv_le57 hle).mpr (Or.inr this.2)) (Int32.not_le.mpr g2)
    rw [if_neg this] at k; exact k
  · have : isD (h q) = true := by
      have a1 : ¬ (h q = 256 ∨ h q < 48) := fun z => g ((hv_lt48 hle).mpr z)
      have a2 := (hv_le57 hle).mp (Int32.not_lt.mp g2)
      exact isD_iff.mpr (by omega)
    rw [if_pos this] at k; exact k
theorem m_numX {I0 I : NI} {A0 A : NNI} {h : Nat → Nat} {n : Nat} {e : Er} {v1 : Int32} {Q : NI → Prop} {X : NI → Prop} {m : Nat} (t : TM I0 A0 h n) (hA : KA A0 A) (hB : MB I0 n I e) (k : X I) : wp_M_takeNumber_L31 A Q X (m + 1) I v1 := by
  unfold wp_M_takeNumber_L31
  obtain ⟨q, hq, h4⟩ := hB.2.1
  exact m_digit t hA hB.1 hq h4 ⟨fun _ => k, fun _ => ⟨fun g => absurd g hB.ne, fun _ => k⟩⟩
theorem m_numG {I0 : NI} {A0 A : NNI} {h : Nat → Nat} {n : Nat} {Q : NI → Prop} {X : NI → Prop} (t : TM I0 A0 h n) (hA : KA A0 A) :
    ∀ (j v q : Nat) (I : NI), j ≤ 4 → (j = 4 → isD (h q) = true) → (j ≤ 2 → v ≠ 0) → q ≤ n → MG I0 I q → I 7 = nI v → (v + 1) * 10 ^ j ≤ 10000 → Lk (pNumG h j v q) (fun z => ∀ I, MG I0 I z.2 → I 7 = nI z.1 → X I) (fun e => ∀ I, MB I0 n I e → X I) → wp_M_takeNumber_L31 A Q X (j + 2) I (nI (4 - j)) := by
  intro j
  induction j with
  | zero =>
    intro v q I hj hd hvz hq hG h7 hB k
    unfold wp_M_takeNumber_L31
    refine m_digit t hA hG.1 hq hG.2.1 ?_
    by_cases g : isD (h q) = true
    · rw [pNumG, if_pos g] at k
      rw [if_pos g]
      refine ⟨fun c => absurd c (by decide), fun _ => ⟨fun _ => ⟨fun _ => ?_, fun c => absurd rfl c⟩, fun c => absurd hG.2.2.1 c⟩⟩
      unfold wp_M_takeNumber_b62
      exact m_wrong (ek := 1) (ep := q) hG hq rfl hG.2.1 (by decide) (fun I' hB => m_numX t hA hB (k I' hB))
    · rw [pNumG, if_neg g] at k
      rw [if_neg g]
      exact ⟨fun _ => k _ hG h7, fun c => absurd rfl c⟩
  | succ j ih =>
    intro v q I hj hd hvz hq hG h7 hB k
    unfold wp_M_takeNumber_L31
    have hpos : 0 < 10 ^ (j + 1) := Nat.pow_pos (by decide)
    have hv4 : v + 1 ≤ 10000 := Nat.le_trans (Nat.le_mul_of_pos_right _ hpos) hB
    refine m_digit t hA hG.1 hq hG.2.1 ?_
    by_cases g : isD (h q) = true
    · obtain ⟨g1, g2⟩ := isD_iff.mp g
      rw [pNumG, if_pos g] at k
      rw [if_pos g]
      have good : ¬ (j ≠ 3 ∧ v = 0) → wp_M_takeNumber_b74 A Q (wp_M_takeNumber_L31 A Q X (j + 2)) X I (nI (4 - (j + 1))) := fun z => by
        rw [if_neg z] at k
        unfold wp_M_takeNumber_b74
        refine m_here t hA hG.1 hq hG.2.1 ?_
        have hst : nI (4 - (j + 1)) + 1 = nI (4 - j) := by rw [nI_1]; congr 1; omega
        have e7 : (10 : Int32) * I 7 + hv (h q) - 48 = nI (10 * v + (h q - 48)) := by
          rw [h7, hv_nI (by omega), show (10 : Int32) = nI 10 from rfl, show (48 : Int32) = nI 48 from rfl, pk_mul, nI_add, pk_sub (by omega)]
          congr 1
          omega
        rw [hst, e7]
        refine ih (10 * v + (h q - 48)) (q + 1) _ (by omega) (fun z => by omega) (fun z2 => ?_) (by have := t.lt (q := q) (by omega); omega) ⟨(hG.1.u (by omega)).u (by omega), ?_, hG.2.2⟩ rfl ?_ k
        · have : v ≠ 0 := fun hv0 => z ⟨by omega, hv0⟩
          omega
        · show I 4 + 1 = nI (q + 1)
          rw [hG.2.1, nI_1]
        · have e1 : (10 * v + (h q - 48) + 1) * 10 ^ j ≤ (10 * (v + 1)) * 10 ^ j := Nat.mul_le_mul_right _ (by omega)
          have e2 : (10 * (v + 1)) * 10 ^ j = (v + 1) * 10 ^ (j + 1) := by rw [Nat.pow_succ, Nat.mul_comm 10 (v + 1), Nat.mul_assoc, Nat.mul_comm 10]
          omega
      refine ⟨fun c => absurd c (by decide), fun _ => ⟨fun _ => ?_, fun c => absurd hG.2.2.1 c⟩⟩
      refine pk_eq (4 - (j + 1)) 4 (fun z => absurd z (by omega)) (fun _ => ?_)
      refine pk_eq (4 - (j + 1)) 1 (fun z => ?_) (fun z => ?_)
      · refine pk_eq v 0 (fun z2 => ?_) (fun z2 => good fun z3 => z2 z3.2) h7 rfl
        rw [if_pos ⟨by omega, z2⟩] at k
        unfold wp_M_takeNumber_b62
        exact m_wrong (ek := 1) (ep := q) hG hq rfl hG.2.1 (by decide) (fun I' hB => m_numX t hA hB (k I' hB))
      · exact good fun z3 => by
          by_cases z4 : j + 1 ≤ 2
          · exact hvz z4 z3.2
          · omega
    · rw [pNumG, if_neg g] at k
      rw [if_neg g]
      refine ⟨fun _ => ?_, fun c => absurd rfl c⟩
      by_cases z : j = 3
      · exact absurd (hd (by omega)) g
      · rw [if_neg z] at k
        exact k _ hG h7
theorem m_num {I0 I : NI} {A0 A : NNI} {h : Nat → Nat} {n : Nat} {x : Except Er Nat} {Q : NI → Prop} (t : TM I0 A0 h n) (hA : KA A0 A) (hX : MX I0 n I x) (k : ∀ I', MX I0 n I' (eB x fun q => eB (pNum h q) fun z => .ok z.2) → (∀ q z, x = .ok q → pNum h q = .ok z → I' 7 = nI z.1) → Q I') : wp_M_takeNumber I A Q := by
  unfold wp_M_takeNumber
  cases x with
  | error e =>
    have hB : MB I0 n I e := hX
    exact ⟨fun g => absurd g hB.nle, fun _ => k I hB (fun q z hq => by cases hq)⟩
  | ok q =>
    obtain ⟨hq, hG⟩ := hX
    have hG7 : MG I0 (va_up I 7 0) q := ⟨hG.1.u (by omega), hG.2⟩
    refine ⟨fun _ => m_digit t hA hG7.1 hq hG7.2.1 ?_, fun g => absurd hG.le g⟩
    by_cases g : isD (h q) = true
    · rw [if_pos g]
      refine ⟨fun c => absurd c (by decide), fun _ => ⟨6, m_numG t hA 4 0 q _ (Nat.le_refl _) (fun _ => g) (fun z => absurd z (by omega)) hq hG7 rfl (by decide) ?_⟩⟩
      refine Lk_of (fun z hz I' hG' h7 => k I' ?_ ?_) (fun e he I' hB => k I' ?_ ?_)
      · show MX I0 n I' (eB (pNum h q) fun z => .ok z.2)
        rw [pNum, hz]
        exact ⟨(pNum_ok t.2.2.2 hz).2.2 hq, hG'⟩
      · intro q2 z2 e1 e2
        cases e1
        rw [show pNum h q = .ok z from hz] at e2
        cases e2
        exact h7
      · show MX I0 n I' (eB (pNum h q) fun z => .ok z.2)
        rw [pNum, he]
        exact hB
      · intro q2 z2 e1 e2
        cases e1
        rw [show pNum h q = .error e from he] at e2
        cases e2
    · rw [if_neg g]
      have hp : pNum h q = .error (1, q) := by rw [pNum, pNumG, if_neg g, if_pos rfl]
      refine ⟨fun _ => m_wrong (ek := 1) (ep := q) hG7 hq rfl hG.2.1 (by decide) (fun I' hB => ⟨1, m_numX t hA hB (k I' ?_ ?_)⟩), fun c => absurd rfl c⟩
      · show MX I0 n I' (eB (pNum h q) fun z => .ok z.2)
        rw [hp]
        exact hB
      · intro q2 z2 e1 e2
        cases e1
        rw [hp] at e2
        cases e2
theorem m_lit {I0 I : NI} {A0 A : NNI} {h : Nat → Nat} {n M : Nat} {x : Except Er Nat} {Q : Int32 → NI → Prop} (t : TM I0 A0 h n) (hA : KA A0 A) (hM : A 2 5 = nI M) (hM4 : M ≤ 9999) (hX : MX I0 n I x) (k : ∀ r I', MX I0 n I' (eB x fun q => eB (pLit h M q) fun z => .ok z.2) → (∀ q z, x = .ok q → pLit h M q = .ok z → r = nI z.1) → Q r I') : wp_M_literal I A Q := by
  unfold wp_M_literal
  refine m_num t hA hX (fun I' hX' h7 => ?_)
  cases x with
  | error e =>
    have hB : MB I0 n I' e := hX'
    exact ⟨fun g => absurd g hB.ne, fun _ => k _ _ hB (fun q z hq => by cases hq)⟩
  | ok q =>
    have hX2 : MX I0 n I' (eB (pNum h q) fun z => .ok z.2) := hX'
    cases hz : pNum h q with
    | error e =>
      rw [hz] at hX2
      have hB : MB I0 n I' e := hX2
      refine ⟨fun g => absurd g hB.ne, fun _ => k _ _ ?_ ?_⟩
      · show MX I0 n I' (eB (pLit h M q) fun z => .ok z.2)
        rw [pLit, hz]
        exact hB
      · intro q2 z2 e1 e2
        cases e1
        rw [pLit, hz] at e2
        cases e2
    | ok z =>
      rw [hz] at hX2
      obtain ⟨hz2, hG⟩ : z.2 ≤ n ∧ MG I0 I' z.2 := hX2
      have hz9 := (pNum_ok t.2.2.2 hz).1
      have e1 : (2 : Int32) * A 2 ((5 : Int32)).toNatClampNeg + 1 = nI (2 * M + 1) := by
        show (2 : Int32) * A 2 5 + 1 = nI (2 * M + 1)
        rw [hM, show (2 : Int32) = nI 2 from rfl, pk_mul, nI_1]
      have h7' := h7 q z rfl hz
      refine ⟨fun _ => pk_le z.1 (2 * M + 1) (fun g => k _ _ ?_ ?_) (fun g => m_wrong (ek := 3) (ep := q) hG hz2 rfl hX.2.2.1 (by decide) (fun I2 hB => k _ _ ?_ ?_)) h7' e1, fun g => absurd hG.2.2.1 g⟩
      · show MX I0 n I' (eB (pLit h M q) fun z => .ok z.2)
        rw [pLit, hz]
        show MX I0 n I' (eB (if z.1 ≤ 2 * M + 1 then .ok z else .error (3, q)) fun z => .ok z.2)
        rw [if_pos g]
        exact ⟨hz2, hG⟩
      · intro q2 z2 e1 e2
        cases e1
        rw [pLit, hz] at e2
        have e3 : (if z.1 ≤ 2 * M + 1 then (.ok z : Except Er (Nat × Nat)) else .error (3, q)) = .ok z2 := e2
        rw [if_pos g] at e3
        cases e3
        exact h7'
      · show MX I0 n I2 (eB (pLit h M q) fun z => .ok z.2)
        rw [pLit, hz]
        show MX I0 n I2 (eB (if z.1 ≤ 2 * M + 1 then .ok z else .error (3, q)) fun z => .ok z.2)
        rw [if_neg (by omega)]
        exact hB
      · intro q2 z2 e1 e2
        cases e1
        rw [pLit, hz] at e2
        have e3 : (if z.1 ≤ 2 * M + 1 then (.ok z : Except Er (Nat × Nat)) else .error (3, q)) = .ok z2 := e2
        rw [if_neg (by omega)] at e3
        cases e3
/-- the kind of the k-th variable -/
def kk (I L k : Nat) : Nat := if k < I then 1 else if k < I + L then 2 else 3
theorem kk_pos (I L k : Nat) : 1 ≤ kk I L k ∧ kk I L k ≤ 3 := by
  unfold kk
  split
  · omega
  · split <;> omega
def KD (b I L : Nat) (A : NNI) (vs : List Nat) : Prop := (∀ v, v ≤ 400 → v ∉ vs → A 10 (v + 401 * b) = 0) ∧ ∀ k, k < vs.length → A 10 (vs.getD k 0 + 401 * b) = nI (kk I L k)
theorem KD_zero {b I L v : Nat} {A : NNI} {vs : List Nat} (h : KD b I L A vs) (hv : v ≤ 400) : A 10 (v + 401 * b) = 0 ↔ v ∉ vs := by
  constructor
  · intro g hm
    obtain ⟨k, hk, e⟩ := List.mem_iff_getElem.mp hm
    have e2 : vs.getD k 0 = v := by simp [List.getD, hk, e]
    have := h.2 k hk
    rw [e2, g] at this
    have p := kk_pos I L k
    exact nI_ne0 (n := kk I L k) (by omega) (by omega) this.symm
  · exact h.1 v hv
theorem KD_push {I L x : Nat} {A B : NNI} {vs : List Nat} (h : KD 1 I L A vs) (hx : x ∉ vs) (h10 : B 10 = upd (A 10) (x + 401) (nI (kk I L vs.length))) : KD 1 I L B (vs ++ [x]) := by
  refine ⟨fun v hv hm => ?_, fun k hk => ?_⟩
  · have h1 : v ∉ vs := fun z => hm (List.mem_append.mpr (Or.inl z))
    have h2 : v ≠ x := fun z => hm (List.mem_append.mpr (Or.inr (by simp [z])))
    rw [h10, pk_un (by omega)]
    exact h.1 v hv h1
  · rw [List.length_append, List.length_singleton] at hk
    rw [h10]
    by_cases g : k = vs.length
    · subst g
      rw [gD_r]
      exact pk_us
    · rw [gD_l (by omega), pk_un]
      · exact h.2 k (by omega)
      · have : vs.getD k 0 ≠ x := fun z => hx (z ▸ getD_mem (by omega))
        omega
theorem m_defs {I0 Im : NI} {A0 A : NNI} {h : Nat → Nat} {n M I L q : Nat} {vs : List Nat} {x1 x2 : Int32} {Q : Int32 → NI → NNI → Prop} (t : TM I0 A0 h n) (hA : KA A0 A) (hM : A 2 5 = nI M) (hM4 : M ≤ 400) (hD : KD 1 I L A vs) (hq : q ≤ n) (hG : MG I0 Im q)
    (k : ∀ r I' A', MX I0 n I' (eB (pDef h M vs q) fun z => .ok z.2) → (∀ z, pDef h M vs q = .ok z → r = nI z.1 ∧ A' 10 = upd (A 10) (z.1 / 2 + 401) x1) → (∀ a, a ≠ 10 → a ≠ 11 → A' a = A a) → KA A0 A' → Q r I' A') : wp_M_defines Im A x1 x2 Q := by
  unfold wp_M_defines
  refine m_lit (x := .ok q) t hA hM (by omega) ⟨hq, hG⟩ (fun r I' hX' h7 => ?_)
  have hX2 : MX I0 n I' (eB (pLit h M q) fun z => .ok z.2) := hX'
  -- with a fault
  have bad : ∀ e I2, MB I0 n I2 e → pDef h M vs q = .error e → wp_M_defines_b54 Q I2 A x1 x2 r := fun e I2 hB hp => by
    unfold wp_M_defines_b54
    refine ⟨fun g => absurd g hB.ne, fun _ => k _ _ _ ?_ ?_ (fun a _ _ => rfl) hA⟩
    · rw [hp]; exact hB
    · intro z e2; rw [hp] at e2; cases e2
  cases hz : pLit h M q with
  | error e =>
    rw [hz] at hX2
    have hB : MB I0 n I' e := hX2
    exact ⟨fun g => absurd g hB.ne, fun _ => bad e I' hB (by rw [pDef, hz]; rfl)⟩
  | ok z =>
    rw [hz] at hX2
    obtain ⟨hz2, hG'⟩ : z.2 ≤ n ∧ MG I0 I' z.2 := hX2
    obtain ⟨b1, b2, -, -⟩ := pLit_ok t.2.2.2 hz
    have hr := h7 q z rfl hz
    have b48 : ¬ (2 ≤ z.1 ∧ z.1 % 2 = 0 ∧ z.1 / 2 ∉ vs) → wp_M_defines_b48 Q I' A x1 x2 (Im 4) r := fun g => by
      unfold wp_M_defines_b48
      refine m_wrong (ek := 4) (ep := q) hG' hz2 rfl hG.2.1 (by decide) (fun I2 hB => bad _ I2 hB ?_)
      rw [pDef, hz]
      show (if 2 ≤ z.1 ∧ z.1 % 2 = 0 ∧ z.1 / 2 ∉ vs then (.ok z : Except Er (Nat × Nat)) else .error (4, q)) = _
      rw [if_neg g]
    refine ⟨fun _ => ?_, fun g => absurd hG'.2.2.1 g⟩
    have er : r - r / (2 : Int32) * (2 : Int32) = nI (z.1 % 2) := by rw [hr]; exact pk_rem (d := 2) (by omega) (by decide) (by decide)
    have ed : r / (2 : Int32) = nI (z.1 / 2) := by rw [hr]; exact pk_div (d := 2) (by omega) (by decide) (by decide)
    have e4 : (401 : Int32) + r / (2 : Int32) = nI (z.1 / 2 + 401) := by rw [ed, show (401 : Int32) = nI 401 from rfl, nI_add, Nat.add_comm]
    refine pk_lt z.1 2 (fun g => b48 (by omega)) (fun g1 => ?_) hr rfl
    refine pk_eq (z.1 % 2) 1 (fun g => b48 (by omega)) (fun g2 => ?_) er rfl
    rw [e4, nI_clamp (n := z.1 / 2 + 401) (by omega)]
    refine ⟨pk_in (z.1 / 2 + 401) 802 (by omega), fun g3 => ?_, fun g3 => b48 fun g => ?_⟩
    · have g4 := (KD_zero hD (v := z.1 / 2) (by omega)).mp g3
      have hp : pDef h M vs q = .ok z := by
        rw [pDef, hz]
        show (if 2 ≤ z.1 ∧ z.1 % 2 = 0 ∧ z.1 / 2 ∉ vs then (.ok z : Except Er (Nat × Nat)) else .error (4, q)) = _
        rw [if_pos ⟨g1, by omega, g4⟩]
      unfold wp_M_defines_b54 wp_M_define
      refine ⟨fun _ => ?_, fun g => absurd hG'.2.2.1 g⟩
      rw [e4, nI_clamp (n := z.1 / 2 + 401) (by omega)]
      refine ⟨pk_in (z.1 / 2 + 401) 802 (by omega), k _ _ _ ?_ ?_ (fun a h1 h2 => ?_) ?_⟩
      · rw [hp]; exact ⟨hz2, hG'⟩
      · intro z2 e2
        rw [hp] at e2
        cases e2
        exact ⟨hr, rfl⟩
      · rw [va_up_ne _ _ h2, va_up_ne _ _ h1]
      · exact (hA.up (a := 10) (Nat.le_add_left 401 _)).up (a := 11) (Nat.le_add_left 401 _)
    · exact g3 ((KD_zero hD (v := z.1 / 2) (by omega)).mpr g.2.2)
