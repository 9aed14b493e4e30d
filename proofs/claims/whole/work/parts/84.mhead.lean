/-! the reference reads the first line -/
theorem eB_k {α β : Type} (a : α) (f : α → Except Er β) : eB (.ok a) f = f a := rfl
theorem eB_e {α β : Type} (e : Er) (f : α → Except Er β) : eB (.error e) f = .error e := rfl
def HM (b : Nat) (A : NNI) (M I L O Aa : Nat) : Prop := A 2 (0 + 5 * b) = nI M ∧ A 2 (1 + 5 * b) = nI I ∧ A 2 (2 + 5 * b) = nI L ∧ A 2 (3 + 5 * b) = nI O ∧ A 2 (4 + 5 * b) = nI Aa
def pTail (h : Nat → Nat) (bin : Bool) (q2 : Nat) : Except Er (Bool × Nat × Nat × Nat × Nat × Nat × Nat) :=
  eB (pExp h 103 q2) fun q3 =>
  eB (pCnt h q3) fun zM => eB (pCnt h zM.2) fun zI => eB (pCnt h zI.2) fun zL => eB (pCnt h zL.2) fun zO => eB (pCnt h zO.2) fun zA =>
  eB (pExp h 10 zA.2) fun q9 =>
  if hdFits bin zM.1 zI.1 zL.1 zO.1 zA.1 then .ok (bin, zM.1, zI.1, zL.1, zO.1, zA.1, q9) else .error (2, q9)
theorem pHead_is {h : Nat → Nat} : pHead h = eB (pExp h 97 0) fun q => eB (pExp h (if h q = 105 then 105 else 97) q) fun q2 => pTail h (decide (h q = 105)) q2 := rfl
def MT (I0 : NI) (n : Nat) (I : NI) (A : NNI) (y : Except Er (Bool × Nat × Nat × Nat × Nat × Nat × Nat)) : Prop := Lk y (fun z => z.2.2.2.2.2.2 ≤ n ∧ MG I0 I z.2.2.2.2.2.2 ∧ HM 1 A z.2.1 z.2.2.1 z.2.2.2.1 z.2.2.2.2.1 z.2.2.2.2.2.1) (fun e => MB I0 n I e)
theorem m_cnt {I0 I : NI} {A0 A : NNI} {h : Nat → Nat} {n i m : Nat} {x : Except Er Nat} {v1 : Int32} {Q : Int32 → NI → NNI → Prop} {X : NI → NNI → Int32 → Prop} (t : TM I0 A0 h n) (hA : KA A0 A) (hX : MX I0 n I x) (hi : i < 5)
    (k : ∀ I' A', MX I0 n I' (eB x fun q => eB (pCnt h q) fun z => .ok z.2) → (∀ q z, x = .ok q → pCnt h q = .ok z → A' 2 (i + 5) = nI z.1) → (∀ j, j ≠ i + 5 → A' 2 j = A 2 j) → (∀ a, a ≠ 2 → A' a = A a) → KA A0 A' → wp_M_takeHead_L44 Q X m I' A' v1 (nI (i + 1))) : wp_M_takeHead_L44 Q X (m + 1) I A v1 (nI i) := by
  unfold wp_M_takeHead_L44
  refine pk_le 5 i (fun g => absurd g (by omega)) (fun _ => ?_)
  refine m_take (c := 32) t hA hX (by decide) (fun I1 hX1 => m_num t hA hX1 (fun I2 hX2 h7 => ?_))
  have e4 : (5 : Int32) + nI i = nI (i + 5) := by rw [show (5 : Int32) = nI 5 from rfl, nI_add, Nat.add_comm]
  rw [e4, nI_clamp (n := i + 5) (by omega), nI_1]
  refine ⟨pk_in (i + 5) 10 (by omega), k _ _ ?_ ?_ (fun j hj => ?_) (fun a ha => va_up_ne _ _ ha) (hA.up (a := 2) (Nat.le_add_left 5 _))⟩
  · cases x with
    | error e => exact hX2
    | ok q =>
      cases h1 : pExp h 32 q with
      | error e =>
        simp only [eB_k, eB_e, pCnt, h1] at hX2 ⊢
        exact hX2
      | ok r =>
        simp only [eB_k, eB_e, pCnt, h1] at hX2 ⊢
        exact hX2
  · intro q z e1 e2
    obtain ⟨r, h1, h2⟩ := eB_ok e2
    rw [va_up_self, pk_us]
    exact h7 r z (by rw [e1, eB_k, h1]) h2
  · rw [va_up_self, pk_un hj]
theorem m_tail {I0 I : NI} {A0 A : NNI} {h : Nat → Nat} {n : Nat} {x : Except Er Nat} {bin : Bool} {v1 : Int32} {Q : Int32 → NI → NNI → Prop} (t : TM I0 A0 h n) (hA : KA A0 A) (hX : MX I0 n I x) (hv1 : v1 = if bin then 1 else 0)
    (k : ∀ I' A', KA A0 A' → (∀ a, a ≠ 2 → A' a = A a) → MT I0 n I' A' (eB x (pTail h bin)) → Q v1 I' A') : wp_M_takeHead_b36 Q I A v1 := by
  have hend := t.2.2.2
  unfold wp_M_takeHead_b36
  have hn : narrow .boolean (.int v1) = .int v1 := by rw [hv1]; cases bin <;> rfl
  refine m_take (c := 103) t hA hX (by decide) (fun I1 hX1 => ⟨6, ?_⟩)
  refine m_cnt (i := 0) t hA hX1 (by decide) (fun I2 A2 hX2 v2 f2 g2 hA2 => ?_)
  refine m_cnt (i := 1) t hA2 hX2 (by decide) (fun I3 A3 hX3 v3 f3 g3 hA3 => ?_)
  refine m_cnt (i := 2) t hA3 hX3 (by decide) (fun I4 A4 hX4 v4 f4 g4 hA4 => ?_)
  refine m_cnt (i := 3) t hA4 hX4 (by decide) (fun I5 A5 hX5 v5 f5 g5 hA5 => ?_)
  refine m_cnt (i := 4) t hA5 hX5 (by decide) (fun I6 A6 hX6 v6 f6 g6 hA6 => ?_)
  unfold wp_M_takeHead_L44
  refine pk_le 5 (4 + 1) (fun _ => ?_) (fun g => absurd g (by omega))
  refine m_take (c := 10) t hA6 hX6 (by decide) (fun I7 hX7 => ?_)
  have hfr : ∀ a, a ≠ 2 → A6 a = A a := fun a ha => by rw [g6 a ha, g5 a ha, g4 a ha, g3 a ha, g2 a ha]
  have badT : ∀ e, MB I0 n I7 e → eB x (pTail h bin) = .error e → ∀ v3, wp_M_takeHead_b201 Q I7 A6 v1 v3 := fun e hB hp v3 => by
    unfold wp_M_takeHead_b201
    refine ⟨fun g => absurd g hB.ne, fun _ => ⟨hn, k _ _ hA6 hfr ?_⟩⟩
    rw [hp]
    exact hB
  have all : (∀ v3, wp_M_takeHead_b201 Q I7 A6 v1 v3) → (((400 : Int32) < ((A6 2) ((5 : Int32)).toNatClampNeg)) → wp_M_takeHead_b199 Q I7 A6 v1) ∧ ((¬ (400 : Int32) < ((A6 2) ((5 : Int32)).toNatClampNeg)) → (((6 : Int32) < ((A6 2) ((6 : Int32)).toNatClampNeg)) → wp_M_takeHead_b199 Q I7 A6 v1) ∧ ((¬ (6 : Int32) < ((A6 2) ((6 : Int32)).toNatClampNeg)) → (((7 : Int32) < ((A6 2) ((7 : Int32)).toNatClampNeg)) → wp_M_takeHead_b199 Q I7 A6 v1) ∧ ((¬ (7 : Int32) < ((A6 2) ((7 : Int32)).toNatClampNeg)) → (((8 : Int32) < ((A6 2) ((8 : Int32)).toNatClampNeg)) → wp_M_takeHead_b199 Q I7 A6 v1) ∧ ((¬ (8 : Int32) < ((A6 2) ((8 : Int32)).toNatClampNeg)) → (((300 : Int32) < ((A6 2) ((9 : Int32)).toNatClampNeg)) → wp_M_takeHead_b199 Q I7 A6 v1) ∧ ((¬ (300 : Int32) < ((A6 2) ((9 : Int32)).toNatClampNeg)) → ((v1 = 0) → ((((A6 2) ((5 : Int32)).toNatClampNeg) < ((((A6 2) ((6 : Int32)).toNatClampNeg) + ((A6 2) ((7 : Int32)).toNatClampNeg)) + ((A6 2) ((9 : Int32)).toNatClampNeg))) → wp_M_takeHead_b199 Q I7 A6 v1) ∧ ((¬ ((A6 2) ((5 : Int32)).toNatClampNeg) < ((((A6 2) ((6 : Int32)).toNatClampNeg) + ((A6 2) ((7 : Int32)).toNatClampNeg)) + ((A6 2) ((9 : Int32)).toNatClampNeg))) → wp_M_takeHead_b195 Q I7 A6 v1)) ∧ ((¬ v1 = 0) → ((((A6 2) ((5 : Int32)).toNatClampNeg) = ((((A6 2) ((6 : Int32)).toNatClampNeg) + ((A6 2) ((7 : Int32)).toNatClampNeg)) + ((A6 2) ((9 : Int32)).toNatClampNeg))) → wp_M_takeHead_b195 Q I7 A6 v1) ∧ ((¬ ((A6 2) ((5 : Int32)).toNatClampNeg) = ((((A6 2) ((6 : Int32)).toNatClampNeg) + ((A6 2) ((7 : Int32)).toNatClampNeg)) + ((A6 2) ((9 : Int32)).toNatClampNeg))) → wp_M_takeHead_b199 Q I7 A6 v1))))))) := fun z => by
    have z0 : wp_M_takeHead_b199 Q I7 A6 v1 := z 0
    have z1 : wp_M_takeHead_b195 Q I7 A6 v1 := z 1
    exact ⟨fun _ => z0, fun _ => ⟨fun _ => z0, fun _ => ⟨fun _ => z0, fun _ => ⟨fun _ => z0, fun _ => ⟨fun _ => z0, fun _ => ⟨fun _ => ⟨fun _ => z0, fun _ => z1⟩, fun _ => ⟨fun _ => z1, fun _ => z0⟩⟩⟩⟩⟩⟩⟩
  cases hx : x with
  | error e =>
    rw [hx] at hX7
    exact all (badT e hX7 (by rw [hx]; rfl))
  | ok q2 =>
  cases h1 : pExp h 103 q2 with
  | error e =>
    simp only [hx, h1, eB_k, eB_e] at hX7
    exact all (badT e hX7 (by simp only [hx, h1, eB_k, eB_e, pTail]))
  | ok q3 =>
  cases h2 : pCnt h q3 with
  | error e =>
    simp only [hx, h1, h2, eB_k, eB_e] at hX7
    exact all (badT e hX7 (by simp only [hx, h1, h2, eB_k, eB_e, pTail]))
  | ok zM =>
  cases h3 : pCnt h zM.2 with
  | error e =>
    simp only [hx, h1, h2, h3, eB_k, eB_e] at hX7
    exact all (badT e hX7 (by simp only [hx, h1, h2, h3, eB_k, eB_e, pTail]))
  | ok zI =>
  cases h4 : pCnt h zI.2 with
  | error e =>
    simp only [hx, h1, h2, h3, h4, eB_k, eB_e] at hX7
    exact all (badT e hX7 (by simp only [hx, h1, h2, h3, h4, eB_k, eB_e, pTail]))
  | ok zL =>
  cases h5 : pCnt h zL.2 with
  | error e =>
    simp only [hx, h1, h2, h3, h4, h5, eB_k, eB_e] at hX7
    exact all (badT e hX7 (by simp only [hx, h1, h2, h3, h4, h5, eB_k, eB_e, pTail]))
  | ok zO =>
  cases h6 : pCnt h zO.2 with
  | error e =>
    simp only [hx, h1, h2, h3, h4, h5, h6, eB_k, eB_e] at hX7
    exact all (badT e hX7 (by simp only [hx, h1, h2, h3, h4, h5, h6, eB_k, eB_e, pTail]))
  | ok zA =>
  cases h7 : pExp h 10 zA.2 with
  | error e =>
    simp only [hx, h1, h2, h3, h4, h5, h6, h7, eB_k, eB_e] at hX7
    exact all (badT e hX7 (by simp only [hx, h1, h2, h3, h4, h5, h6, h7, eB_k, eB_e, pTail]))
  | ok q9 =>
    simp only [hx, h1, h2, h3, h4, h5, h6, h7, eB_k, eB_e] at hX7
    obtain ⟨hq9, hG⟩ : q9 ≤ n ∧ MG I0 I7 q9 := hX7
    have hp : eB x (pTail h bin) = if hdFits bin zM.1 zI.1 zL.1 zO.1 zA.1 then .ok (bin, zM.1, zI.1, zL.1, zO.1, zA.1, q9) else .error (2, q9) := by simp only [hx, h1, h2, h3, h4, h5, h6, h7, eB_k, eB_e, pTail]
    have b0 := (pCnt_ok hend h2).1
    have b1 := (pCnt_ok hend h3).1
    have b2 := (pCnt_ok hend h4).1
    have b3 := (pCnt_ok hend h5).1
    have b4 := (pCnt_ok hend h6).1
    have w0 : A6 2 5 = nI zM.1 := by
      rw [f6 5 (by decide), f5 5 (by decide), f4 5 (by decide), f3 5 (by decide)]
      exact v2 q3 zM (by simp only [hx, h1, eB_k]) h2
    have w1 : A6 2 6 = nI zI.1 := by
      rw [f6 6 (by decide), f5 6 (by decide), f4 6 (by decide)]
      exact v3 zM.2 zI (by simp only [hx, h1, h2, eB_k]) h3
    have w2 : A6 2 7 = nI zL.1 := by
      rw [f6 7 (by decide), f5 7 (by decide)]
      exact v4 zI.2 zL (by simp only [hx, h1, h2, h3, eB_k]) h4
    have w3 : A6 2 8 = nI zO.1 := by
      rw [f6 8 (by decide)]
      exact v5 zL.2 zO (by simp only [hx, h1, h2, h3, h4, eB_k]) h5
    have w4 : A6 2 9 = nI zA.1 := v6 zO.2 zA (by simp only [hx, h1, h2, h3, h4, h5, eB_k]) h6
    have no : (zM.1 ≤ 400 ∧ zI.1 ≤ 6 ∧ zL.1 ≤ 7 ∧ zO.1 ≤ 8 ∧ zA.1 ≤ 300 ∧ (if bin then zM.1 = zI.1 + zL.1 + zA.1 else zI.1 + zL.1 + zA.1 ≤ zM.1)) ↔ hdFits bin zM.1 zI.1 zL.1 zO.1 zA.1 = true := by
      simp only [hdFits, Bool.and_eq_true, decide_eq_true_eq]
      cases bin <;> simp [and_assoc]
    have bad : ¬ (zM.1 ≤ 400 ∧ zI.1 ≤ 6 ∧ zL.1 ≤ 7 ∧ zO.1 ≤ 8 ∧ zA.1 ≤ 300 ∧ (if bin then zM.1 = zI.1 + zL.1 + zA.1 else zI.1 + zL.1 + zA.1 ≤ zM.1)) → wp_M_takeHead_b199 Q I7 A6 v1 := fun g => by
      unfold wp_M_takeHead_b199 wp_M_takeHead_b201
      rw [if_neg (fun z => g (no.mpr z))] at hp
      refine ⟨fun _ => ⟨fun _ => m_wrong (ek := 2) (ep := q9) hG hq9 rfl hG.2.1 (by decide) (fun I8 hB => ⟨hn, k _ _ hA6 hfr ?_⟩), fun c => absurd rfl c⟩, fun c => absurd hG.2.2.1 c⟩
      rw [hp]
      exact hB
    have good : (zM.1 ≤ 400 ∧ zI.1 ≤ 6 ∧ zL.1 ≤ 7 ∧ zO.1 ≤ 8 ∧ zA.1 ≤ 300 ∧ (if bin then zM.1 = zI.1 + zL.1 + zA.1 else zI.1 + zL.1 + zA.1 ≤ zM.1)) → wp_M_takeHead_b195 Q I7 A6 v1 := fun g => by
      unfold wp_M_takeHead_b195 wp_M_takeHead_b201
      rw [if_pos (no.mp g)] at hp
      refine ⟨fun _ => ⟨fun c => absurd c (by decide), fun _ => ⟨hn, k _ _ hA6 hfr ?_⟩⟩, fun c => absurd hG.2.2.1 c⟩
      rw [hp]
      exact ⟨hq9, hG, w0, w1, w2, w3, w4⟩
    have es : ((A6 2) ((6 : Int32)).toNatClampNeg) + ((A6 2) ((7 : Int32)).toNatClampNeg) + ((A6 2) ((9 : Int32)).toNatClampNeg) = nI (zI.1 + zL.1 + zA.1) := by
      show A6 2 6 + A6 2 7 + A6 2 9 = _
      rw [w1, w2, w4, nI_add, nI_add]
    refine pk_lt 400 zM.1 (fun g => bad (fun z => by omega)) (fun c0 => ?_) rfl w0
    refine pk_lt 6 zI.1 (fun g => bad (fun z => by omega)) (fun c1 => ?_) rfl w1
    refine pk_lt 7 zL.1 (fun g => bad (fun z => by omega)) (fun c2 => ?_) rfl w2
    refine pk_lt 8 zO.1 (fun g => bad (fun z => by omega)) (fun c3 => ?_) rfl w3
    refine pk_lt 300 zA.1 (fun g => bad (fun z => by omega)) (fun c4 => ?_) rfl w4
    refine ⟨fun c5 => ?_, fun c5 => ?_⟩
    · have hb : bin = false := by
        cases bin with
        | false => rfl
        | true => rw [hv1] at c5; exact absurd c5 (by decide)
      subst hb
      refine pk_lt zM.1 (zI.1 + zL.1 + zA.1) (fun g => bad (fun z => ?_)) (fun g => good ⟨c0, c1, c2, c3, c4, by simpa using g⟩) w0 es
      have : zI.1 + zL.1 + zA.1 ≤ zM.1 := by simpa using z.2.2.2.2.2
      omega
    · have hb : bin = true := by
        cases bin with
        | true => rfl
        | false => rw [hv1] at c5; exact absurd rfl c5
      subst hb
      refine pk_eq zM.1 (zI.1 + zL.1 + zA.1) (fun g => good ⟨c0, c1, c2, c3, c4, by simpa using g⟩) (fun g => bad (fun z => g ?_)) w0 es
      simpa using z.2.2.2.2.2
theorem m_head {I0 I : NI} {A0 A : NNI} {h : Nat → Nat} {n : Nat} {Q : Int32 → NI → NNI → Prop} (t : TM I0 A0 h n) (hA : KA A0 A) (hG : MG I0 I 0)
    (k : ∀ r I' A', KA A0 A' → (∀ a, a ≠ 2 → A' a = A a) → MT I0 n I' A' (pHead h) → (∀ z, pHead h = .ok z → r = if z.1 then 1 else 0) → Q r I' A') : wp_M_takeHead I A Q := by
  unfold wp_M_takeHead
  refine m_take (x := .ok 0) (c := 97) t hA ⟨Nat.zero_le _, hG⟩ (by decide) (fun I1 hX1 => ?_)
  have hX : MX I0 n I1 (pExp h 97 0) := hX1
  have hbin : ∀ z, pTail h true z = pTail h true z := fun _ => rfl
  have fst : ∀ (bin : Bool) (q2 : Nat) z, pTail h bin q2 = .ok z → z.1 = bin := by
    intro bin q2 z hz
    obtain ⟨a, h1, hz⟩ := eB_ok hz
    obtain ⟨b, h2, hz⟩ := eB_ok hz
    obtain ⟨c, h3, hz⟩ := eB_ok hz
    obtain ⟨d, h4, hz⟩ := eB_ok hz
    obtain ⟨e, h5, hz⟩ := eB_ok hz
    obtain ⟨f, h6, hz⟩ := eB_ok hz
    obtain ⟨g, h7, hz⟩ := eB_ok hz
    by_cases z2 : hdFits bin b.1 c.1 d.1 e.1 f.1 = true
    · rw [if_pos z2] at hz
      cases hz
      rfl
    · rw [if_neg z2] at hz
      cases hz
  -- behind the first letter
  have go : ∀ (bin : Bool), (∀ q, pExp h 97 0 = .ok q → bin = decide (h q = 105)) → wp_M_takeHead_b21 Q I1 A (if bin then 1 else 0) := fun bin hb => by
    unfold wp_M_takeHead_b21
    have fin : ∀ I2, MX I0 n I2 (eB (pExp h 97 0) (pExp h (if bin then 105 else 97))) → wp_M_takeHead_b36 Q I2 A (if bin then 1 else 0) := fun I2 hX2 => by
      refine m_tail t hA hX2 rfl (fun I' A' hA' hf hT => ?_)
      have hp : pHead h = eB (eB (pExp h 97 0) (pExp h (if bin then 105 else 97))) (pTail h bin) := by
        rw [pHead_is]
        cases h1 : pExp h 97 0 with
        | error e => rfl
        | ok q =>
          have e1 := hb q h1
          rw [eB_k, eB_k, ← e1]
          have e2 : (if h q = 105 then 105 else 97) = (if bin then 105 else 97) := by
            by_cases g : h q = 105
            · rw [if_pos g, e1]; simp [g]
            · rw [if_neg g, e1]; simp [g]
          rw [e2]
      refine k _ _ _ hA' hf (by rw [hp]; exact hT) (fun z hz => ?_)
      rw [hp] at hz
      obtain ⟨q2, -, h2⟩ := eB_ok hz
      rw [fst bin q2 z h2]
    cases bin with
    | false =>
      refine ⟨fun _ => m_take (c := 97) t hA hX (by decide) (fun I2 hX2 => fin I2 hX2), fun c => absurd rfl c⟩
    | true =>
      refine ⟨fun c => absurd c (by decide), fun _ => m_take (c := 105) t hA hX (by decide) (fun I2 hX2 => fin I2 hX2)⟩
  refine m_hereX t hA hX (fun r hr => ⟨fun g => ?_, fun g => ?_⟩)
  · refine go true (fun q hq => ?_)
    have : h q = 105 := (hv_eq (d := 105) (t.le q) (by decide)).mp ((hr q hq).symm.trans g)
    simp [this]
  · refine go false (fun q hq => ?_)
    have : ¬ h q = 105 := fun z => g ((hr q hq).trans ((hv_eq (d := 105) (t.le q) (by decide)).mpr z))
    simp [this]
