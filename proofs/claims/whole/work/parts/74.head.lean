/-! the first line, on the class side -/
def HC (IC : Nat → Int32) (M I L O A : Nat) : Prop := IC 0 = nI M ∧ IC 1 = nI I ∧ IC 2 = nI L ∧ IC 3 = nI O ∧ IC 4 = nI A
theorem pCnt_ok {h : Nat → Nat} {n q : Nat} {z : Nat × Nat} (hend : ∀ q, n ≤ q → h q = 256) (hz : pCnt h q = .ok z) : z.1 ≤ 9999 ∧ z.2 ≤ n := by
  obtain ⟨a, h1, h2⟩ := eB_ok hz
  obtain ⟨b1, b2, -⟩ := pExp_ok hend (by decide) h1
  obtain ⟨c1, -, c3⟩ := pNum_ok hend h2
  exact ⟨c1, c3 b2⟩
theorem s_cnt {IU IT : Nat → Int32} {AT : Nat → Nat → Int32} {h : Nat → Nat} {n q st v : Nat} {fk fp : Int32} {Q : Int32 → (Nat → Int32) → Prop} (t : TW IT AT h n) (hq : q ≤ n) (hU : CU IU q st v fk fp)
    (k : Lk (pCnt h q) (fun z => ∀ I st, CU I z.2 st z.1 fk fp → Q 1 I) (fun e => ∀ I, CE I e → Q 0 I)) : wp_R_readCount IU IT AT Q := by
  unfold wp_R_readCount
  rw [pCnt, Lk_eB] at k
  refine s_expect (c := 32) t hq hU (by decide) (Lk_imp k (fun r hr k I hI => ⟨fun c => absurd c (by decide), fun _ => ?_⟩) (fun e he k I hI => ⟨fun _ => k I hI, fun c => absurd rfl c⟩))
  obtain ⟨-, b2, -⟩ := pExp_ok t.2.2.2 (by decide) hr
  exact s_num t b2 hI (Lk_imp k (fun z hz k I hI => ⟨fun c => absurd c (by decide), fun _ => k I r hI⟩) (fun e he k I hI => ⟨fun _ => k I hI, fun c => absurd rfl c⟩))
theorem s_fits {IC : Nat → Int32} {M I L O A : Nat} {bin : Bool} {x : Int32} {Q : Int32 → Prop} (hH : HC IC M I L O A) (hx : x = if bin then 1 else 0) (b : M ≤ 9999 ∧ I ≤ 9999 ∧ L ≤ 9999 ∧ O ≤ 9999 ∧ A ≤ 9999)
    (k : Q (if hdFits bin M I L O A then 1 else 0)) : wp_C_isWithinBounds IC x Q := by
  obtain ⟨h0, h1, h2, h3, h4⟩ := hH
  obtain ⟨b0, b1, b2, b3, b4⟩ := b
  unfold wp_C_isWithinBounds
  rw [h0, h1, h2, h3, h4, nI_add, nI_add]
  have lt : ∀ (a c : Nat), a ≤ 400 → c ≤ 9999 → (nI a < nI c ↔ a < c) := fun a c ha hc => nI_ltI (by omega) (by omega)
  have no : (M ≤ 400 ∧ I ≤ 6 ∧ L ≤ 7 ∧ O ≤ 8 ∧ A ≤ 300 ∧ (if bin then M = I + L + A else I + L + A ≤ M)) ∨ hdFits bin M I L O A = false := by
    by_cases g : hdFits bin M I L O A = true
    · refine Or.inl ?_
      simp only [hdFits, Bool.and_eq_true, decide_eq_true_eq] at g
      obtain ⟨⟨⟨⟨⟨g0, g1⟩, g2⟩, g3⟩, g4⟩, g5⟩ := g
      refine ⟨g0, g1, g2, g3, g4, ?_⟩
      cases bin <;> simpa using g5
    · exact Or.inr (by simpa using g)
  have bad : ¬ (M ≤ 400 ∧ I ≤ 6 ∧ L ≤ 7 ∧ O ≤ 8 ∧ A ≤ 300 ∧ (if bin then M = I + L + A else I + L + A ≤ M)) → Q 0 := fun g => by
    rcases no with z | z
    · exact absurd z g
    · rw [z] at k; exact k
  have good : (M ≤ 400 ∧ I ≤ 6 ∧ L ≤ 7 ∧ O ≤ 8 ∧ A ≤ 300 ∧ (if bin then M = I + L + A else I + L + A ≤ M)) → Q 1 := fun g => by
    have z : hdFits bin M I L O A = true := by
      simp only [hdFits, Bool.and_eq_true, decide_eq_true_eq]
      refine ⟨⟨⟨⟨⟨g.1, g.2.1⟩, g.2.2.1⟩, g.2.2.2.1⟩, g.2.2.2.2.1⟩, ?_⟩
      cases bin <;> simpa using g.2.2.2.2.2
    rw [z] at k; exact k
  refine ⟨fun c => bad fun g => ?_, fun c0 => ⟨fun c => bad fun g => ?_, fun c1 => ⟨fun c => bad fun g => ?_, fun c2 => ⟨fun c => bad fun g => ?_, fun c3 => ⟨fun c => bad fun g => ?_, fun c4 => ⟨fun c5 => ?_, fun c5 => ?_⟩⟩⟩⟩⟩⟩
  · have := (lt 400 M (by omega) b0).mp c; omega
  · have := (lt 6 I (by omega) b1).mp c; omega
  · have := (lt 7 L (by omega) b2).mp c; omega
  · have := (lt 8 O (by omega) b3).mp c; omega
  · have := (lt 300 A (by omega) b4).mp c; omega
  · have hb : bin = false := by
      cases bin with
      | false => rfl
      | true => rw [hx] at c5; exact absurd c5 (by decide)
    subst hb
    refine ⟨fun c => bad fun g => ?_, fun c => good ?_⟩
    · have := (nI_ltI (a := M) (b := I + L + A) (by omega) (by omega)).mp c
      have g5 : I + L + A ≤ M := by simpa using g.2.2.2.2.2
      omega
    · have e0 := mt (lt 400 M (by omega) b0).mpr c0
      have e1 := mt (lt 6 I (by omega) b1).mpr c1
      have e2 := mt (lt 7 L (by omega) b2).mpr c2
      have e3 := mt (lt 8 O (by omega) b3).mpr c3
      have e4 := mt (lt 300 A (by omega) b4).mpr c4
      have e5 := mt (nI_ltI (a := M) (b := I + L + A) (by omega) (by omega)).mpr c
      exact ⟨by omega, by omega, by omega, by omega, by omega, by simpa using Nat.not_lt.mp e5⟩
  · have hb : bin = true := by
      cases bin with
      | true => rfl
      | false => rw [hx] at c5; exact absurd rfl c5
    subst hb
    refine ⟨fun c => good ?_, fun c => bad fun g => c ?_⟩
    · have e0 := mt (lt 400 M (by omega) b0).mpr c0
      have e1 := mt (lt 6 I (by omega) b1).mpr c1
      have e2 := mt (lt 7 L (by omega) b2).mpr c2
      have e3 := mt (lt 8 O (by omega) b3).mpr c3
      have e4 := mt (lt 300 A (by omega) b4).mpr c4
      have e5 := (nI_eq (a := M) (b := I + L + A) (by omega) (by omega)).mp c
      exact ⟨by omega, by omega, by omega, by omega, by omega, by simpa using e5⟩
    · have g5 : M = I + L + A := by simpa using g.2.2.2.2.2
      rw [g5]
