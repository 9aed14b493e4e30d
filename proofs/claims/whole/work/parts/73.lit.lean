/-! bounds of what is read; literals and definitions on the class side -/
theorem pNumG_ok {h : Nat → Nat} {n : Nat} (hend : ∀ q, n ≤ q → h q = 256) : ∀ (j v q : Nat) (z : Nat × Nat), (v + 1) * 10 ^ j ≤ 10000 → pNumG h j v q = .ok z → z.1 ≤ 9999 ∧ q ≤ z.2 ∧ (q ≤ n → z.2 ≤ n) := by
  intro j
  induction j with
  | zero =>
    intro v q z hB hz
    rw [pNumG] at hz
    by_cases g : isD (h q) = true
    · rw [if_pos g] at hz; cases hz
    · rw [if_neg g] at hz
      cases hz
      exact ⟨by simp at hB; omega, Nat.le_refl _, id⟩
  | succ j ih =>
    intro v q z hB hz
    have hpos : 0 < 10 ^ (j + 1) := Nat.pow_pos (by decide)
    have hv4 : v + 1 ≤ 10000 := Nat.le_trans (Nat.le_mul_of_pos_right _ hpos) hB
    rw [pNumG] at hz
    by_cases g : isD (h q) = true
    · rw [if_pos g] at hz
      by_cases g2 : j ≠ 3 ∧ v = 0
      · rw [if_pos g2] at hz; cases hz
      · rw [if_neg g2] at hz
        obtain ⟨a1, a2⟩ := isD_iff.mp g
        have e1 : (10 * v + (h q - 48) + 1) * 10 ^ j ≤ (10 * (v + 1)) * 10 ^ j := Nat.mul_le_mul_right _ (by omega)
        have e2 : (10 * (v + 1)) * 10 ^ j = (v + 1) * 10 ^ (j + 1) := by rw [Nat.pow_succ, Nat.mul_comm 10 (v + 1), Nat.mul_assoc, Nat.mul_comm 10]
        obtain ⟨b1, b2, b3⟩ := ih _ _ z (by omega) hz
        have hlt : q < n := Nat.not_le.mp fun g3 => by have := hend q g3; omega
        exact ⟨b1, by omega, fun _ => b3 (by omega)⟩
    · rw [if_neg g] at hz
      by_cases g2 : j = 3
      · rw [if_pos g2] at hz; cases hz
      · rw [if_neg g2] at hz
        cases hz
        exact ⟨by show v ≤ 9999; omega, Nat.le_refl _, id⟩
theorem pNum_ok {h : Nat → Nat} {n q : Nat} {z : Nat × Nat} (hend : ∀ q, n ≤ q → h q = 256) (hz : pNum h q = .ok z) : z.1 ≤ 9999 ∧ q ≤ z.2 ∧ (q ≤ n → z.2 ≤ n) := pNumG_ok hend 4 0 q z (by decide) hz
theorem pExp_ok {h : Nat → Nat} {n c q r : Nat} (hend : ∀ q, n ≤ q → h q = 256) (hc : c < 256) (hz : pExp h c q = .ok r) : r = q + 1 ∧ r ≤ n ∧ h q = c := by
  rw [pExp] at hz
  by_cases g : h q = c
  · rw [if_pos g] at hz
    cases hz
    exact ⟨rfl, Nat.not_lt.mp fun g3 => by have := hend q (by omega); omega, g⟩
  · rw [if_neg g] at hz; cases hz
theorem eB_ok {α β : Type} {x : Except Er α} {f : α → Except Er β} {b : β} (h : eB x f = .ok b) : ∃ a, x = .ok a ∧ f a = .ok b := by
  cases x with
  | error e => cases h
  | ok a => exact ⟨a, rfl, h⟩
theorem pLit_ok {h : Nat → Nat} {n M q : Nat} {z : Nat × Nat} (hend : ∀ q, n ≤ q → h q = 256) (hz : pLit h M q = .ok z) : z.1 ≤ 2 * M + 1 ∧ z.1 ≤ 9999 ∧ q ≤ z.2 ∧ (q ≤ n → z.2 ≤ n) := by
  obtain ⟨a, h1, h2⟩ := eB_ok hz
  by_cases g : a.1 ≤ 2 * M + 1
  · rw [if_pos g] at h2; cases h2; exact ⟨g, pNum_ok hend h1⟩
  · rw [if_neg g] at h2; cases h2
theorem pDef_ok {h : Nat → Nat} {n M q : Nat} {dl : List Nat} {z : Nat × Nat} (hend : ∀ q, n ≤ q → h q = 256) (hz : pDef h M dl q = .ok z) : (2 ≤ z.1 ∧ z.1 % 2 = 0 ∧ z.1 / 2 ∉ dl) ∧ z.1 ≤ 2 * M + 1 ∧ q ≤ z.2 ∧ (q ≤ n → z.2 ≤ n) := by
  obtain ⟨a, h1, h2⟩ := eB_ok hz
  by_cases g : 2 ≤ a.1 ∧ a.1 % 2 = 0 ∧ a.1 / 2 ∉ dl
  · rw [if_pos g] at h2; cases h2
    obtain ⟨b1, -, b2, b3⟩ := pLit_ok hend h1
    exact ⟨g, b1, b2, b3⟩
  · rw [if_neg g] at h2; cases h2
theorem s_lit {IU IT IC : Nat → Int32} {AT : Nat → Nat → Int32} {h : Nat → Nat} {n q st v M : Nat} {fk fp : Int32} {Q : Int32 → (Nat → Int32) → Prop} (t : TW IT AT h n) (hq : q ≤ n) (hU : CU IU q st v fk fp) (hM : IC 0 = nI M) (hM4 : M ≤ 9999)
    (k : Lk (pLit h M q) (fun z => ∀ I, CU I z.2 q z.1 fk fp → Q 1 I) (fun e => ∀ I, CE I e → Q 0 I)) : wp_R_readLiteral IU IT AT IC Q := by
  unfold wp_R_readLiteral
  rw [pLit, Lk_eB] at k
  refine s_num t hq hU (Lk_imp k (fun z hz k I hI => ⟨fun c => absurd c (by decide), fun _ => ?_⟩) (fun e he k I hI => ⟨fun _ => k I hI, fun c => absurd rfl c⟩))
  have hz9 := (pNum_ok t.2.2.2 hz).1
  unfold wp_C_highestLiteral
  have e1 : (2 : Int32) * IC 0 + 1 = nI (2 * M + 1) := by rw [hM, show (2 : Int32) = nI 2 from rfl, pk_mul, nI_1]
  rw [e1, hI.2.2.1]
  by_cases g : z.1 ≤ 2 * M + 1
  · rw [if_pos g] at k
    exact ⟨fun _ => k I hI, fun c => absurd ((nI_leI (by omega) (by omega)).mpr g) c⟩
  · rw [if_neg g] at k
    refine ⟨fun c => absurd ((nI_leI (by omega) (by omega)).mp c) g, fun _ => ?_⟩
    rw [hI.2.1]
    exact s_fail (k := 3) (fun I hI => ⟨fun _ => k I hI, fun c => absurd rfl c⟩)
/-- the variables that are defined, in the class's table -/
def DT (A : Nat → Nat → Int32) (dl : List Nat) : Prop := ∀ v, v ≤ 400 → A 8 v = if v ∈ dl then 1 else 0
theorem shr1 {v : Nat} (h : v < 2 ^ 31) : nI v >>> ((1 : Int32) &&& 31) = nI (v / 2) := pk_shrN h _ 1 (by decide)
theorem and1 {v : Nat} (h : v < 2 ^ 31) : nI v &&& (1 : Int32) = nI (v % 2) := pk_andN (by omega) 1 (by decide)
theorem s_def {IU IT IC : Nat → Int32} {AT AC : Nat → Nat → Int32} {h : Nat → Nat} {n q st v M : Nat} {dl : List Nat} {fk fp : Int32} {Q : Int32 → (Nat → Int32) → Prop} (t : TW IT AT h n) (hq : q ≤ n) (hU : CU IU q st v fk fp) (hM : IC 0 = nI M) (hM4 : M ≤ 400) (hD : DT AC dl)
    (k : Lk (pDef h M dl q) (fun z => ∀ I, CU I z.2 q z.1 fk fp → Q 1 I) (fun e => ∀ I, CE I e → Q 0 I)) : wp_R_readDefinition IU IT AT IC AC Q := by
  unfold wp_R_readDefinition
  rw [pDef, Lk_eB] at k
  refine s_lit t hq hU hM (by omega) (Lk_imp k (fun z hz k I hI => ⟨fun c => absurd c (by decide), fun _ => ?_⟩) (fun e he k I hI => ⟨fun _ => k I hI, fun c => absurd rfl c⟩))
  obtain ⟨b1, b2, -, -⟩ := pLit_ok t.2.2.2 hz
  have bad : ¬ (2 ≤ z.1 ∧ z.1 % 2 = 0 ∧ z.1 / 2 ∉ dl) → wp_R_readDefinition_b46 IT AT IC AC Q I 0 := fun g => by
    rw [if_neg g] at k
    unfold wp_R_readDefinition_b46
    refine ⟨fun _ => ?_, fun c => absurd rfl c⟩
    rw [hI.2.1]
    exact s_fail (k := 4) (fun I hI => ⟨fun _ => k I hI, fun c => absurd rfl c⟩)
  unfold wp_R_readDefinition_b44
  rw [hI.2.2.1, and1 (by omega), shr1 (by omega)]
  refine ⟨fun c => bad fun g => ?_, fun c1 => ⟨fun c2 => ⟨vp_in_nI (by omega) (by decide), ?_⟩, fun c2 => bad fun g => c2 (by rw [g.2.1]; rfl)⟩⟩
  · have := (nI_ltI (a := z.1) (b := 2) (by omega) (by decide)).mp c
    omega
  · have g1 : 2 ≤ z.1 := Nat.not_lt.mp fun g => c1 ((nI_ltI (a := z.1) (b := 2) (by omega) (by decide)).mpr g)
    have g2 : z.1 % 2 = 0 := (nI_eq (a := z.1 % 2) (b := 0) (by omega) (by decide)).mp c2
    rw [nI_clamp (by omega), hD (z.1 / 2) (by omega)]
    by_cases g3 : z.1 / 2 ∈ dl
    · rw [if_pos g3]
      exact ⟨fun c => absurd c (by decide), fun _ => bad fun g => g.2.2 g3⟩
    · rw [if_neg g3]
      refine ⟨fun _ => ?_, fun c => absurd rfl c⟩
      rw [if_pos ⟨g1, g2, g3⟩] at k
      unfold wp_R_readDefinition_b46
      exact ⟨fun c => absurd c (by decide), fun _ => k I hI⟩
