/-! the class reads a number -/
theorem isD_iff {c : Nat} : isD c = true ↔ 48 ≤ c ∧ c ≤ 57 := by simp [isD]
theorem hv_nI {c : Nat} (h : c < 256) : hv c = nI c := by rw [hv, if_neg (by omega)]
theorem hv_m1 : hv 256 = -1 := rfl
theorem nI_c (k : Nat) (hk : k < 2 ^ 31 := by decide) : ∀ {d : Nat}, d < 2 ^ 31 → (nI d < nI k ↔ d < k) := fun hd => nI_ltI hd hk
theorem hv_lt48 {c : Nat} (h : c ≤ 256) : hv c < (48 : Int32) ↔ c = 256 ∨ c < 48 := by
  by_cases g : c = 256
  · subst g
    exact ⟨fun _ => Or.inl rfl, fun _ => by decide⟩
  · rw [hv_nI (by omega), show (48 : Int32) = nI 48 from rfl, nI_ltI (by omega) (by decide)]
    exact ⟨fun z => Or.inr z, fun z => z.elim (fun z => absurd z g) id⟩
theorem hv_le57 {c : Nat} (h : c ≤ 256) : hv c ≤ (57 : Int32) ↔ c = 256 ∨ c ≤ 57 := by
  by_cases g : c = 256
  · subst g
    exact ⟨fun _ => Or.inl rfl, fun _ => by decide⟩
  · rw [hv_nI (by omega), show (57 : Int32) = nI 57 from rfl, nI_leI (by omega) (by decide)]
    exact ⟨fun z => Or.inr z, fun z => z.elim (fun z => absurd z g) id⟩
theorem s_num37 {IU IT : Nat → Int32} {AT : Nat → Nat → Int32} {q st v d : Nat} {fk fp : Int32} {Q : Int32 → (Nat → Int32) → Prop} (hU : CU IU q st v fk fp) (hd : d ≤ 4)
    (k1 : 0 < d → Q 1 IU) (k0 : d = 0 → ∀ I, CE I (1, q) → Q 0 I) : wp_U_readNumber_b37 IT AT Q IU (nI d) := by
  unfold wp_U_readNumber_b37
  refine ⟨fun c => k1 ?_, fun c => ?_⟩
  · exact (nI_ltI (a := 0) (by decide) (by omega)).mp c
  · have hz : d = 0 := by
      by_cases g : 0 < d
      · exact absurd ((nI_ltI (a := 0) (by decide) (by omega)).mpr g) c
      · omega
    rw [hU.1]
    exact s_fail (k := 1) (fun I hI => ⟨fun _ => k0 hz I hI, fun z => absurd rfl z⟩)
theorem s_numG {IT : Nat → Int32} {AT : Nat → Nat → Int32} {h : Nat → Nat} {n st : Nat} {fk fp : Int32} {Q : Int32 → (Nat → Int32) → Prop} {X : (Nat → Int32) → Prop} (t : TW IT AT h n) :
    ∀ (j v q : Nat) (I : Nat → Int32), j ≤ 4 → q ≤ n → CU I q st v fk fp → (v + 1) * 10 ^ j ≤ 10000 → Lk (pNumG h j v q) (fun z => ∀ I, CU I z.2 st z.1 fk fp → Q 1 I) (fun e => ∀ I, CE I e → Q 0 I) → wp_U_readNumber_L15 IT AT Q X (j + 1) I (nI (4 - j)) := by
  intro j
  induction j with
  | zero =>
    intro v q I hj hq hU hB k
    unfold wp_U_readNumber_L15
    have hv4 : v < 10000 := by omega
    refine ⟨fun c => absurd c (by decide), fun _ => s_peek t hq hU.1 ?_⟩
    have hle := t.le q
    by_cases g : isD (h q) = true
    · rw [pNumG, if_pos g] at k
      obtain ⟨g1, g2⟩ := isD_iff.mp g
      have bad : ∀ v3 : Int32, wp_U_readNumber_b76 IT AT Q (wp_U_readNumber_L15 IT AT Q X 0) X I (nI 4) (hv (h q)) v3 := fun v3 => by
        unfold wp_U_readNumber_b76
        refine ⟨fun _ => ⟨fun _ => ?_, fun c => absurd rfl c⟩, fun _ => ?_⟩
        · rw [hU.1]; exact s_fail (k := 1) (fun I hI => ⟨rfl, k I hI⟩)
        · rw [hU.1]; exact s_fail (k := 1) (fun I hI => ⟨rfl, k I hI⟩)
      refine ⟨fun c => ?_, fun _ => ⟨fun _ => ⟨fun c => absurd c (by decide), fun _ => ⟨fun _ => bad 1, fun _ => bad 0⟩⟩, fun c => ?_⟩⟩
      · rcases (hv_lt48 hle).mp c with z | z <;> omega
      · exact absurd ((hv_le57 hle).mpr (Or.inr g2)) c
    · rw [pNumG, if_neg g] at k
      have out := s_num37 (IT := IT) (AT := AT) (Q := Q) hU (d := 4) (by omega) (fun _ => k I hU) (fun z => absurd z (by decide))
      refine ⟨fun _ => out, fun c => ⟨fun c2 => absurd (isD_iff.mpr ?_) g, fun _ => out⟩⟩
      have a1 : ¬ (h q = 256 ∨ h q < 48) := fun z => c ((hv_lt48 hle).mpr z)
      have a2 := (hv_le57 hle).mp c2
      omega
  | succ j ih =>
    intro v q I hj hq hU hB k
    unfold wp_U_readNumber_L15
    have hle := t.le q
    have hpos : 0 < 10 ^ (j + 1) := Nat.pow_pos (by decide)
    have hv4 : v + 1 ≤ 10000 := Nat.le_trans (Nat.le_mul_of_pos_right _ hpos) hB
    refine ⟨fun c => ?_, fun _ => s_peek t hq hU.1 ?_⟩
    · have := (nI_ltI (a := 4) (b := 4 - (j + 1)) (by decide) (by omega)).mp c
      omega
    · by_cases g : isD (h q) = true
      · obtain ⟨g1, g2⟩ := isD_iff.mp g
        rw [pNumG, if_pos g] at k
        have a1 : ¬ hv (h q) < (48 : Int32) := fun c => by rcases (hv_lt48 hle).mp c with z | z <;> omega
        have a2 : hv (h q) ≤ (57 : Int32) := (hv_le57 hle).mpr (Or.inr g2)
        -- what happens with v3 = is this digit behind a zero
        have go : ∀ v3 : Int32, (v3 = 0 ↔ ¬ (j ≠ 3 ∧ v = 0)) → wp_U_readNumber_b76 IT AT Q (wp_U_readNumber_L15 IT AT Q X (j + 1)) X I (nI (4 - (j + 1))) (hv (h q)) v3 := fun v3 h3 => by
          unfold wp_U_readNumber_b76
          refine ⟨fun c3 => ?_, fun c3 => ?_⟩
          · rw [if_neg (h3.mp c3)] at k
            refine ⟨fun c4 => ?_, fun _ => ?_⟩
            · have := (nI_eq (a := 4 - (j + 1)) (b := 4) (by omega) (by decide)).mp c4
              omega
            · have hst : nI (4 - (j + 1)) + 1 = nI (4 - j) := by rw [nI_1]; congr 1; omega
              rw [hst]
              refine ih (10 * v + (h q - 48)) (q + 1) _ (by omega) (by have := t.lt (q := q) (by omega); omega) ⟨?_, hU.2.1, ?_, hU.2.2.2.1, hU.2.2.2.2⟩ ?_ k
              · show I 0 + 1 = nI (q + 1)
                rw [hU.1, nI_1]
              · show (10 : Int32) * I 2 + hv (h q) - 48 = nI (10 * v + (h q - 48))
                rw [hU.2.2.1, hv_nI (by omega), show (10 : Int32) = nI 10 from rfl, show (48 : Int32) = nI 48 from rfl, pk_mul, nI_add, pk_sub (by omega)]
                congr 1
                omega
              · have e1 : (10 * v + (h q - 48) + 1) * 10 ^ j ≤ (10 * (v + 1)) * 10 ^ j := Nat.mul_le_mul_right _ (by omega)
                have e2 : (10 * (v + 1)) * 10 ^ j = (v + 1) * 10 ^ (j + 1) := by rw [Nat.pow_succ, Nat.mul_comm 10 (v + 1), Nat.mul_assoc, Nat.mul_comm 10]
                omega
          · have h4 : j ≠ 3 ∧ v = 0 := Classical.byContradiction fun z => c3 (h3.mpr z)
            rw [if_pos h4] at k
            rw [hU.1]
            exact s_fail (k := 1) (fun I hI => ⟨rfl, k I hI⟩)
        refine ⟨fun c => absurd c a1, fun _ => ⟨fun _ => ⟨fun c => ?_, fun c => ⟨fun c2 => ?_, fun c2 => ?_⟩⟩, fun c => absurd a2 c⟩⟩
        · -- the first digit
          unfold wp_U_readNumber_b74
          refine go 0 ⟨fun _ z => ?_, fun _ => rfl⟩
          have := (nI_leI (a := 4 - (j + 1)) (b := 0) (by omega) (by decide)).mp c
          omega
        · refine go 1 ⟨fun z => absurd z (by decide), fun z => absurd ⟨fun z3 => ?_, ?_⟩ z⟩
          · apply c
            subst z3
            decide
          · rw [hU.2.2.1] at c2
            exact (nI_eq (a := v) (b := 0) (by omega) (by decide)).mp c2
        · unfold wp_U_readNumber_b74
          refine go 0 ⟨fun _ z => c2 ?_, fun _ => rfl⟩
          rw [hU.2.2.1, z.2]
          rfl
      · rw [pNumG, if_neg g] at k
        have out : wp_U_readNumber_b37 IT AT Q I (nI (4 - (j + 1))) := by
          refine s_num37 (IT := IT) (AT := AT) hU (by omega) (fun z => ?_) (fun z => ?_)
          · rw [if_neg (by omega)] at k
            exact k I hU
          · rw [if_pos (by omega)] at k
            exact k
        refine ⟨fun _ => out, fun c => ⟨fun c2 => absurd (isD_iff.mpr ?_) g, fun _ => out⟩⟩
        have a1 : ¬ (h q = 256 ∨ h q < 48) := fun z => c ((hv_lt48 hle).mpr z)
        have a2 := (hv_le57 hle).mp c2
        omega
theorem s_num {IU IT : Nat → Int32} {AT : Nat → Nat → Int32} {h : Nat → Nat} {n q st v : Nat} {fk fp : Int32} {Q : Int32 → (Nat → Int32) → Prop} (t : TW IT AT h n) (hq : q ≤ n) (hU : CU IU q st v fk fp)
    (k : Lk (pNum h q) (fun z => ∀ I, CU I z.2 q z.1 fk fp → Q 1 I) (fun e => ∀ I, CE I e → Q 0 I)) : wp_U_readNumber IU IT AT Q := by
  unfold wp_U_readNumber
  exact ⟨5, s_numG t 4 0 q _ (Nat.le_refl _) hq ⟨hU.1, hU.1, rfl, hU.2.2.2.1, hU.2.2.2.2⟩ (by decide) k⟩
