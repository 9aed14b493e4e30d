/-! CLASS SIDE: the tape and the cursor -/
/-- the tape of the class: n bytes, b k the k-th; h: as the readings see it -/
def TW (IT : Nat → Int32) (AT : Nat → Nat → Int32) (h : Nat → Nat) (n : Nat) : Prop := n ≤ 6000 ∧ IT 0 = nI n ∧ (∀ q, q < n → AT 1 q = nI (h q) ∧ h q < 256) ∧ ∀ q, n ≤ q → h q = 256
/-- what a look at q gives -/
def hv (c : Nat) : Int32 := if c = 256 then -1 else nI c
/-- the cursor: place, start, number, fault -/
def CU (I : Nat → Int32) (q st v : Nat) (fk fp : Int32) : Prop := I 0 = nI q ∧ I 1 = nI st ∧ I 2 = nI v ∧ I 3 = fk ∧ I 4 = fp
/-- the cursor with a fault -/
def CE (I : Nat → Int32) (e : Er) : Prop := I 3 = nI e.1 ∧ I 4 = nI e.2
theorem TW.le {IT : Nat → Int32} {AT : Nat → Nat → Int32} {h : Nat → Nat} {n : Nat} (t : TW IT AT h n) (q : Nat) : h q ≤ 256 := by
  by_cases hq : q < n
  · have := (t.2.2.1 q hq).2; omega
  · have := t.2.2.2 q (by omega); omega
theorem TW.lt {IT : Nat → Int32} {AT : Nat → Nat → Int32} {h : Nat → Nat} {n q : Nat} (t : TW IT AT h n) (hq : ¬ h q = 256) : q < n := by
  by_cases g : q < n
  · exact g
  · exact absurd (t.2.2.2 q (by omega)) hq
theorem s_peek {IU IT : Nat → Int32} {AT : Nat → Nat → Int32} {h : Nat → Nat} {n q : Nat} {Q : Int32 → Prop} (t : TW IT AT h n) (hq : q ≤ n) (h0 : IU 0 = nI q) (k : Q (hv (h q))) : wp_U_peek IU IT AT Q := by
  obtain ⟨t1, t2, t3, t4⟩ := t
  unfold wp_U_peek
  rw [h0, t2]
  refine ⟨fun c => absurd c (nI_pos (by omega)), fun _ => ⟨fun c => ?_, fun c => ?_⟩⟩
  · have hlt : q < n := (nI_ltI (by omega) (by omega)).mp c
    refine ⟨vp_in_nI (by omega) (by omega), ?_⟩
    rw [nI_clamp (by omega), (t3 q hlt).1]
    have : ¬ h q = 256 := by have := (t3 q hlt).2; omega
    rw [hv, if_neg this] at k
    exact k
  · have hge : n ≤ q := Nat.not_lt.mp fun g => c ((nI_ltI (by omega) (by omega)).mpr g)
    rw [t4 q hge] at k
    exact k
theorem hv_eq {c d : Nat} (hc : c ≤ 256) (hd : d < 256) : hv c = nI d ↔ c = d := by
  unfold hv
  by_cases h : c = 256
  · rw [if_pos h]
    constructor
    · intro g
      have g2 := congrArg Int32.toInt g
      rw [nI_toInt (by omega)] at g2
      have : (-1 : Int32).toInt = -1 := by decide
      omega
    · intro g; omega
  · rw [if_neg h]
    exact nI_eq (by omega) (by omega)
theorem s_fail {IU : Nat → Int32} {k p : Nat} {Q : Int32 → (Nat → Int32) → Prop} (hk : ∀ I, CE I (k, p) → Q 0 I) : wp_U_fail IU (nI k) (nI p) Q := by
  unfold wp_U_fail
  exact hk _ ⟨rfl, rfl⟩
theorem s_expect {IU IT : Nat → Int32} {AT : Nat → Nat → Int32} {h : Nat → Nat} {n q st v c : Nat} {fk fp : Int32} {Q : Int32 → (Nat → Int32) → Prop} (t : TW IT AT h n) (hq : q ≤ n) (hU : CU IU q st v fk fp) (hc : c < 256)
    (k : Lk (pExp h c q) (fun r => ∀ I, CU I r st v fk fp → Q 1 I) (fun e => ∀ I, CE I e → Q 0 I)) : wp_U_expect IU IT AT (nI c) Q := by
  obtain ⟨u0, u1, u2, u3, u4⟩ := hU
  unfold wp_U_expect
  refine s_peek t hq u0 ⟨fun g => ?_, fun g => ?_⟩
  · have g2 := (hv_eq (t.le q) hc).mp g
    rw [pExp, if_pos g2] at k
    refine k _ ⟨?_, u1, u2, u3, u4⟩
    show IU 0 + 1 = nI (q + 1)
    rw [u0, nI_1]
  · have g2 : ¬ h q = c := fun z => g ((hv_eq (t.le q) hc).mpr z)
    rw [pExp, if_neg g2] at k
    rw [u0]
    exact s_fail (k := 1) (fun I hI => ⟨rfl, k I hI⟩)
