/-! lists in arrays; the inputs, read by the class -/
def AL (A : Nat → Nat → Int32) (a : Nat) (l : List Nat) : Prop := ∀ i, i < l.length → A a i = nI (l.getD i 0)
theorem AL_push {A B : Nat → Nat → Int32} {a x : Nat} {l : List Nat} (h : AL A a l) (hB : B a = upd (A a) l.length (nI x)) : AL B a (l ++ [x]) := by
  intro i hi
  rw [List.length_append, List.length_singleton] at hi
  rw [hB, upd]
  by_cases g : i = l.length
  · rw [if_pos g, g]
    simp [List.getD]
  · rw [if_neg g, h i (by omega)]
    congr 1
    simp only [List.getD]
    rw [List.getElem?_append_left (by omega)]
theorem AL_same {A B : Nat → Nat → Int32} {a : Nat} {l : List Nat} (h : AL A a l) (hB : B a = A a) : AL B a l := fun i hi => by rw [hB]; exact h i hi
theorem DT_add {A B : Nat → Nat → Int32} {x : Nat} {dl : List Nat} (h : DT A dl) (hB : B 8 = upd (A 8) x 1) : DT B (dl ++ [x]) := by
  intro v hv
  rw [hB, upd]
  by_cases g : v = x
  · rw [if_pos g, if_pos (by simp [g])]
  · rw [if_neg g, h v hv]
    by_cases g2 : v ∈ dl
    · rw [if_pos g2, if_pos (by simp [g2])]
    · rw [if_neg g2, if_neg (by simp [g2, g])]
theorem s_in66 {IR IU IT IC : Nat → Int32} {AT AC : Nat → Nat → Int32} {x : Nat} {vs : List Nat} {Q : Int32 → (Nat → Int32) → (Nat → Nat → Int32) → Prop} {K : (Nat → Int32) → (Nat → Nat → Int32) → Int32 → Prop} {X : (Nat → Int32) → (Nat → Nat → Int32) → Prop} (hl : vs.length < 6) (hx : x ≤ 400) (hD : DT AC vs) (hA : AL AC 0 vs)
    (k : ∀ A, DT A (vs ++ [x]) → AL A 0 (vs ++ [x]) → (∀ a, a ≠ 0 → a ≠ 8 → A a = AC a) → K IU A (nI (vs.length + 1))) : wp_R_readInputs_b66 IR IT AT IC Q K X IU (va_up AC 0 (upd (AC 0) (nI vs.length).toNatClampNeg (nI x))) (nI vs.length) := by
  have e0 : (nI vs.length).toNatClampNeg = vs.length := nI_clamp (by omega)
  have e1 : (va_up AC 0 (upd (AC 0) (nI vs.length).toNatClampNeg (nI x))) 0 (nI vs.length).toNatClampNeg = nI x := by
    rw [e0]; simp [va_up, upd]
  unfold wp_R_readInputs_b66
  rw [e1]
  refine ⟨vp_in_nI (by omega) (by decide), vp_in_nI (by omega) (by decide), ?_⟩
  rw [nI_1, nI_clamp (n := x) (by omega)]
  refine k _ (DT_add (x := x) hD rfl) (AL_push hA ?_) (fun a h1 h2 => ?_)
  · show upd (AC 0) (nI vs.length).toNatClampNeg (nI x) = _
    rw [e0]
  · simp [va_up, h1, h2]
