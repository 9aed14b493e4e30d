/-! the first line read by the class -/
theorem s_head {IR IU IT IC : Nat → Int32} {AT : Nat → Nat → Int32} {h : Nat → Nat} {n st v : Nat} {fk fp : Int32} {Q : Int32 → (Nat → Int32) → (Nat → Int32) → (Nat → Int32) → Prop} (t : TW IT AT h n) (hU : CU IU 0 st v fk fp)
    (k : Lk (pHead h) (fun z => ∀ R U C st v, R 0 = IR 0 → R 1 = (if z.1 then 1 else 0) → CU U z.2.2.2.2.2.2 st v fk fp → HC C z.2.1 z.2.2.1 z.2.2.2.1 z.2.2.2.2.1 z.2.2.2.2.2.1 → C 5 = IC 5 → Q 1 R U C) (fun e => ∀ R U C, CE U e → Q 0 R U C)) : wp_R_readHeader IR IU IT AT IC Q := by
  have hend := t.2.2.2
  unfold wp_R_readHeader
  simp only [pHead, Lk_eB] at k
  refine s_expect (c := 97) t (Nat.zero_le _) hU (by decide) (Lk_imp k (fun q hq k I hI => ⟨fun c => absurd c (by decide), fun _ => ?_⟩) (fun e he k I hI => ⟨fun _ => k _ _ _ hI, fun c => absurd rfl c⟩))
  obtain ⟨-, hqn, -⟩ := pExp_ok hend (by decide) hq
  -- behind the second letter, whichever it was
  have tail : ∀ (R : Nat → Int32) (bin : Bool), bin = decide (h q = 105) → R 0 = IR 0 → R 1 = (if bin then 1 else 0) → wp_R_readHeader_b35 IT AT Q R I IC := by
    intro R bin hb hR0 hR1
    have b59 : ∀ (q2 : Nat) (I2 : Nat → Int32) (s2 v2 : Nat), q2 ≤ n → CU I2 q2 s2 v2 fk fp → Lk (pExp h 103 q2) (fun a => Lk (pCnt h a) (fun zM => Lk (pCnt h zM.2) (fun zI => Lk (pCnt h zI.2) (fun zL => Lk (pCnt h zL.2) (fun zO => Lk (pCnt h zO.2) (fun zA => Lk (pExp h 10 zA.2) (fun q9 => Lk (if hdFits bin zM.1 zI.1 zL.1 zO.1 zA.1 then (.ok (bin, zM.1, zI.1, zL.1, zO.1, zA.1, q9) : Except Er (Bool × Nat × Nat × Nat × Nat × Nat × Nat)) else .error (2, q9)) (fun z => ∀ R U C st v, R 0 = IR 0 → R 1 = (if z.1 then 1 else 0) → CU U z.2.2.2.2.2.2 st v fk fp → HC C z.2.1 z.2.2.1 z.2.2.2.1 z.2.2.2.2.1 z.2.2.2.2.2.1 → C 5 = IC 5 → Q 1 R U C) (fun e => ∀ R U C, CE U e → Q 0 R U C)) (fun e => ∀ R U C, CE U e → Q 0 R U C)) (fun e => ∀ R U C, CE U e → Q 0 R U C)) (fun e => ∀ R U C, CE U e → Q 0 R U C)) (fun e => ∀ R U C, CE U e → Q 0 R U C)) (fun e => ∀ R U C, CE U e → Q 0 R U C)) (fun e => ∀ R U C, CE U e → Q 0 R U C)) (fun e => ∀ R U C, CE U e → Q 0 R U C) → wp_R_readHeader_b59 IT AT Q R I2 IC := by
      intro q2 I2 s2 v2 hq2 hI2 k
      unfold wp_R_readHeader_b59
      refine s_expect (c := 103) t hq2 hI2 (by decide) (Lk_imp k (fun a ha k I hI => ⟨fun c => absurd c (by decide), fun _ => ?_⟩) (fun e he k I hI => ⟨fun _ => k _ _ _ hI, fun c => absurd rfl c⟩))
      obtain ⟨-, han, -⟩ := pExp_ok hend (by decide) ha
      refine s_cnt t han hI (Lk_imp k (fun zM hM k I1 s1 hI1 => ⟨fun c => absurd c (by decide), fun _ => ?_⟩) (fun e he k I hI => ⟨fun _ => k _ _ _ hI, fun c => absurd rfl c⟩))
      obtain ⟨bM, nM⟩ := pCnt_ok hend hM
      refine s_cnt t nM hI1 (Lk_imp k (fun zI hZI k I2 s2 hI2 => ⟨fun c => absurd c (by decide), fun _ => ?_⟩) (fun e he k I hI => ⟨fun _ => k _ _ _ hI, fun c => absurd rfl c⟩))
      obtain ⟨bI, nI_⟩ := pCnt_ok hend hZI
      refine s_cnt t nI_ hI2 (Lk_imp k (fun zL hZL k I3 s3 hI3 => ⟨fun c => absurd c (by decide), fun _ => ?_⟩) (fun e he k I hI => ⟨fun _ => k _ _ _ hI, fun c => absurd rfl c⟩))
      obtain ⟨bL, nL⟩ := pCnt_ok hend hZL
      refine s_cnt t nL hI3 (Lk_imp k (fun zO hZO k I4 s4 hI4 => ⟨fun c => absurd c (by decide), fun _ => ?_⟩) (fun e he k I hI => ⟨fun _ => k _ _ _ hI, fun c => absurd rfl c⟩))
      obtain ⟨bO, nO⟩ := pCnt_ok hend hZO
      refine s_cnt t nO hI4 (Lk_imp k (fun zA hZA k I5 s5 hI5 => ⟨fun c => absurd c (by decide), fun _ => ?_⟩) (fun e he k I hI => ⟨fun _ => k _ _ _ hI, fun c => absurd rfl c⟩))
      obtain ⟨bA, nA⟩ := pCnt_ok hend hZA
      refine s_expect (c := 10) t nA hI5 (by decide) (Lk_imp k (fun q9 h9 k I6 hI6 => ⟨fun c => absurd c (by decide), fun _ => ?_⟩) (fun e he k I hI => ⟨fun _ => k _ _ _ hI, fun c => absurd rfl c⟩))
      have hH : HC (va_up (va_up (va_up (va_up (va_up IC 0 (I1 2)) 1 (I2 2)) 2 (I3 2)) 3 (I4 2)) 4 (I5 2)) zM.1 zI.1 zL.1 zO.1 zA.1 := ⟨hI1.2.2.1, hI2.2.2.1, hI3.2.2.1, hI4.2.2.1, hI5.2.2.1⟩
      refine s_fits hH hR1 ⟨bM, bI, bL, bO, bA⟩ ?_
      by_cases g : hdFits bin zM.1 zI.1 zL.1 zO.1 zA.1 = true
      · rw [if_pos g] at k ⊢
        exact ⟨fun c => absurd c (by decide), fun _ => k _ _ _ _ _ hR0 hR1 hI6 hH rfl⟩
      · rw [if_neg g] at k ⊢
        refine ⟨fun _ => ?_, fun c => absurd rfl c⟩
        rw [hI6.1]
        exact s_fail (k := 2) (fun I hI => ⟨fun _ => k _ _ _ hI, fun c => absurd rfl c⟩)
    unfold wp_R_readHeader_b35
    rw [hR1]
    cases bin with
    | false =>
      have g : ¬ h q = 105 := by simpa using hb.symm
      rw [if_neg g] at k
      refine ⟨fun _ => ?_, fun c => absurd rfl c⟩
      refine s_expect (c := 97) t hqn hI (by decide) (Lk_imp k (fun q2 h2 k I2 hI2 => ⟨fun c => absurd c (by decide), fun _ => ?_⟩) (fun e he k I hI => ⟨fun _ => k _ _ _ hI, fun c => absurd rfl c⟩))
      obtain ⟨-, hq2n, -⟩ := pExp_ok hend (by decide) h2
      rw [← hb] at k
      exact b59 q2 I2 _ _ hq2n hI2 k
    | true =>
      have g : h q = 105 := by simpa using hb.symm
      rw [if_pos g] at k
      refine ⟨fun c => absurd c (by decide), fun _ => ?_⟩
      refine s_expect (c := 105) t hqn hI (by decide) (Lk_imp k (fun q2 h2 k I2 hI2 => ⟨fun c => absurd c (by decide), fun _ => ?_⟩) (fun e he k I hI => ⟨fun _ => k _ _ _ hI, fun c => absurd rfl c⟩))
      obtain ⟨-, hq2n, -⟩ := pExp_ok hend (by decide) h2
      rw [← hb] at k
      exact b59 q2 I2 _ _ hq2n hI2 k
  refine s_peek t hqn hI.1 ⟨fun c => ?_, fun c => ?_⟩
  · have g : h q = 105 := (hv_eq (d := 105) (t.le q) (by decide)).mp c
    exact tail _ true (by simp [g]) rfl rfl
  · have g : ¬ h q = 105 := fun z => c ((hv_eq (d := 105) (t.le q) (by decide)).mpr z)
    exact tail _ false (by simp [g]) rfl rfl
