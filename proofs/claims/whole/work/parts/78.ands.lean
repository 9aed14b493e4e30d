/-! the class reads ands (text and binary), symbols; checks uses -/
theorem app2 {α : Type} (us : List α) (a b : α) : us ++ [a, b] = us ++ [a] ++ [b] := by simp
theorem s_andT {IT IC : NI} {AT A0 : NNI} {h : Nat → Nat} {n M I L O A : Nat} {fk fp : Int32} {Q : Int32 → NI → NNI → NI → NNI → Prop} {X : NI → NNI → NI → NNI → Prop} (t : TW IT AT h n) (hC : HC IC M I L O A) (hM : M ≤ 400) (hI : I ≤ 6) (hL : L ≤ 7) (hO : O ≤ 8) (hA3 : A ≤ 300) (b1 : Int32) :
    ∀ (j c : Nat) (vs : List Nat) (us : List (Nat × Nat)) (q st v : Nat) (IR : NI) (AR : NNI) (IU : NI) (AC : NNI), c + j = A → vs.length = I + L + c → us.length = L + O + 2 * c → q ≤ n → IR 1 = b1 → UR IR AR us → CU IU q st v fk fp → VA I L AC vs → UA L O AC us → FA A0 AC → Lk (pAnds h M j vs us q) (fun z => ∀ R B U A st v, R 1 = b1 → UR R B z.2.1 → CU U z.2.2 st v fk fp → VA I L A z.1 → UA L O A z.2.1 → FA A0 A → X R B U A) (fun e => ∀ R B U A, CE U e → FA A0 A → Q 0 R B U A) → wp_R_readTextAnds_L2 IT AT IC Q X (j + 1) IR AR IU AC (nI c) := by
  intro j
  induction j with
  | zero =>
    intro c vs us q st v IR AR IU AC hl hvl hul hq hb1 hR hU hV hA hF k
    unfold wp_R_readTextAnds_L2
    exact pk_le A c (fun _ => k _ _ _ _ _ _ hb1 hR hU hV hA hF) (fun g => absurd g (by omega)) hC.2.2.2.2 rfl
  | succ j ih =>
    intro c vs us q st v IR AR IU AC hl hvl hul hq hb1 hR hU hV hA hF k
    unfold wp_R_readTextAnds_L2
    refine pk_le A c (fun g => absurd g (by omega)) (fun _ => ?_) hC.2.2.2.2 rfl
    rw [pAnds, Lk_eB] at k
    refine s_def t hq hU hC.1 hM hV.2 (Lk_imp k (fun z hz k I1 hI1 => ⟨fun c => absurd c (by decide), fun _ => ?_⟩) (fun e he k I hI => ⟨fun _ => k _ _ _ _ hI hF, fun c => absurd rfl c⟩))
    obtain ⟨-, c2, -, c4⟩ := pDef_ok t.2.2.2 hz
    rw [Lk_eB] at k
    refine s_expect (c := 32) t (c4 hq) hI1 (by decide) (Lk_imp k (fun r hr k I2 hI2 => ⟨fun c => absurd c (by decide), fun _ => ⟨pk_in c 300 (by omega), ?_⟩⟩) (fun e he k I hI => ⟨fun _ => k _ _ _ _ hI hF, fun c => absurd rfl c⟩))
    obtain ⟨-, d2, -⟩ := pExp_ok t.2.2.2 (by decide) hr
    have e0 : (nI c).toNatClampNeg = c := nI_clamp (by omega)
    have e1 : I2 2 >>> ((1 : Int32) &&& 31) = nI (z.1 / 2) := by rw [hI2.2.2.1]; exact shr1 (by omega)
    rw [e0, e1, pk_us, nI_clamp (n := z.1 / 2) (by omega), nI_1]
    refine ⟨pk_in (z.1 / 2) 401 (by omega), ?_⟩
    have hF2 : FA A0 (va_up (va_up AC 4 (upd (AC 4) c (nI (z.1 / 2)))) 8 (upd (AC 8) (z.1 / 2) 1)) := ⟨hF.1, hF.2.1, hF.2.2⟩
    have hV2 : VA I L (va_up (va_up AC 4 (upd (AC 4) c (nI (z.1 / 2)))) 8 (upd (AC 8) (z.1 / 2) 1)) (vs ++ [z.1 / 2]) :=
      VA_push hV (fun k hk => rfl) (fun k hk => rfl) (fun k hk => pk_un (by omega)) rfl (fun g => absurd g (by omega)) (fun _ g => absurd g (by omega)) (fun _ => by rw [show vs.length - I - L = c by omega]; exact pk_us)
    rw [Lk_eB] at k
    refine s_use t d2 hI2 hC.1 (by omega) hR (by omega) (Lk_imp k (fun y hy k R3 B3 I3 hR1 hR3 hI3 => ⟨fun c => absurd c (by decide), fun _ => ?_⟩) (fun e he k I hI => ⟨fun _ => k _ _ _ _ hI hF2, fun c => absurd rfl c⟩))
    obtain ⟨-, f1, f2, f3⟩ := pLit_ok t.2.2.2 hy
    rw [Lk_eB] at k
    refine s_expect (c := 32) t (f3 d2) hI3 (by decide) (Lk_imp k (fun r2 hr2 k I4 hI4 => ⟨fun c => absurd c (by decide), fun _ => ?_⟩) (fun e he k I hI => ⟨fun _ => k _ _ _ _ hI hF2, fun c => absurd rfl c⟩))
    obtain ⟨-, g2, -⟩ := pExp_ok t.2.2.2 (by decide) hr2
    rw [Lk_eB] at k
    refine s_use t g2 hI4 hC.1 (by omega) hR3 (by rw [List.length_append, List.length_singleton]; omega) (Lk_imp k (fun x hx k R5 B5 I5 hR4 hR5 hI5 => ⟨fun c => absurd c (by decide), fun _ => ?_⟩) (fun e he k I hI => ⟨fun _ => k _ _ _ _ hI hF2, fun c => absurd rfl c⟩))
    obtain ⟨-, i1, i2, i3⟩ := pLit_ok t.2.2.2 hx
    rw [Lk_eB] at k
    refine s_expect (c := 10) t (i3 g2) hI5 (by decide) (Lk_imp k (fun r3 hr3 k I6 hI6 => ⟨fun c => absurd c (by decide), fun _ => ?_⟩) (fun e he k I hI => ⟨fun _ => k _ _ _ _ hI hF2, fun c => absurd rfl c⟩))
    obtain ⟨-, j2, -⟩ := pExp_ok t.2.2.2 (by decide) hr3
    have hA5 : UA L O (va_up AC 5 (upd (AC 5) c (I4 2))) (us ++ [(y.1, r)]) := UA_push hA (fun k hk => rfl) (fun k hk => rfl) (fun k hk => pk_un (by omega)) (fun k hk => rfl) (fun g => absurd g (by omega)) (fun _ g => absurd g (by omega)) (fun j g => by rw [← hI4.2.2.1, show j = c by omega]; exact pk_us) (fun j g => absurd g (by omega))
    have hlen : (us ++ [(y.1, r)]).length = L + O + 2 * c + 1 := by rw [List.length_append, List.length_singleton]; omega
    have hA6 : UA L O (va_up (va_up AC 5 (upd (AC 5) c (I4 2))) 6 (upd (AC 6) c (I6 2))) (us ++ [(y.1, r)] ++ [(x.1, r2)]) := UA_push hA5 (fun k hk => rfl) (fun k hk => rfl) (fun k hk => rfl) (fun k hk => pk_un (by omega)) (fun g => absurd g (by omega)) (fun _ g => absurd g (by omega)) (fun j g => absurd g (by omega)) (fun j g => by rw [← hI6.2.2.1, show j = c by omega]; exact pk_us)
    rw [app2] at k
    exact ih (c + 1) (vs ++ [z.1 / 2]) (us ++ [(y.1, r)] ++ [(x.1, r2)]) r3 _ _ _ _ _ _ (by omega) (by rw [List.length_append, List.length_singleton]; omega) (by rw [List.length_append, List.length_singleton]; omega) j2 (hR4.trans (hR1.trans hb1)) hR5 hI6 (VA_same hV2 rfl rfl rfl rfl) (UA_same hA6 rfl rfl rfl rfl) ⟨hF.1, hF.2.1, hF.2.2⟩ k
/-! sevens -/
theorem nI_or {a b : Nat} (ha : a < 2 ^ 32) (hb : b < 2 ^ 32) : nI a ||| nI b = nI (a ||| b) := by
  apply Int32.toBitVec_inj.mp
  apply BitVec.eq_of_toNat_eq
  show ((nI a).toBitVec ||| (nI b).toBitVec).toNat = _
  rw [BitVec.toNat_or, pk_tn ha, pk_tn hb, pk_tn (Nat.or_lt_two_pow ha hb)]
theorem or_hi {v x k : Nat} (h : v < 2 ^ k) : v ||| x * 2 ^ k = v + x * 2 ^ k := by
  have := Nat.two_pow_add_eq_or_of_lt h x
  rw [Nat.or_comm, Nat.mul_comm, ← this]
  omega
theorem sev_step {i v c : Nat} (hi : i < 3) (hv : v < 128 ^ i) (hc : c < 256) : nI v ||| ((nI c &&& (127 : Int32)) <<< (((7 : Int32) * nI i) &&& 31)) = nI (v + c % 128 * 128 ^ i) := by
  have e1 : nI c &&& (127 : Int32) = nI (c % 128) := pk_andN (by omega) 7 (by decide)
  have h2 : c % 128 < 128 := Nat.mod_lt _ (by decide)
  rw [e1]
  match i, hi with
  | 0, _ =>
    have : v = 0 := by omega
    subst this
    rw [pk_shlN _ 0 (by decide) (by omega), nI_or (by omega) (by omega)]
    rw [Nat.zero_or, Nat.zero_add]
  | 1, _ =>
    rw [pk_shlN _ 7 (by decide) (by omega), nI_or (by omega) (by omega), or_hi (by omega)]
  | 2, _ =>
    rw [pk_shlN _ 14 (by decide) (by omega), nI_or (by omega) (by omega), or_hi (by omega)]
theorem hv_neg {c : Nat} (h : c ≤ 256) : hv c = -1 ↔ c = 256 := by
  constructor
  · intro g
    by_cases z : c = 256
    · exact z
    · rw [hv_nI (by omega)] at g
      have g2 := congrArg Int32.toInt g
      rw [nI_toInt (by omega)] at g2
      have : (-1 : Int32).toInt = -1 := by decide
      omega
  · intro g; rw [g]; rfl
theorem pSev_ok {h : Nat → Nat} {n : Nat} (hend : ∀ q, n ≤ q → h q = 256) (hle : ∀ q, h q ≤ 256) : ∀ (j i v q : Nat) (z : Nat × Nat), i + j = 3 → v < 128 ^ i → pSevG h j i v q = .ok z → z.1 < 2 ^ 21 ∧ q ≤ z.2 ∧ (q ≤ n → z.2 ≤ n) := by
  intro j
  induction j with
  | zero => intro i v q z _ _ hz; cases hz
  | succ j ih =>
    intro i v q z hij hv hz
    rw [pSevG] at hz
    have hi : i = 0 ∨ i = 1 ∨ i = 2 := by omega
    by_cases g : h q = 256
    · rw [if_pos g] at hz; cases hz
    · rw [if_neg g] at hz
      have hlt : q < n := Nat.not_le.mp fun g3 => g (hend q g3)
      have := hle q
      by_cases g2 : h q < 128
      · rw [if_pos g2] at hz
        cases hz
        refine ⟨?_, Nat.le_succ _, fun _ => hlt⟩
        rcases hi with rfl | rfl | rfl <;> simp only [] <;> omega
      · rw [if_neg g2] at hz
        obtain ⟨a, b, c⟩ := ih (i + 1) _ (q + 1) z (by omega) (by rcases hi with rfl | rfl | rfl <;> omega) hz
        exact ⟨a, by omega, fun _ => c hlt⟩
theorem s_sevG {IT : NI} {AT : NNI} {h : Nat → Nat} {n st : Nat} {fk fp : Int32} {Q : Int32 → NI → Prop} (t : TW IT AT h n) :
    ∀ (j i v q : Nat) (I : NI), i + j = 3 → q ≤ n → v < 128 ^ i → CU I q st v fk fp → Lk (pSevG h j i v q) (fun z => ∀ I, CU I z.2 st z.1 fk fp → Q 1 I) (fun e => ∀ I, CE I e → Q 0 I) → wp_U_readSevens_L15 IT AT Q (fun I_U_7 => wp_U_fail I_U_7 (1 : Int32) (I_U_7 0) (fun r_8 I_U_10 => (narrow .boolean (.int r_8) = .int r_8) ∧ (Q r_8 I_U_10))) (j + 1) I (nI i) := by
  intro j
  induction j with
  | zero =>
    intro i v q I hij hq hvv hU k
    unfold wp_U_readSevens_L15
    refine pk_le 3 i (fun _ => ?_) (fun g => absurd g (by omega))
    rw [hU.1]
    exact s_fail (k := 1) (fun I hI => ⟨rfl, k I hI⟩)
  | succ j ih =>
    intro i v q I hij hq hvv hU k
    unfold wp_U_readSevens_L15
    refine pk_le 3 i (fun g => absurd g (by omega)) (fun _ => s_peek t hq hU.1 ⟨fun g => ?_, fun g => ?_⟩)
    · have g2 := (hv_neg (t.le q)).mp g
      rw [pSevG, if_pos g2] at k
      rw [hU.1]
      exact s_fail (k := 1) (fun I hI => ⟨rfl, k I hI⟩)
    · have g2 : ¬ h q = 256 := fun z => g ((hv_neg (t.le q)).mpr z)
      have hlt := t.lt g2
      have hc := (t.2.2.1 q hlt).2
      rw [pSevG, if_neg g2] at k
      have e1 : I 2 ||| ((hv (h q) &&& (127 : Int32)) <<< (((7 : Int32) * nI i) &&& 31)) = nI (v + h q % 128 * 128 ^ i) := by
        rw [hU.2.2.1, hv_nI hc, sev_step (by omega) hvv hc]
      rw [e1, hU.1, nI_1, nI_1]
      have hU2 : ∀ w, w = v + h q % 128 * 128 ^ i → CU (va_up (va_up I 0 (nI (q + 1))) 2 (nI (v + h q % 128 * 128 ^ i))) (q + 1) st w fk fp := fun w hw => ⟨rfl, hU.2.1, by rw [hw]; rfl, hU.2.2.2.1, hU.2.2.2.2⟩
      refine pk_le 128 (h q) (fun g3 => ?_) (fun g3 => ?_) rfl (hv_nI hc)
      · rw [if_neg (by omega)] at k
        refine ih (i + 1) _ (q + 1) _ (by omega) hlt ?_ (hU2 _ ?_) k
        · have hi : i = 0 ∨ i = 1 ∨ i = 2 := by omega
          rcases hi with rfl | rfl | rfl <;> omega
        · rw [show h q % 128 = h q - 128 by omega]
      · rw [if_pos g3] at k
        exact k _ (hU2 _ (by rw [show h q % 128 = h q by omega]))
theorem s_del {IU IT : NI} {AT : NNI} {h : Nat → Nat} {n q st v lo hi : Nat} {x1 x2 fk fp : Int32} {Q : Int32 → NI → Prop} (t : TW IT AT h n) (hq : q ≤ n) (hU : CU IU q st v fk fp) (h1 : x1 = nI lo) (h2 : x2 = nI hi) (hlo : lo ≤ 10) (hhi : hi ≤ 9999)
    (k : Lk (pDel h lo hi q) (fun z => ∀ I, CU I z.2 q z.1 fk fp → Q 1 I) (fun e => ∀ I, CE I e → Q 0 I)) : wp_R_readDelta IU IT AT x1 x2 Q := by
  unfold wp_R_readDelta wp_U_readSevens
  rw [pDel, Lk_eB] at k
  refine ⟨4, s_sevG (st := q) t 3 0 0 q _ rfl hq (by decide) ⟨hU.1, hU.1, rfl, hU.2.2.2.1, hU.2.2.2.2⟩ (Lk_imp k (fun z hz k I hI => ⟨fun c => absurd c (by decide), fun _ => ?_⟩) (fun e he k I hI => ⟨fun _ => k I hI, fun c => absurd rfl c⟩))⟩
  have hz1 := (pSev_ok t.2.2.2 t.le 3 0 0 q z rfl (by decide) hz).1
  have bad : ¬ (lo ≤ z.1 ∧ z.1 ≤ hi) → wp_R_readDelta_b38 IT AT Q I := fun g => by
    rw [if_neg g] at k
    unfold wp_R_readDelta_b38 wp_R_readDelta_b40
    refine ⟨fun _ => ?_, fun c => absurd rfl c⟩
    rw [hI.2.1]
    exact s_fail (k := 3) (fun I hI => ⟨fun _ => k I hI, fun c => absurd rfl c⟩)
  refine pk_lt z.1 lo (fun g => bad (by omega)) (fun g1 => pk_lt hi z.1 (fun g => bad (by omega)) (fun g2 => ?_) h2 hI.2.2.1) hI.2.2.1 h1
  rw [if_pos ⟨g1, g2⟩] at k
  unfold wp_R_readDelta_b40
  exact ⟨fun c => absurd c (by decide), fun _ => k I hI⟩
theorem pDel_ok {h : Nat → Nat} {n lo hi q : Nat} {z : Nat × Nat} (hend : ∀ q, n ≤ q → h q = 256) (hle : ∀ q, h q ≤ 256) (hz : pDel h lo hi q = .ok z) : (lo ≤ z.1 ∧ z.1 ≤ hi) ∧ q ≤ z.2 ∧ (q ≤ n → z.2 ≤ n) := by
  obtain ⟨a, h1, h2⟩ := eB_ok hz
  by_cases g : lo ≤ a.1 ∧ a.1 ≤ hi
  · rw [if_pos g] at h2; cases h2
    obtain ⟨-, b, c⟩ := pSev_ok hend hle 3 0 0 q _ rfl (by decide) h1
    exact ⟨g, b, c⟩
  · rw [if_neg g] at h2; cases h2
theorem s_andB {IT IC : NI} {AT A0 : NNI} {h : Nat → Nat} {n M I L O A : Nat} {fk fp : Int32} {Q : Int32 → NI → NNI → Prop} {X : NI → NNI → Prop} (t : TW IT AT h n) (hC : HC IC M I L O A) (hI : I ≤ 6) (hL : L ≤ 7) (hO : O ≤ 8) (hA3 : A ≤ 300) :
    ∀ (j c : Nat) (us : List (Nat × Nat)) (q st v : Nat) (IU : NI) (AC : NNI), c + j = A → us.length = L + O + 2 * c → q ≤ n → CU IU q st v fk fp → VA I L AC (List.range' 1 (I + L + c)) → UA L O AC us → FA A0 AC → Lk (pBinAnds h j (I + L + c + 1) us q) (fun z => ∀ U B st v, CU U z.2 st v fk fp → VA I L B (List.range' 1 (I + L + A)) → UA L O B z.1 → FA A0 B → X U B) (fun e => ∀ U A, CE U e → FA A0 A → Q 0 U A) → wp_R_readBinaryAnds_L2 IT AT IC Q X (j + 1) IU AC (nI c) := by
  intro j
  induction j with
  | zero =>
    intro c us q st v IU AC hl hul hq hU hV hA hF k
    unfold wp_R_readBinaryAnds_L2
    have hc : c = A := by omega
    exact pk_le A c (fun _ => k _ _ _ _ hU (hc ▸ hV) hA hF) (fun g => absurd g (by omega)) hC.2.2.2.2 rfl
  | succ j ih =>
    intro c us q st v IU AC hl hul hq hU hV hA hF k
    unfold wp_R_readBinaryAnds_L2
    refine pk_le A c (fun g => absurd g (by omega)) (fun _ => ⟨pk_in c 300 (by omega), ?_⟩) hC.2.2.2.2 rfl
    rw [hC.2.1, hC.2.2.1, nI_add, nI_add, nI_1, show (2 : Int32) = nI 2 from rfl, pk_mul, nI_clamp (n := c) (by omega), nI_clamp (n := I + L + c + 1) (by omega), nI_1]
    refine ⟨pk_in (I + L + c + 1) 401 (by omega), ?_⟩
    have hF2 : FA A0 (va_up (va_up AC 4 (upd (AC 4) c (nI (I + L + c + 1)))) 8 (upd (AC 8) (I + L + c + 1) 1)) := ⟨hF.1, hF.2.1, hF.2.2⟩
    have hlr : (List.range' 1 (I + L + c)).length = I + L + c := List.length_range'
    have hV2 : VA I L (va_up (va_up AC 4 (upd (AC 4) c (nI (I + L + c + 1)))) 8 (upd (AC 8) (I + L + c + 1) 1)) (List.range' 1 (I + L + c) ++ [I + L + c + 1]) :=
      VA_push hV (fun k hk => rfl) (fun k hk => rfl) (fun k hk => pk_un (by rw [hlr] at hk; omega)) rfl (fun g => absurd g (by rw [hlr]; omega)) (fun _ g => absurd g (by rw [hlr]; omega)) (fun _ => by rw [hlr, show I + L + c - I - L = c by omega]; exact pk_us)
    have e3 : List.range' 1 (I + L + c) ++ [I + L + c + 1] = List.range' 1 (I + L + (c + 1)) := by
      rw [show I + L + (c + 1) = I + L + c + 1 by omega, List.range'_concat]
      congr 2
      omega
    rw [e3] at hV2
    rw [pBinAnds, Lk_eB] at k
    refine s_del t hq hU (lo := 1) rfl rfl (by omega) (by omega) (Lk_imp k (fun z hz k I1 hI1 => ⟨fun c => absurd c (by decide), fun _ => ?_⟩) (fun e he k I hI => ⟨fun _ => k _ _ hI hF2, fun c => absurd rfl c⟩))
    obtain ⟨⟨z1, z2⟩, -, z4⟩ := pDel_ok t.2.2.2 t.le hz
    rw [pk_us, hI1.2.2.1, pk_sub z2]
    rw [Lk_eB] at k
    refine s_del t (z4 hq) hI1 (lo := 0) rfl rfl (by omega) (by omega) (Lk_imp k (fun y hy k I2 hI2 => ⟨fun c => absurd c (by decide), fun _ => ?_⟩) (fun e he k I hI => ⟨fun _ => k _ _ hI ⟨hF.1, hF.2.1, hF.2.2⟩, fun c => absurd rfl c⟩))
    obtain ⟨⟨y1, y2⟩, -, y4⟩ := pDel_ok t.2.2.2 t.le hy
    rw [hI2.2.2.1, pk_sub y2]
    have hA5 : UA L O (va_up AC 5 (upd (AC 5) c (nI (2 * (I + L + c + 1) - z.1)))) (us ++ [(2 * (I + L + c + 1) - z.1, q)]) := UA_push hA (fun k hk => rfl) (fun k hk => rfl) (fun k hk => pk_un (by omega)) (fun k hk => rfl) (fun g => absurd g (by omega)) (fun _ g => absurd g (by omega)) (fun j g => by rw [show j = c by omega]; exact pk_us) (fun j g => absurd g (by omega))
    have hlen : (us ++ [(2 * (I + L + c + 1) - z.1, q)]).length = L + O + 2 * c + 1 := by rw [List.length_append, List.length_singleton]; omega
    have hA6 : UA L O (va_up (va_up AC 5 (upd (AC 5) c (nI (2 * (I + L + c + 1) - z.1)))) 6 (upd (AC 6) c (nI (2 * (I + L + c + 1) - z.1 - y.1)))) (us ++ [(2 * (I + L + c + 1) - z.1, q)] ++ [(2 * (I + L + c + 1) - z.1 - y.1, z.2)]) := UA_push hA5 (fun k hk => rfl) (fun k hk => rfl) (fun k hk => rfl) (fun k hk => pk_un (by omega)) (fun g => absurd g (by omega)) (fun _ g => absurd g (by omega)) (fun j g => absurd g (by omega)) (fun j g => by rw [show j = c by omega]; exact pk_us)
    rw [app2] at k
    exact ih (c + 1) _ _ _ _ _ _ (by omega) (by rw [List.length_append, List.length_singleton]; omega) (y4 (z4 hq)) hI2 (VA_same hV2 rfl rfl rfl rfl) (UA_same hA6 rfl rfl rfl rfl) ⟨hF.1, hF.2.1, hF.2.2⟩ k
