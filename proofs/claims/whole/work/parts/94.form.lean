/-! a circuit's file as a list of bytes; the class writes it -/
def dg (n : Nat) : List Nat := (if 100 ≤ n then [48 + n / 100] else []) ++ (if 10 ≤ n then [48 + n / 10 % 10] else []) ++ [48 + n % 10]
def nb (n b : Nat) : List Nat := dg n ++ [b]
def dl (d : Nat) : List Nat := if d < 128 then [d] else [128 + d % 128, d / 128]
def fl (f : Nat → List Nat) : Nat → List Nat
  | 0 => []
  | n + 1 => fl f n ++ f n
def lt (kd : Nat) : Nat := if kd = 0 then 105 else if kd = 1 then 108 else 111
def kN0 (c : Ck) : Nat := kI c + kL c
def fHead (c : Ck) (letter top : Nat) : List Nat := [97] ++ [letter] ++ [103] ++ [32] ++ nb top 32 ++ nb (kI c) 32 ++ nb (kL c) 32 ++ nb (kO c) 32 ++ nb (kA c) 10
def sy (c : Ck) (kd k : Nat) : List Nat := if kN c (8 * kd + k) = [] then [] else [lt kd] ++ nb k 32 ++ kN c (8 * kd + k) ++ [10]
def kcnt (c : Ck) (kd : Nat) : Nat := cntOf (kI c) (kL c) (kO c) kd
def fSyms (c : Ck) : List Nat := fl (fun kd => fl (sy c kd) (kcnt c kd)) 3
def ku (c : Ck) (k : Nat) : Nat := ((kU c).getD k (0, 0)).1
def kv (c : Ck) (k : Nat) : Nat := (kV c).getD k 0
def fText (c : Ck) : List Nat := fHead c 97 (kM c) ++ fl (fun k => nb (2 * kv c k) 10) (kI c) ++ fl (fun k => nb (2 * kv c (kI c + k)) 32 ++ nb (ku c k) 10) (kL c) ++ fl (fun k => nb (ku c (kL c + k)) 10) (kO c) ++ fl (fun k => nb (2 * kav c k) 32 ++ nb (kl1 c k) 32 ++ nb (kl2 c k) 10) (kA c) ++ fSyms c
/-! new numbers -/
def nv (c : Ck) (m : Nat) : Nat := if m < kN0 c then kv c m else kav c ((kP c).getD (m - kN0 c) 0)
noncomputable def nwc (c : Ck) (v : Nat) : Nat := @dite Nat (∃ m, m < kN0 c + kA c ∧ nv c m = v) (Classical.propDecidable _) (fun h => Classical.choose h + 1) (fun _ => 0)
theorem nv_inj {c : Ck} (hW : WF c) {m m2 : Nat} (h1 : m < kN0 c + kA c) (h2 : m2 < kN0 c + kA c) (e : nv c m = nv c m2) : m = m2 := by
  have hvl := hW.2.1.1
  have hn := hW.2.1.2.1
  have hpl := hW.2.2.2.2.1
  have hok := hW.2.2.2.2.2.2
  have hP : ∀ i, i < kA c → (kP c).getD i 0 < kA c := fun i hi => (P_and hW hi).1
  have e0 : kN0 c = kI c + kL c := rfl
  by_cases z : m = m2
  · exact z
  · exfalso
    unfold nv at e
    by_cases g1 : m < kN0 c
    · by_cases g2 : m2 < kN0 c
      · rw [if_pos g1, if_pos g2] at e
        exact gD_ne hn (by omega) (by omega) z e
      · rw [if_pos g1, if_neg g2] at e
        have := hP (m2 - kN0 c) (by omega)
        exact gD_ne hn (i := m) (j := kI c + kL c + (kP c).getD (m2 - kN0 c) 0) (by omega) (by omega) (by omega) e
    · by_cases g2 : m2 < kN0 c
      · rw [if_neg g1, if_pos g2] at e
        have := hP (m - kN0 c) (by omega)
        exact gD_ne hn (i := kI c + kL c + (kP c).getD (m - kN0 c) 0) (j := m2) (by omega) (by omega) (by omega) e
      · rw [if_neg g1, if_neg g2] at e
        have a1 := hP (m - kN0 c) (by omega)
        have a2 := hP (m2 - kN0 c) (by omega)
        have := gD_ne hok.1 (i := m - kN0 c) (j := m2 - kN0 c) (by omega) (by omega) (by omega)
        exact gD_ne hn (i := kI c + kL c + (kP c).getD (m - kN0 c) 0) (j := kI c + kL c + (kP c).getD (m2 - kN0 c) 0) (by omega) (by omega) (by omega) e
theorem nwc_nv {c : Ck} (hW : WF c) {m : Nat} (h : m < kN0 c + kA c) : nwc c (nv c m) = m + 1 := by
  unfold nwc
  have he : ∃ m2, m2 < kN0 c + kA c ∧ nv c m2 = nv c m := ⟨m, h, rfl⟩
  rw [dif_pos he]
  have hs := Classical.choose_spec he
  rw [nv_inj hW hs.1 h hs.2]
theorem nwc_le (c : Ck) (v : Nat) : nwc c v ≤ kN0 c + kA c := by
  unfold nwc
  by_cases he : ∃ m, m < kN0 c + kA c ∧ nv c m = v
  · rw [dif_pos he]
    have := (Classical.choose_spec he).1
    omega
  · rw [dif_neg he]; exact Nat.zero_le _
theorem nv_pos {c : Ck} (hW : WF c) {m : Nat} (h : m < kN0 c + kA c) : 1 ≤ nv c m := by
  have hvl := hW.2.1.1
  have e0 : kN0 c = kI c + kL c := rfl
  unfold nv
  by_cases g : m < kN0 c
  · rw [if_pos g]; exact (hW.v400 (getD_mem (by omega))).1
  · rw [if_neg g]; exact (P_and hW (by omega)).2.1
theorem nwc_0 {c : Ck} (hW : WF c) : nwc c 0 = 0 := by
  unfold nwc
  rw [dif_neg]
  rintro ⟨m, h1, h2⟩
  have := nv_pos hW h1
  omega
theorem nwc_in {c : Ck} (hW : WF c) {i v : Nat} (hi : i ≤ kA c) (hv : v ∈ dA c i) : nwc c v ≤ kN0 c + i := by
  have hvl := hW.2.1.1
  have e0 : kN0 c = kI c + kL c := rfl
  induction i with
  | zero =>
    obtain ⟨m, hm, e⟩ := List.mem_take_iff_getElem.mp (show v ∈ (kV c).take (kI c + kL c) from hv)
    have e2 : nv c m = v := by
      unfold nv
      rw [if_pos (by omega)]
      show (kV c).getD m 0 = v
      simp [List.getD, show m < (kV c).length by omega, e]
    rw [← e2, nwc_nv hW (by omega)]
    omega
  | succ i ih =>
    rcases List.mem_append.mp (show v ∈ dA c i ++ [kav c ((kP c).getD i 0)] from hv) with z | z
    · have := ih (by omega) z
      omega
    · have e : v = kav c ((kP c).getD i 0) := by simpa using z
      have e2 : nv c (kN0 c + i) = v := by
        unfold nv
        rw [if_neg (by omega), show kN0 c + i - kN0 c = i by omega, e]
      rw [← e2, nwc_nv hW (by omega)]
      omega
noncomputable def rn (c : Ck) (l : Nat) : Nat := 2 * nwc c (l / 2) + l % 2
noncomputable def bd (c : Ck) (i : Nat) : List Nat := dl (2 * nwc c (kav c ((kP c).getD i 0)) - max (rn c (kl1 c ((kP c).getD i 0))) (rn c (kl2 c ((kP c).getD i 0)))) ++ dl (max (rn c (kl1 c ((kP c).getD i 0))) (rn c (kl2 c ((kP c).getD i 0))) - min (rn c (kl1 c ((kP c).getD i 0))) (rn c (kl2 c ((kP c).getD i 0))))
noncomputable def fBin (c : Ck) : List Nat := fHead c 105 (kI c + kL c + kA c) ++ fl (fun k => nb (rn c (ku c k)) 10) (kL c) ++ fl (fun k => nb (rn c (ku c (kL c + k))) 10) (kO c) ++ fl (bd c) (kA c) ++ fSyms c
theorem kN0_le {c : Ck} (hW : WF c) : kN0 c + kA c ≤ 313 := by
  obtain ⟨w0, w1, w2, w3, w4⟩ := hW.1
  have e0 : kN0 c = kI c + kL c := rfl
  omega
theorem rn_le {c : Ck} (hW : WF c) (l : Nat) : rn c l ≤ 627 := by
  have := nwc_le c (l / 2)
  have := kN0_le hW
  unfold rn
  omega
theorem nwc_and {c : Ck} (hW : WF c) {i : Nat} (hi : i < kA c) : nwc c (kav c ((kP c).getD i 0)) = kN0 c + i + 1 := by
  have e2 : nv c (kN0 c + i) = kav c ((kP c).getD i 0) := by
    unfold nv
    rw [if_neg (by omega), show kN0 c + i - kN0 c = i by omega]
  rw [← e2, nwc_nv hW (by omega)]
theorem rn_op {c : Ck} (hW : WF c) {i : Nat} (hi : i < kA c) : rn c (kl1 c ((kP c).getD i 0)) < 2 * nwc c (kav c ((kP c).getD i 0)) ∧ rn c (kl2 c ((kP c).getD i 0)) < 2 * nwc c (kav c ((kP c).getD i 0)) := by
  rw [nwc_and hW hi]
  obtain ⟨o1, o2⟩ := op_in hW hi
  have h0 := nwc_0 hW
  refine ⟨?_, ?_⟩
  · have : nwc c (kl1 c ((kP c).getD i 0) / 2) ≤ kN0 c + i := by
      rcases o1 with z | z
      · rw [z, h0]; exact Nat.zero_le _
      · exact nwc_in hW (by omega) z
    unfold rn
    omega
  · have : nwc c (kl2 c ((kP c).getD i 0) / 2) ≤ kN0 c + i := by
      rcases o2 with z | z
      · rw [z, h0]; exact Nat.zero_le _
      · exact nwc_in hW (by omega) z
    unfold rn
    omega
/-- an array holds the new numbers -/
def NWa (c : Ck) (f : Nat → Int32) : Prop := ∀ v, v ∈ kV c → f v = nI (nwc c v)
theorem NWa_of {c : Ck} {f : Nat → Int32} (hW : WF c) (h : ∀ m, m < kN0 c + kA c → f (nv c m) = nI (m + 1)) : NWa c f := by
  intro v hv
  have hvl := hW.2.1.1
  have hpl := hW.2.2.2.2.1
  have hok := hW.2.2.2.2.2.2
  have e0 : kN0 c = kI c + kL c := rfl
  obtain ⟨k, hk, e⟩ := List.mem_iff_getElem.mp hv
  have e2 : (kV c).getD k 0 = v := by simp [List.getD, hk, e]
  have : ∃ m, m < kN0 c + kA c ∧ nv c m = v := by
    by_cases g : k < kN0 c
    · exact ⟨k, by omega, by unfold nv; rw [if_pos g]; exact e2⟩
    · have hm : k - kN0 c ∈ (kP c).take (kP c).length := by
        rw [List.take_length]
        exact pig_full hok.1 hok.2.1 (by omega) (by omega)
      obtain ⟨i, -, h2, h3⟩ := in_P hm
      refine ⟨kN0 c + i, by omega, ?_⟩
      unfold nv
      rw [if_neg (by omega), show kN0 c + i - kN0 c = i by omega, h3]
      show (kV c).getD (kI c + kL c + (k - kN0 c)) 0 = v
      rw [← e2]; congr 1; omega
  obtain ⟨m, h1, h2⟩ := this
  rw [← h2, h m h1, nwc_nv hW h1]
/-! the class puts bytes; what does not fit is dropped -/
def WX (w : Int32) (f : Nat → Int32) (I : NI) (A : NNI) (bs : List Nat) : Prop := I 0 = nI (min bs.length 4654) ∧ (∀ i, i < bs.length → i < 4654 → A 0 i = nI (bs.getD i 0)) ∧ I 1 = w ∧ A 1 = f
theorem s_put {w : Int32} {f : Nat → Int32} {I : NI} {A : NNI} {bs : List Nat} {b : Nat} {x : Int32} {Q : NI → NNI → Prop} (h : WX w f I A bs) (hx : x = nI b) (k : ∀ I' A', WX w f I' A' (bs ++ [b]) → Q I' A') : wp_X_put I A x Q := by
  obtain ⟨h1, h2, h3, h4⟩ := h
  unfold wp_X_put
  have hlen : (bs ++ [b]).length = bs.length + 1 := by simp
  refine pk_le 4654 (min bs.length 4654) (fun g => k _ _ ⟨?_, fun i hi hi2 => ?_, h3, h4⟩) (fun g => ⟨pk_in (min bs.length 4654) 4654 (by omega) h1, ?_⟩) rfl h1
  · rw [h1, hlen]; congr 1; omega
  · rw [gD_l (by omega)]; exact h2 i (by omega) hi2
  · rw [h1, nI_clamp (n := min bs.length 4654) (by omega), nI_1, show min bs.length 4654 = bs.length by omega, hx]
    refine k _ _ ⟨?_, fun i hi hi2 => ?_, h3, h4⟩
    · show nI (bs.length + 1) = _
      rw [hlen]; congr 1; omega
    · show upd (A 0) bs.length (nI b) i = _
      by_cases e : i = bs.length
      · rw [e, pk_us, gD_r]
      · rw [pk_un e, gD_l (by omega)]
        exact h2 i (by omega) hi2
theorem s_num0 {w : Int32} {f : Nat → Int32} {I : NI} {A : NNI} {bs : List Nat} {n b : Nat} {x1 x2 : Int32} {Q : NI → NNI → Prop} (h : WX w f I A bs) (h1 : x1 = nI n) (h2 : x2 = nI b) (hn : n ≤ 999) (k : ∀ I' A', WX w f I' A' (bs ++ nb n b) → Q I' A') : wp_X_putNumber I A x1 x2 Q := by
  unfold wp_X_putNumber
  have d10 : x1 / (10 : Int32) = nI (n / 10) := by rw [h1]; exact pk_div (d := 10) (by omega) (by decide) (by decide)
  have d100 : x1 / (100 : Int32) = nI (n / 100) := by rw [h1]; exact pk_div (d := 100) (by omega) (by decide) (by decide)
  have r1 : (48 : Int32) + (x1 - x1 / (10 : Int32) * (10 : Int32)) = nI (48 + n % 10) := by
    rw [h1, show nI n - nI n / (10 : Int32) * (10 : Int32) = nI (n % 10) from pk_rem (d := 10) (by omega) (by decide) (by decide)]
    exact nI_add 48 _
  have r10 : (48 : Int32) + (x1 / (10 : Int32) - x1 / (10 : Int32) / (10 : Int32) * (10 : Int32)) = nI (48 + n / 10 % 10) := by
    rw [d10, show nI (n / 10) - nI (n / 10) / (10 : Int32) * (10 : Int32) = nI (n / 10 % 10) from pk_rem (d := 10) (by omega) (by decide) (by decide)]
    exact nI_add 48 _
  have b37 : ∀ I A bs2, WX w f I A bs2 → (∀ I' A', WX w f I' A' (bs2 ++ [48 + n % 10] ++ [b]) → Q I' A') → wp_X_putNumber_b37 Q I A x1 x2 := fun I A bs2 h k => by
    unfold wp_X_putNumber_b37
    exact s_put h r1 (fun I1 A1 h1 => s_put h1 h2 k)
  have b17 : ∀ I A bs2, WX w f I A bs2 → (∀ I' A', WX w f I' A' (bs2 ++ (if 10 ≤ n then [48 + n / 10 % 10] else []) ++ [48 + n % 10] ++ [b]) → Q I' A') → wp_X_putNumber_b17 Q I A x1 x2 := fun I A bs2 h k => by
    unfold wp_X_putNumber_b17
    refine pk_lt n 10 (fun g => b37 I A bs2 h (fun I' A' h' => k I' A' ?_)) (fun g => s_put h r10 (fun I1 A1 h1 => b37 I1 A1 _ h1 (fun I' A' h' => k I' A' ?_))) h1 rfl
    · rw [if_neg (by omega), List.append_nil]; exact h'
    · rw [if_pos g]; exact h'
  refine pk_lt n 100 (fun g => b17 I A bs h (fun I' A' h' => k I' A' ?_)) (fun g => s_put h (b := 48 + n / 100) (by rw [d100]; exact nI_add 48 _) (fun I1 A1 h1 => b17 I1 A1 _ h1 (fun I' A' h' => k I' A' ?_))) h1 rfl
  · rw [nb, dg, if_neg (by omega), List.nil_append]
    simpa only [List.append_assoc] using h'
  · rw [nb, dg, if_pos g]
    simpa only [List.append_assoc] using h'
theorem s_dlt {w : Int32} {f : Nat → Int32} {I : NI} {A : NNI} {bs : List Nat} {d : Nat} {x1 : Int32} {Q : NI → NNI → Prop} (h : WX w f I A bs) (h1 : x1 = nI d) (hd : d ≤ 9999) (k : ∀ I' A', WX w f I' A' (bs ++ dl d) → Q I' A') : wp_X_putDelta I A x1 Q := by
  unfold wp_X_putDelta
  have e1 : (128 : Int32) + (x1 &&& (127 : Int32)) = nI (128 + d % 128) := by
    rw [h1, show nI d &&& (127 : Int32) = nI (d % 128) from pk_andN (by omega) 7 (by decide)]
    exact nI_add 128 _
  have e2 : x1 >>> ((7 : Int32) &&& 31) = nI (d / 128) := by rw [h1]; exact pk_shrN (by omega) _ 7 (by decide)
  refine pk_lt d 128 (fun g => s_put h h1 (fun I' A' h' => k I' A' ?_)) (fun g => s_put h e1 (fun I1 A1 h1 => s_put h1 e2 (fun I' A' h' => k I' A' ?_))) h1 rfl
  · rw [dl, if_pos g]; exact h'
  · rw [dl, if_neg (by omega)]
    simpa only [List.append_assoc, List.cons_append, List.nil_append] using h'
theorem s_hdr {w : Int32} {f : Nat → Int32} {I IC : NI} {A : NNI} {c : Ck} {letter top : Nat} {x2 x3 : Int32} {Q : NI → NNI → Prop} (hW : WF c) (hC : HC IC (kM c) (kI c) (kL c) (kO c) (kA c)) (h : WX w f I A []) (h2 : x2 = nI letter) (h3 : x3 = nI top) (ht : top ≤ 999) (k : ∀ I' A', WX w f I' A' (fHead c letter top) → Q I' A') : wp_X_putHeader I A IC x2 x3 Q := by
  obtain ⟨w0, w1, w2, w3, w4⟩ := hW.1
  unfold wp_X_putHeader
  refine s_put (b := 97) h rfl (fun I1 A1 h1 => s_put h1 h2 (fun I1 A1 h1 => s_put (b := 103) h1 rfl (fun I1 A1 h1 => s_put (b := 32) h1 rfl (fun I1 A1 h1 => ?_))))
  refine s_num0 (b := 32) h1 h3 rfl ht (fun I1 A1 h1 => s_num0 (b := 32) h1 hC.2.1 rfl (by omega) (fun I1 A1 h1 => s_num0 (b := 32) h1 hC.2.2.1 rfl (by omega) (fun I1 A1 h1 => s_num0 (b := 32) h1 hC.2.2.2.1 rfl (by omega) (fun I1 A1 h1 => s_num0 (b := 10) h1 hC.2.2.2.2 rfl (by omega) (fun I1 A1 h1 => k I1 A1 h1)))))
theorem s_nam {w : Int32} {f : Nat → Int32} {AC : NNI} {c : Ck} {s : Nat} {bs : List Nat} {Q X : NI → NNI → Prop} (hN : NA AC (kN c)) (hs : s < 24) (k : ∀ I' A', WX w f I' A' (bs ++ kN c s) → X I' A') : ∀ (j m : Nat) (I : NI) (A : NNI), m + j = (kN c s).length → WX w f I A (bs ++ (kN c s).take m) → wp_X_putName_L2 AC Q X (j + 1) I A (nI s) (nI m) := by
  obtain ⟨n1, n2, n3⟩ := hN s hs
  intro j
  induction j with
  | zero =>
    intro m I A hl h
    unfold wp_X_putName_L2
    rw [nI_clamp (n := s) (by omega), n2]
    refine ⟨pk_in s 24 hs, pk_le (kN c s).length m (fun _ => k I A ?_) (fun g => absurd g (by omega))⟩
    have : (kN c s).take m = kN c s := List.take_of_length_le (by omega)
    rw [this] at h
    exact h
  | succ j ih =>
    intro m I A hl h
    unfold wp_X_putName_L2
    rw [nI_clamp (n := s) (by omega), n2, show (40 : Int32) = nI 40 from rfl, pk_mul, nI_add, nI_clamp (n := s * 40 + m) (by omega), nI_1]
    refine ⟨pk_in s 24 hs, pk_le (kN c s).length m (fun g => absurd g (by omega)) (fun _ => ⟨pk_in (s * 40 + m) 960 (by omega), ?_⟩)⟩
    have e := n3 m (by omega)
    rw [Nat.mul_comm 40 s] at e
    refine s_put h e (fun I1 A1 h1 => ih (m + 1) I1 A1 (by omega) ?_)
    rw [take_push (d := 0) (by omega), ← List.append_assoc]
    exact h1
theorem kl_is {kd : Nat} (h : kd < 3) : kl (nI kd) = nI (lt kd) := by
  match kd, h with
  | 0, _ => decide
  | 1, _ => decide
  | 2, _ => decide
theorem s_sy9 {w : Int32} {f : Nat → Int32} {IC : NI} {AC : NNI} {c : Ck} {kd : Nat} {bs : List Nat} {Q : NI → NNI → Prop} {K2 : NI → NNI → Int32 → Prop} {X2 : NI → NNI → Prop} {X : NI → NNI → Int32 → Prop} (hW : WF c) (hC : HC IC (kM c) (kI c) (kL c) (kO c) (kA c)) (hN : NA AC (kN c)) (hk : kd < 3) (k : ∀ I' A', WX w f I' A' (bs ++ fl (sy c kd) (kcnt c kd)) → X I' A' (nI kd)) : ∀ (j m : Nat) (I : NI) (A : NNI), m + j = kcnt c kd → WX w f I A (bs ++ fl (sy c kd) m) → wp_X_putSymbols_L9 IC AC Q K2 X2 X (j + 1) I A (nI kd) (nI m) := by
  have c8 : kcnt c kd ≤ 8 := cnt_le hW.1.2.1 hW.1.2.2.1 hW.1.2.2.2.1
  intro j
  induction j with
  | zero =>
    intro m I A hl h
    unfold wp_X_putSymbols_L9
    have hm : m = kcnt c kd := by omega
    refine s_cntOf hC hk (pk_le (kcnt c kd) m (fun _ => k I A (hm ▸ h)) (fun g => absurd g (by omega)))
  | succ j ih =>
    intro m I A hl h
    unfold wp_X_putSymbols_L9
    refine s_cntOf hC hk (pk_le (kcnt c kd) m (fun g => absurd g (by omega)) (fun _ => ?_))
    unfold wp_F_slotOf
    have es : nI kd * (8 : Int32) + nI m = nI (8 * kd + m) := by
      rw [show (8 : Int32) = nI 8 from rfl, pk_mul, nI_add, Nat.mul_comm]
    rw [es]
    simp only []
    have hs : 8 * kd + m < 24 := by omega
    obtain ⟨n1, n2, n3⟩ := hN (8 * kd + m) hs
    rw [nI_clamp (n := 8 * kd + m) (by omega), n2, nI_1]
    refine ⟨pk_in (8 * kd + m) 24 hs, pk_le (kN c (8 * kd + m)).length 0 (fun g => ih (m + 1) I A (by omega) ?_) (fun g => ⟨pk_in kd 3 hk, s_put h (kl_is hk) (fun I1 A1 h1 => s_num0 (b := 32) h1 rfl rfl (by omega) (fun I2 A2 h2 => ?_))⟩)⟩
    · have : kN c (8 * kd + m) = [] := List.eq_nil_of_length_eq_zero (by omega)
      rw [fl, sy, if_pos this, List.append_nil]
      exact h
    · unfold wp_X_putName
      refine ⟨(kN c (8 * kd + m)).length + 1, s_nam hN hs (fun I3 A3 h3 => s_put (b := 10) h3 rfl (fun I4 A4 h4 => ih (m + 1) I4 A4 (by omega) ?_)) (kN c (8 * kd + m)).length 0 I2 A2 (by omega) (by rw [List.take_zero, List.append_nil]; exact h2)⟩
      have : ¬ kN c (8 * kd + m) = [] := fun z => by rw [z] at g; exact absurd g (by decide)
      rw [fl, sy, if_neg this]
      simpa only [List.append_assoc] using h4
theorem s_sy {w : Int32} {f : Nat → Int32} {I IC : NI} {A AC : NNI} {c : Ck} {bs : List Nat} {Q : NI → NNI → Prop} (hW : WF c) (hC : HC IC (kM c) (kI c) (kL c) (kO c) (kA c)) (hN : NA AC (kN c)) (h : WX w f I A bs) (k : ∀ I' A', WX w f I' A' (bs ++ fSyms c) → Q I' A') : wp_X_putSymbols I A IC AC Q := by
  unfold wp_X_putSymbols
  have one : ∀ (m kd : Nat) (bs2 : List Nat) (I : NI) (A : NNI), kd < 3 → WX w f I A bs2 → (∀ I' A', WX w f I' A' (bs2 ++ fl (sy c kd) (kcnt c kd)) → wp_X_putSymbols_L2 IC AC Q (fun I_X_21 A_X_22 => Q I_X_21 A_X_22) m I' A' (nI (kd + 1))) → wp_X_putSymbols_L2 IC AC Q (fun I_X_21 A_X_22 => Q I_X_21 A_X_22) (m + 1) I A (nI kd) := fun m kd bs2 I A hk h k => by
    unfold wp_X_putSymbols_L2
    refine pk_le 3 kd (fun g => absurd g (by omega)) (fun _ => ⟨kcnt c kd + 1, s_sy9 (bs := bs2) hW hC hN hk (fun I1 A1 h1 => ?_) (kcnt c kd) 0 I A (by omega) (by rw [fl, List.append_nil]; exact h)⟩)
    rw [nI_1]
    exact k I1 A1 h1
  refine ⟨4, one 3 0 bs I A (by decide) h (fun I1 A1 h1 => one 2 1 _ I1 A1 (by decide) h1 (fun I2 A2 h2 => one 1 2 _ I2 A2 (by decide) h2 (fun I3 A3 h3 => ?_)))⟩
  unfold wp_X_putSymbols_L2
  refine ⟨fun _ => k I3 A3 ?_, fun g => absurd (by decide) g⟩
  rw [fSyms, fl, fl, fl, fl, List.nil_append]
  simpa only [List.append_assoc] using h3
