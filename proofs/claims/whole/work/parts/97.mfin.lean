/-! the reference: symbols in a form, a whole form; bytes below 256 -/
theorem sb_sb (b : Nat) : (sb b).toInt8.toInt32 = sb b := by
  rw [← vp_nar_byte]
  exact pk_vb _
theorem m_nam {I0 : NI} {A0 : NNI} {c : Ck} {s : Nat} {bs : List Nat} {v1 v2 v3 : Int32} {Q : NI → NNI → Prop} {K2 : NI → NNI → Int32 → Prop} {X2 : NI → NNI → Prop} {K9 : NI → NNI → Int32 → Int32 → Prop} {X9 : NI → NNI → Int32 → Prop} {X : NI → NNI → Int32 → Int32 → Prop} (hN : NM 0 A0 (kN c)) (hs : s < 24) (hs2 : s < 6 ∨ 8 ≤ s) (hv3 : v3 = nI (rS s)) (hb : (bs ++ kN c s).length ≤ 5000) (k : ∀ I' A', WM I0 A0 I' A' (bs ++ kN c s) → X I' A' v1 v2) : ∀ (j m : Nat) (I : NI) (A : NNI), m + j = (kN c s).length → WM I0 A0 I A (bs ++ (kN c s).take m) → wp_M_laySymbols_L74 Q K2 X2 K9 X9 X (j + 1) I A v1 v2 v3 (nI m) := by
  obtain ⟨n1, n2, n3⟩ := hN s hs hs2
  have hr := rS_lt hs
  rw [List.length_append] at hb
  intro j
  induction j with
  | zero =>
    intro m I A hl h
    unfold wp_M_laySymbols_L74
    have e17 : A 17 (rS s) = nI (kN c s).length := by rw [h.2.2.2 17 (by decide)]; exact n2
    rw [hv3, nI_clamp (n := rS s) (by omega), e17]
    refine ⟨pk_in (rS s) 44 (by omega), pk_le (kN c s).length m (fun _ => k I A ?_) (fun g => absurd g (by omega))⟩
    have : (kN c s).take m = kN c s := List.take_of_length_le (by omega)
    rw [this] at h
    exact h
  | succ j ih =>
    intro m I A hl h
    unfold wp_M_laySymbols_L74
    have e17 : A 17 (rS s) = nI (kN c s).length := by rw [h.2.2.2 17 (by decide)]; exact n2
    have e16 : A 16 (40 * rS s + m) = sb ((kN c s).getD m 0) := by rw [h.2.2.2 16 (by decide)]; exact n3 m (by omega)
    have ei : (40 : Int32) * v3 + nI m = nI (40 * rS s + m) := by rw [hv3, show (40 : Int32) = nI 40 from rfl, pk_mul, nI_add]
    rw [ei, nI_clamp (n := 40 * rS s + m) (by omega), e16, nI_1]
    have hl2 : (bs ++ (kN c s).take m).length < 12000 := by
      rw [List.length_append, List.length_take]
      omega
    have e17' : A 17 (v3).toNatClampNeg = nI (kN c s).length := by rw [hv3, nI_clamp (n := rS s) (by omega)]; exact e17
    rw [e17']
    refine ⟨pk_in (rS s) 44 (by omega) hv3, pk_le (kN c s).length m (fun g => absurd g (by omega)) (fun _ => ⟨pk_in (40 * rS s + m) 1760 (by omega), m_lay h hl2 (sb_sb _) (fun I1 A1 h1 => ih (m + 1) I1 A1 (by omega) ?_)⟩)⟩
    rw [take_push (d := 0) (by omega), ← List.append_assoc]
    exact h1
theorem m_row {c : Ck} {kd m : Nat} {Q : Int32 → Prop} (hW : WF c) (hk : kd < 3) (hm : m < kcnt c kd) (k : Q (nI (rS (8 * kd + m)))) : wp_M_row (nI kd) (nI m) Q := by
  obtain ⟨w0, w1, w2, w3, w4⟩ := hW.1
  unfold wp_M_row
  match kd, hk with
  | 0, _ =>
    have e0 : kcnt c 0 = kI c := rfl
    refine ⟨fun _ => ?_, fun z => absurd rfl z⟩
    rw [nI_ad 0 0 m rfl]
    rw [rS, if_pos (by omega)] at k
    simpa using k
  | 1, _ =>
    refine ⟨fun z => absurd z (by decide), fun _ => ⟨fun _ => ?_, fun z => absurd rfl z⟩⟩
    rw [nI_ad 6 6 m rfl]
    rw [rS, if_neg (by omega)] at k
    rw [show 8 * 1 + m - 2 = m + 6 by omega] at k
    exact k
  | 2, _ =>
    refine ⟨fun z => absurd z (by decide), fun _ => ⟨fun z => absurd z (by decide), fun _ => ?_⟩⟩
    rw [nI_ad 14 14 m rfl]
    rw [rS, if_neg (by omega)] at k
    rw [show 8 * 2 + m - 2 = m + 14 by omega] at k
    exact k
theorem slot_ok {c : Ck} {kd m : Nat} (hW : WF c) (hk : kd < 3) (hm : m < kcnt c kd) : 8 * kd + m < 24 ∧ (8 * kd + m < 6 ∨ 8 ≤ 8 * kd + m) := by
  obtain ⟨w0, w1, w2, w3, w4⟩ := hW.1
  have c8 : kcnt c kd ≤ 8 := cnt_le w1 w2 w3
  refine ⟨by omega, ?_⟩
  by_cases e : kd = 0
  · subst e
    have e0 : kcnt c 0 = kI c := rfl
    omega
  · omega
theorem cm_cnt {A : NNI} {c : Ck} {kd : Nat} (hH : HM 0 A (kM c) (kI c) (kL c) (kO c) (kA c)) (hk : kd < 3) : A 2 (kd + 1) = nI (kcnt c kd) := by
  have : kd = 0 ∨ kd = 1 ∨ kd = 2 := by omega
  rcases this with rfl | rfl | rfl
  · exact hH.2.1
  · exact hH.2.2.1
  · exact hH.2.2.2.1
theorem m_sy9 {I0 : NI} {A0 : NNI} {c : Ck} {kd : Nat} {bs : List Nat} {Q : NI → NNI → Prop} {K2 : NI → NNI → Int32 → Prop} {X2 : NI → NNI → Prop} {X : NI → NNI → Int32 → Prop} (hW : WF c) (hC : CM A0 c) (hk : kd < 3) (hb : (bs ++ fl (sy c kd) (kcnt c kd)).length ≤ 5000) (k : ∀ I' A', WM I0 A0 I' A' (bs ++ fl (sy c kd) (kcnt c kd)) → X I' A' (nI kd)) : ∀ (j m : Nat) (I : NI) (A : NNI), m + j = kcnt c kd → WM I0 A0 I A (bs ++ fl (sy c kd) m) → wp_M_laySymbols_L9 Q K2 X2 X (j + 1) I A (nI kd) (nI m) := by
  have c8 : kcnt c kd ≤ 8 := cnt_le hW.1.2.1 hW.1.2.2.1 hW.1.2.2.2.1
  intro j
  induction j with
  | zero =>
    intro m I A hl h
    unfold wp_M_laySymbols_L9
    have hm : m = kcnt c kd := by omega
    have e2 : A 2 (kd + 1) = nI (kcnt c kd) := by rw [h.2.2.2 2 (by decide)]; exact cm_cnt hC.1 hk
    rw [nI_ad 1 1 kd rfl, nI_clamp (n := kd + 1) (by omega), e2]
    exact ⟨pk_in (kd + 1) 10 (by omega), pk_le (kcnt c kd) m (fun _ => k I A (hm ▸ h)) (fun g => absurd g (by omega))⟩
  | succ j ih =>
    intro m I A hl h
    unfold wp_M_laySymbols_L9
    have e2 : A 2 (kd + 1) = nI (kcnt c kd) := by rw [h.2.2.2 2 (by decide)]; exact cm_cnt hC.1 hk
    obtain ⟨hs, hs2⟩ := slot_ok hW hk (show m < kcnt c kd by omega)
    have hr := rS_lt hs
    obtain ⟨n1, n2, n3⟩ := hC.2.2.2.2 (8 * kd + m) hs hs2
    have e17 : A 17 (rS (8 * kd + m)) = nI (kN c (8 * kd + m)).length := by rw [h.2.2.2 17 (by decide)]; exact n2
    have hb2 := fl_app hb (show m < kcnt c kd by omega)
    rw [nI_ad 1 1 kd rfl, nI_clamp (n := kd + 1) (by omega), e2]
    refine ⟨pk_in (kd + 1) 10 (by omega), pk_le (kcnt c kd) m (fun g => absurd g (by omega)) (fun _ => m_row hW hk (by omega) ?_)⟩
    rw [nI_clamp (n := rS (8 * kd + m)) (by omega), e17]
    refine ⟨pk_in (rS (8 * kd + m)) 44 (by omega), pk_eq (kN c (8 * kd + m)).length 0 (fun g => ?_) (fun g => ?_)⟩
    · rw [nI_1]
      refine ih (m + 1) I A (by omega) ?_
      have : kN c (8 * kd + m) = [] := List.eq_nil_of_length_eq_zero g
      rw [fl, sy, if_pos this, List.append_nil]
      exact h
    · have hne : ¬ kN c (8 * kd + m) = [] := fun z => by rw [z] at g; exact absurd rfl g
      rw [sy, if_neg hne, ← List.append_assoc, ← List.append_assoc, ← List.append_assoc] at hb2
      have b64 : ∀ I1 A1, WM I0 A0 I1 A1 (bs ++ fl (sy c kd) m ++ [lt kd]) → wp_M_laySymbols_b64 Q K2 X2 (wp_M_laySymbols_L9 Q K2 X2 X (j + 1)) X I1 A1 (nI kd) (nI m) (nI (rS (8 * kd + m))) := fun I1 A1 h1 => by
        unfold wp_M_laySymbols_b64
        refine m_layN (b := 32) h1 rfl rfl (by omega) (app_len (app_len hb2)) (fun I2 A2 h2 => ⟨(kN c (8 * kd + m)).length + 1, m_nam hC.2.2.2.2 hs hs2 rfl (app_len hb2) (fun I3 A3 h3 => ?_) (kN c (8 * kd + m)).length 0 I2 A2 (by omega) (by rw [List.take_zero, List.append_nil]; exact h2)⟩)
        have hl3 := app_len hb2
        rw [nI_1]
        refine m_lay (b := 10) h3 (by omega) rfl (fun I4 A4 h4 => ih (m + 1) I4 A4 (by omega) ?_)
        rw [fl, sy, if_neg hne]
        simpa only [List.append_assoc] using h4
      have hl1 := app_len (app_len (app_len (app_len hb2)))
      refine pk_eq kd 0 (fun e => ?_) (fun e => pk_eq kd 1 (fun e1 => ?_) (fun e1 => ?_))
      · subst e
        exact m_lay (b := 105) h (by omega) rfl b64
      · subst e1
        exact m_lay (b := 108) h (by omega) rfl b64
      · have : kd = 2 := by omega
        subst this
        exact m_lay (b := 111) h (by omega) rfl b64
theorem m_sy {I0 I : NI} {A0 A : NNI} {c : Ck} {bs : List Nat} {Q : NI → NNI → Prop} (hW : WF c) (hC : CM A0 c) (h : WM I0 A0 I A bs) (hb : (bs ++ fSyms c).length ≤ 5000) (k : ∀ I' A', WM I0 A0 I' A' (bs ++ fSyms c) → Q I' A') : wp_M_laySymbols I A Q := by
  unfold wp_M_laySymbols
  have one : ∀ (m kd : Nat) (bs2 : List Nat) (I : NI) (A : NNI), kd < 3 → WM I0 A0 I A bs2 → (bs2 ++ fl (sy c kd) (kcnt c kd)).length ≤ 5000 → (∀ I' A', WM I0 A0 I' A' (bs2 ++ fl (sy c kd) (kcnt c kd)) → wp_M_laySymbols_L2 Q (fun I_M_32 A_M_33 => Q I_M_32 A_M_33) m I' A' (nI (kd + 1))) → wp_M_laySymbols_L2 Q (fun I_M_32 A_M_33 => Q I_M_32 A_M_33) (m + 1) I A (nI kd) := fun m kd bs2 I A hk h hb k => by
    unfold wp_M_laySymbols_L2
    refine pk_le 3 kd (fun g => absurd g (by omega)) (fun _ => ⟨kcnt c kd + 1, m_sy9 (bs := bs2) hW hC hk hb (fun I1 A1 h1 => ?_) (kcnt c kd) 0 I A (by omega) (by rw [fl, List.append_nil]; exact h)⟩)
    rw [nI_1]
    exact k I1 A1 h1
  rw [fSyms, fl, fl, fl, fl, List.nil_append, ← List.append_assoc, ← List.append_assoc] at hb
  refine ⟨4, one 3 0 bs I A (by decide) h (app_len (app_len hb)) (fun I1 A1 h1 => one 2 1 _ I1 A1 (by decide) h1 (app_len hb) (fun I2 A2 h2 => one 1 2 _ I2 A2 (by decide) h2 hb (fun I3 A3 h3 => ?_)))⟩
  unfold wp_M_laySymbols_L2
  refine ⟨fun _ => k I3 A3 ?_, fun g => absurd (by decide) g⟩
  rw [fSyms, fl, fl, fl, fl, List.nil_append]
  simpa only [List.append_assoc] using h3
/-! bytes -/
def LB (l : List Nat) : Prop := ∀ x, x ∈ l → x < 256
theorem LB_a {l m : List Nat} (h : LB l) (h2 : LB m) : LB (l ++ m) := fun x hx => (List.mem_append.mp hx).elim (h x) (h2 x)
theorem LB_1 {b : Nat} (h : b < 256) : LB [b] := fun x hx => by
  have : x = b := by simpa using hx
  omega
theorem LB_0 : LB [] := fun x hx => absurd hx List.not_mem_nil
theorem LB_nb {n b : Nat} (hn : n ≤ 999) (hb : b < 256) : LB (nb n b) := by
  unfold nb dg
  refine LB_a (LB_a (LB_a ?_ ?_) (LB_1 (by omega))) (LB_1 hb)
  · by_cases g : 100 ≤ n
    · rw [if_pos g]; exact LB_1 (by omega)
    · rw [if_neg g]; exact LB_0
  · by_cases g : 10 ≤ n
    · rw [if_pos g]; exact LB_1 (by omega)
    · rw [if_neg g]; exact LB_0
theorem LB_fl {f : Nat → List Nat} : ∀ n, (∀ k, k < n → LB (f k)) → LB (fl f n) := by
  intro n
  induction n with
  | zero => intro _; exact LB_0
  | succ n ih => intro h; exact LB_a (ih fun k hk => h k (by omega)) (h n (by omega))
theorem LB_hd {c : Ck} (hW : WF c) {l top : Nat} (hl : l < 256) (ht : top ≤ 999) : LB (fHead c l top) := by
  obtain ⟨w0, w1, w2, w3, w4⟩ := hW.1
  unfold fHead
  exact LB_a (LB_a (LB_a (LB_a (LB_a (LB_a (LB_a (LB_a (LB_1 (by decide)) (LB_1 hl)) (LB_1 (by decide))) (LB_1 (by decide))) (LB_nb ht (by decide))) (LB_nb (by omega) (by decide))) (LB_nb (by omega) (by decide))) (LB_nb (by omega) (by decide))) (LB_nb (by omega) (by decide))
theorem LB_sy {c : Ck} (hW : WF c) {kd k : Nat} (hk : k ≤ 999) : LB (sy c kd k) := by
  unfold sy
  by_cases g : kN c (8 * kd + k) = []
  · rw [if_pos g]; exact LB_0
  · rw [if_neg g]
    refine LB_a (LB_a (LB_a (LB_1 ?_) (LB_nb hk (by decide))) (hW.2.2.2.1 _).2.1) (LB_1 (by decide))
    unfold lt
    split
    · decide
    · split <;> decide
theorem LB_syms {c : Ck} (hW : WF c) : LB (fSyms c) := by
  refine LB_fl 3 fun kd _ => LB_fl _ fun k hk => LB_sy hW ?_
  have : kcnt c kd ≤ 8 := cnt_le hW.1.2.1 hW.1.2.2.1 hW.1.2.2.2.1
  omega
theorem LB_text {c : Ck} (hW : WF c) : LB (fText c) := by
  obtain ⟨w0, w1, w2, w3, w4⟩ := hW.1
  have hvl := hW.2.1.1
  have hul := hW.2.2.1.1
  have hv : ∀ k, k < (kV c).length → 2 * kv c k ≤ 999 := fun k hk => by
    have : kv c k ≤ 400 := (hW.v400 (getD_mem hk)).2
    omega
  have hu : ∀ k, k < (kU c).length → ku c k ≤ 999 := fun k hk => by
    have : ku c k ≤ 801 := hW.u801 (getD_mem hk)
    omega
  unfold fText
  refine LB_a (LB_a (LB_a (LB_a (LB_a (LB_hd hW (by decide) (by omega)) ?_) ?_) ?_) ?_) (LB_syms hW)
  · exact LB_fl _ fun k hk => LB_nb (hv k (by omega)) (by decide)
  · exact LB_fl _ fun k hk => LB_a (LB_nb (hv _ (by omega)) (by decide)) (LB_nb (hu _ (by omega)) (by decide))
  · exact LB_fl _ fun k hk => LB_nb (hu _ (by omega)) (by decide)
  · exact LB_fl _ fun k hk => LB_a (LB_a (LB_nb (hv (kI c + kL c + k) (by omega)) (by decide)) (LB_nb (hu (kL c + kO c + 2 * k) (by omega)) (by decide))) (LB_nb (hu (kL c + kO c + 2 * k + 1) (by omega)) (by decide))
theorem LB_dl {d : Nat} (h : d ≤ 9999) : LB (dl d) := by
  unfold dl
  by_cases g : d < 128
  · rw [if_pos g]; exact LB_1 (by omega)
  · rw [if_neg g]
    exact LB_a (l := [128 + d % 128]) (m := [d / 128]) (LB_1 (by omega)) (LB_1 (by omega))
theorem LB_bin {c : Ck} (hW : WF c) : LB (fBin c) := by
  obtain ⟨w0, w1, w2, w3, w4⟩ := hW.1
  have hr : ∀ l, rn c l ≤ 999 := fun l => Nat.le_trans (rn_le hW l) (by decide)
  unfold fBin
  refine LB_a (LB_a (LB_a (LB_a (LB_hd hW (by decide) (by omega)) ?_) ?_) ?_) (LB_syms hW)
  · exact LB_fl _ fun k hk => LB_nb (hr _) (by decide)
  · exact LB_fl _ fun k hk => LB_nb (hr _) (by decide)
  · refine LB_fl _ fun k hk => ?_
    unfold bd
    have b1 := hr (kl1 c ((kP c).getD k 0))
    have b2 := hr (kl2 c ((kP c).getD k 0))
    have b3 := nwc_le c (kav c ((kP c).getD k 0))
    have b4 := kN0_le hW
    exact LB_a (LB_dl (by omega)) (LB_dl (by omega))
/-! a whole form -/
theorem m_form {Im : NI} {A : NNI} {c : Ck} {bin : Bool} {x1 x2 : Int32} {Q : Int32 → NI → NNI → Prop} (hW : WF c) (hM : CM A c) (hx : x1 = if bin then 1 else 0)
    (k1 : ∀ i, x2 = nI i → i < (if bin then fBin c else fText c).length → ∀ I' B, KA A B → (∀ i, i ≠ 0 → i ≠ 8 → i ≠ 10 → I' i = Im i) → Q (nI ((if bin then fBin c else fText c).getD i 0)) I' B)
    (k0 : (∀ i, x2 = nI i → ¬ i < (if bin then fBin c else fText c).length) → ∀ I' B, KA A B → (∀ i, i ≠ 0 → i ≠ 8 → i ≠ 10 → I' i = Im i) → Q (-1) I' B) : wp_M_form Im A x1 x2 Q := by
  unfold wp_M_form
  refine m_again hW hM (fun I1 B1 hK1 hM1 hI1 hO hN => ?_)
  have hNa := NWa_M hW hN
  refine m_hdr (I0 := I1) (A0 := B1) hW hM1.1 (fun a _ => rfl) (fun i _ => rfl) hx (fun I2 A2 h2 => ?_)
  have fin : ∀ I3 A3 bs, WM I1 B1 I3 A3 bs → bs ++ fSyms c = (if bin then fBin c else fText c) → wp_M_form_b29 Q I3 A3 x2 := fun I3 A3 bs h3 hbs => by
    have hlen : (if bin then fBin c else fText c).length ≤ 4654 := by
      cases bin
      · exact text_len hW
      · exact bin_len hW
    have hLB : LB (if bin then fBin c else fText c) := by
      cases bin
      · exact LB_text hW
      · exact LB_bin hW
    unfold wp_M_form_b29
    refine m_sy hW hM1 h3 (by rw [hbs]; omega) (fun I4 A4 h4 => ?_)
    rw [hbs] at h4
    generalize (if bin then fBin c else fText c) = F at *
    have hK4 : KA A A4 := KA_same hK1 22 h4.2.2.2 (fun k hk => absurd hk (Nat.not_lt_zero k))
    have hI4 : ∀ i, i ≠ 0 → i ≠ 8 → i ≠ 10 → I4 i = Im i := fun i z0 z8 z10 => by rw [h4.2.2.1 i z10, hI1 i z8, va_up_ne _ _ z0]
    refine ⟨fun g => k0 (fun i e hi => ?_) I4 A4 hK4 hI4, fun g => ?_⟩
    · rw [e] at g
      exact nI_pos (by omega) g
    · obtain ⟨i, hi, e⟩ := nI_of g
      refine pk_lt i F.length (fun g2 => ⟨pk_in i 12000 (by omega) e, ?_⟩) (fun g2 => k0 (fun m e2 hm => ?_) I4 A4 hK4 hI4) e h4.1
      · rw [e, nI_clamp (n := i) (by omega), h4.2.1 i g2]
        have hlt := hLB _ (getD_mem (d := 0) g2)
        have := k1 i e g2 I4 A4 hK4 hI4
        rw [show sb (F.getD i 0) &&& (255 : Int32) = nI (F.getD i 0) from sc_k8 _ hlt]
        exact this
      · have : i = m := (nI_eq hi (by omega)).mp (e.symm.trans e2)
        omega
  cases bin with
  | false =>
    refine ⟨fun _ => ?_, fun z => absurd hx z⟩
    have hlen := text_len hW
    unfold fText at hlen
    have hl5 := app_len hlen
    have hl4 := app_len hl5
    have hl3 := app_len hl4
    have hl2 := app_len hl3
    unfold wp_M_layText
    refine ⟨kI c + 1, m_tx1 hW hM1 (Nat.le_trans hl2 (by decide)) (fun I3 A3 h3 => ?_) (kI c) 0 I2 A2 (by omega) (by rw [fl, List.append_nil]; exact h2)⟩
    refine ⟨kL c + 1, m_tx2 hW hM1 (Nat.le_trans hl3 (by decide)) (fun I4 A4 h4 => ?_) (kL c) 0 I3 A3 (by omega) (by rw [fl, List.append_nil]; exact h3)⟩
    refine ⟨kO c + 1, m_tx3 hW hM1 (Nat.le_trans hl4 (by decide)) (fun I5 A5 h5 => ?_) (kO c) 0 I4 A4 (by omega) (by rw [fl, List.append_nil]; exact h4)⟩
    refine ⟨kA c + 1, m_tx4 hW hM1 (Nat.le_trans hl5 (by decide)) (fun I6 A6 h6 => ?_) (kA c) 0 I5 A5 (by omega) (by rw [fl, List.append_nil]; exact h5)⟩
    exact fin I6 A6 _ h6 rfl
  | true =>
    refine ⟨fun z => absurd (hx.symm.trans z) (by decide), fun _ => ?_⟩
    have hlen := bin_len hW
    unfold fBin at hlen
    have hl5 := app_len hlen
    have hl4 := app_len hl5
    have hl3 := app_len hl4
    unfold wp_M_layBinary
    refine ⟨kL c + 1, m_bn1 hW hM1 hNa (Nat.le_trans hl3 (by decide)) (fun I4 A4 h4 => ?_) (kL c) 0 I2 A2 (by omega) (by rw [fl, List.append_nil]; exact h2)⟩
    refine ⟨kO c + 1, m_bn2 hW hM1 hNa (Nat.le_trans hl4 (by decide)) (fun I5 A5 h5 => ?_) (kO c) 0 I4 A4 (by omega) (by rw [fl, List.append_nil]; exact h4)⟩
    refine ⟨kA c + 1, m_bn3 hW hM1 hNa hO (Nat.le_trans hl5 (by decide)) (fun I6 A6 h6 => ?_) (kA c) 0 I5 A5 (by omega) (by rw [fl, List.append_nil]; exact h5)⟩
    exact fin I6 A6 _ h6 rfl
