/-! the tape: ready bytes, the end of a feed -/
def wb (w : Int32) (r : Nat) : Nat := w.toBitVec.toNat / 2 ^ (24 - 8 * r) % 256
theorem wb_lt (w : Int32) (r : Nat) : wb w r < 256 := Nat.mod_lt _ (by decide)
theorem wb_c {w : Int32} {r : Nat} (h : r < 4) : ((w).toUInt32 >>> ((((8 : Int32) * ((3 : Int32) - nI r))).toUInt32 &&& Int32.toUInt32 31)).toInt32 &&& (255 : Int32) = nI (wb w r) := by
  have go : ∀ (s : Int32) (k : Nat), ((s.toUInt32 &&& Int32.toUInt32 31).toBitVec % 32).toNat = k → ((w).toUInt32 >>> (s.toUInt32 &&& Int32.toUInt32 31)).toInt32 &&& (255 : Int32) = nI (w.toBitVec.toNat / 2 ^ k % 256) := fun s k hs => by
    rw [pk_and _ 8 (by decide), pk_ushr w s k hs]
  match r, h with
  | 0, _ => exact go _ 24 (by decide)
  | 1, _ => exact go _ 16 (by decide)
  | 2, _ => exact go _ 8 (by decide)
  | 3, _ => exact go _ 0 (by decide)
theorem wb_m {w : Int32} {r : Nat} (h : r < 4) : vp_nar .byte ((w >>> (((24 : Int32) - ((8 : Int32) * nI r)) &&& 31))).toInt8.toInt32 = sb (wb w r) := by
  rw [pk_vb]
  have go : ∀ (s : Int32) (k : Nat), (s.toBitVec.smod 32).toNat = k → (k = 0 ∨ k = 8 ∨ k = 16 ∨ k = 24) → (w >>> s).toInt8.toInt32 = sb (w.toBitVec.toNat / 2 ^ k % 256) := fun s k hs hk => by
    unfold sb
    congr 1
    apply Int8.toInt_inj.mp
    rw [Int32.toInt_toInt8, Int32.toInt_toInt8, pk_shr w s k hs, nI_toInt (by omega), Int.shiftRight_eq_div_pow]
    have hN : w.toBitVec.toNat < 2 ^ 32 := w.toBitVec.isLt
    have ht : w.toInt = (w.toBitVec.toNat : Int) ∨ w.toInt = (w.toBitVec.toNat : Int) - 4294967296 := by
      have := BitVec.toInt_eq_toNat_cond w.toBitVec
      have e : w.toInt = w.toBitVec.toInt := rfl
      rw [e, this]
      split
      · exact Or.inl rfl
      · exact Or.inr rfl
    rw [← Int.emod_bmod]
    congr 1
    rcases hk with e | e | e | e <;> subst e <;> rcases ht with e | e <;> rw [e] <;> omega
  match r, h with
  | 0, _ => exact go _ 24 (by decide) (by decide)
  | 1, _ => exact go _ 16 (by decide) (by decide)
  | 2, _ => exact go _ 8 (by decide) (by decide)
  | 3, _ => exact go _ 0 (by decide) (by decide)
/-! feeding -/
theorem s_rdy {A0 : NNI} {w : Int32} {g : Nat} {Q X : NNI → Prop} (hg : g < 5) (k : ∀ B, (∀ a, a ≠ 0 → B a = A0 a) → (∀ i, i < 4 → B 0 (4 * g + i) = nI (wb w i)) → (∀ i, (i < 4 * g ∨ 4 * g + 4 ≤ i) → B 0 i = A0 0 i) → X B) : ∀ (j c : Nat) (A : NNI), c + j = 4 → (∀ a, a ≠ 0 → A a = A0 a) → (∀ i, i < c → A 0 (4 * g + i) = nI (wb w i)) → (∀ i, (i < 4 * g ∨ 4 * g + 4 ≤ i) → A 0 i = A0 0 i) → wp_T_makeReady_L2 Q X (j + 1) A (nI g) w (nI c) := by
  intro j
  induction j with
  | zero =>
    intro c A hl hF h h2
    unfold wp_T_makeReady_L2
    exact pk_le 4 c (fun _ => k A hF (fun i hi => h i (by omega)) h2) (fun g => absurd g (by omega))
  | succ j ih =>
    intro c A hl hF h h2
    unfold wp_T_makeReady_L2
    refine pk_le 4 c (fun g => absurd g (by omega)) (fun _ => ?_)
    have e : nI g * (4 : Int32) + nI c = nI (4 * g + c) := by rw [show (4 : Int32) = nI 4 from rfl, pk_mul, nI_add, Nat.mul_comm]
    rw [e, nI_clamp (n := 4 * g + c) (by omega), wb_c (by omega), nI_1]
    refine ⟨pk_in (4 * g + c) 20 (by omega), ih (c + 1) _ (by omega) (fun a ha => by rw [va_up_ne _ _ ha]; exact hF a ha) (fun i hi => ?_) (fun i hi => ?_)⟩
    · show upd (A 0) (4 * g + c) (nI (wb w c)) (4 * g + i) = _
      by_cases y : i = c
      · rw [y, pk_us]
      · rw [pk_un (by omega)]; exact h i (by omega)
    · show upd (A 0) (4 * g + c) (nI (wb w c)) i = _
      rw [pk_un (by omega)]
      exact h2 i hi
/-- the five words of a feed -/
def fw (a b c d e : Int32) (g : Nat) : Int32 := if g = 0 then a else if g = 1 then b else if g = 2 then c else if g = 3 then d else e
theorem s_feed {A : NNI} {x1 x2 x3 x4 x5 : Int32} {Q : NNI → Prop} (k : ∀ B, (∀ a, a ≠ 0 → B a = A a) → (∀ i, i < 20 → B 0 i = nI (wb (fw x1 x2 x3 x4 x5 (i / 4)) (i % 4))) → Q B) : wp_F_feed A x1 x2 x3 x4 x5 Q := by
  unfold wp_F_feed wp_T_makeReady
  refine ⟨5, s_rdy (A0 := A) (g := 0) (by decide) (fun B1 f1 h1 o1 => ⟨5, s_rdy (A0 := B1) (g := 1) (by decide) (fun B2 f2 h2 o2 => ⟨5, s_rdy (A0 := B2) (g := 2) (by decide) (fun B3 f3 h3 o3 => ⟨5, s_rdy (A0 := B3) (g := 3) (by decide) (fun B4 f4 h4 o4 => ⟨5, s_rdy (A0 := B4) (g := 4) (by decide) (fun B5 f5 h5 o5 => k B5 (fun a ha => by rw [f5 a ha, f4 a ha, f3 a ha, f2 a ha, f1 a ha]) (fun i hi => ?_)) 4 0 B4 rfl (fun a _ => rfl) (fun i hi => absurd hi (by omega)) (fun i _ => rfl)⟩) 4 0 B3 rfl (fun a _ => rfl) (fun i hi => absurd hi (by omega)) (fun i _ => rfl)⟩) 4 0 B2 rfl (fun a _ => rfl) (fun i hi => absurd hi (by omega)) (fun i _ => rfl)⟩) 4 0 B1 rfl (fun a _ => rfl) (fun i hi => absurd hi (by omega)) (fun i _ => rfl)⟩) 4 0 A rfl (fun a _ => rfl) (fun i hi => absurd hi (by omega)) (fun i _ => rfl)⟩
  have hg : i / 4 = 0 ∨ i / 4 = 1 ∨ i / 4 = 2 ∨ i / 4 = 3 ∨ i / 4 = 4 := by omega
  unfold fw
  rcases hg with e | e | e | e | e
  · rw [if_pos e, o5 i (by omega), o4 i (by omega), o3 i (by omega), o2 i (by omega)]
    have := h1 (i % 4) (by omega)
    rw [show 4 * 0 + i % 4 = i by omega] at this
    exact this
  · rw [if_neg (by omega), if_pos e, o5 i (by omega), o4 i (by omega), o3 i (by omega)]
    have := h2 (i % 4) (by omega)
    rw [show 4 * 1 + i % 4 = i by omega] at this
    exact this
  · rw [if_neg (by omega), if_neg (by omega), if_pos e, o5 i (by omega), o4 i (by omega)]
    have := h3 (i % 4) (by omega)
    rw [show 4 * 2 + i % 4 = i by omega] at this
    exact this
  · rw [if_neg (by omega), if_neg (by omega), if_neg (by omega), if_pos e, o5 i (by omega)]
    have := h4 (i % 4) (by omega)
    rw [show 4 * 3 + i % 4 = i by omega] at this
    exact this
  · rw [if_neg (by omega), if_neg (by omega), if_neg (by omega), if_neg (by omega)]
    have := h5 (i % 4) (by omega)
    rw [show 4 * 4 + i % 4 = i by omega] at this
    exact this
theorem m_fd {Im : NI} {A0 : NNI} {x1 x2 x3 x4 x5 : Int32} {Q X : NI → NNI → Prop} (k : ∀ B, (∀ a, a ≠ 1 → B a = A0 a) → (∀ i, i < 20 → B 1 i = sb (wb (fw x1 x2 x3 x4 x5 (i / 4)) (i % 4))) → X Im B) : ∀ (j c : Nat) (A : NNI), c + j = 20 → (∀ a, a ≠ 1 → A a = A0 a) → (∀ i, i < c → A 1 i = sb (wb (fw x1 x2 x3 x4 x5 (i / 4)) (i % 4))) → wp_M_feed_L8 Q X (j + 1) Im A x1 x2 x3 x4 x5 (nI c) := by
  intro j
  induction j with
  | zero =>
    intro c A hl hF h
    unfold wp_M_feed_L8
    exact pk_le 20 c (fun _ => k A hF (fun i hi => h i (by omega))) (fun g => absurd g (by omega))
  | succ j ih =>
    intro c A hl hF h
    unfold wp_M_feed_L8
    have b63 : ∀ w, w = fw x1 x2 x3 x4 x5 (c / 4) → wp_M_feed_b63 Q (wp_M_feed_L8 Q X (j + 1)) X Im A x1 x2 x3 x4 x5 (nI c) w := fun w hw => by
      unfold wp_M_feed_b63
      have er : nI c - nI c / (4 : Int32) * (4 : Int32) = nI (c % 4) := pk_rem (d := 4) (by omega) (by decide) (by decide)
      rw [er, wb_m (by omega), nI_clamp (n := c) (by omega), nI_1]
      refine ⟨pk_in c 20 (by omega), ih (c + 1) _ (by omega) (fun a ha => by rw [va_up_ne _ _ ha]; exact hF a ha) (fun i hi => ?_)⟩
      show upd (A 1) c (sb (wb w (c % 4))) i = _
      by_cases y : i = c
      · rw [y, pk_us, hw]
      · rw [pk_un y]; exact h i (by omega)
    refine pk_le 20 c (fun g => absurd g (by omega)) (fun _ => pk_le 4 c (fun g1 => pk_le 8 c (fun g2 => pk_le 12 c (fun g3 => pk_le 16 c (fun g4 => b63 _ ?_) (fun g4 => b63 _ ?_)) (fun g3 => b63 _ ?_)) (fun g2 => b63 _ ?_)) (fun g1 => b63 _ ?_))
    · unfold fw; rw [if_neg (by omega), if_neg (by omega), if_neg (by omega), if_neg (by omega)]
    · unfold fw; rw [if_neg (by omega), if_neg (by omega), if_neg (by omega), if_pos (by omega)]
    · unfold fw; rw [if_neg (by omega), if_neg (by omega), if_pos (by omega)]
    · unfold fw; rw [if_neg (by omega), if_pos (by omega)]
    · unfold fw; rw [if_pos (by omega)]
theorem m_feed {Im : NI} {A : NNI} {x1 x2 x3 x4 x5 : Int32} {Q : NI → NNI → Prop} (k : ∀ B, (∀ a, a ≠ 1 → B a = A a) → (∀ i, i < 20 → B 1 i = sb (wb (fw x1 x2 x3 x4 x5 (i / 4)) (i % 4))) → Q (va_up Im 0 0) B) : wp_M_feed Im A x1 x2 x3 x4 x5 Q := by
  unfold wp_M_feed
  exact ⟨21, m_fd (A0 := A) k 20 0 A rfl (fun a _ => rfl) (fun i hi => absurd hi (by omega))⟩
/-! the end of a feed: m more bytes behind n -/
def ext (h : Nat → Nat) (n m : Nat) (rd : Nat → Nat) : Nat → Nat := fun q => if q < n then h q else if q < n + m then rd (q - n) else 256
theorem s_end1 {IT : NI} {A0 : NNI} {n m : Nat} {Q : Int32 → NI → NNI → Prop} {X : NI → NNI → Int32 → Prop} (hI : IT 0 = nI n) (hn : n + m ≤ 6000) (hm : m ≤ 20) (k : ∀ B, (∀ a, a ≠ 1 → B a = A0 a) → (∀ q, q < n → B 1 q = A0 1 q) → (∀ i, i < m → B 1 (n + i) = A0 0 i) → X IT B (nI m)) : ∀ (j c : Nat) (A : NNI), c + j = m → (∀ a, a ≠ 1 → A a = A0 a) → (∀ q, q < n → A 1 q = A0 1 q) → (∀ i, i < c → A 1 (n + i) = A0 0 i) → wp_T_take_L26 Q X (j + 1) IT A (nI m) (nI c) := by
  intro j
  induction j with
  | zero =>
    intro c A hl hF h h2
    unfold wp_T_take_L26
    exact pk_le m c (fun _ => k A hF h (fun i hi => h2 i (by omega))) (fun g => absurd g (by omega))
  | succ j ih =>
    intro c A hl hF h h2
    unfold wp_T_take_L26
    refine pk_le m c (fun g => absurd g (by omega)) (fun _ => ?_)
    rw [hI, nI_add, nI_clamp (n := n + c) (by omega), nI_clamp (n := c) (by omega), nI_1]
    refine ⟨pk_in c 20 (by omega), pk_in (n + c) 6000 (by omega), ih (c + 1) _ (by omega) (fun a ha => by rw [va_up_ne _ _ ha]; exact hF a ha) (fun q hq => ?_) (fun i hi => ?_)⟩
    · show upd (A 1) (n + c) (A 0 c) q = _
      rw [pk_un (by omega)]; exact h q hq
    · show upd (A 1) (n + c) (A 0 c) (n + i) = _
      by_cases y : i = c
      · rw [y, pk_us, hF 0 (by decide)]
      · rw [pk_un (by omega)]; exact h2 i (by omega)
theorem s_end2 {IT : NI} {A0 : NNI} {v1 : Int32} {Q : Int32 → NI → NNI → Prop} {X : NI → NNI → Int32 → Prop} (k : ∀ B, (∀ a, a ≠ 0 → B a = A0 a) → (∀ i, i < 20 → B 0 i = 0) → X IT B v1) : ∀ (j c : Nat) (A : NNI), c + j = 20 → (∀ a, a ≠ 0 → A a = A0 a) → (∀ i, i < c → A 0 i = 0) → wp_T_take_L56 Q X (j + 1) IT A v1 (nI c) := by
  intro j
  induction j with
  | zero =>
    intro c A hl hF h
    unfold wp_T_take_L56
    exact pk_le 20 c (fun _ => k A hF (fun i hi => h i (by omega))) (fun g => absurd g (by omega))
  | succ j ih =>
    intro c A hl hF h
    unfold wp_T_take_L56
    refine pk_le 20 c (fun g => absurd g (by omega)) (fun _ => ?_)
    rw [nI_clamp (n := c) (by omega), nI_1]
    refine ⟨pk_in c 20 (by omega), ih (c + 1) _ (by omega) (fun a ha => by rw [va_up_ne _ _ ha]; exact hF a ha) (fun i hi => ?_)⟩
    show upd (A 0) c 0 i = 0
    by_cases y : i = c
    · rw [y, pk_us]
    · rw [pk_un y]; exact h i (by omega)
/-- the ready bytes -/
def RC (A : NNI) (rd : Nat → Nat) : Prop := ∀ i, i < 20 → A 0 i = nI (rd i) ∧ rd i < 256
def RM (A : NNI) (rd : Nat → Nat) : Prop := ∀ i, i < 20 → A 1 i = sb (rd i) ∧ rd i < 256
theorem s_end {IT : NI} {A : NNI} {h rd : Nat → Nat} {n : Nat} {x : Int32} {Q : Int32 → NI → NNI → Prop} (t : TW IT A h n) (hr : RC A rd) (k1 : ∀ m, x = nI m → m ≤ 20 → n + m ≤ 6000 → ∀ I' B, TW I' B (ext h n m rd) (n + m) → RC B (fun _ => 0) → Q (nI (n + m)) I' B) (k0 : (∀ m, x = nI m → m ≤ 20 → ¬ n + m ≤ 6000) → Q (-1) IT A) : wp_F_end IT A x Q := by
  unfold wp_F_end wp_T_take
  obtain ⟨t1, t2, t3, t4⟩ := t
  refine ⟨fun g => k0 fun m e hm => ?_, fun g => ?_⟩
  · rw [e] at g
    exact absurd g (nI_pos (by omega))
  · obtain ⟨m, hm, e⟩ := nI_of g
    subst e
    have uq : ∀ m2, nI m = nI m2 → m2 ≤ 20 → m = m2 := fun m2 e hm2 => (nI_eq hm (by omega)).mp e
    refine pk_lt 20 m (fun g2 => k0 fun m2 e hm2 => ?_) (fun g2 => ?_)
    · have := uq m2 e hm2; omega
    · have es : IT 0 + nI m = nI (n + m) := by rw [t2, nI_add]
      refine pk_le (n + m) 6000 (fun g3 => ?_) (fun g3 => k0 fun m2 e hm2 => ?_) es rfl
      · refine ⟨m + 1, s_end1 (A0 := A) t2 g3 g2 (fun B1 f1 h1 h2 => ⟨21, s_end2 (A0 := B1) (fun B2 f2 h3 => ?_) 20 0 B1 rfl (fun a _ => rfl) (fun i hi => absurd hi (by omega))⟩) m 0 A (by omega) (fun a _ => rfl) (fun q _ => rfl) (fun i hi => absurd hi (by omega))⟩
        rw [es]
        refine k1 m rfl g2 g3 _ B2 ⟨g3, rfl, fun q hq => ?_, fun q hq => ?_⟩ (fun i hi => ⟨h3 i hi, Nat.zero_lt_succ 255⟩)
        · rw [f2 1 (by decide)]
          unfold ext
          by_cases y : q < n
          · rw [if_pos y, h1 q y]; exact t3 q y
          · rw [if_neg y, if_pos hq]
            have := h2 (q - n) (by omega)
            rw [show n + (q - n) = q by omega] at this
            rw [this]
            exact hr (q - n) (by omega)
        · unfold ext
          rw [if_neg (by omega), if_neg (by omega)]
      · have := uq m2 e hm2; omega
theorem m_end1 {Im : NI} {A0 : NNI} {n m : Nat} {Q : Int32 → NI → NNI → Prop} {X : NI → NNI → Int32 → Prop} (hI : Im 1 = nI n) (hn : n + m ≤ 6000) (hm : m ≤ 20) (k : ∀ B, (∀ a, a ≠ 0 → B a = A0 a) → (∀ q, q < n → B 0 q = A0 0 q) → (∀ i, i < m → B 0 (n + i) = vp_nar .byte (A0 1 i)) → X Im B (nI m)) : ∀ (j c : Nat) (A : NNI), c + j = m → (∀ a, a ≠ 0 → A a = A0 a) → (∀ q, q < n → A 0 q = A0 0 q) → (∀ i, i < c → A 0 (n + i) = vp_nar .byte (A0 1 i)) → wp_M_end_L31 Q X (j + 1) Im A (nI m) (nI c) := by
  intro j
  induction j with
  | zero =>
    intro c A hl hF h h2
    unfold wp_M_end_L31
    exact pk_le m c (fun _ => k A hF h (fun i hi => h2 i (by omega))) (fun g => absurd g (by omega))
  | succ j ih =>
    intro c A hl hF h h2
    unfold wp_M_end_L31
    refine pk_le m c (fun g => absurd g (by omega)) (fun _ => ?_)
    rw [hI, nI_add, nI_clamp (n := n + c) (by omega), nI_clamp (n := c) (by omega), nI_1]
    refine ⟨pk_in c 20 (by omega), pk_in (n + c) 6000 (by omega), ih (c + 1) _ (by omega) (fun a ha => by rw [va_up_ne _ _ ha]; exact hF a ha) (fun q hq => ?_) (fun i hi => ?_)⟩
    · show upd (A 0) (n + c) (vp_nar .byte (A 1 c)) q = _
      rw [pk_un (by omega)]; exact h q hq
    · show upd (A 0) (n + c) (vp_nar .byte (A 1 c)) (n + i) = _
      by_cases y : i = c
      · rw [y, pk_us, hF 1 (by decide)]
      · rw [pk_un (by omega)]; exact h2 i (by omega)
theorem m_end2 {Im : NI} {A0 : NNI} {v1 : Int32} {Q : Int32 → NI → NNI → Prop} {X : NI → NNI → Int32 → Prop} (k : ∀ B, (∀ a, a ≠ 1 → B a = A0 a) → (∀ i, i < 20 → B 1 i = 0) → X Im B v1) : ∀ (j c : Nat) (A : NNI), c + j = 20 → (∀ a, a ≠ 1 → A a = A0 a) → (∀ i, i < c → A 1 i = 0) → wp_M_end_L61 Q X (j + 1) Im A v1 (nI c) := by
  intro j
  induction j with
  | zero =>
    intro c A hl hF h
    unfold wp_M_end_L61
    exact pk_le 20 c (fun _ => k A hF (fun i hi => h i (by omega))) (fun g => absurd g (by omega))
  | succ j ih =>
    intro c A hl hF h
    unfold wp_M_end_L61
    refine pk_le 20 c (fun g => absurd g (by omega)) (fun _ => ?_)
    rw [nI_clamp (n := c) (by omega), nI_1]
    refine ⟨pk_in c 20 (by omega), ih (c + 1) _ (by omega) (fun a ha => by rw [va_up_ne _ _ ha]; exact hF a ha) (fun i hi => ?_)⟩
    show upd (A 1) c (vp_nar .byte 0) i = 0
    by_cases y : i = c
    · rw [y, pk_us, vp_nar_byte]; rfl
    · rw [pk_un y]; exact h i (by omega)
theorem m_end {Im : NI} {A : NNI} {h rd : Nat → Nat} {n : Nat} {x : Int32} {Q : Int32 → NI → NNI → Prop} (t : TM Im A h n) (hr : RM A rd) (k1 : ∀ m, x = nI m → m ≤ 20 → n + m ≤ 6000 → ∀ I' B, TM I' B (ext h n m rd) (n + m) → RM B (fun _ => 0) → (∀ i, i ≠ 0 → i ≠ 1 → I' i = Im i) → (∀ a, a ≠ 0 → a ≠ 1 → B a = A a) → Q (nI (n + m)) I' B) (k0 : (∀ m, x = nI m → m ≤ 20 → ¬ n + m ≤ 6000) → Q (-1) (va_up Im 0 0) A) : wp_M_end Im A x Q := by
  unfold wp_M_end
  obtain ⟨t1, t2, t3, t4⟩ := t
  refine ⟨fun g => k0 fun m e hm => ?_, fun g => ?_⟩
  · rw [e] at g
    exact absurd g (nI_pos (by omega))
  · obtain ⟨m, hm, e⟩ := nI_of g
    subst e
    have uq : ∀ m2, nI m = nI m2 → m2 ≤ 20 → m = m2 := fun m2 e hm2 => (nI_eq hm (by omega)).mp e
    refine pk_lt 20 m (fun g2 => k0 fun m2 e hm2 => ?_) (fun g2 => ?_)
    · have := uq m2 e hm2; omega
    · have es : Im 1 + nI m = nI (n + m) := by rw [t2, nI_add]
      refine pk_le (n + m) 6000 (fun g3 => ?_) (fun g3 => k0 fun m2 e hm2 => ?_) es rfl
      · refine ⟨m + 1, m_end1 (Im := va_up Im 0 0) (A0 := A) t2 g3 g2 (fun B1 f1 h1 h2 => ⟨21, m_end2 (A0 := B1) (fun B2 f2 h3 => ?_) 20 0 B1 rfl (fun a _ => rfl) (fun i hi => absurd hi (by omega))⟩) m 0 A (by omega) (fun a _ => rfl) (fun q _ => rfl) (fun i hi => absurd hi (by omega))⟩
        have es2 : (va_up Im 0 0) 1 + nI m = nI (n + m) := es
        rw [es2]
        refine k1 m rfl g2 g3 _ B2 ⟨g3, rfl, fun q hq => ?_, fun q hq => ?_⟩ (fun i hi => ⟨(h3 i hi).trans (show (0 : Int32) = sb 0 by decide), Nat.zero_lt_succ 255⟩) (fun i z0 z1 => by rw [va_up_ne _ _ z1, va_up_ne _ _ z0]) (fun a z0 z1 => by rw [f2 a z1, f1 a z0])
        · rw [f2 0 (by decide)]
          unfold ext
          by_cases y : q < n
          · rw [if_pos y, h1 q y]; exact t3 q y
          · rw [if_neg y, if_pos hq]
            have := h2 (q - n) (by omega)
            rw [show n + (q - n) = q by omega] at this
            obtain ⟨r1, r2⟩ := hr (q - n) (by omega)
            rw [this, r1]
            refine ⟨?_, r2⟩
            rw [show vp_nar .byte (sb (rd (q - n))) = sb (rd (q - n)) from pk_vb _]
            exact sc_k8 _ r2
        · unfold ext
          rw [if_neg (by omega), if_neg (by omega)]
      · have := uq m2 e hm2; omega
/-! symbols, counts -/
theorem s_symb {IC : NI} {A : NNI} {c : Ck} {x1 x2 x3 : Int32} {Q : Int32 → Prop} (hW : WF c) (hC : CC IC A c) (k1 : ∀ kd k i, kd < 3 → x1 = nI kd → x2 = nI k → k < kcnt c kd → x3 = nI i → i < (kN c (8 * kd + k)).length → Q (nI ((kN c (8 * kd + k)).getD i 0))) (k0 : (∀ kd k i, kd < 3 → x1 = nI kd → x2 = nI k → k < kcnt c kd → x3 = nI i → ¬ i < (kN c (8 * kd + k)).length) → Q (-1)) : wp_F_symbol IC A x1 x2 x3 Q := by
  unfold wp_F_symbol
  have c8 : ∀ kd, kcnt c kd ≤ 8 := fun kd => cnt_le hW.1.2.1 hW.1.2.2.1 hW.1.2.2.2.1
  refine ⟨fun g => k0 fun kd k i _ _ e hk _ => ?_, fun g => ?_⟩
  · rw [e] at g
    have := c8 kd
    exact absurd g (nI_pos (by omega))
  · obtain ⟨k, hk, e⟩ := nI_of g
    subst e
    have body : ∀ kd, kd < 3 → x1 = nI kd → wp_C_countOf IC x1 (fun r_1 => ((nI k < r_1) → wp_F_slotOf x1 (nI k) (fun r_3 => ((x3 < 0) → Q (-1 : Int32)) ∧ ((¬ x3 < 0) → vp_in r_3 24 ∧ (((x3 < ((A 9) (r_3).toNatClampNeg)) → vp_in ((r_3 * (40 : Int32)) + x3) 960 ∧ (Q ((A 10) (((r_3 * (40 : Int32)) + x3)).toNatClampNeg))) ∧ ((¬ x3 < ((A 9) (r_3).toNatClampNeg)) → Q (-1 : Int32)))))) ∧ ((¬ nI k < r_1) → Q (-1 : Int32))) := fun kd h3 e1 => by
      subst e1
      have uq : ∀ kd2 k2, kd2 < 3 → nI kd = nI kd2 → nI k = nI k2 → k2 < kcnt c kd2 → kd2 = kd ∧ k2 = k := fun kd2 k2 a1 a2 a3 a4 => by
        have := c8 kd2
        exact ⟨((nI_eq (by omega) (by omega)).mp a2).symm, ((nI_eq hk (by omega)).mp a3).symm⟩
      refine s_cntOf hC.1 h3 ?_
      have c9 := c8 kd
      refine pk_lt k (kcnt c kd) (fun g1 => ?_) (fun g1 => k0 fun kd2 k2 i a1 a2 a3 a4 _ => ?_)
      · unfold wp_F_slotOf
        have es : nI kd * (8 : Int32) + nI k = nI (8 * kd + k) := by rw [show (8 : Int32) = nI 8 from rfl, pk_mul, nI_add, Nat.mul_comm]
        rw [es]
        simp only []
        have hs : 8 * kd + k < 24 := by omega
        obtain ⟨n1, n2, n3⟩ := hC.2.2.2.1 (8 * kd + k) hs
        refine ⟨fun g2 => k0 fun kd2 k2 i a1 a2 a3 a4 a5 hi => ?_, fun g2 => ?_⟩
        · obtain ⟨q1, q2⟩ := uq kd2 k2 a1 a2 a3 a4
          subst q1 q2
          rw [a5] at g2
          exact nI_pos (by omega) g2
        · obtain ⟨i, hi, e⟩ := nI_of g2
          subst e
          rw [nI_clamp (n := 8 * kd + k) (by omega), n2]
          refine ⟨pk_in (8 * kd + k) 24 hs, pk_lt i (kN c (8 * kd + k)).length (fun g3 => ?_) (fun g3 => k0 fun kd2 k2 i2 a1 a2 a3 a4 a5 hi2 => ?_)⟩
          · rw [show (40 : Int32) = nI 40 from rfl, pk_mul, nI_add, nI_clamp (n := (8 * kd + k) * 40 + i) (by omega), Nat.mul_comm (8 * kd + k) 40, n3 i g3]
            exact ⟨pk_in (40 * (8 * kd + k) + i) 960 (by omega), k1 kd k i h3 rfl rfl g1 rfl g3⟩
          · obtain ⟨q1, q2⟩ := uq kd2 k2 a1 a2 a3 a4
            subst q1 q2
            have := (nI_eq hi (by omega)).mp a5
            omega
      · obtain ⟨q1, q2⟩ := uq kd2 k2 a1 a2 a3 a4
        subst q1 q2
        omega
    by_cases y0 : x1 = nI 0
    · exact body 0 (by decide) y0
    by_cases y1 : x1 = nI 1
    · exact body 1 (by decide) y1
    by_cases y2 : x1 = nI 2
    · exact body 2 (by decide) y2
    unfold wp_C_countOf
    have no : Q (-1) := k0 fun kd k2 i a1 a2 a3 a4 _ => by
      have : kd = 0 ∨ kd = 1 ∨ kd = 2 := by omega
      rcases this with e | e | e
      · exact absurd (e ▸ a2) y0
      · exact absurd (e ▸ a2) y1
      · exact absurd (e ▸ a2) y2
    exact ⟨fun z => absurd z y0, fun _ => ⟨fun z => absurd z y1, fun _ => ⟨fun z => absurd z y2, fun _ => ⟨fun z => absurd z g, fun _ => no⟩⟩⟩⟩
theorem m_symb {Im : NI} {A : NNI} {c : Ck} {x1 x2 x3 : Int32} {Q : Int32 → NI → Prop} (hW : WF c) (hM : CM A c) (k1 : ∀ kd k i, kd < 3 → x1 = nI kd → x2 = nI k → k < kcnt c kd → x3 = nI i → i < (kN c (8 * kd + k)).length → Q (nI ((kN c (8 * kd + k)).getD i 0)) (va_up Im 0 0)) (k0 : (∀ kd k i, kd < 3 → x1 = nI kd → x2 = nI k → k < kcnt c kd → x3 = nI i → ¬ i < (kN c (8 * kd + k)).length) → Q (-1) (va_up Im 0 0)) : wp_M_symbol Im A x1 x2 x3 Q := by
  unfold wp_M_symbol
  have c8 : ∀ kd, kcnt c kd ≤ 8 := fun kd => cnt_le hW.1.2.1 hW.1.2.2.1 hW.1.2.2.2.1
  refine ⟨fun g => k0 fun kd k i a1 a2 _ _ _ => ?_, fun g => ?_⟩
  · rw [a2] at g
    exact absurd g (nI_pos (by omega))
  · obtain ⟨kd, hkd, e⟩ := nI_of g
    subst e
    refine pk_lt 2 kd (fun g1 => k0 fun kd2 k i a1 a2 _ _ _ => ?_) (fun g1 => ⟨fun g2 => k0 fun kd2 k i a1 a2 a3 a4 _ => ?_, fun g2 => ?_⟩)
    · have := (nI_eq hkd (by omega)).mp a2
      omega
    · rw [a3] at g2
      have := c8 kd2
      exact absurd g2 (nI_pos (by omega))
    · obtain ⟨k, hk, e⟩ := nI_of g2
      subst e
      have h3 : kd < 3 := by omega
      have uq : ∀ kd2 k2, kd2 < 3 → nI kd = nI kd2 → nI k = nI k2 → k2 < kcnt c kd2 → kd2 = kd ∧ k2 = k := fun kd2 k2 a1 a2 a3 a4 => by
        have := c8 kd2
        exact ⟨((nI_eq (by omega) (by omega)).mp a2).symm, ((nI_eq hk (by omega)).mp a3).symm⟩
      have c9 := c8 kd
      rw [nI_ad 1 1 kd rfl, nI_clamp (n := kd + 1) (by omega), cm_cnt hM.1 h3]
      refine ⟨pk_in (kd + 1) 10 (by omega), pk_le (kcnt c kd) k (fun g3 => k0 fun kd2 k2 i a1 a2 a3 a4 _ => ?_) (fun g3 => ⟨fun g4 => k0 fun kd2 k2 i a1 a2 a3 a4 a5 hi => ?_, fun g4 => ?_⟩)⟩
      · obtain ⟨q1, q2⟩ := uq kd2 k2 a1 a2 a3 a4
        subst q1 q2
        omega
      · obtain ⟨q1, q2⟩ := uq kd2 k2 a1 a2 a3 a4
        subst q1 q2
        have n1 := (hW.2.2.2.1 (8 * kd2 + k2)).1
        rw [a5] at g4
        exact nI_pos (by omega) g4
      · obtain ⟨i, hi, e⟩ := nI_of g4
        subst e
        obtain ⟨hs, hs2⟩ := slot_ok hW h3 g3
        have hr := rS_lt hs
        obtain ⟨n1, n2, n3⟩ := hM.2.2.2.2 (8 * kd + k) hs hs2
        have n2' : A 17 (rS (8 * kd + k)) = nI (kN c (8 * kd + k)).length := n2
        refine m_row hW h3 g3 ?_
        rw [nI_clamp (n := rS (8 * kd + k)) (by omega), n2']
        refine ⟨pk_in (rS (8 * kd + k)) 44 (by omega), pk_lt i (kN c (8 * kd + k)).length (fun g5 => m_row hW h3 g3 ?_) (fun g5 => k0 fun kd2 k2 i2 a1 a2 a3 a4 a5 hi2 => ?_)⟩
        · rw [show (40 : Int32) = nI 40 from rfl, pk_mul, nI_add, nI_clamp (n := 40 * rS (8 * kd + k) + i) (by omega)]
          refine ⟨pk_in (40 * rS (8 * kd + k) + i) 1760 (by omega), ?_⟩
          have e16 : A 16 (40 * rS (8 * kd + k) + i) = sb ((kN c (8 * kd + k)).getD i 0) := n3 i g5
          have hb := (hW.2.2.2.1 (8 * kd + k)).2.1 _ (getD_mem (d := 0) g5)
          rw [e16, show sb ((kN c (8 * kd + k)).getD i 0) &&& (255 : Int32) = nI ((kN c (8 * kd + k)).getD i 0) from sc_k8 _ hb]
          exact k1 kd k i h3 rfl rfl g3 rfl g5
        · obtain ⟨q1, q2⟩ := uq kd2 k2 a1 a2 a3 a4
          subst q1 q2
          have := (nI_eq hi (by omega)).mp a5
          omega
theorem m_many {Im IC : NI} {A AC : NNI} {c : Ck} {x : Int32} {K : Int32 → Int32 → NI → Prop} (hC : CC IC AC c) (hM : CM A c) (k : ∀ r, K r r (va_up Im 0 0)) : wp_F_many IC x (fun r => wp_M_many Im A x (fun r2 I' => K r r2 I')) := by
  obtain ⟨h0, h1, h2, h3, h4⟩ := hC.1
  obtain ⟨m0, m1, m2, m3, m4⟩ := hM.1
  have go : ∀ j, j < 5 → ∀ r, r = A 2 j → wp_M_many Im A (nI j) (fun r2 I' => K r r2 I') := fun j hj r hr => by
    unfold wp_M_many
    refine ⟨fun z => absurd z (nI_pos (by omega)), fun _ => pk_le j 4 (fun _ => ⟨pk_in j 10 (by omega), ?_⟩) (fun g => absurd g (by omega))⟩
    rw [nI_clamp (n := j) (by omega), ← hr]
    exact k r
  unfold wp_F_many
  refine ⟨fun e => ?_, fun y0 => ⟨fun e => ?_, fun y1 => ⟨fun e => ?_, fun y2 => ⟨fun e => ?_, fun y3 => ⟨fun e => ?_, fun y4 => ?_⟩⟩⟩⟩⟩
  · rw [e]; exact go 0 (by decide) _ (h0.trans m0.symm)
  · rw [e]; exact go 1 (by decide) _ (h1.trans m1.symm)
  · rw [e]; exact go 2 (by decide) _ (h2.trans m2.symm)
  · rw [e]; exact go 3 (by decide) _ (h3.trans m3.symm)
  · rw [e]; exact go 4 (by decide) _ (h4.trans m4.symm)
  · unfold wp_M_many
    refine ⟨fun _ => k (-1), fun g => ?_⟩
    obtain ⟨j, hj, e⟩ := nI_of g
    subst e
    refine pk_le j 4 (fun g2 => ?_) (fun _ => k (-1))
    exfalso
    have : j = 0 ∨ j = 1 ∨ j = 2 ∨ j = 3 ∨ j = 4 := by omega
    rcases this with rfl | rfl | rfl | rfl | rfl
    · exact y0 rfl
    · exact y1 rfl
    · exact y2 rfl
    · exact y3 rfl
    · exact y4 rfl
