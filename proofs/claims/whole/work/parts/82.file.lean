/-! a file, whole; the class reads it -/
theorem any_nI (x : Int32) : ∃ n, x = nI n := ⟨x.toBitVec.toNat, by
  apply Int32.toBitVec_inj.mp
  apply BitVec.eq_of_toNat_eq
  rw [pk_tn x.toBitVec.isLt]⟩
/-- variables, uses, and where the symbols begin -/
def pBody (h : Nat → Nat) (bin : Bool) (M I L O A q : Nat) : Except Er (List Nat × List (Nat × Nat) × Nat) :=
  if bin = true then eB (pUses h M L [] q) fun z => eB (pUses h M O z.1 z.2) fun y => eB (pBinAnds h A (I + L + 1) y.1 y.2) fun x => .ok (List.range' 1 (I + L + A), x.1, x.2)
  else eB (pIns h M I [] q) fun a => eB (pLats h M L a.1 [] a.2) fun b => eB (pUses h M O b.2.1 b.2.2) fun c => pAnds h M A b.1 c.1 c.2
theorem pIns_ok {h : Nat → Nat} {n M : Nat} (hend : ∀ q, n ≤ q → h q = 256) : ∀ (j : Nat) (vs : List Nat) (q : Nat) (z : List Nat × Nat), q ≤ n → vs.Nodup → (∀ v, v ∈ vs → 1 ≤ v ∧ v ≤ M) → pIns h M j vs q = .ok z → z.1.length = vs.length + j ∧ z.1.Nodup ∧ (∀ v, v ∈ z.1 → 1 ≤ v ∧ v ≤ M) ∧ z.2 ≤ n := by
  intro j
  induction j with
  | zero => intro vs q z hq hn hv hz; cases hz; exact ⟨rfl, hn, hv, hq⟩
  | succ j ih =>
    intro vs q z hq hn hv hz
    obtain ⟨a, h1, h2⟩ := eB_ok hz
    obtain ⟨r, h3, h4⟩ := eB_ok h2
    obtain ⟨⟨a1, a2, a3⟩, a4, -, -⟩ := pDef_ok hend h1
    obtain ⟨-, r2, -⟩ := pExp_ok hend (by decide) h3
    obtain ⟨b1, b2, b3, b4⟩ := ih _ _ z r2 (nodup_push hn a3) (fun v hm => by
      rcases List.mem_append.mp hm with e | e
      · exact hv v e
      · have : v = a.1 / 2 := by simpa using e
        omega) h4
    rw [List.length_append, List.length_singleton] at b1
    exact ⟨by omega, b2, b3, b4⟩
theorem pUses_ok {h : Nat → Nat} {n M : Nat} (hend : ∀ q, n ≤ q → h q = 256) : ∀ (j : Nat) (us : List (Nat × Nat)) (q : Nat) (z : List (Nat × Nat) × Nat), q ≤ n → (∀ u, u ∈ us → u.1 ≤ 2 * M + 1 ∧ u.2 ≤ n) → pUses h M j us q = .ok z → z.1.length = us.length + j ∧ (∀ u, u ∈ z.1 → u.1 ≤ 2 * M + 1 ∧ u.2 ≤ n) ∧ z.2 ≤ n := by
  intro j
  induction j with
  | zero => intro us q z hq hv hz; cases hz; exact ⟨rfl, hv, hq⟩
  | succ j ih =>
    intro us q z hq hv hz
    obtain ⟨a, h1, h2⟩ := eB_ok hz
    obtain ⟨r, h3, h4⟩ := eB_ok h2
    obtain ⟨a1, -, -, -⟩ := pLit_ok hend h1
    obtain ⟨-, r2, -⟩ := pExp_ok hend (by decide) h3
    obtain ⟨b1, b3, b4⟩ := ih _ _ z r2 (fun v hm => by
      rcases List.mem_append.mp hm with e | e
      · exact hv v e
      · have : v = (a.1, q) := by simpa using e
        rw [this]; exact ⟨a1, hq⟩) h4
    rw [List.length_append, List.length_singleton] at b1
    exact ⟨by omega, b3, b4⟩
theorem pLats_ok {h : Nat → Nat} {n M : Nat} (hend : ∀ q, n ≤ q → h q = 256) : ∀ (j : Nat) (vs : List Nat) (us : List (Nat × Nat)) (q : Nat) (z : List Nat × List (Nat × Nat) × Nat), q ≤ n → vs.Nodup → (∀ v, v ∈ vs → 1 ≤ v ∧ v ≤ M) → (∀ u, u ∈ us → u.1 ≤ 2 * M + 1 ∧ u.2 ≤ n) → pLats h M j vs us q = .ok z → z.1.length = vs.length + j ∧ z.1.Nodup ∧ (∀ v, v ∈ z.1 → 1 ≤ v ∧ v ≤ M) ∧ z.2.1.length = us.length + j ∧ (∀ u, u ∈ z.2.1 → u.1 ≤ 2 * M + 1 ∧ u.2 ≤ n) ∧ z.2.2 ≤ n := by
  intro j
  induction j with
  | zero => intro vs us q z hq hn hv hu hz; cases hz; exact ⟨rfl, hn, hv, rfl, hu, hq⟩
  | succ j ih =>
    intro vs us q z hq hn hv hu hz
    obtain ⟨a, h1, h2⟩ := eB_ok hz
    obtain ⟨r, h3, h4⟩ := eB_ok h2
    obtain ⟨y, h5, h6⟩ := eB_ok h4
    obtain ⟨r3, h7, h8⟩ := eB_ok h6
    obtain ⟨⟨a1, a2, a3⟩, a4, -, -⟩ := pDef_ok hend h1
    obtain ⟨-, r2, -⟩ := pExp_ok hend (by decide) h3
    obtain ⟨y1, -, -, -⟩ := pLit_ok hend h5
    obtain ⟨-, r4, -⟩ := pExp_ok hend (by decide) h7
    obtain ⟨b1, b2, b3, b4, b5, b6⟩ := ih _ _ _ z r4 (nodup_push hn a3) (fun v hm => by
      rcases List.mem_append.mp hm with e | e
      · exact hv v e
      · have : v = a.1 / 2 := by simpa using e
        omega) (fun v hm => by
      rcases List.mem_append.mp hm with e | e
      · exact hu v e
      · have : v = (y.1, r) := by simpa using e
        rw [this]; exact ⟨y1, r2⟩) h8
    rw [List.length_append, List.length_singleton] at b1 b4
    exact ⟨by omega, b2, b3, by omega, b5, b6⟩
theorem pAnds_ok {h : Nat → Nat} {n M : Nat} (hend : ∀ q, n ≤ q → h q = 256) : ∀ (j : Nat) (vs : List Nat) (us : List (Nat × Nat)) (q : Nat) (z : List Nat × List (Nat × Nat) × Nat), q ≤ n → vs.Nodup → (∀ v, v ∈ vs → 1 ≤ v ∧ v ≤ M) → (∀ u, u ∈ us → u.1 ≤ 2 * M + 1 ∧ u.2 ≤ n) → pAnds h M j vs us q = .ok z → z.1.length = vs.length + j ∧ z.1.Nodup ∧ (∀ v, v ∈ z.1 → 1 ≤ v ∧ v ≤ M) ∧ z.2.1.length = us.length + 2 * j ∧ (∀ u, u ∈ z.2.1 → u.1 ≤ 2 * M + 1 ∧ u.2 ≤ n) ∧ z.2.2 ≤ n := by
  intro j
  induction j with
  | zero => intro vs us q z hq hn hv hu hz; cases hz; exact ⟨rfl, hn, hv, rfl, hu, hq⟩
  | succ j ih =>
    intro vs us q z hq hn hv hu hz
    obtain ⟨a, h1, h2⟩ := eB_ok hz
    obtain ⟨r, h3, h4⟩ := eB_ok h2
    obtain ⟨y, h5, h6⟩ := eB_ok h4
    obtain ⟨r3, h7, h8⟩ := eB_ok h6
    obtain ⟨x, h9, h10⟩ := eB_ok h8
    obtain ⟨r5, h11, h12⟩ := eB_ok h10
    obtain ⟨⟨a1, a2, a3⟩, a4, -, -⟩ := pDef_ok hend h1
    obtain ⟨-, r2, -⟩ := pExp_ok hend (by decide) h3
    obtain ⟨y1, -, -, -⟩ := pLit_ok hend h5
    obtain ⟨-, r4, -⟩ := pExp_ok hend (by decide) h7
    obtain ⟨x1, -, -, -⟩ := pLit_ok hend h9
    obtain ⟨-, r6, -⟩ := pExp_ok hend (by decide) h11
    obtain ⟨b1, b2, b3, b4, b5, b6⟩ := ih _ _ _ z r6 (nodup_push hn a3) (fun v hm => by
      rcases List.mem_append.mp hm with e | e
      · exact hv v e
      · have : v = a.1 / 2 := by simpa using e
        omega) (fun v hm => by
      rcases List.mem_append.mp hm with e | e
      · exact hu v e
      · have : v = (y.1, r) ∨ v = (x.1, r3) := by simpa using e
        rcases this with e | e
        · rw [e]; exact ⟨y1, r2⟩
        · rw [e]; exact ⟨x1, r4⟩) h12
    rw [List.length_append] at b1 b4
    simp only [List.length_cons, List.length_nil] at b1 b4
    exact ⟨by omega, b2, b3, by omega, b5, b6⟩
theorem pBin_ok {h : Nat → Nat} {n M : Nat} (hend : ∀ q, n ≤ q → h q = 256) (hle : ∀ q, h q ≤ 256) : ∀ (j v : Nat) (us : List (Nat × Nat)) (q : Nat) (z : List (Nat × Nat) × Nat), q ≤ n → v + j ≤ M + 1 → (∀ u, u ∈ us → u.1 ≤ 2 * M + 1 ∧ u.2 ≤ n) → pBinAnds h j v us q = .ok z → z.1.length = us.length + 2 * j ∧ (∀ u, u ∈ z.1 → u.1 ≤ 2 * M + 1 ∧ u.2 ≤ n) ∧ z.2 ≤ n := by
  intro j
  induction j with
  | zero => intro v us q z hq hvM hu hz; cases hz; exact ⟨rfl, hu, hq⟩
  | succ j ih =>
    intro v us q z hq hvM hu hz
    obtain ⟨a, h1, h2⟩ := eB_ok hz
    obtain ⟨y, h3, h4⟩ := eB_ok h2
    obtain ⟨⟨a1, a2⟩, -, a4⟩ := pDel_ok hend hle h1
    obtain ⟨⟨y1, y2⟩, -, y4⟩ := pDel_ok hend hle h3
    obtain ⟨b1, b5, b6⟩ := ih _ _ _ z (y4 (a4 hq)) (by omega) (fun w hm => by
      rcases List.mem_append.mp hm with e | e
      · exact hu w e
      · have : w = (2 * v - a.1, q) ∨ w = (2 * v - a.1 - y.1, a.2) := by simpa using e
        rcases this with e | e
        · rw [e]; exact ⟨by show 2 * v - a.1 ≤ _; omega, hq⟩
        · rw [e]; exact ⟨by show 2 * v - a.1 - y.1 ≤ _; omega, a4 hq⟩) h4
    rw [List.length_append] at b1
    simp only [List.length_cons, List.length_nil] at b1
    exact ⟨by omega, b5, b6⟩
theorem pBody_ok {h : Nat → Nat} {n M I L O A q : Nat} {bin : Bool} {z : List Nat × List (Nat × Nat) × Nat} (hend : ∀ q, n ≤ q → h q = 256) (hle : ∀ q, h q ≤ 256) (hq : q ≤ n) (hb : bin = true → M = I + L + A) (hz : pBody h bin M I L O A q = .ok z) : z.1.length = I + L + A ∧ z.1.Nodup ∧ (∀ v, v ∈ z.1 → 1 ≤ v ∧ v ≤ M) ∧ z.2.1.length = L + O + 2 * A ∧ (∀ u, u ∈ z.2.1 → u.1 ≤ 2 * M + 1 ∧ u.2 ≤ n) ∧ z.2.2 ≤ n ∧ (bin = true → z.1 = List.range' 1 M) := by
  unfold pBody at hz
  have nil2 : ∀ u : Nat × Nat, u ∈ ([] : List (Nat × Nat)) → u.1 ≤ 2 * M + 1 ∧ u.2 ≤ n := fun u hu => absurd hu List.not_mem_nil
  by_cases g : bin = true
  · rw [if_pos g] at hz
    obtain ⟨a, h1, h2⟩ := eB_ok hz
    obtain ⟨b, h3, h4⟩ := eB_ok h2
    obtain ⟨c, h5, h6⟩ := eB_ok h4
    obtain ⟨a1, a2, a3⟩ := pUses_ok hend L [] q a hq nil2 h1
    obtain ⟨b1, b2, b3⟩ := pUses_ok hend O _ _ b a3 a2 h3
    obtain ⟨c1, c2, c3⟩ := pBin_ok (M := M) hend hle A _ _ _ c b3 (by have := hb g; omega) b2 h5
    cases h6
    rw [List.length_nil] at a1
    refine ⟨List.length_range', List.nodup_range', fun v hv => ?_, by show c.1.length = _; omega, c2, c3, fun _ => by rw [hb g]⟩
    have hv2 := List.mem_range'_1.mp hv
    have := hb g
    omega
  · rw [if_neg g] at hz
    obtain ⟨a, h1, h2⟩ := eB_ok hz
    obtain ⟨b, h3, h4⟩ := eB_ok h2
    obtain ⟨c, h5, h6⟩ := eB_ok h4
    obtain ⟨a1, a2, a3, a4⟩ := pIns_ok hend I [] q a hq List.nodup_nil (fun v hv => absurd hv List.not_mem_nil) h1
    obtain ⟨b1, b2, b3, b4, b5, b6⟩ := pLats_ok hend L _ _ _ b a4 a2 a3 nil2 h3
    obtain ⟨c1, c2, c3⟩ := pUses_ok hend O _ _ c b6 b5 h5
    obtain ⟨d1, d2, d3, d4, d5, d6⟩ := pAnds_ok hend A _ _ _ z c3 b2 b3 c2 h6
    rw [List.length_nil] at a1 b4
    exact ⟨by omega, d2, d3, by omega, d5, d6, fun z => absurd z g⟩
theorem pKnown_all {dl : List Nat} : ∀ (us : List (Nat × Nat)), (∀ u, u ∈ us → u.1 < 2 ∨ u.1 / 2 ∈ dl) → pKnown dl us = .ok () := by
  intro us
  induction us with
  | nil => intro _; rfl
  | cons u us ih =>
    intro h
    rw [pKnown, if_pos (h u (List.mem_cons_self ..))]
    exact ih fun w hw => h w (List.mem_cons_of_mem _ hw)
theorem pKnown_ok {dl : List Nat} : ∀ (us : List (Nat × Nat)) (z : Unit), pKnown dl us = .ok z → ∀ u, u ∈ us → u.1 < 2 ∨ u.1 / 2 ∈ dl := by
  intro us
  induction us with
  | nil => intro _ _ u hu; cases hu
  | cons u us ih =>
    intro z hz w hw
    rw [pKnown] at hz
    by_cases g : u.1 < 2 ∨ u.1 / 2 ∈ dl
    · rw [if_pos g] at hz
      rcases List.mem_cons.mp hw with e | e
      · rw [e]; exact g
      · exact ih z hz w e
    · rw [if_neg g] at hz; cases hz
/-! a circuit: (M, I, L, O, A), variables, uses, names, order -/
abbrev Ck : Type := (Nat × Nat × Nat × Nat × Nat) × List Nat × List (Nat × Nat) × (Nat → List Nat) × List Nat
def kM (c : Ck) : Nat := c.1.1
def kI (c : Ck) : Nat := c.1.2.1
def kL (c : Ck) : Nat := c.1.2.2.1
def kO (c : Ck) : Nat := c.1.2.2.2.1
def kA (c : Ck) : Nat := c.1.2.2.2.2
def kV (c : Ck) : List Nat := c.2.1
def kU (c : Ck) : List (Nat × Nat) := c.2.2.1
def kN (c : Ck) : Nat → List Nat := c.2.2.2.1
def kP (c : Ck) : List Nat := c.2.2.2.2
def avO (I L : Nat) (vs : List Nat) : Nat → Nat := fun k => vs.getD (I + L + k) 0
def l1O (L O : Nat) (us : List (Nat × Nat)) : Nat → Nat := fun k => (us.getD (L + O + 2 * k) (0, 0)).1
def l2O (L O : Nat) (us : List (Nat × Nat)) : Nat → Nat := fun k => (us.getD (L + O + 2 * k + 1) (0, 0)).1
noncomputable def pFile (h : Nat → Nat) : Except Er Ck :=
  eB (pHead h) fun z => eB (pBody h z.1 z.2.1 z.2.2.1 z.2.2.2.1 z.2.2.2.2.1 z.2.2.2.2.2.1 z.2.2.2.2.2.2) fun b =>
  eB (pSyms h z.2.2.1 z.2.2.2.1 z.2.2.2.2.1 25 (fun _ => []) b.2.2) fun nm => eB (pKnown b.1 b.2.1) fun _ =>
  eB (pOrd z.2.2.2.2.2.1 (avO z.2.2.1 z.2.2.2.1 b.1) (hf (l1O z.2.2.2.1 z.2.2.2.2.1 b.2.1)) (hf (l2O z.2.2.2.1 z.2.2.2.2.1 b.2.1))) fun P =>
  .ok ((z.2.1, z.2.2.1, z.2.2.2.1, z.2.2.2.2.1, z.2.2.2.2.2.1), b.1, b.2.1, nm, P)
/-- the class's circuit -/
def CC (IC : NI) (AC : NNI) (c : Ck) : Prop := HC IC (kM c) (kI c) (kL c) (kO c) (kA c) ∧ VA (kI c) (kL c) AC (kV c) ∧ UA (kL c) (kO c) AC (kU c) ∧ NA AC (kN c) ∧ OD AC (kP c)
theorem s_fg1 {Q X : NI → NNI → Prop} {A0 : NNI} : ∀ (j v : Nat) (IC : NI) (AC : NNI), v + j = 401 → (∀ w, w < v → AC 8 w = 0) → AC 11 = A0 11 → (∀ B, (∀ w, w ≤ 400 → B 8 w = 0) → B 11 = A0 11 → X IC B) → wp_C_forget_L2 Q X (j + 1) IC AC (nI v) := by
  intro j
  induction j with
  | zero =>
    intro v IC AC hl hA h11 k
    unfold wp_C_forget_L2
    exact pk_lt 400 v (fun _ => k _ (fun w hw => hA w (by omega)) h11) (fun g => absurd g (by omega))
  | succ j ih =>
    intro v IC AC hl hA h11 k
    unfold wp_C_forget_L2
    refine pk_lt 400 v (fun g => absurd g (by omega)) (fun _ => ⟨pk_in v 401 (by omega), ?_⟩)
    rw [nI_clamp (n := v) (by omega), nI_1]
    refine ih (v + 1) _ _ (by omega) (fun w hw => ?_) h11 k
    show upd (AC 8) v 0 w = 0
    by_cases g : w = v
    · rw [g, pk_us]
    · rw [pk_un g]; exact hA w (by omega)
theorem s_fg2 {Q X : NI → NNI → Prop} {A0 : NNI} : ∀ (j v : Nat) (IC : NI) (AC : NNI), v + j = 24 → (∀ w, w < v → AC 9 w = 0) → (∀ w, w ≤ 400 → AC 8 w = 0) → AC 11 = A0 11 → (∀ B, (∀ w, w < 24 → B 9 w = 0) → (∀ w, w ≤ 400 → B 8 w = 0) → B 11 = A0 11 → X IC B) → wp_C_forget_L24 Q X (j + 1) IC AC (nI v) := by
  intro j
  induction j with
  | zero =>
    intro v IC AC hl hA h8 h11 k
    unfold wp_C_forget_L24
    exact pk_le 24 v (fun _ => k _ (fun w hw => hA w (by omega)) h8 h11) (fun g => absurd g (by omega))
  | succ j ih =>
    intro v IC AC hl hA h8 h11 k
    unfold wp_C_forget_L24
    refine pk_le 24 v (fun g => absurd g (by omega)) (fun _ => ⟨pk_in v 24 (by omega), ?_⟩)
    rw [nI_clamp (n := v) (by omega), nI_1]
    refine ih (v + 1) _ _ (by omega) (fun w hw => ?_) h8 h11 k
    show upd (AC 9) v 0 w = 0
    by_cases g : w = v
    · rw [g, pk_us]
    · rw [pk_un g]; exact hA w (by omega)
theorem s_forget {IC : NI} {AC : NNI} {Q : NI → NNI → Prop} (k : ∀ B, DT B [] → NA B (fun _ => []) → B 11 = AC 11 → Q (va_up IC 5 0) B) : wp_C_forget IC AC Q := by
  unfold wp_C_forget
  refine ⟨402, s_fg1 (A0 := AC) 401 0 IC AC rfl (fun w hw => absurd hw (by omega)) rfl (fun B h8 h11 => ⟨25, s_fg2 (A0 := AC) 24 0 IC B rfl (fun w hw => absurd hw (by omega)) h8 h11 (fun B h9 h8 h11 => k B (fun v hv => by rw [if_neg List.not_mem_nil]; exact h8 v hv) (fun s hs => ⟨Nat.zero_le _, h9 s hs, fun i hi => absurd hi (Nat.not_lt_zero i)⟩) h11)⟩)⟩
theorem hdFits_is {bin : Bool} {M I L O A : Nat} (g : hdFits bin M I L O A = true) : M ≤ 400 ∧ I ≤ 6 ∧ L ≤ 7 ∧ O ≤ 8 ∧ A ≤ 300 ∧ I + L + A ≤ M ∧ (bin = true → M = I + L + A) := by
  simp only [hdFits, Bool.and_eq_true, decide_eq_true_eq] at g
  obtain ⟨⟨⟨⟨⟨g0, g1⟩, g2⟩, g3⟩, g4⟩, g5⟩ := g
  cases bin with
  | true => have : M = I + L + A := by simpa using g5
            exact ⟨g0, g1, g2, g3, g4, by omega, fun _ => this⟩
  | false => have : I + L + A ≤ M := by simpa using g5
             exact ⟨g0, g1, g2, g3, g4, this, fun z => by cases z⟩
theorem pHead_ok {h : Nat → Nat} {n : Nat} {z : Bool × Nat × Nat × Nat × Nat × Nat × Nat} (hend : ∀ q, n ≤ q → h q = 256) (hz : pHead h = .ok z) : hdFits z.1 z.2.1 z.2.2.1 z.2.2.2.1 z.2.2.2.2.1 z.2.2.2.2.2.1 = true ∧ z.2.2.2.2.2.2 ≤ n := by
  unfold pHead at hz
  obtain ⟨q, h1, hz⟩ := eB_ok hz
  obtain ⟨q2, h2, hz⟩ := eB_ok hz
  obtain ⟨q3, h3, hz⟩ := eB_ok hz
  obtain ⟨zM, h4, hz⟩ := eB_ok hz
  obtain ⟨zI, h5, hz⟩ := eB_ok hz
  obtain ⟨zL, h6, hz⟩ := eB_ok hz
  obtain ⟨zO, h7, hz⟩ := eB_ok hz
  obtain ⟨zA, h8, hz⟩ := eB_ok hz
  obtain ⟨q9, h9, hz⟩ := eB_ok hz
  obtain ⟨-, b2, -⟩ := pExp_ok hend (by decide) h9
  by_cases g : hdFits (decide (h q = 105)) zM.1 zI.1 zL.1 zO.1 zA.1 = true
  · rw [if_pos g] at hz
    cases hz
    exact ⟨g, b2⟩
  · rw [if_neg g] at hz
    cases hz
theorem getD_mem {α : Type} {l : List α} {k : Nat} {d : α} (h : k < l.length) : l.getD k d ∈ l := by
  have : l.getD k d = l[k] := by simp [List.getD, h]
  rw [this]; exact List.getElem_mem h
theorem CA_of {IC : NI} {AC : NNI} {M I L O A : Nat} {vs : List Nat} {us : List (Nat × Nat)} (hC : HC IC M I L O A) (hA : A ≤ 300) (hV : VA I L AC vs) (hU : UA L O AC us) (hvl : vs.length = I + L + A) (hul : us.length = L + O + 2 * A) (hn : vs.Nodup) (hv : ∀ v, v ∈ vs → v ≤ 400) (hu : ∀ u, u ∈ us → u.1 ≤ 801) : CA IC AC A (avO I L vs) (l1O L O us) (l2O L O us) := by
  refine ⟨hA, hC.2.2.2.2, fun k hk => ⟨?_, hv _ (getD_mem (by omega)), ?_, hu _ (getD_mem (by omega)), ?_, hu _ (getD_mem (by omega))⟩, fun i j hi hj e => ?_⟩
  · have := (hV.1 (I + L + k) (by omega)).2.2 (by omega)
    rw [show I + L + k - I - L = k by omega] at this
    exact this
  · exact (hU (L + O + 2 * k) (by omega)).2.2.1 k rfl
  · exact (hU (L + O + 2 * k + 1) (by omega)).2.2.2 k rfl
  · have e2 : vs[I + L + i] = vs[I + L + j] := by
      have a1 : vs.getD (I + L + i) 0 = vs[I + L + i] := by simp [List.getD, show I + L + i < vs.length by omega]
      have a2 : vs.getD (I + L + j) 0 = vs[I + L + j] := by simp [List.getD, show I + L + j < vs.length by omega]
      rw [← a1, ← a2]; exact e
    rcases Nat.lt_trichotomy i j with g | g | g
    · exact absurd e2 ((List.pairwise_iff_getElem.mp hn) (I + L + i) (I + L + j) (by omega) (by omega) (by omega))
    · exact g
    · exact absurd e2.symm ((List.pairwise_iff_getElem.mp hn) (I + L + j) (I + L + i) (by omega) (by omega) (by omega))
theorem s_file {IR IU IT IS ID : NI} {AR AT AS AD : NNI} {h : Nat → Nat} {n : Nat} {Q : Int32 → NI → NNI → NI → NI → NNI → NI → NNI → Prop} (t : TW IT AT h n)
    (k : Lk (pFile h) (fun c => ∀ R B U S BS I A, U 3 = 0 → U 4 = -1 → CC I A c → I 5 = 0 → A 11 = AD 11 → Q 1 R B U S BS I A) (fun e => ∀ R B U S BS I A, CE U e → A 11 = AD 11 → Q 0 R B U S BS I A)) : wp_R_readFile IR AR IU IT AT IS AS ID AD Q := by
  have hend := t.2.2.2
  unfold wp_R_readFile wp_U_restart
  refine s_forget (fun B hD0 hN0 h11 => ?_)
  obtain ⟨s1, hs1⟩ := any_nI (IU 1)
  obtain ⟨v1, hv1⟩ := any_nI (IU 2)
  unfold pFile at k
  rw [Lk_eB] at k
  refine s_head (st := s1) (v := v1) (fk := 0) (fp := -1) t ⟨rfl, hs1, hv1, rfl, rfl⟩ (Lk_imp k (fun z hz k R U C s2 v2 hR0 hR1 hU hC h5 => ⟨fun c => absurd c (by decide), fun _ => ?_⟩) (fun e he k R U C hE => ⟨fun _ => k _ _ _ _ _ _ _ hE h11, fun c => absurd rfl c⟩))
  obtain ⟨hfit, hzn⟩ := pHead_ok hend hz
  obtain ⟨bin, M, I, L, O, A, q⟩ := z
  simp only at k hfit hzn hR1 hU hC h5
  obtain ⟨f0, f1, f2, f3, f4, f5, f6⟩ := hdFits_is hfit
  have hC5 : C 5 = 0 := h5
  rw [Lk_eB] at k
  have hUR0 : UR R AR [] := ⟨Nat.zero_le _, hR0, fun k hk => absurd hk (Nat.not_lt_zero k)⟩
  have hVA0 : VA I L B [] := ⟨fun k hk => absurd hk (Nat.not_lt_zero k), hD0⟩
  have hUA0 : ∀ X : NNI, UA L O X [] := fun X k hk => absurd hk (Nat.not_lt_zero k)
  -- behind the body
  have tail : ∀ (b : List Nat × List (Nat × Nat) × Nat) (R : NI) (B2 : NNI) (U : NI) (S : NI) (A2 : NNI) (us : List (Nat × Nat)) (s v : Nat), pBody h bin M I L O A q = .ok b → Lk (pSyms h I L O 25 (fun _ => []) b.2.2) (fun nm => Lk (eB (pKnown b.1 b.2.1) fun _ => eB (pOrd A (avO I L b.1) (hf (l1O L O b.2.1)) (hf (l2O L O b.2.1))) fun P => (.ok ((M, I, L, O, A), b.1, b.2.1, nm, P) : Except Er Ck)) (fun c => ∀ R B U S BS I A, U 3 = 0 → U 4 = -1 → CC I A c → I 5 = 0 → A 11 = AD 11 → Q 1 R B U S BS I A) (fun e => ∀ R B U S BS I A, CE U e → A 11 = AD 11 → Q 0 R B U S BS I A)) (fun e => ∀ R B U S BS I A, CE U e → A 11 = AD 11 → Q 0 R B U S BS I A) →
      UR R B2 us → (∀ u, u ∈ us → u ∈ b.2.1) → pKnown b.1 us = pKnown b.1 b.2.1 → CU U b.2.2 s v 0 (-1) → VA I L A2 b.1 → UA L O A2 b.2.1 → FA B A2 → wp_R_readFile_b74 IT AT Q R B2 U S AS C A2 := by
    intro b R B2 U S A2 us s v hb k hUR hsub hkn hU hVA hUA hFA
    obtain ⟨p1, p2, p3, p4, p5, p6, p7⟩ := pBody_ok hend t.le hzn f6 hb
    have hl801 : ∀ u, u ∈ b.2.1 → u.1 ≤ 801 := fun u hu => by have := (p5 u hu).1; omega
    unfold wp_R_readFile_b74 wp_R_readSymbols
    have hNA : NA A2 (fun _ => []) := fun s hs => ⟨(hN0 s hs).1, by rw [hFA.1]; exact (hN0 s hs).2.1, fun i hi => absurd hi (Nat.not_lt_zero i)⟩
    refine ⟨26, s_syms (A0 := A2) (fk := 0) (fp := -1) t hC f1 f2 f3 (fun _ _ z => z) 25 0 (fun _ => []) b.2.2 s v U A2 rfl p6 hU hNA (fun a _ _ => rfl) (Lk_imp k (fun nm hnm k U3 A3 q3 s3 v3 hU3 hN3 hF3 => ⟨fun c => absurd c (by decide), fun _ => ?_⟩) (fun e he k U3 A3 hE hF3 => ⟨fun _ => k _ _ _ _ _ _ _ hE (by rw [hF3 11 (by decide) (by decide), hFA.2.2, h11]), fun c => absurd rfl c⟩))⟩
    have h11' : A3 11 = AD 11 := by rw [hF3 11 (by decide) (by decide), hFA.2.2, h11]
    have hVA3 : VA I L A3 b.1 := VA_same hVA (hF3 0 (by decide) (by decide)) (hF3 1 (by decide) (by decide)) (hF3 4 (by decide) (by decide)) (hF3 8 (by decide) (by decide))
    have hUA3 : UA L O A3 b.2.1 := UA_same hUA (hF3 2 (by decide) (by decide)) (hF3 3 (by decide) (by decide)) (hF3 5 (by decide) (by decide)) (hF3 6 (by decide) (by decide))
    rw [Lk_eB] at k
    unfold wp_R_checkUses
    refine ⟨us.length + 1, s_uses (dl := b.1) hUR hVA3.2 (fun u hu => hl801 u (hsub u hu)) us.length 0 U3 (by omega) ?_⟩
    rw [List.drop_zero, hkn]
    refine Lk_imp k (fun _ hkok k => ⟨fun c => absurd c (by decide), fun _ => ?_⟩) (fun e he k U4 hE => ⟨fun _ => k _ _ _ _ _ _ _ hE h11', fun c => absurd rfl c⟩)
    rw [Lk_eB] at k
    have hCA := CA_of hC f4 hVA3 hUA3 p1 p4 p2 (fun v hv => by have := p3 v hv; omega) hl801
    refine s_loops hCA hC.1 f0 (fun k hk => p3 _ (getD_mem (by omega))) (Lk_imp k (fun P hP k S5 AS5 B5 hOD hF5 => ⟨fun c => absurd c (by decide), fun _ => ?_⟩) (fun e he k U5 S5 AS5 B5 hE hF5 => ⟨fun _ => k _ _ _ _ _ _ _ hE (by rw [hF5 11 (by decide)]; exact h11'), fun c => absurd rfl c⟩))
    refine k _ _ _ _ _ _ _ hU3.2.2.2.1 hU3.2.2.2.2 ⟨hC, VA_same hVA3 (hF5 0 (by decide)) (hF5 1 (by decide)) (hF5 4 (by decide)) (hF5 8 (by decide)), UA_same hUA3 (hF5 2 (by decide)) (hF5 3 (by decide)) (hF5 5 (by decide)) (hF5 6 (by decide)), ?_, hOD⟩ hC5 (by rw [hF5 11 (by decide)]; exact h11')
    intro s hs
    rw [hF5 9 (by decide), hF5 10 (by decide)]
    exact hN3 s hs
  have hFA0 : FA B B := ⟨rfl, rfl, rfl⟩
  have fail11 : ∀ X : NNI, FA B X → X 11 = AD 11 := fun X hX => hX.2.2.trans h11
  generalize hpb : pBody h bin M I L O A q = pb at k
  cases bin with
  | false =>
    unfold pBody at hpb
    simp only [Bool.false_eq_true, if_false] at hpb
    subst hpb
    rw [Lk_eB] at k
    unfold wp_R_readInputs
    refine ⟨I + 1, s_insT (A0 := B) (fk := 0) (fp := -1) t hR1 hC f0 f1 I [] q s2 v2 U B (by simp) hzn hU hVA0 hFA0 (Lk_imp k (fun a ha k U3 A3 s3 v3 hU3 hV3 hF3 => ⟨fun c => absurd c (by decide), fun _ => ?_⟩) (fun e he k U3 A3 hE hF3 => ⟨fun _ => k _ _ _ _ _ _ _ hE (fail11 _ hF3), fun c => absurd rfl c⟩))⟩
    obtain ⟨a1, a2, a3, a4⟩ := pIns_ok hend I [] q a hzn List.nodup_nil (fun v hv => absurd hv List.not_mem_nil) ha
    rw [Lk_eB] at k
    unfold wp_R_readLatches
    refine ⟨L + 1, s_latT (A0 := B) (fk := 0) (fp := -1) t hC f0 f1 f2 (R 1) hR1 L a.1 [] a.2 s3 v3 R AR U3 A3 (by simp) (by rw [a1]; simp) a4 rfl hUR0 hU3 hV3 (hUA0 A3) hF3 (Lk_imp k (fun b hb k R4 B4 U4 A4 s4 v4 hR4 hUR4 hU4 hV4 hUA4 hF4 => ⟨fun c => absurd c (by decide), fun _ => ?_⟩) (fun e he k R4 B4 U3 A3 hE hF3 => ⟨fun _ => k _ _ _ _ _ _ _ hE (fail11 _ hF3), fun c => absurd rfl c⟩))⟩
    obtain ⟨b1, b2, b3, b4, b5, b6⟩ := pLats_ok hend L _ _ _ b a4 a2 a3 (fun u hu => absurd hu List.not_mem_nil) hb
    rw [List.length_nil] at a1 b4
    rw [Lk_eB] at k
    unfold wp_R_readOutputs
    refine ⟨O + 1, s_outs (A0 := B) (fk := 0) (fp := -1) t hC f0 f2 f3 (R 1) O 0 b.2.1 b.2.2 s4 v4 R4 B4 U4 A4 (by omega) (by omega) b6 hR4 hUR4 hU4 hV4 hUA4 hF4 (Lk_imp k (fun c hc k R5 B5 U5 A5 s5 v5 hR5 hUR5 hU5 hV5 hUA5 hF5 => ⟨fun c => absurd c (by decide), fun _ => ⟨fun _ => ?_, fun g => absurd (hR5.trans hR1) g⟩⟩) (fun e he k R4 B4 U3 A3 hE hF3 => ⟨fun _ => k _ _ _ _ _ _ _ hE (fail11 _ hF3), fun c => absurd rfl c⟩))⟩
    obtain ⟨c1, c2, c3⟩ := pUses_ok hend O _ _ c b6 b5 hc
    unfold wp_R_readTextAnds
    refine ⟨A + 1, s_andT (A0 := B) (fk := 0) (fp := -1) t hC f0 f1 f2 f3 f4 (R 1) A 0 b.1 c.1 c.2 s5 v5 R5 B5 U5 A5 (by omega) (by omega) (by omega) c3 hR5 hUR5 hU5 hV5 hUA5 hF5 (Lk_imp k (fun d hd k R6 B6 U6 A6 s6 v6 hR6 hUR6 hU6 hV6 hUA6 hF6 => ⟨fun c => absurd c (by decide), fun _ => ?_⟩) (fun e he k R4 B4 U3 A3 hE hF3 => ⟨fun _ => k _ _ _ _ _ _ _ hE (fail11 _ hF3), fun c => absurd rfl c⟩))⟩
    rw [Lk_eB] at k
    refine tail d R6 B6 U6 IS A6 d.2.1 s6 v6 ?_ k hUR6 (fun u hu => hu) rfl hU6 hV6 hUA6 hF6
    show (eB (pIns h M I [] q) fun a => eB (pLats h M L a.1 [] a.2) fun b => eB (pUses h M O b.2.1 b.2.2) fun c => pAnds h M A b.1 c.1 c.2) = .ok d
    rw [ha]
    show (eB (pLats h M L a.1 [] a.2) fun b => eB (pUses h M O b.2.1 b.2.2) fun c => pAnds h M A b.1 c.1 c.2) = .ok d
    rw [hb]
    show (eB (pUses h M O b.2.1 b.2.2) fun c => pAnds h M A b.1 c.1 c.2) = .ok d
    rw [hc]
    exact hd
  | true =>
    have hbn : ¬ R 1 = 0 := by rw [hR1, if_pos rfl]; decide
    unfold pBody at hpb
    simp only [if_true] at hpb
    subst hpb
    rw [Lk_eB] at k
    unfold wp_R_readInputs
    refine ⟨I + 1, s_insB (A0 := B) hbn hC f1 I [] U B (by simp) rfl hVA0 hFA0 (fun A3 hV3 hF3 => ⟨fun c => absurd c (by decide), fun _ => ?_⟩)⟩
    unfold wp_R_readLatches
    refine ⟨L + 1, s_latB (A0 := B) (fk := 0) (fp := -1) t hC f0 f1 f2 (R 1) hbn L [] q s2 v2 R AR U A3 (by simp) hzn rfl hUR0 hU hV3 (hUA0 A3) hF3 (Lk_imp k (fun b hb k R4 B4 U4 A4 s4 v4 hR4 hUR4 hU4 hV4 hUA4 hF4 => ⟨fun c => absurd c (by decide), fun _ => ?_⟩) (fun e he k R4 B4 U3 A3 hE hF3 => ⟨fun _ => k _ _ _ _ _ _ _ hE (fail11 _ hF3), fun c => absurd rfl c⟩))⟩
    obtain ⟨b1, b2, b3⟩ := pUses_ok (M := M) hend L [] q b hzn (fun u hu => absurd hu List.not_mem_nil) hb
    rw [List.length_nil] at b1
    rw [Lk_eB] at k
    unfold wp_R_readOutputs
    refine ⟨O + 1, s_outs (A0 := B) (fk := 0) (fp := -1) t hC f0 f2 f3 (R 1) O 0 b.1 b.2 s4 v4 R4 B4 U4 A4 (by omega) (by omega) b3 hR4 hUR4 hU4 hV4 hUA4 hF4 (Lk_imp k (fun c hc k R5 B5 U5 A5 s5 v5 hR5 hUR5 hU5 hV5 hUA5 hF5 => ⟨fun c => absurd c (by decide), fun _ => ⟨fun g => absurd (hR5.symm.trans g) hbn, fun _ => ?_⟩⟩) (fun e he k R4 B4 U3 A3 hE hF3 => ⟨fun _ => k _ _ _ _ _ _ _ hE (fail11 _ hF3), fun c => absurd rfl c⟩))⟩
    obtain ⟨c1, c2, c3⟩ := pUses_ok hend O _ _ c b3 b2 hc
    unfold wp_R_readBinaryAnds
    rw [Lk_eB] at k
    refine ⟨A + 1, s_andB (A0 := B) (fk := 0) (fp := -1) t hC f1 f2 f3 f4 A 0 c.1 c.2 s5 v5 U5 A5 (by omega) (by omega) c3 hU5 hV5 hUA5 hF5 (Lk_imp k (fun d hd k U6 A6 s6 v6 hU6 hV6 hUA6 hF6 => ⟨fun c => absurd c (by decide), fun _ => ?_⟩) (fun e he k U3 A3 hE hF3 => ⟨fun _ => k _ _ _ _ _ _ _ hE (fail11 _ hF3), fun c => absurd rfl c⟩))⟩
    have k2 : Lk (eB (pSyms h I L O 25 (fun _ => []) d.2) fun nm => eB (pKnown (List.range' 1 (I + L + A)) d.1) fun _ => eB (pOrd A (avO I L (List.range' 1 (I + L + A))) (hf (l1O L O d.1)) (hf (l2O L O d.1))) fun P => (.ok ((M, I, L, O, A), List.range' 1 (I + L + A), d.1, nm, P) : Except Er Ck)) (fun c => ∀ R B U S BS I A, U 3 = 0 → U 4 = -1 → CC I A c → I 5 = 0 → A 11 = AD 11 → Q 1 R B U S BS I A) (fun e => ∀ R B U S BS I A, CE U e → A 11 = AD 11 → Q 0 R B U S BS I A) := k
    rw [Lk_eB] at k2
    have hbody : pBody h true M I L O A q = .ok (List.range' 1 (I + L + A), d.1, d.2) := by
      unfold pBody
      rw [if_pos rfl, hb]
      show (eB (pUses h M O b.1 b.2) fun y => eB (pBinAnds h A (I + L + 1) y.1 y.2) fun x => (.ok (List.range' 1 (I + L + A), x.1, x.2) : Except Er (List Nat × List (Nat × Nat) × Nat))) = _
      rw [hc]
      show (eB (pBinAnds h A (I + L + 1) c.1 c.2) fun x => (.ok (List.range' 1 (I + L + A), x.1, x.2) : Except Er (List Nat × List (Nat × Nat) × Nat))) = _
      rw [show pBinAnds h A (I + L + 1) c.1 c.2 = .ok d from hd]
      rfl
    obtain ⟨p1, p2, p3, p4, p5, p6, p7⟩ := pBody_ok hend t.le hzn f6 hbody
    have hk : ∀ u : Nat × Nat, u.1 ≤ 2 * M + 1 → u.1 < 2 ∨ u.1 / 2 ∈ List.range' 1 (I + L + A) := fun u hu => by
      by_cases g : u.1 < 2
      · exact Or.inl g
      · refine Or.inr (List.mem_range'_1.mpr ?_)
        have := f6 rfl
        omega
    have hpre : ∀ (j v : Nat) (us : List (Nat × Nat)) (q : Nat) (z : List (Nat × Nat) × Nat), pBinAnds h j v us q = .ok z → ∀ u, u ∈ us → u ∈ z.1 := by
      intro j
      induction j with
      | zero => intro v us q z hz u hu; cases hz; exact hu
      | succ j ih =>
        intro v us q z hz u hu
        obtain ⟨a, h1, h2⟩ := eB_ok hz
        obtain ⟨y, h3, h4⟩ := eB_ok h2
        exact ih _ _ _ z h4 u (List.mem_append.mpr (Or.inl hu))
    refine tail (List.range' 1 (I + L + A), d.1, d.2) R5 B5 U6 IS A6 c.1 s6 v6 hbody k2 hUR5 (hpre _ _ _ _ _ hd) ?_ hU6 hV6 hUA6 hF6
    rw [pKnown_all _ (fun u hu => hk u (p5 u hu).1), pKnown_all _ (fun u hu => hk u (c2 u hu).1)]
