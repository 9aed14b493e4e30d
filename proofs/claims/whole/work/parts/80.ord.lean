/-! the order of the ands, and loops, as mathematics: A ands, the k-th defines the variable av k out of the variables a1 k, a2 k -/
theorem pig {α : Type} [DecidableEq α] : ∀ (l m : List α), l.Nodup → (∀ x, x ∈ l → x ∈ m) → l.length ≤ m.length := by
  intro l
  induction l with
  | nil => intro m _ _; exact Nat.zero_le _
  | cons x l ih =>
    intro m hn hm
    have hx : x ∈ m := hm x (List.mem_cons_self ..)
    have h1 := ih (m.erase x) (List.nodup_cons.mp hn).2 (fun y hy => by
      have hyx : y ≠ x := fun e => (List.nodup_cons.mp hn).1 (e ▸ hy)
      exact (List.mem_erase_of_ne hyx).mpr (hm y (List.mem_cons_of_mem _ hy)))
    rw [List.length_erase_of_mem hx] at h1
    have : 0 < m.length := List.length_pos_of_mem hx
    rw [List.length_cons]
    omega
theorem pig_range {l : List Nat} {n : Nat} (hn : l.Nodup) (h : ∀ x, x ∈ l → x < n) : l.length ≤ n := by
  have := pig l (List.range n) hn (fun x hx => List.mem_range.mpr (h x hx))
  rwa [List.length_range] at this
/-- a full one holds all -/
theorem pig_full {l : List Nat} {n k : Nat} (hn : l.Nodup) (h : ∀ x, x ∈ l → x < n) (hl : n ≤ l.length) (hk : k < n) : k ∈ l := by
  by_cases g : k ∈ l
  · exact g
  · have := pig_range (l := k :: l) (n := n) (List.nodup_cons.mpr ⟨g, hn⟩) (fun x hx => by
      rcases List.mem_cons.mp hx with e | e
      · omega
      · exact h x e)
    rw [List.length_cons] at this
    omega
def sq {α : Type} (g : Nat → α) : Nat → List α
  | 0 => []
  | k + 1 => g k :: sq g k
theorem sq_mem {α : Type} {g : Nat → α} {x : α} : ∀ k, x ∈ sq g k → ∃ i, i < k ∧ g i = x := by
  intro k
  induction k with
  | zero => intro h; cases h
  | succ k ih =>
    intro h
    rcases List.mem_cons.mp h with e | e
    · exact ⟨k, by omega, e.symm⟩
    · obtain ⟨i, h1, h2⟩ := ih e
      exact ⟨i, by omega, h2⟩
theorem sq_len {α : Type} {g : Nat → α} : ∀ k, (sq g k).length = k := by
  intro k
  induction k with
  | zero => rfl
  | succ k ih => rw [sq, List.length_cons, ih]
theorem sq_nodup {α : Type} {g : Nat → α} {n : Nat} (h : ∀ i j, i < j → j < n → g i ≠ g j) : ∀ k, k ≤ n → (sq g k).Nodup := by
  intro k
  induction k with
  | zero => intro _; exact List.nodup_nil
  | succ k ih =>
    intro hk
    refine List.nodup_cons.mpr ⟨fun hm => ?_, ih (by omega)⟩
    obtain ⟨i, h1, h2⟩ := sq_mem k hm
    exact h i k h1 (by omega) h2
theorem sq_rep {α : Type} [DecidableEq α] {g : Nat → α} {m : List α} {n : Nat} (hm : ∀ i, i < n → g i ∈ m) (hl : m.length < n) : ∃ i j, i < j ∧ j < n ∧ g i = g j := by
  by_cases h : ∃ i j, i < j ∧ j < n ∧ g i = g j
  · exact h
  · have h2 : ∀ i j, i < j → j < n → g i ≠ g j := fun i j h1 h3 h4 => h ⟨i, j, h1, h3, h4⟩
    have := pig (sq g n) m (sq_nodup h2 n (Nat.le_refl n)) (fun x hx => by
      obtain ⟨i, h5, h6⟩ := sq_mem n hx
      rw [← h6]; exact hm i h5)
    rw [sq_len] at this
    omega
/-- has the variable v come, when the ands in P have? -/
def Cm (A : Nat) (av : Nat → Nat) (P : List Nat) (v : Nat) : Prop := ∀ j, j < A → av j = v → j ∈ P
def Rd (A : Nat) (av a1 a2 : Nat → Nat) (P : List Nat) (k : Nat) : Prop := k ∉ P ∧ Cm A av P (a1 k) ∧ Cm A av P (a2 k)
noncomputable def nx (A : Nat) (av a1 a2 : Nat → Nat) (P : List Nat) : Option Nat := @dite (Option Nat) (∃ k, k < A ∧ Rd A av a1 a2 P k) (Classical.propDecidable _) (fun h => some (Classical.choose (pk_least _ h))) (fun _ => none)
theorem nx_none {A : Nat} {av a1 a2 : Nat → Nat} {P : List Nat} (h : ∀ k, k < A → ¬ Rd A av a1 a2 P k) : nx A av a1 a2 P = none := by
  unfold nx
  rw [dif_neg (fun ⟨k, h1, h2⟩ => h k h1 h2)]
theorem nx_some {A : Nat} {av a1 a2 : Nat → Nat} {P : List Nat} {k : Nat} (hk : k < A) (hr : Rd A av a1 a2 P k) (hl : ∀ j, j < k → ¬ Rd A av a1 a2 P j) : nx A av a1 a2 P = some k := by
  unfold nx
  have he : ∃ k, k < A ∧ Rd A av a1 a2 P k := ⟨k, hk, hr⟩
  rw [dif_pos he]
  obtain ⟨h1, h2⟩ := Classical.choose_spec (pk_least _ he)
  congr 1
  generalize Classical.choose (pk_least _ he) = c at *
  rcases Nat.lt_trichotomy c k with g | g | g
  · exact absurd h1.2 (hl c g)
  · exact g
  · exact absurd ⟨hk, hr⟩ (h2 k g)
theorem nx_is {A : Nat} {av a1 a2 : Nat → Nat} {P : List Nat} {k : Nat} (h : nx A av a1 a2 P = some k) : k < A ∧ Rd A av a1 a2 P k := by
  unfold nx at h
  by_cases he : ∃ k, k < A ∧ Rd A av a1 a2 P k
  · rw [dif_pos he] at h
    have := (Classical.choose_spec (pk_least _ he)).1
    cases h
    exact this
  · rw [dif_neg he] at h; cases h
theorem nx_no {A : Nat} {av a1 a2 : Nat → Nat} {P : List Nat} (h : nx A av a1 a2 P = none) : ∀ k, k < A → ¬ Rd A av a1 a2 P k := by
  intro k hk hr
  unfold nx at h
  rw [dif_pos ⟨k, hk, hr⟩] at h
  cases h
noncomputable def od (A : Nat) (av a1 a2 : Nat → Nat) : Nat → List Nat → List Nat
  | 0, P => P
  | f + 1, P => match nx A av a1 a2 P with
    | none => P
    | some k => od A av a1 a2 f (P ++ [k])
theorem od_none {A : Nat} {av a1 a2 : Nat → Nat} {P : List Nat} (h : nx A av a1 a2 P = none) : ∀ f, od A av a1 a2 f P = P := by
  intro f
  cases f with
  | zero => rfl
  | succ f => rw [od, h]
theorem od_some {A : Nat} {av a1 a2 : Nat → Nat} {P : List Nat} {k f : Nat} (h : nx A av a1 a2 P = some k) : od A av a1 a2 (f + 1) P = od A av a1 a2 f (P ++ [k]) := by
  rw [od, h]
/-- what is kept of the list of those that have come -/
def OK (A : Nat) (av a1 a2 : Nat → Nat) (P : List Nat) : Prop := P.Nodup ∧ (∀ k, k ∈ P → k < A) ∧ ∀ i, i < P.length → Cm A av (P.take i) (a1 (P.getD i 0)) ∧ Cm A av (P.take i) (a2 (P.getD i 0))
theorem OK_nil {A : Nat} {av a1 a2 : Nat → Nat} : OK A av a1 a2 [] := ⟨List.nodup_nil, fun k h => absurd h List.not_mem_nil, fun i h => absurd h (Nat.not_lt_zero i)⟩
theorem OK_len {A : Nat} {av a1 a2 : Nat → Nat} {P : List Nat} (h : OK A av a1 a2 P) : P.length ≤ A := pig_range h.1 h.2.1
theorem nodup_push {α : Type} {P : List α} {k : α} (hn : P.Nodup) (h : k ∉ P) : (P ++ [k]).Nodup := by
  rw [List.nodup_append]
  refine ⟨hn, List.nodup_cons.mpr ⟨by simp, List.nodup_nil⟩, fun a ha b hb e => h ?_⟩
  have : b = k := by simpa using hb
  rw [← this, ← e]; exact ha
theorem OK_push {A : Nat} {av a1 a2 : Nat → Nat} {P : List Nat} {k : Nat} (h : OK A av a1 a2 P) (hk : nx A av a1 a2 P = some k) : OK A av a1 a2 (P ++ [k]) := by
  obtain ⟨h1, h2⟩ := nx_is hk
  refine ⟨nodup_push h.1 h2.1, fun x hx => ?_, fun i hi => ?_⟩
  · rcases List.mem_append.mp hx with e | e
    · exact h.2.1 x e
    · have : x = k := by simpa using e
      omega
  · rw [List.length_append, List.length_singleton] at hi
    by_cases g : i = P.length
    · subst g
      rw [gD_r, List.take_left' rfl]
      exact h2.2
    · rw [gD_l (by omega), List.take_append_of_le_length (by omega)]
      exact h.2.2 i (by omega)
theorem od_ok {A : Nat} {av a1 a2 : Nat → Nat} : ∀ (f : Nat) (P : List Nat), OK A av a1 a2 P → A ≤ P.length + f → OK A av a1 a2 (od A av a1 a2 f P) ∧ nx A av a1 a2 (od A av a1 a2 f P) = none := by
  intro f
  induction f with
  | zero =>
    intro P h hl
    refine ⟨h, nx_none fun k hk hr => hr.1 (pig_full h.1 h.2.1 hl hk)⟩
  | succ f ih =>
    intro P h hl
    cases hx : nx A av a1 a2 P with
    | none => rw [od_none hx]; exact ⟨h, hx⟩
    | some k =>
      rw [od_some hx]
      exact ih _ (OK_push h hx) (by rw [List.length_append, List.length_singleton]; omega)
/-! loops -/
def Ed (A : Nat) (av a1 a2 : Nat → Nat) (v w : Nat) : Prop := ∃ k, k < A ∧ av k = v ∧ (a1 k = w ∨ a2 k = w)
def RTn (A : Nat) (av a1 a2 : Nat → Nat) (v : Nat) : Nat → Nat → Prop
  | 0, w => Ed A av a1 a2 v w
  | n + 1, x => ∃ w, RTn A av a1 a2 v n w ∧ Ed A av a1 a2 w x
def RT (A : Nat) (av a1 a2 : Nat → Nat) (v w : Nat) : Prop := ∃ n, RTn A av a1 a2 v n w
theorem RT.one {A : Nat} {av a1 a2 : Nat → Nat} {v w : Nat} (h : Ed A av a1 a2 v w) : RT A av a1 a2 v w := ⟨0, h⟩
theorem RT.step {A : Nat} {av a1 a2 : Nat → Nat} {v w x : Nat} (h : RT A av a1 a2 v w) (h2 : Ed A av a1 a2 w x) : RT A av a1 a2 v x := by
  obtain ⟨n, hn⟩ := h
  exact ⟨n + 1, w, hn, h2⟩
theorem RT_ind {A : Nat} {av a1 a2 : Nat → Nat} {v : Nat} {m : Nat → Prop} (h1 : ∀ w, Ed A av a1 a2 v w → m w) (h2 : ∀ w x, m w → Ed A av a1 a2 w x → m x) {w : Nat} (h : RT A av a1 a2 v w) : m w := by
  obtain ⟨n, hn⟩ := h
  induction n generalizing w with
  | zero => exact h1 w hn
  | succ n ih =>
    obtain ⟨u, hu, he⟩ := hn
    exact h2 u w (ih hu) he
theorem Cm_mono {A : Nat} {av : Nat → Nat} {P P' : List Nat} {v : Nat} (h : ∀ x, x ∈ P → x ∈ P') (hc : Cm A av P v) : Cm A av P' v := fun j h1 h2 => h j (hc j h1 h2)
theorem Cm_Ed {A : Nat} {av a1 a2 : Nat → Nat} {P : List Nat} (h : OK A av a1 a2 P) {v w : Nat} (hc : Cm A av P v) (he : Ed A av a1 a2 v w) : Cm A av P w := by
  obtain ⟨k, hk, hv, hw⟩ := he
  obtain ⟨i, hi, hi2⟩ := List.mem_iff_getElem.mp (hc k hk hv)
  have hg : P.getD i 0 = k := by simp [List.getD, hi, hi2]
  obtain ⟨c1, c2⟩ := h.2.2 i hi
  rw [hg] at c1 c2
  have hm : ∀ x, x ∈ P.take i → x ∈ P := fun x hx => List.mem_of_mem_take hx
  rcases hw with e | e
  · rw [← e]; exact Cm_mono hm c1
  · rw [← e]; exact Cm_mono hm c2
theorem Cm_RT {A : Nat} {av a1 a2 : Nat → Nat} {P : List Nat} (h : OK A av a1 a2 P) {v w : Nat} (hc : Cm A av P v) (hr : RT A av a1 a2 v w) : Cm A av P w := by
  exact RT_ind (m := fun w => Cm A av P w) (fun w he => Cm_Ed h hc he) (fun w x ih he => Cm_Ed h ih he) hr
/-- an and that has come lies on no loop -/
theorem come_noloop {A : Nat} {av a1 a2 : Nat → Nat} {P : List Nat} (h : OK A av a1 a2 P) (hinj : ∀ i j, i < A → j < A → av i = av j → i = j) : ∀ (n i : Nat), i < P.length → i ≤ n → ∀ w, RT A av a1 a2 (av (P.getD i 0)) w → ∀ j, j < A → av j = w → j ∈ P.take i := by
  intro n
  induction n with
  | zero =>
    intro i hi hn w hr
    have hi0 : i = 0 := by omega
    subst hi0
    have hE : ∀ x, Ed A av a1 a2 (av (P.getD 0 0)) x → Cm A av (P.take 0) x := fun x ⟨k, hk, hv, hx⟩ => by
      have hk2 : k = P.getD 0 0 := hinj k _ hk (h.2.1 _ (by simp [List.getD, hi])) hv
      obtain ⟨c1, c2⟩ := h.2.2 0 hi
      rw [← hk2] at c1 c2
      rcases hx with e | e <;> rw [← e]
      · exact c1
      · exact c2
    have : ∀ w, RT A av a1 a2 (av (P.getD 0 0)) w → Cm A av (P.take 0) w := fun w hr => by
      refine RT_ind (m := fun w => Cm A av (P.take 0) w) (fun w he => hE _ he) (fun w x ih he => ?_) hr
      obtain ⟨k, hk, hv, _⟩ := he
      have := ih k hk hv
      simp at this
    exact fun j hj e => this w hr j hj e
  | succ n ih =>
    intro i hi hn w hr
    have hE : ∀ x, Ed A av a1 a2 (av (P.getD i 0)) x → Cm A av (P.take i) x := fun x ⟨k, hk, hv, hx⟩ => by
      have hk2 : k = P.getD i 0 := hinj k _ hk (h.2.1 _ (by simp [List.getD, hi])) hv
      obtain ⟨c1, c2⟩ := h.2.2 i hi
      rw [← hk2] at c1 c2
      rcases hx with e | e <;> rw [← e]
      · exact c1
      · exact c2
    have : ∀ w, RT A av a1 a2 (av (P.getD i 0)) w → Cm A av (P.take i) w := fun w hr => by
      refine RT_ind (m := fun w => Cm A av (P.take i) w) (fun w he => hE _ he) (fun u x ih2 he => ?_) hr
      obtain ⟨k, hk, hv, hx⟩ := he
      have hm := ih2 k hk hv
      obtain ⟨i2, hi2, hi3⟩ := List.mem_iff_getElem.mp hm
      have hlt : i2 < i := by rw [List.length_take] at hi2; omega
      have hg : P.getD i2 0 = k := by
        rw [List.getElem_take] at hi3
        simp [List.getD, show i2 < P.length by omega, hi3]
      intro j hj e
      have h5 := ih i2 (by omega) (by omega) x (by rw [hg]; exact RT.one ⟨k, hk, rfl, hx⟩) j hj e
      have : P.take i2 = (P.take i).take i2 := by rw [List.take_take]; congr 1; omega
      rw [this] at h5
      exact List.mem_of_mem_take h5
    exact fun j hj e => this w hr j hj e
theorem come_noloop' {A : Nat} {av a1 a2 : Nat → Nat} {P : List Nat} (h : OK A av a1 a2 P) (hinj : ∀ i j, i < A → j < A → av i = av j → i = j) {k : Nat} (hk : k ∈ P) : ¬ RT A av a1 a2 (av k) (av k) := by
  intro hr
  obtain ⟨i, hi, hi2⟩ := List.mem_iff_getElem.mp hk
  have hg : P.getD i 0 = k := by simp [List.getD, hi, hi2]
  have hm := come_noloop h hinj i i hi (Nat.le_refl _) (av k) (by rw [hg]; exact hr) k (h.2.1 k hk) rfl
  obtain ⟨i2, hi3, hi4⟩ := List.mem_iff_getElem.mp hm
  rw [List.getElem_take] at hi4
  rw [List.length_take] at hi3
  exact (List.pairwise_iff_getElem.mp h.1) i2 i (by omega) hi (by omega) (hi4.trans hi2.symm)
/-- if not all come, there is a loop -/
theorem loop_is {A : Nat} {av a1 a2 : Nat → Nat} {P : List Nat} (h : OK A av a1 a2 P) (hx : nx A av a1 a2 P = none) (hl : P.length < A) : ∃ k, k < A ∧ RT A av a1 a2 (av k) (av k) := by
  have hno := nx_no hx
  have hs : ∀ k, k < A → k ∉ P → ∃ j, j < A ∧ j ∉ P ∧ Ed A av a1 a2 (av k) (av j) := by
    intro k hk hkP
    by_cases g1 : Cm A av P (a1 k)
    · by_cases g2 : Cm A av P (a2 k)
      · exact absurd ⟨hkP, g1, g2⟩ (hno k hk)
      · obtain ⟨j, hj⟩ := Classical.not_forall.mp g2
        simp only [Classical.not_imp] at hj
        exact ⟨j, hj.1, hj.2.2, k, hk, rfl, Or.inr hj.2.1.symm⟩
    · obtain ⟨j, hj⟩ := Classical.not_forall.mp g1
      simp only [Classical.not_imp] at hj
      exact ⟨j, hj.1, hj.2.2, k, hk, rfl, Or.inl hj.2.1.symm⟩
  -- one that has not come
  have h0 : ∃ k, k < A ∧ k ∉ P := by
    by_cases g : ∃ k, k < A ∧ k ∉ P
    · exact g
    · exfalso
      have := pig (List.range A) P List.nodup_range (fun x hx => by
        by_cases z : x ∈ P
        · exact z
        · exact absurd ⟨x, List.mem_range.mp hx, z⟩ g)
      rw [List.length_range] at this
      omega
  obtain ⟨k0, hk0, hk0P⟩ := h0
  let T := { k : Nat // k < A ∧ k ∉ P }
  let f : T → T := fun k => ⟨Classical.choose (hs k.1 k.2.1 k.2.2), (Classical.choose_spec (hs k.1 k.2.1 k.2.2)).1, (Classical.choose_spec (hs k.1 k.2.1 k.2.2)).2.1⟩
  have hf : ∀ k : T, Ed A av a1 a2 (av k.1) (av (f k).1) := fun k => (Classical.choose_spec (hs k.1 k.2.1 k.2.2)).2.2
  let g : Nat → T := fun i => Nat.rec ⟨k0, hk0, hk0P⟩ (fun _ t => f t) i
  have hg : ∀ i d, RT A av a1 a2 (av (g i).1) (av (g (i + (d + 1))).1) := by
    intro i d
    induction d with
    | zero => exact RT.one (hf (g i))
    | succ d ih => exact RT.step ih (hf (g (i + (d + 1))))
  obtain ⟨i, j, h1, h2, h3⟩ := sq_rep (g := fun i => (g i).1) (m := List.range A) (n := A + 1) (fun i _ => List.mem_range.mpr (g i).2.1) (by rw [List.length_range]; omega)
  refine ⟨(g i).1, (g i).2.1, ?_⟩
  have := hg i (j - i - 1)
  rw [show i + (j - i - 1 + 1) = j by omega] at this
  have h3' : (g i).1 = (g j).1 := h3
  rw [← h3'] at this
  exact this
