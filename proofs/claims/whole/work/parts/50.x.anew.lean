/-! A THROW OUT OF A METHOD, AND ITS CATCH. First: a walk seen anew from where it stands: what it has written and made lies behind it. -/
section XB
variable {p : Program} {l : Launch} {e : Env} {R : Room} {s : State} {m : MethodId} {args : Array Value} {below : List Frame} {meth : Method} {c : Code} {T : State} {locs : List Loc} {cells slots : Nat}
/-- the state of the new beginning -/
def xb (s : State) (m : MethodId) (args : Array Value) (below : List Frame) (T : State) : State := (T.setVm s.vm).setFrames (.invoking m args :: below)
theorem xb_frames (X : Stand p l e R s m args below meth c T locs cells slots) : (xb s m args below T).frames = .invoking m args :: below := by
  have ht : (T.setVm s.vm).topJava?.isSome := X.here.top
  exact State.frames_setFrames _ (State.cur_lt_of_top ht)
theorem xb_room (X : Stand p l e R s m args below meth c T locs cells slots) {R2 : Room} (hf : R2.frames ≤ R.frames) (hl : R2.locals ≤ R.locals) (hc : cells + R2.cells ≤ R.cells) (hs : slots + R2.slots ≤ R.slots) : (xb s m args below T).hasRoom e.platform R2 = true := by
  have hF := xb_frames X
  have e0 : (xb s m args below T).localsInUse = s.localsInUse := by
    rw [State.localsInUse_invoking hF (meth := meth) (c := c) X.method X.code, State.localsInUse_invoking X.frames X.method X.code]
  have e1 : e.platform.stackLimits (xb s m args below T).me = e.platform.stackLimits s.me := by
    unfold xb
    rw [State.stackLimits_setFrames]
    exact X.limits
  have e2 : (xb s m args below T).me.stackBytes = s.me.stackBytes := by
    unfold xb
    rw [State.stackBytes_setFrames]
    exact X.bytes
  have e3 : (xb s m args below T).frames.length = s.frames.length := by rw [hF, X.frames]
  have e4 : (xb s m args below T).heap.size ≤ s.heap.size + cells := X.heapSize
  have e5 : (xb s m args below T).slotsUsed ≤ s.slotsUsed + slots := X.used
  have e6 : (xb s m args below T).slotsTrue = true := X.book
  have h := X.room
  unfold State.hasRoom at h ⊢
  simp only [Bool.and_eq_true, decide_eq_true_eq] at h ⊢
  rw [e0, e1, e2, e3]
  obtain ⟨⟨⟨⟨a1, a2, a3, a4, a5, a6⟩, a7⟩, a8⟩, a9⟩ := h
  exact ⟨⟨⟨⟨by omega, by omega, by omega, by omega, by omega, a6⟩, by omega⟩, by omega⟩, e6⟩
theorem xb_stand (X : Stand p l e R s m args below meth c T locs cells slots) {R2 : Room} (hf : R2.frames ≤ R.frames) (hl : R2.locals ≤ R.locals) (hc : cells + R2.cells ≤ R.cells) (hs : slots + R2.slots ≤ R.slots) : Stand p l e R2 (xb s m args below T) m args below meth c T [] 0 0 := by
  have ht : (T.setVm s.vm).topJava?.isSome := X.here.top
  obtain ⟨g0, hg0⟩ := Option.isSome_iff_exists.mp ht
  obtain ⟨r, hr⟩ := State.topJava?_eq_some.mp hg0
  refine ⟨X.admits, X.cas, X.clock, xb_frames X, xb_room X hf hl hc hs, X.hears, X.method, X.code, X.here, X.tail, X.warmed, ?_, ?_, ?_⟩
  · show e.platform.stackLimits T.me = e.platform.stackLimits ((T.setVm s.vm).setFrames _).me
    rw [State.stackLimits_setFrames]
    rfl
  · show T.me.stackBytes = ((T.setVm s.vm).setFrames _).me.stackBytes
    rw [State.stackBytes_setFrames]
    rfl
  · have hd : (T.heap.toList.drop T.heap.size) = [] := List.drop_eq_nil_of_le (Nat.le_of_eq Array.length_toList)
    obtain ⟨t, ht2, -⟩ := State.frames_cons hr
    refine ⟨?_, Nat.le_refl _, Nat.le_refl _, ?_, ?_, fun a c9 h9 => ⟨c9, h9, rfl, rfl, fun _ _ => rfl⟩⟩
    · show T.setVm s.vm = { ((T.setVm s.vm).setFrames (.invoking m args :: below)).setFrames (T.setVm s.vm).frames with heap := T.heap, slotsUsed := T.slotsUsed }
      rw [State.setFrames_setFrames, State.setFrames_self ht2]
      rfl
    · show T.slotsUsed = T.slotsUsed + ((T.heap.toList.drop T.heap.size).map (·.slots.size)).sum
      rw [hd]
      rfl
    · show ((T.heap.toList.drop T.heap.size).map (·.slots.size)).sum ≤ 0
      rw [hd]
      exact Nat.le_refl _
/-- what comes after the new beginning, told from the old one -/
theorem xb_same (X : Stand p l e R s m args below meth c T locs cells slots) {U : State} {mc ms : Nat} (h : (xb s m args below T).sameButNew ({ U with vm := s.vm } : State) [] mc ms) : s.sameButNew ({ U with vm := s.vm } : State) locs (cells + mc) (slots + ms) := by
  obtain ⟨e1, e2⟩ := h
  have h2 : (T.setVm s.vm).sameButNew ({ U with vm := s.vm } : State) [] mc ms := by
    refine ⟨?_, e2⟩
    rw [xb, State.setFrames_setFrames] at e1
    exact e1
  have h3 := X.same.trans h2
  rw [List.append_nil] at h3
  exact h3
/-- cells that were there are as they were, where nothing was written -/
theorem xb_kept {s t : State} {mc ms : Nat} (h : s.sameButNew t [] mc ms) : s.heap.size ≤ t.heap.size ∧ ∀ q : Nat, q < s.heap.size → t.heap[q]? = s.heap[q]? := by
  obtain ⟨-, h1, -, -, -, h2⟩ := h
  refine ⟨h1, fun q hq => ?_⟩
  obtain ⟨c0, hc0⟩ : ∃ c0, s.heap[q]? = some c0 := ⟨_, Array.getElem?_eq_getElem hq⟩
  obtain ⟨c1, e1, e2, e3, e4⟩ := h2 q c0 hc0
  have hs : c1.slots = c0.slots := by
    apply Array.ext_getElem?
    intro i
    exact e4 i (fun z => by cases z)
  rw [e1, hc0, e2, hs]
theorem W_anew {H : Heap} {Q : State → Prop} {g : JFrame} {R2 : Room} (hf : R2.frames ≤ R.frames) (hl : R2.locals ≤ R.locals) (hc : cells + R2.cells ≤ R.cells) (hs : slots + R2.slots ≤ R.slots)
    (k : ∀ s2 : State, s2.vm = s.vm → s2.heap = H → (∀ (U : State) (mc ms : Nat), s2.sameButNew ({ U with vm := s2.vm } : State) [] mc ms → s.sameButNew ({ U with vm := s.vm } : State) locs (cells + mc) (slots + ms)) → W p l e R2 s2 m args below meth c H [] 0 0 Q g) : W p l e R s m args below meth c H locs cells slots Q g := by
  intro T hT X
  exact k (xb s m args below T) rfl hT (fun U mc ms h => xb_same X h) T hT (xb_stand X hf hl hc hs)
end XB
