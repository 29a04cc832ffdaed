/-! an array of N arrays of M ints -/
section MULTI
variable {p : Program} {l : Launch} {e : Env} {R : Room} {s : State} {m : MethodId} {args : Array Value} {below : List Frame} {meth : Method} {c : Code} {H : Heap} {locs : List Loc} {cells slots : Nat} {Q : State → Prop}
/-- after i rows: the state but for its top frame, and where it stands -/
def mwI (p : Program) (l : Launch) (e : Env) (R : Room) (s : State) (m : MethodId) (args : Array Value) (below : List Frame) (meth : Method) (c : Code) (locs : List Loc) (cells slots : Nat) (vm1 : Vm) (H : Heap) (u : Nat) (cA comp : ClassId) (N M i : Nat) (S : State) : Prop :=
  (∃ ls', (∀ q ∈ ls', q ∈ locs ∨ q.base = H.size) ∧ Stand p l e R s m args below meth c S ls' (cells + 1 + i) (slots + N + i * M)) ∧ S.vm = vm1 ∧ S.slotsUsed = u + N + i * M ∧ S.heap.size = H.size + 1 + i ∧ (∀ q, q < H.size → S.heap[q]? = H[q]?) ∧
  (∃ oc : Cell, S.heap[H.size]? = some oc ∧ oc.cls = cA ∧ oc.vm = .none ∧ oc.slots.size = N ∧ (∀ j, j < i → oc.slots[j]? = some (.ref (H.size + 1 + j))) ∧ oc.monitor = {} ∧ oc.hash = none) ∧ ∀ j, j < i → S.heap[H.size + 1 + j]? = some { cls := comp, slots := Array.replicate M (.int 0), vm := .none }
theorem mwI_row {vm1 : Vm} {u : Nat} {cA comp : ClassId} {N M i : Nat} {S : State} (h : mwI p l e R s m args below meth c locs cells slots vm1 H u cA comp N M i S) (hi : i < N) {oc : Cell} (ho : S.heap[H.size]? = some oc) :
    mwI p l e R s m args below meth c locs cells slots vm1 H u cA comp N M (i + 1) ((S.pushCell { cls := comp, slots := Array.replicate M (.int 0), vm := .none }).setCell H.size (oc.setSlot i (.ref (H.size + 1 + i)))) := by
  obtain ⟨⟨ls', h1, X⟩, h2, h3, h4, h5, ⟨oc', g1, g2, g3, g4, g5, g8, g9⟩, h6⟩ := h
  cases g1.symm.trans ho
  have hlt : H.size < S.heap.size := by rw [h4]; omega
  have hp : (S.pushCell { cls := comp, slots := Array.replicate M (.int 0), vm := .none }).heap[H.size]? = some oc := by rw [State.heap_pushCell_of_lt (h := hlt)]; exact g1
  have X2 := (X.pushed { cls := comp, slots := Array.replicate M (.int 0), vm := .none }).stored hp i (.ref (H.size + 1 + i))
  refine ⟨⟨_, fun q hq => ?_, by simpa [Nat.succ_mul, Nat.add_assoc] using X2⟩, ?_, ?_, ?_, fun q hq => ?_, ⟨_, State.heap_setCell_self hp, g2, g3, ?_, fun j hj => ?_, g8, g9⟩, fun j hj => ?_⟩
  · rcases List.mem_append.mp hq with hq | hq
    · exact h1 q hq
    · rw [List.mem_singleton] at hq
      subst hq
      exact Or.inr rfl
  · exact h2
  · simp [h3, Nat.succ_mul]
    omega
  · simp [State.setCell, h4]
    omega
  · have hl : q < S.heap.size := by rw [h4]; omega
    rw [State.heap_setCell_other (Nat.ne_of_gt hq), State.heap_pushCell_of_lt (h := hl)]
    exact h5 q hq
  · simp [Cell.setSlot, g4]
  · simp only [Cell.setSlot, Array.getElem?_setIfInBounds]
    by_cases hji : i = j
    · subst hji
      simp [g4, hi]
    · rw [if_neg hji]
      exact g5 j (by omega)
  · rw [State.heap_setCell_other (show H.size ≠ H.size + 1 + j by omega)]
    by_cases hji : j = i
    · subst hji
      rw [← h4]
      exact State.heap_pushCell_size _ _
    · have hl : H.size + 1 + j < S.heap.size := by rw [h4]; omega
      rw [State.heap_pushCell_of_lt (h := hl)]
      exact h6 j (by omega)
def mwO (cA : ClassId) (N : Nat) : Cell := { cls := cA, slots := Array.replicate N .null, vm := .none }
def mwN (comp : ClassId) (M : Nat) : Cell := { cls := comp, slots := Array.replicate M (.int 0), vm := .none }
/-- a row made and put into its place -/
def mwR (h : Nat) (inner : Cell) (i : Nat) (S : State) : State := (S.pushCell inner).setCell h (((S.heap[h]?).getD inner).setSlot i (.ref (h + 1 + i)))
def mwS (h : Nat) (outer inner : Cell) (S : State) : Nat → State
  | 0 => S.pushCell outer
  | i + 1 => mwR h inner i (mwS h outer inner S i)
theorem mwS_I {S : State} {vm1 : Vm} {u : Nat} {cA comp : ClassId} {N M : Nat} (hS : S.vm = vm1) (hu : S.slotsUsed = u) (hH : S.heap = H) (X : Stand p l e R s m args below meth c S locs cells slots) : ∀ i, i ≤ N → mwI p l e R s m args below meth c locs cells slots vm1 H u cA comp N M i (mwS H.size (mwO cA N) (mwN comp M) S i) := by
  intro i
  induction i with
  | zero =>
    intro _
    have X1 := X.pushed (mwO cA N)
    refine ⟨⟨locs, fun q hq => Or.inl hq, by simpa [mwS, mwO] using X1⟩, hS, by simp [mwS, mwO, hu], by simp [mwS, hH], fun q hq => ?_, ⟨mwO cA N, by rw [← hH]; exact State.heap_pushCell_size _ _, rfl, rfl, by simp [mwO], fun j hj => absurd hj (Nat.not_lt_zero _), rfl, rfl⟩, fun j hj => absurd hj (Nat.not_lt_zero _)⟩
    have hl : q < S.heap.size := by rw [hH]; exact hq
    show (S.pushCell (mwO cA N)).heap[q]? = _
    rw [State.heap_pushCell_of_lt (h := hl), hH]
  | succ i ih =>
    intro hi
    have h := ih (by omega)
    have h' := h
    obtain ⟨-, -, -, -, -, ⟨oc, g5, -⟩, -⟩ := h'
    have h2 := mwI_row h (by omega) g5
    show mwI p l e R s m args below meth c locs cells slots vm1 H u cA comp N M (i + 1) (mwR H.size (mwN comp M) i (mwS H.size (mwO cA N) (mwN comp M) S i))
    unfold mwR
    rw [g5]
    exact h2
/-- one array of zeros -/
theorem wp_zeros {E : CtlPost} {d : Bool} {acts : List Action} {S : State} {cl c2 : ClassId} {k : Class} {t : FieldType} {v : Value} {M : Nat} (hk : S.vm.classes[cl]? = some k) (hkind : k.kind = .array c2 t) (h1 : ¬ M > e.platform.arrayLengthLimit) (h2 : ¬ M * componentBytes t > e.platform.maxHeapBytes) (h3 : S.heap.size < e.platform.maxCells) (h4 : S.slotsUsed + M ≤ e.platform.maxSlots) (hf : fits t v = true) {Q : Addr → Pre}
    (hq : ∀ acts', Q S.heap.size d acts' (S.pushCell { cls := cl, slots := Array.replicate M v, vm := .none })) : wp (Jvm.newArray cl M v) Q E e d acts S := by
  have hfit : ∀ i w, (Array.replicate M v)[i]? = some w → S.fitsSlot cl .none i w = true := by
    intro i w hw
    rw [Array.getElem?_replicate] at hw
    by_cases hi : i < M
    · rw [if_pos hi] at hw
      cases hw
      simp [State.fitsSlot, State.slotType?, hk, hkind, hf]
    · rw [if_neg hi] at hw
      cases hw
  have h5 : ¬ M > e.platform.maxSlots := by omega
  simp only [Jvm.newArray, Jvm.arrayFits, wp_bind', W.ask, h1, if_false, wp_pure', W.theClass, hk, Option.some.injEq, exists_eq_left', hkind, h2, h5, W.alloc]
  exact ⟨h3, by simpa using h4, hfit, hq _⟩
theorem wp_rows {E : CtlPost} {d : Bool} {acts : List Action} {S : State} {g : JFrame} {vm1 : Vm} {u : Nat} {cA comp c2 : ClassId} {kA kC : Class} {n k : Int32} {N M : Nat} (hn : ¬ n < 0) (hk : ¬ k < 0) (hN : n.toNatClampNeg = N) (hM : k.toNatClampNeg = M)
    (hkA : vm1.classes[cA]? = some kA) (hkindA : kA.kind = .array comp (.array .int)) (hkC : vm1.classes[comp]? = some kC) (hkindC : kC.kind = .array c2 .int) (a1 : ¬ N > e.platform.arrayLengthLimit) (a2 : ¬ N * 4 > e.platform.maxHeapBytes) (a3 : ¬ M > e.platform.arrayLengthLimit) (a4 : ¬ M * 4 > e.platform.maxHeapBytes)
    (hS : S.vm = vm1) (hu : S.slotsUsed = u) (hH : S.heap = H) (X : Stand p l e R s m args below meth c S locs cells slots) (hc : H.size + 1 + N ≤ e.platform.maxCells) (hs : u + N + N * M ≤ e.platform.maxSlots) {Q : Addr → Pre}
    (hq : ∀ d' acts', Q H.size d' acts' ((mwS H.size (mwO cA N) (mwN comp M) S N).setTop g)) : wp (multianewarray.make cA [n, k]) Q E e d acts (S.setTop g) := by
  have hfind : ([k].find? (· < 0)) = none := by simp [hk]
  rw [multianewarray.make]
  simp only [wp_bind', W.ite, hn, if_false, wp_pure', W.theClass, State.vm_setTop, hS, hkA, hkindA, Option.some.injEq, exists_eq_left', hN]
  refine wp_zeros (c2 := comp) (t := .array .int) (by rw [State.vm_setTop, hS]; exact hkA) hkindA a1 a2 (by rw [State.heap_setTop, hH]; omega) (by rw [State.slotsUsed_setTop, hu]; omega) rfl (fun acts1 => ?_)
  simp only [hfind]
  rw [ite_self, wp_bind', Std.Legacy.Range.forIn_eq_forIn_range', show ([:N] : Std.Legacy.Range).size = N by simp [Std.Legacy.Range.size]]
  refine wp_forIn_inv (fun rest s' => ∃ i, i ≤ N ∧ rest = List.range' i (N - i) ∧ s' = State.setTop (mwS H.size (mwO cA N) (mwN comp M) S i) g) _ _ ⟨0, Nat.zero_le _, rfl, State.pushCell_setTop _ _ _⟩ ?_ ?_
  · rintro x rest s' d' acts' Q' ⟨i, hi, hl, rfl⟩ hnext
    have hlt : i < N := by
      rcases Nat.lt_or_ge i N with h | h
      · exact h
      · rw [show N - i = 0 by omega] at hl
        cases hl
    have hl2 : x = i ∧ rest = List.range' (i + 1) (N - (i + 1)) := by
      rw [show N - i = (N - (i + 1)) + 1 by omega, List.range'_succ] at hl
      exact ⟨(List.cons.inj hl).1, (List.cons.inj hl).2⟩
    obtain ⟨rfl, rfl⟩ := hl2
    obtain ⟨-, g2, g3, g4, -, ⟨oc, g5, g6, g7, g8, -⟩, -⟩ := mwS_I (cA := cA) (comp := comp) (N := N) (M := M) hS hu hH X x hi
    have hmul : x * M + M ≤ N * M := by
      have := Nat.mul_le_mul_right M (show x + 1 ≤ N from hlt)
      rw [Nat.succ_mul] at this
      exact this
    rw [multianewarray.make]
    simp only [wp_bind', W.ite, hk, if_false, wp_pure', W.theClass, State.vm_setTop, g2, hkC, hkindC, Option.some.injEq, exists_eq_left', hM]
    refine wp_zeros (c2 := c2) (t := .int) (by rw [State.vm_setTop, g2]; exact hkC) hkindC a3 a4 (by rw [State.heap_setTop, g4]; omega) (by rw [State.slotsUsed_setTop, g3]; omega) rfl (fun acts2 => ?_)
    simp only [wp_bind', W.writeLoc, wp_pure', State.heap_setTop, hH]
    rw [State.pushCell_setTop]
    have hl0 : H.size < (mwS H.size (mwO cA N) (mwN comp M) S x).heap.size := by rw [g4]; omega
    refine ⟨oc, by rw [State.heap_setTop, State.heap_pushCell_of_lt (h := hl0)]; exact g5, by rw [g7]; simp, by rw [g8]; exact hlt, ?_, hnext _ _ _ ⟨x + 1, hlt, rfl, ?_⟩⟩
    · rw [g6, g7]
      simp [State.fitsSlot, State.slotType?, g2, hkA, hkindA, fits]
    · rw [State.setCell_setTop, g4]
      show _ = State.setTop (mwR H.size (mwN comp M) x (mwS H.size (mwO cA N) (mwN comp M) S x)) g
      unfold mwR
      rw [g5]
      rfl
  · rintro s' d' acts' ⟨i, hi, hl, rfl⟩
    have hiN : i = N := by
      rcases Nat.lt_or_ge i N with h | h
      · rw [show N - i = (N - (i + 1)) + 1 by omega, List.range'_succ] at hl
        cases hl
      · omega
    subst hiN
    simp only [wp_pure', State.heap_setTop, hH]
    exact hq _ _
theorem w_multi (hexec : p.tables.exec = Jvm.exec) {cc : ByteArray} (hb : c.code = cc) {own : String} {index : Nat} (hown : s.vm.findClass own = some m.cls) (hclink : (Cond.classLink own index "[[I").before args s = true) {cA comp c2 : ClassId} {kA kC : Class} (hA : s.vm.findClass "[[I" = some cA) (hkA : s.vm.classes[cA]? = some kA) (hkindA : kA.kind = .array comp (.array .int)) (hkC : s.vm.classes[comp]? = some kC) (hkindC : kC.kind = .array c2 .int)
    {pc : Nat} {la : Array Slot} {rest : List Value} (hdg : decode cc pc = .ok (.multianewarray index 2, 4)) {n k : Int32} {N M : Nat} (hn : ¬ n < 0) (hk : ¬ k < 0) (hN : n.toNatClampNeg = N) (hM : k.toNatClampNeg = M) (hb1 : N * 4 ≤ 536870912) (hb2 : M * 4 ≤ 536870912) (hcells : cells + (1 + N) ≤ R.cells) (hslots : slots + (N + N * M) ≤ R.slots)
    (kk : ∀ (H' : Heap) (locs' : List Loc), H'.size = H.size + 1 + N → (∀ q, q < H.size → H'[q]? = H[q]?) → (∃ oc : Cell, H'[H.size]? = some oc ∧ oc.cls = cA ∧ oc.vm = .none ∧ oc.slots.size = N ∧ (∀ j, j < N → oc.slots[j]? = some (.ref (H.size + 1 + j))) ∧ oc.monitor = {} ∧ oc.hash = none) → (∀ j, j < N → H'[H.size + 1 + j]? = some { cls := comp, slots := Array.replicate M (.int 0), vm := .none }) → (∀ q ∈ locs', q ∈ locs ∨ q.base = H.size) →
      W p l e R s m args below meth c H' locs' (cells + 1 + N) (slots + N + N * M) Q (F0 m (pc + 4) la (.ref H.size :: rest))) : W p l e R s m args below meth c H locs cells slots Q (F0 m pc la (.int k :: .int n :: rest)) := by
  intro T hT X
  subst hT
  subst hb
  have hpl : e.platform.magicAccessors = ({} : Platform).magicAccessors := by rw [X.admits.platform]
  obtain ⟨c0, hf0, hcl⟩ := Cond.classLink_spec hown hclink e.platform hpl
  cases hA.symm.trans hf0
  obtain ⟨hg1, hwarm1, hready1⟩ := State.classEntry (e := e) X.warmed hcl
  generalize T.vm.noted m.cls index (.cls cA) = vm1 at hg1 hwarm1 hready1
  have hal : s.vm.Alike vm1 := hwarm1.alike
  obtain ⟨kA1, hkA1, heA⟩ := hal.2.2 _ _ hkA
  obtain ⟨kC1, hkC1, heC⟩ := hal.2.2 _ _ hkC
  have X1 := X.noted hwarm1
  obtain ⟨hr1, hr2⟩ := X.roomAbove hcells hslots
  have hI := mwS_I (H := T.heap) (u := T.slotsUsed) (vm1 := vm1) (cA := cA) (comp := comp) (N := N) (M := M) (S := T.setVm vm1) rfl rfl rfl X1 N (Nat.le_refl _)
  obtain ⟨⟨ls', i1, XF⟩, i2, i3, i4, i5, i6, i7⟩ := hI
  obtain ⟨t, b1, b2⟩ := kk _ ls' i4 i5 i6 i7 i1 _ rfl XF
  refine ⟨t, ?_, b2⟩
  have hl1 : ¬ N > e.platform.arrayLengthLimit := by rw [Launch.admits_arrayLengthLimit X.admits]; omega
  have hl2 : ¬ M > e.platform.arrayLengthLimit := by rw [Launch.admits_arrayLengthLimit X.admits]; omega
  have hh1 : ¬ N * 4 > e.platform.maxHeapBytes := by rw [Launch.admits_maxHeapBytes X.admits]; omega
  have hh2 : ¬ M * 4 > e.platform.maxHeapBytes := by rw [Launch.admits_maxHeapBytes X.admits]; omega
  jvm_step X.here [hexec, hdg]
  simp only [multianewarray.sem, wp_bind', W.resolveClassAt_links (State.method?_setTop (F0 m pc la (.int k :: .int n :: rest)) X.here.top) hg1]
  rw [W.popN, if_neg (by decide)]
  refine ⟨F0 m pc la (.int k :: .int n :: rest), State.topJava?_setTop' (s := T.setVm vm1) _ X.here.top, [.int n, .int k], rest, rfl, rfl, ?_⟩
  simp only [List.mapM_cons, List.mapM_nil, wp_bind', wp_pure']
  have eS : ((T.setTop (F0 m pc la (.int k :: .int n :: rest))).setVm vm1).setTop (F0 m pc la rest) = (T.setVm vm1).setTop (F0 m pc la rest) := by
    show ((T.setVm vm1).setTop _).setTop _ = _
    rw [State.setTop_setTop]
  show wp _ _ _ _ _ _ (((T.setTop (F0 m pc la (.int k :: .int n :: rest))).setVm vm1).setTop (F0 m pc la rest))
  rw [eS]
  refine wp_rows (S := T.setVm vm1) (H := T.heap) (u := T.slotsUsed) (vm1 := vm1) hn hk hN hM hkA1 (by rw [heA]; exact hkindA) hkC1 (by rw [heC]; exact hkindC) hl1 hh1 hl2 hh2 rfl rfl rfl X1 (by omega) (by omega) (fun d' acts' => ?_)
  simp only [wp_bind', W.mark, W.pushRef, State.topJava?_setTop' _ XF.here.top, Option.some.injEq, exists_eq_left', State.setTop_setTop, State.heap_setTop]
  intro acts
  simp [jvm, XF.here.top]
  exact b1
end MULTI
theorem cell_ext {a b : Cell} (h1 : a.cls = b.cls) (h2 : a.slots = b.slots) (h3 : a.monitor = b.monitor) (h4 : a.hash = b.hash) (h5 : a.vm = b.vm) : a = b := by
  cases a
  cases b
  simp only at h1 h2 h3 h4 h5
  subst h1 h2 h3 h4 h5
  rfl
section MULTIJ
variable {Z : ZT} {G : GT} {mi : MI} {own : String} {cs : Nat × Nat} {pc : Nat} {ls : LV} {st : List Value} {N d mc ms : Nat} {sh : Nat → Nat × Nat} {I : Nat → Nat → Int32} {L : Nat → Nat → Int64} {R : Nat → Nat → Option Nat}
def mR (R : Nat → Nat → Option Nat) (N n : Nat) : Nat → Nat → Option Nat := fun a k => if a = N then (if k < n then some (N + 1 + k) else none) else R a k
theorem j_multi (C : CX Z G mi own) (B : RB Z d mc ms) {idx n k : Nat} {x y : Int32} (hlk : Cond.classLink own idx "[[I" ∈ tbl2) (hx0 : ¬ x < 0) (hy0 : ¬ y < 0) (hxn : x.toNatClampNeg = n) (hyk : y.toNatClampNeg = k) (hb1 : Nat.ble (n * 4) 536870912 = true) (hb2 : Nat.ble (k * 4) 536870912 = true)
    (hs : sh N = (27, n)) (hsr : ∀ j, j < n → sh (N + 1 + j) = (20, k)) (hI : ∀ j i, j < n → I (N + 1 + j) i = 0) (hN : Nat.ble (N + n + 2) 1000 = true) (hcs : cs.1 + (1 + n) ≤ mc ∧ cs.2 + (n + n * k) ≤ ms) (hd : decode mi.2.1 pc = .ok (.multianewarray idx 2, 4))
    (kk : J Z (cs.1 + 1 + n, cs.2 + n + n * k) (pc + 4) ls (.ref (ra G N) :: st) (N + 1 + n, sh, I, L, mR R N n)) : J Z cs pc ls (.int y :: .int x :: st) (N, sh, I, L, R) := by
  intro H locs la hH hS hl
  have hN := Nat.le_of_ble_eq_true hN
  have hG : zG Z = G := C.2.2.1
  rw [hG] at hH hS
  have hts := C.2.2.2.2.2.2.1
  have hK := C.2.2.2.2.2.2.2.2.1.1
  have hGS := C.2.2.2.2.2.2.2.2.1.2
  have hsz : H.size = gb G + N := hH.2.1
  obtain ⟨comp, cA, kA, f1, -, f3, f4, f5⟩ := arrayOverA_spec hGS.2.2.2.2.2.2.2.2.2.2.2.1
  have hcA : cA = gA G 7 := Option.some.inj (f5.symm.trans (show (zs Z).vm.findClass ("[" ++ (FieldType.array .int).toString) = some (gA G 7) from (hK.2 7 (gA G 7, .array .int) rfl).2))
  have hc0 : comp = gA G 0 := Option.some.inj (f1.symm.trans (show (zs Z).vm.findClass (FieldType.array .int).toString = some (gA G 0) from (hK.2 0 (gA G 0, .int) rfl).2))
  subst hcA
  subst hc0
  obtain ⟨-, kC, hkC, c2, hkindC⟩ := (hK.2 0 (gA G 0, .int) rfl).1 0 (fun _ => .null)
  have hnm : (zs Z).vm.findClass "[[I" = some (gA G 7) := by
    have e : "[" ++ (FieldType.array .int).toString = "[[I" := by decide +kernel
    rw [← e]
    exact f5
  refine w_multi C.1 C.2.1 C.2.2.2.2.2.1 (hts _ hlk) hnm f3 f4 hkC hkindC hd hx0 hy0 hxn hyk (Nat.le_of_ble_eq_true hb1) (Nat.le_of_ble_eq_true hb2) (Nat.le_trans hcs.1 B.2.2.1) (Nat.le_trans hcs.2 B.2.2.2) fun H1 locs' z1 o1 ⟨oc, p1, p2, p3, p4, p5, p6, p7⟩ r1 l1 => ?_
  have hH1 : HW G (N + 1 + n, sh, I, L, mR R N n) H1 := by
    refine ⟨fun a q ha => ?_, by rw [z1, hsz]; show gb G + N + 1 + n = gb G + (N + 1 + n); omega, by show N + 1 + n < 1000; omega⟩
    obtain ⟨h1, rfl⟩ := wsOf_in ha
    have h1 : a < N + 1 + n := h1
    show va_at (gD G) cls (gb G + a, ent G sh I L (mR R N n) a) H1
    by_cases hlt : a < N
    · have e0 := HW_R (R' := mR R N n) (fun b hb => by funext j; unfold mR; rw [if_neg (by omega)]) hH
      exact (e0.1 a _ (wsOf_at (w := (N, sh, I, L, mR R N n)) hlt)).kept (o1 _ (by rw [hsz]; show gb G + a < gb G + N; omega))
    · by_cases he : a = N
      · subst he
        rw [ent_ref (kd := 3) hs]
        show H1[gb G + a]? = some (vp_cell (gA G 7) (n, .inr (.inr (.inr (.inr (fun j => (mR R a n a j).map (ra G)))))))
        rw [← hsz, p1, vp_cell_q]
        have hoc : oc.slots = (arrV (gA G 7) n (fun j => va_rf ((mR R a n a j).map (ra G)))).slots := by
          apply Array.ext_getElem?
          intro i
          by_cases hi : i < n
          · rw [p5 i hi, arrV_read _ _ hi]
            unfold mR
            rw [if_pos rfl, if_pos hi]
            show some (Value.ref (H.size + 1 + i)) = some (Value.ref (ra G (a + 1 + i)))
            rw [ra_lt G (by omega), hsz, show gb G + a + 1 + i = gb G + (a + 1 + i) by omega]
          · rw [Array.getElem?_eq_none (by omega), Array.getElem?_eq_none (by rw [arrV_size]; omega)]
        refine congrArg some ?_
        exact cell_ext p2 hoc p6 p7 p3
      · obtain ⟨j, rfl⟩ : ∃ j, a = N + 1 + j := ⟨a - (N + 1), by omega⟩
        have hj : j < n := by omega
        rw [ent_int (kd := 0) (hsr j hj) (by decide)]
        show H1[gb G + (N + 1 + j)]? = some (vp_cell (gA G 0) (k, .inl (I (N + 1 + j))))
        have := r1 j hj
        rw [hsz, show gb G + N + 1 + j = gb G + (N + 1 + j) by omega] at this
        rw [this, vp_cell_i, arrV_new]
        exact congrArg some (arrV_ext (fun i _ => by rw [hI j i hj]))
  have hS1 : va_S (AG G) (zs Z).heap H1 locs' := by
    refine ⟨Nat.le_trans hS.1 (by omega), fun q h1 h2 => (o1 q (Nat.lt_of_lt_of_le h1 hS.1)).trans (hS.2.1 q h1 h2), fun q hq => ?_⟩
    rcases l1 q hq with h | h
    · exact hS.2.2 q h
    · rw [h, hsz]
      exact Nat.le_add_right _ _
  have h := kk H1 locs' la (by rw [hG]; exact hH1) (by rw [hG]; exact hS1) hl
  rw [ra_lt G (show N < 1000 by omega), ← hsz] at h
  exact h
end MULTIJ
