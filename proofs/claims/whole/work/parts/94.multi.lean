/-! an array of n arrays of k ints: read off the model's own words on multianewarray -/
/-- a grid under way: the outer array at z, its first i rows made behind it; what lies below z is as it was -/
def GU (cO cR : ClassId) (z n k i : Nat) (H0 H : Heap) : Prop :=
  H.size = z + 1 + i ∧ (∀ q, q < z → H[q]? = H0[q]?) ∧ H[z]? = some (arrV cO n (fun j => if j < i then .ref (z + 1 + j) else .null)) ∧ ∀ j, j < i → H[z + 1 + j]? = some (arrV cR k (fun _ => .int 0))
theorem GU_first {cO cR : ClassId} {n k : Nat} {H : Heap} : GU cO cR H.size n k 0 H (H.push (arrV cO n (fun _ => .null))) := by
  refine ⟨Array.size_push _, fun q hq => ?_, ?_, fun j hj => absurd hj (Nat.not_lt_zero j)⟩
  · rw [Array.getElem?_push, if_neg (Nat.ne_of_lt hq)]
  · rw [Array.getElem?_push, if_pos rfl]
    congr 2
theorem GU_next {cO cR : ClassId} {z n k i : Nat} {H0 H : Heap} (h : GU cO cR z n k i H0 H) :
    GU cO cR z n k (i + 1) H0 ((H.push (arrV cR k (fun _ => .int 0))).setIfInBounds z (arrV cO n (updV (fun j => if j < i then .ref (z + 1 + j) else .null) i (.ref (z + 1 + i))))) := by
  obtain ⟨h1, h2, h3, h4⟩ := h
  refine ⟨?_, fun q hq => ?_, ?_, fun j hj => ?_⟩
  · rw [Array.size_setIfInBounds, Array.size_push, h1]; rfl
  · rw [Array.getElem?_setIfInBounds, if_neg (by omega), Array.getElem?_push, if_neg (by omega)]
    exact h2 q hq
  · rw [Array.getElem?_setIfInBounds, if_pos rfl, if_pos (by rw [Array.size_push, h1]; omega)]
    congr 2
    funext j
    unfold updV
    by_cases e1 : j = i
    · subst e1
      rw [if_pos rfl, if_pos (Nat.lt_succ_self j)]
    · rw [if_neg e1]
      show (if j < i then Value.ref (z + 1 + j) else .null) = _
      by_cases e2 : j < i
      · rw [if_pos e2, if_pos (Nat.lt_succ_of_lt e2)]
      · rw [if_neg e2, if_neg (by omega)]
  · rw [Array.getElem?_setIfInBounds, if_neg (by omega), Array.getElem?_push]
    by_cases e1 : j = i
    · rw [if_pos (by omega)]
    · rw [if_neg (by omega)]
      exact h4 j (by omega)
section GRID
variable {p : Program} {l : Launch} {e : Env} {R : Room} {s : State} {m : MethodId} {args : Array Value} {below : List Frame} {meth : Method} {c : Code} {locs : List Loc} {cells slots : Nat}
/-- the loop of the model, i, i + 1 .. n - 1, by what holds ahead of each round -/
theorem gr_loop {E : CtlPost} {n : Nat} {f : Nat → PUnit → Sem (ForInStep PUnit)} (Inv : Nat → State → Prop)
    (hf : ∀ (i : Nat) (d : Bool) (acts : List Action) (U : State), i < n → Inv i U → wp (f i PUnit.unit) (fun r _ _ U' => r = .yield PUnit.unit ∧ Inv (i + 1) U') E e d acts U) :
    ∀ (j i : Nat) (d : Bool) (acts : List Action) (U : State), i + j = n → Inv i U → wp (forIn (List.range' i j 1) PUnit.unit f) (fun _ _ _ U' => Inv n U') E e d acts U := by
  intro j
  induction j with
  | zero =>
    intro i d acts U h hU
    rw [List.range'_zero, List.forIn_nil, wp_pure', ← h]
    exact hU
  | succ j ih =>
    intro i d acts U h hU
    rw [List.range'_succ, List.forIn_cons, wp_bind']
    refine wp_mono _ e (fun r d' acts' U' hr => ?_) (fun _ _ _ h => h) _ _ _ (hf i d acts U (by omega) hU)
    obtain ⟨rfl, hU'⟩ := hr
    exact ih (i + 1) d' acts' U' (by omega) hU'
/-- one row -/
theorem gr_row {E : CtlPost} {d : Bool} {acts : List Action} {U : State} {cR cI : ClassId} {kR : Class} {y : Int32} {P : Addr → Pre} (hy : ¬ y < 0) (hk : U.vm.classes[cR]? = some kR) (hkd : kR.kind = .array cI .int)
    (g1 : ¬ y.toNatClampNeg > e.platform.arrayLengthLimit) (g2 : ¬ y.toNatClampNeg * 4 > e.platform.maxHeapBytes) (g3 : U.heap.size < e.platform.maxCells) (g4 : U.slotsUsed + y.toNatClampNeg ≤ e.platform.maxSlots)
    (h : ∀ acts', P U.heap.size d acts' (U.pushCell (arrV cR y.toNatClampNeg (fun _ => .int 0)))) : wp (Op.multianewarray.make cR [y]) P E e d acts U := by
  rw [Op.multianewarray.make]
  simp only [wp_bind', W.ite, if_neg hy, wp_pure', W.theClass]
  refine ⟨kR, hk, ?_⟩
  simp only [hkd]
  refine W.newArray_of hk hkd g1 g2 g3 g4 rfl (fun acts' => ?_)
  have := h acts'
  rw [← arrV_new] at this
  exact this
/-- the grid -/
theorem gr_make {E : CtlPost} {d : Bool} {acts : List Action} {T : State} {f : JFrame} {cO cR cI : ClassId} {kO kR : Class} {x y : Int32} {n k : Nat} {P : Addr → Pre} (X : Stand p l e R s m args below meth c T locs cells slots) (hsz : s.heap.size ≤ T.heap.size)
    (hx : ¬ x < 0) (hy : ¬ y < 0) (hxn : x.toNatClampNeg = n) (hyk : y.toNatClampNeg = k) (hO : T.vm.classes[cO]? = some kO) (hOd : kO.kind = .array cR (.array .int)) (hR : T.vm.classes[cR]? = some kR) (hRd : kR.kind = .array cI .int)
    (b1 : n * 4 ≤ 536870912) (b2 : k * 4 ≤ 536870912) (hc : cells + (1 + n) ≤ R.cells) (hs : slots + (n + n * k) ≤ R.slots)
    (h : ∀ (d' : Bool) (acts' : List Action) (U : State), Stand p l e R s m args below meth c U locs (cells + 1 + n) (slots + n + n * k) → GU cO cR T.heap.size n k n T.heap U.heap → P T.heap.size d' acts' (U.setTop f)) :
    wp (Op.multianewarray.make cO [x, y]) P E e d acts (T.setTop f) := by
  subst hxn
  subst hyk
  have q1 : ∀ v : Nat, v * 4 ≤ 536870912 → ¬ v > e.platform.arrayLengthLimit := fun v hv => by rw [Launch.admits_arrayLengthLimit X.admits]; omega
  have q2 : ∀ v : Nat, v * 4 ≤ 536870912 → ¬ v * 4 > e.platform.maxHeapBytes := fun v hv => by rw [Launch.admits_maxHeapBytes X.admits]; omega
  have r0 := X.roomAbove (a := 1) (b := x.toNatClampNeg) (by omega) (by omega)
  rw [Op.multianewarray.make]
  simp only [wp_bind', W.ite, if_neg hx, wp_pure', W.theClass]
  refine ⟨kO, hO, ?_⟩
  simp only [hOd]
  rw [wp_bind']
  refine W.newArray_of (s := T.setTop f) hO hOd (q1 _ b1) (q2 _ b1) r0.1 r0.2 rfl (fun acts1 => ?_)
  have hfind : List.find? (fun v : Int32 => decide (v < 0)) [y] = none := by simp [hy]
  have X1 := X.pushed ({ cls := cO, slots := Array.replicate x.toNatClampNeg .null } : Cell)
  rw [Array.size_replicate] at X1
  have hloop : ∀ (d1 : Bool) (acts1 : List Action), wp (forIn (List.range' 0 x.toNatClampNeg 1) PUnit.unit (fun (i : Nat) (_ : PUnit) => (do
      let a ← Op.multianewarray.make cR [y]
      Jvm.writeLoc T.heap.size i (.ref a)
      Pure.pure (ForInStep.yield PUnit.unit) : Sem (ForInStep PUnit)))) (fun _ d' acts' V => P T.heap.size d' acts' V) E e d1 acts1 ((T.setTop f).pushCell ({ cls := cO, slots := Array.replicate x.toNatClampNeg .null } : Cell)) := by
    intro d1 acts1
    refine wp_mono _ e (fun r d' acts' V hV => ?_) (fun _ _ _ h => h) _ _ _ (gr_loop (n := x.toNatClampNeg) (fun i V => ∃ U : State, V = U.setTop f ∧ Stand p l e R s m args below meth c U locs (cells + 1 + i) (slots + x.toNatClampNeg + i * y.toNatClampNeg) ∧ U.vm = T.vm ∧ GU cO cR T.heap.size x.toNatClampNeg y.toNatClampNeg i T.heap U.heap) (fun i d acts V hi hV => ?_) _ 0 d1 acts1 _ (Nat.zero_add _) ⟨T.pushCell ({ cls := cO, slots := Array.replicate x.toNatClampNeg .null } : Cell), rfl, ?_, rfl, ?_⟩)
    · obtain ⟨U, rfl, hX, -, hU⟩ := hV
      exact h d' acts' U hX hU
    · obtain ⟨U, rfl, hX, hvm, hU⟩ := hV
      have hr := hX.roomAbove (a := 1) (b := y.toNatClampNeg) (by omega) (by
        have := Nat.mul_le_mul_right y.toNatClampNeg (Nat.succ_le_of_lt hi)
        rw [Nat.succ_mul] at this
        omega)
      rw [wp_bind']
      refine gr_row hy (U := U.setTop f) (by rw [State.vm_setTop, hvm]; exact hR) hRd (q1 _ b2) (q2 _ b2) hr.1 hr.2 (fun acts2 => ?_)
      have hsz2 : U.heap.size = T.heap.size + 1 + i := hU.1
      have hat : (U.pushCell (arrV cR y.toNatClampNeg (fun _ => .int 0))).heap[T.heap.size]? = some (arrV cO x.toNatClampNeg (fun j => if j < i then .ref (T.heap.size + 1 + j) else .null)) := by
        rw [State.heap_pushCell, Array.getElem?_push, if_neg (by omega)]
        exact hU.2.2.1
      rw [wp_bind', W.writeLoc]
      refine ⟨_, hat, (by intro z; cases z), (by rw [arrV_size]; exact hi), ?_, rfl, ((U.pushCell (arrV cR y.toNatClampNeg (fun _ => .int 0))).setCell T.heap.size ((arrV cO x.toNatClampNeg (fun j => if j < i then .ref (T.heap.size + 1 + j) else .null)).setSlot i (.ref U.heap.size))), rfl, ?_, hvm, ?_⟩
      · have hO' : U.vm.classes[cO]? = some kO := by rw [hvm]; exact hO
        show U.fitsSlot cO .none i _ = true
        simp [State.fitsSlot, State.slotType?, hO', hOd, fits]
      · have Y := ((hX.pushed (arrV cR y.toNatClampNeg (fun _ => .int 0))).stored hat i (.ref U.heap.size)).forget (fun v hv => by
          rw [List.mem_singleton.mp hv]
          exact hsz)
        rw [arrV_size] at Y
        rw [Nat.succ_mul, ← Nat.add_assoc (slots + x.toNatClampNeg)]
        exact Y
      · rw [arrV_store, hsz2]
        exact GU_next hU
    · rw [Nat.zero_mul]
      exact X1
    · show GU _ _ _ _ _ _ _ (T.heap.push _)
      rw [arrV_new]
      exact GU_first
  have hsize : ([:x.toNatClampNeg] : Std.Legacy.Range).size = x.toNatClampNeg := by simp [Std.Legacy.Range.size]
  rw [hfind]
  simp only [ite_self]
  rw [wp_bind', Std.Legacy.Range.forIn_eq_forIn_range', hsize]
  exact hloop d acts1
/-- the instruction: it is run once, and what it leaves is told of -/
theorem gr_W {cc : ByteArray} {Q : State → Prop} {H : Heap} {own : String} {idx n k : Nat} {cO cR : ClassId} {g : JFrame} {x y : Int32} {rest : List Value} (hexec : p.tables.exec = Jvm.exec) (hb : c.code = cc) (hown : s.vm.findClass own = some m.cls) (hlk : (Cond.classLink own idx "[[I").before args s = true) (hai : hasAI s)
    (hO : s.vm.findClass "[[I" = some cO) (hR : s.vm.findClass "[I" = some cR) (hRa : ArrOfT s cR .int) (hsz : s.heap.size ≤ H.size) (hg : g.method = m) (hdg : decode cc g.pc = .ok (.multianewarray idx 2, 4)) (hst : g.stack = .int y :: .int x :: rest)
    (hx : ¬ x < 0) (hy : ¬ y < 0) (hxn : x.toNatClampNeg = n) (hyk : y.toNatClampNeg = k) (b1 : n * 4 ≤ 536870912) (b2 : k * 4 ≤ 536870912) (hc : cells + (1 + n) ≤ R.cells) (hs : slots + (n + n * k) ≤ R.slots)
    (kk : ∀ H' : Heap, GU cO cR H.size n k n H H' → W p l e R s m args below meth c H' locs (cells + 1 + n) (slots + n + n * k) Q { g with pc := g.pc + 4, stack := .ref H.size :: rest }) : W p l e R s m args below meth c H locs cells slots Q g := by
  intro T hT X
  subst hT
  subst hb
  subst hg
  obtain ⟨cR', cO', kA, a1, a5, a3, a4⟩ := hai
  cases Option.some.inj (a5.symm.trans hO)
  cases Option.some.inj (a1.symm.trans hR)
  obtain ⟨-, kR, r1, cI, r2⟩ := hRa 0 (fun _ => .null)
  obtain ⟨c1, l1, l2⟩ := Cond.classLink_spec hown hlk e.platform (by rw [X.admits.platform])
  cases Option.some.inj (l1.symm.trans hO)
  obtain ⟨v1, v2, v3⟩ := State.classEntry (e := e) X.warmed l2
  generalize T.vm.noted g.method.cls idx (.cls cO) = vm1 at v1 v2 v3
  obtain ⟨kA1, o1, o2⟩ := v2.alike.2.2 _ _ a3
  obtain ⟨kR1, o3, o4⟩ := v2.alike.2.2 _ _ r1
  have hw : wpRun (Op.multianewarray.sem idx 2) (fun _ V _ => ∃ U : State, V = U.setTop { g with stack := .ref T.heap.size :: rest } ∧ Stand p l e R s g.method args below meth c U locs (cells + 1 + n) (slots + n + n * k) ∧ GU cO cR T.heap.size n k n T.heap U.heap) (fun _ _ _ => False) e (T.setTop g) := by
    unfold wpRun Op.multianewarray.sem
    rw [wp_bind', W.resolveClassAt_transfer (s := T.setTop g) (State.method?_setTop g X.here.top) v1 v3, State.setVm_setTop, W.resolveClassAt_ready (s := (T.setVm vm1).setTop g) (State.method?_setTop g X.here.top) v3]
    simp only [Jvm.popN, wp_bind', wp_pure', W.pop]
    refine ⟨g, State.topJava?_setTop' g X.here.top, _, _, hst, ?_⟩
    simp only [State.setTop_setTop]
    refine ⟨_, State.topJava?_setTop' _ X.here.top, _, _, rfl, ?_⟩
    simp only [State.setTop_setTop, List.nil_append, List.cons_append, List.mapM_cons, List.mapM_nil, wp_bind', wp_pure']
    refine gr_make (T := T.setVm vm1) (f := { g with stack := rest }) (X.noted v2) hsz hx hy hxn hyk o1 (by rw [o2]; exact a4) o3 (by rw [o4]; exact r2) b1 b2 hc hs (fun d' acts' U hU hG => ?_)
    exact ⟨_, State.topJava?_setTop' _ hU.here.top, U, State.setTop_setTop U _ _, hU, hG⟩
  have hr := (wpRun_iff_run _ _ _ _ _).mp hw
  cases hrun : (Op.multianewarray.sem idx 2).run e (T.setTop g) with
  | ok a V acts =>
    rw [hrun] at hr
    obtain ⟨U, rfl, hU, hG⟩ := hr
    obtain ⟨t, st, hq⟩ := kk U.heap hG U rfl hU
    refine ⟨t, Steps.instr X.here ?_, hq⟩
    rw [hdg]
    show wpRun (p.tables.exec (.multianewarray idx 2)) _ _ e _
    rw [hexec]
    refine (wpRun_iff_run _ _ _ _ _).mpr ?_
    rw [show Jvm.exec (.multianewarray idx 2) = Op.multianewarray.sem idx 2 from rfl, hrun]
    intro acts1
    rw [afterInstr_ok]
    exact st
  | ctl w V acts =>
    rw [hrun] at hr
    cases w <;> exact hr.elim
end GRID
/-- in the world: the outer array is cell N, its rows the n cells behind it -/
def mR (R : Nat → Nat → Option Nat) (N n : Nat) : Nat → Nat → Option Nat := fun a k => if a = N then (if k < n then some (N + 1 + k) else none) else R a k
theorem HW_grid {G : GT} {N n k : Nat} {sh : Nat → Nat × Nat} {I : Nat → Nat → Int32} {L : Nat → Nat → Int64} {R : Nat → Nat → Option Nat} {H H1 : Heap} (hH : HW G (N, sh, I, L, R) H) (hs : sh N = (27, n)) (hsr : ∀ j, j < n → sh (N + 1 + j) = (20, k)) (hI : ∀ j i, j < n → I (N + 1 + j) i = 0) (hN : N + n + 2 ≤ 1000) (hU : GU (gA G 7) (gA G 0) H.size n k n H H1) :
    HW G (N + 1 + n, sh, I, L, mR R N n) H1 := by
  have hz : H.size = gb G + N := hH.2.1
  have hold : HW G (N, sh, I, L, mR R N n) H := HW_R (fun a ha => by funext j; unfold mR; rw [if_neg (Nat.ne_of_lt ha)]) hH
  obtain ⟨u1, u2, u3, u4⟩ := hU
  refine ⟨fun a q hq => ?_, ?_, ?_⟩
  · obtain ⟨ha, rfl⟩ := wsOf_in hq
    have ha : a < N + 1 + n := ha
    show va_at (gD G) cls (gb G + a, ent G sh I L (mR R N n) a) H1
    rcases Nat.lt_trichotomy a N with h | h | h
    · exact (hold.1 a _ (wsOf_at (w := (N, sh, I, L, mR R N n)) h)).kept (u2 _ (by rw [hz]; show gb G + a < gb G + N; omega))
    · rw [h, ent_ref (kd := 3) hs]
      show H1[gb G + N]? = some (vp_cell (gA G 7) (n, .inr (.inr (.inr (.inr (fun j => (mR R N n N j).map (ra G)))))))
      rw [vp_cell_q, ← hz, u3]
      refine congrArg some (arrV_ext fun j hj => ?_)
      unfold mR
      rw [if_pos hj, if_pos rfl, if_pos hj, Option.map_some, ra_lt G (by omega), hz]
      exact congrArg Value.ref (show gb G + N + 1 + j = gb G + (N + 1 + j) by omega)
    · obtain ⟨j, rfl⟩ : ∃ j, a = N + 1 + j := ⟨a - (N + 1), by omega⟩
      rw [ent_int (kd := 0) (hsr j (by omega)) (by decide)]
      show H1[gb G + (N + 1 + j)]? = some (vp_cell (gA G 0) (k, .inl (I (N + 1 + j))))
      rw [vp_cell_i, show gb G + (N + 1 + j) = H.size + 1 + j by rw [hz]; omega, u4 j (by omega)]
      refine congrArg some (arrV_ext fun i _ => ?_)
      rw [hI j i (by omega)]
  · rw [u1, hz]
    show gb G + N + 1 + n = gb G + (N + 1 + n)
    omega
  · show N + 1 + n < 1000
    omega
section JGRID
variable {Z : ZT} {G : GT} {mi : MI} {own : String} {cs : Nat × Nat} {pc : Nat} {ls : LV} {st : List Value} {N d mc ms : Nat} {sh : Nat → Nat × Nat} {I : Nat → Nat → Int32} {L : Nat → Nat → Int64} {R : Nat → Nat → Option Nat}
theorem j_multi (C : CX Z G mi own) (B : RB Z d mc ms) {idx n k : Nat} {x y : Int32} (hlk : Cond.classLink own idx "[[I" ∈ tbl2) (hx0 : ¬ x < 0) (hy0 : ¬ y < 0) (hxn : x.toNatClampNeg = n) (hyk : y.toNatClampNeg = k) (hb1 : Nat.ble (n * 4) 536870912 = true) (hb2 : Nat.ble (k * 4) 536870912 = true)
    (hs : sh N = (27, n)) (hsr : ∀ j, j < n → sh (N + 1 + j) = (20, k)) (hI : ∀ j i, j < n → I (N + 1 + j) i = 0) (hN : Nat.ble (N + n + 2) 1000 = true) (hcs : cs.1 + (1 + n) ≤ mc ∧ cs.2 + (n + n * k) ≤ ms) (hd : decode mi.2.1 pc = .ok (.multianewarray idx 2, 4))
    (kk : J Z (cs.1 + 1 + n, cs.2 + n + n * k) (pc + 4) ls (.ref (ra G N) :: st) (N + 1 + n, sh, I, L, mR R N n)) : J Z cs pc ls (.int y :: .int x :: st) (N, sh, I, L, R) := by
  intro H locs la hH hS hl
  have hG : zG Z = G := C.2.2.1
  rw [hG] at hH hS
  obtain ⟨hK, hGS⟩ : GW G (zs Z) := C.2.2.2.2.2.2.2.2.1
  have hX : GXs (zs Z) := hGS.2.2.2.2.2.2.2.2
  have e7 : (zs Z).vm.findClass "[[I" = some (gA G 7) := by
    have e : "[" ++ (FieldType.array .int).toString = "[[I" := by decide +kernel
    rw [← e]
    exact (hK.2 7 (gA G 7, .array .int) rfl).2
  refine gr_W C.1 C.2.1 C.2.2.2.2.2.1 (C.2.2.2.2.2.2.1 _ hlk) hX.2.2.2.1 e7 (va_nm_int (hK.2 0 (gA G 0, .int) rfl).2) (hK.2 0 (gA G 0, .int) rfl).1 hS.1 rfl hd rfl hx0 hy0 hxn hyk (Nat.le_of_ble_eq_true hb1) (Nat.le_of_ble_eq_true hb2) (Nat.le_trans hcs.1 B.2.2.1) (Nat.le_trans hcs.2 B.2.2.2) fun H1 hU => ?_
  have hS1 : va_S (AG G) (zs Z).heap H1 locs := ⟨Nat.le_trans hS.1 (by rw [hU.1]; omega), fun q h1 h2 => (hU.2.1 q (Nat.lt_of_lt_of_le h1 hS.1)).trans (hS.2.1 q h1 h2), hS.2.2⟩
  have h := kk H1 locs la (by rw [hG]; exact HW_grid hH hs hsr hI (Nat.le_of_ble_eq_true hN) hU) (by rw [hG]; exact hS1) hl
  rw [ra_lt G (show N < 1000 from hH.2.2), ← hH.2.1] at h
  exact h
end JGRID
