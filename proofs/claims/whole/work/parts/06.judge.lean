/-! constants: the signs in their order, their spellings, the texts -/
def sgL : List String := ["EVENT", "RUN", "FIELD", "BASE", "BY", "SPREAD", "LINE_BY", "SQUARE_BY", "ROOT_BY", "TABLE_OF", "TIE", "NO_RULE", "BEST", "WINS", "BONUS", "WHEN", "ATHLETE", "MARK", "GAIN", "IN", "OR", "AND", "NOT", "POINTS", "TOTAL", "DONE", "LEAST", "SEMICOLON", "COLON", "COMMA", "LESS", "EQUAL", "MORE", "PLUS", "MINUS", "TEST_OPENS", "TEST_CLOSES", "SUM_OPENS", "SUM_CLOSES", "NUMBER", "STRANGE", "END"]
def spL : List Nat := [28, 30, 29, 31, 38, 39, 35, 36, 37, 32, 40, 41, 42, 43, 44, 45, 62, 63, 64, 65, 61, 60, 46, 51, 54, 52, 53, 66, 33, 34, 57, 58, 59, 55, 56, 47, 48, 49, 50, 27, 27, 27]
def stL : List (String × Nat × String × List Int32) := [("TenTrialsModel", 271, "event", [101, 118, 101, 110, 116]), ("TenTrialsModel", 187, "field", [102, 105, 101, 108, 100]), ("TenTrialsModel", 189, "run", [114, 117, 110]), ("TenTrialsModel", 191, "base", [98, 97, 115, 101]), ("TenTrialsModel", 197, "line", [108, 105, 110, 101]), ("TenTrialsModel", 199, "square", [115, 113, 117, 97, 114, 101]), ("TenTrialsModel", 201, "root", [114, 111, 111, 116]), ("TenTrialsModel", 203, "table", [116, 97, 98, 108, 101]), ("TenTrialsModel", 208, "by", [98, 121]), ("TenTrialsModel", 210, "spread", [115, 112, 114, 101, 97, 100]), ("TenTrialsModel", 275, "tie", [116, 105, 101]), ("TenTrialsModel", 264, "none", [110, 111, 110, 101]), ("TenTrialsModel", 233, "best", [98, 101, 115, 116]), ("TenTrialsModel", 266, "wins", [119, 105, 110, 115]), ("TenTrialsModel", 280, "bonus", [98, 111, 110, 117, 115]), ("TenTrialsModel", 258, "when", [119, 104, 101, 110]), ("TenTrialsModel", 240, "not", [110, 111, 116]), ("TenTrialsModel", 221, "points", [112, 111, 105, 110, 116, 115]), ("TenTrialsModel", 229, "total", [116, 111, 116, 97, 108]), ("TenTrialsModel", 231, "done", [100, 111, 110, 101]), ("TenTrialsModel", 235, "least", [108, 101, 97, 115, 116]), ("TenTrialsModel", 248, "and", [97, 110, 100]), ("TenTrialsModel", 253, "or", [111, 114]), ("TenTrialsModel", 284, "athlete", [97, 116, 104, 108, 101, 116, 101]), ("TenTrialsModel", 289, "mark", [109, 97, 114, 107]), ("TenTrialsModel", 291, "gain", [103, 97, 105, 110]), ("TenTrialsModel", 293, "in", [105, 110]), ("TenTrials$Sign", 284, "", []), ("TenTrials$Sign", 164, "event", [101, 118, 101, 110, 116]), ("TenTrials$Sign", 173, "field", [102, 105, 101, 108, 100]), ("TenTrials$Sign", 170, "run", [114, 117, 110]), ("TenTrials$Sign", 176, "base", [98, 97, 115, 101]), ("TenTrials$Sign", 194, "table", [116, 97, 98, 108, 101]), ("TenTrials$Sign", 251, ":", [58]), ("TenTrials$Sign", 254, ",", [44]), ("TenTrials$Sign", 185, "line", [108, 105, 110, 101]), ("TenTrials$Sign", 188, "square", [115, 113, 117, 97, 114, 101]), ("TenTrials$Sign", 191, "root", [114, 111, 111, 116]), ("TenTrials$Sign", 179, "by", [98, 121]), ("TenTrials$Sign", 182, "spread", [115, 112, 114, 101, 97, 100]), ("TenTrials$Sign", 197, "tie", [116, 105, 101]), ("TenTrials$Sign", 200, "none", [110, 111, 110, 101]), ("TenTrials$Sign", 203, "best", [98, 101, 115, 116]), ("TenTrials$Sign", 206, "wins", [119, 105, 110, 115]), ("TenTrials$Sign", 209, "bonus", [98, 111, 110, 117, 115]), ("TenTrials$Sign", 212, "when", [119, 104, 101, 110]), ("TenTrials$Sign", 233, "not", [110, 111, 116]), ("TenTrials$Sign", 272, "[", [91]), ("TenTrials$Sign", 275, "]", [93]), ("TenTrials$Sign", 278, "(", [40]), ("TenTrials$Sign", 281, ")", [41]), ("TenTrials$Sign", 236, "points", [112, 111, 105, 110, 116, 115]), ("TenTrials$Sign", 242, "done", [100, 111, 110, 101]), ("TenTrials$Sign", 245, "least", [108, 101, 97, 115, 116]), ("TenTrials$Sign", 239, "total", [116, 111, 116, 97, 108]), ("TenTrials$Sign", 266, "+", [43]), ("TenTrials$Sign", 269, "-", [45]), ("TenTrials$Sign", 257, "<", [60]), ("TenTrials$Sign", 260, "=", [61]), ("TenTrials$Sign", 263, ">", [62]), ("TenTrials$Sign", 230, "and", [97, 110, 100]), ("TenTrials$Sign", 227, "or", [111, 114]), ("TenTrials$Sign", 215, "athlete", [97, 116, 104, 108, 101, 116, 101]), ("TenTrials$Sign", 218, "mark", [109, 97, 114, 107]), ("TenTrials$Sign", 221, "gain", [103, 97, 105, 110]), ("TenTrials$Sign", 224, "in", [105, 110]), ("TenTrials$Sign", 248, ";", [59])]
def nsL : List (String × Nat × MethodName) := [("TenTrials", 15, ⟨"TenTrials$Page", "<init>", "()V"⟩), ("TenTrials", 22, ⟨"TenTrials$Reader", "<init>", "()V"⟩), ("TenTrials$Reader", 17, ⟨"TenTrials$Tokens", "<init>", "()V"⟩), ("TenTrials$Contest", 29, ⟨"TenTrials$Bonuses", "<init>", "()V"⟩), ("TenTrials$Contest", 34, ⟨"TenTrials$Trial", "<init>", "()V"⟩), ("TenTrials", 29, ⟨"TenTrials$History", "<init>", "()V"⟩), ("TenTrials", 43, ⟨"TenTrials$Score", "<init>", "()V"⟩), ("TenTrials$Standings", 21, ⟨"TenTrials$Score", "<init>", "()V"⟩), ("TenTrials", 57, ⟨"TenTrials$Shares", "<init>", "()V"⟩), ("TenTrials$Reader", 93, ⟨"TenTrials", "isWithin", "(III)Z"⟩), ("TenTrials$Contest", 48, ⟨"TenTrials", "cellOf", "(II)I"⟩), ("TenTrials$Reader", 107, ⟨"TenTrials", "cellOf", "(II)I"⟩), ("TenTrials$Score", 26, ⟨"TenTrials", "cellOf", "(II)I"⟩), ("TenTrials$Standings", 110, ⟨"TenTrials", "isWithin", "(III)Z"⟩), ("TenTrials$Standings", 62, ⟨"TenTrials", "cellOf", "(II)I"⟩)]
/-! what stays of the start: classes, constants -/
def stLen (i : Nat) : Nat := ((stL.getD i ("", 0, "", [])).2.2.2).length
def stByt (i j : Nat) : Int32 := ((stL.getD i ("", 0, "", [])).2.2.2).getD j 0
def spl (i : Nat) : Nat := spL.getD i 0
def sStr (G : GT) (U : State) (i : Nat) : Prop :=
  va_O "java/lang/String" (gK G i) (AG G) U U.heap ∧ va_OF "java/lang/String" "coder" "B" (.int 0) (gK G i) (AG G) U U.heap ∧ va_OF "java/lang/String" "value" "[B" (.ref (gV G i)) (gK G i) (AG G) U U.heap ∧ va_T .byte (gV G i) (stLen i) (fun j => .int (stByt i j)) (AG G) U U.heap
def sSgn (G : GT) (U : State) (i : Nat) : Prop :=
  va_Z "TenTrials$Sign" (sgL.getD i "") "LTenTrials$Sign;" (.ref (gE G i)) (AG G) U U.heap ∧ va_O "TenTrials$Sign" (gE G i) (AG G) U U.heap ∧ va_OF "TenTrials$Sign" "spelling" "Ljava/lang/String;" (.ref (gK G (spl i))) (gE G i) (AG G) U U.heap
/-- int[][] and int[] are there, and the rows of the first are of the second -/
def hasAI (U : State) : Prop := ∃ (cR cO : ClassId) (kO : Class), U.vm.findClass "[I" = some cR ∧ U.vm.findClass "[[I" = some cO ∧ U.vm.classes[cO]? = some kO ∧ kO.kind = .array cR (.array .int)
theorem hasAI.go {s U : State} (h : hasAI s) (hv : s.vm.Alike U.vm) : hasAI U := by
  obtain ⟨cR, cO, kO, r, o, ko, kd⟩ := h
  obtain ⟨kN, kn, same⟩ := hv.2.2 cO kO ko
  refine ⟨cR, cO, kN, ?_, ?_, kn, ?_⟩
  · exact (hv.findClass "[I" none).trans r
  · exact (hv.findClass "[[I" none).trans o
  · rw [same]
    exact kd
/-- what makers of objects need -/
def GXs (U : State) : Prop := va_AO "TenTrials$Sign" U ∧ va_AO "TenTrials$Trial" U ∧ va_AO "TenTrials$Score" U ∧ hasAI U ∧ va_Nw (.castable "[LTenTrials$Sign;" "java/lang/Cloneable") U
theorem GXs.go {s U : State} (h : GXs s) (hW : s.WarmedH U.vm) : GXs U := ⟨h.1.moved hW.alike, h.2.1.moved hW.alike, h.2.2.1.moved hW.alike, h.2.2.2.1.go hW.alike, va_Nw.warmC hW h.2.2.2.2⟩
def GS (G : GT) (U : State) : Prop :=
  (∀ q ∈ nsL, va_Nw (.methodLinkNest q.1 q.2.1 q.2.2 "TenTrials") U) ∧ (∀ i, i < 42 → sSgn G U i) ∧ (∀ i j, i < 42 → j < 42 → gE G i = gE G j → i = j) ∧
  (∀ i, i < 67 → sStr G U i) ∧ (∀ i q, stL[i]? = some q → vk_R q.1 q.2.1 q.2.2.1 (gK G i) U) ∧
  va_Z "java/lang/String" "COMPACT_STRINGS" "Z" (.int 1) (AG G) U U.heap ∧ va_Zq "jdk/internal/util/Preconditions" "SIOOBE_FORMATTER" "Ljava/util/function/BiFunction;" (AG G) U U.heap ∧
  (∃ t, va_Z "TenTrials$Sign" "$VALUES" "[LTenTrials$Sign;" (.ref t) (AG G) U U.heap ∧ va_T (.object "TenTrials$Sign") t 42 (fun j => .ref (gE G j)) (AG G) U U.heap ∧ ∀ cell : Cell, U.heap[t]? = some cell → cell.slots.size = 42 ∧ cell.cls = gA G 4) ∧ GXs U
def GW (G : GT) (U : State) : Prop := va_K (gD G) cls (tysL G) U ∧ GS G U
theorem GW_go {G : GT} {s U : State} {H : Heap} {locs : List Loc} (h : GW G s) (hS : va_S (AG G) s.heap H locs) (hU : U.heap = H) (hW : s.WarmedH U.vm) : GW G U := by
  have hv := hW.alike
  have hq : ∀ a : Nat, a < s.heap.size → ¬ AG G a → U.heap[a]? = s.heap[a]? := fun a h1 h2 => by rw [hU]; exact hS.2.1 a h1 h2
  obtain ⟨h0, h1, h2, h3, h4, h5, h6, h7, ⟨t, h8, h9, h10⟩, h11⟩ := h
  refine ⟨va_K.moved hv h0, fun q hm => va_Nw.warmM hW (h1 q hm), fun i hi => ?_, h3, fun i hi => ?_, fun i q hi => vk_R.warm hW (h5 i q hi), (h6.kept hq).moved hv, (h7.kept hq).moved hv, ⟨t, (h8.kept hq).moved hv, (h9.kept hq).moved hv, fun cell hc => ?_⟩, h11.go hW⟩
  · obtain ⟨g1, g2, g3⟩ := h2 i hi
    exact ⟨(g1.kept hq).moved hv, (g2.kept hq).moved hv, (g3.kept hq).moved hv⟩
  · obtain ⟨g1, g2, g3, g4⟩ := h4 i hi
    exact ⟨(g1.kept hq).moved hv, (g2.kept hq).moved hv, (g3.kept hq).moved hv, (g4.kept hq).moved hv⟩
  · obtain ⟨cell0, q1, -, -, -, -, -, q7⟩ := h9
    exact h10 cell (by rw [← hq t (Array.getElem?_eq_some_iff.mp q1).1 q7]; exact hc)
theorem GW_blind {G : GT} {U : State} (g : JFrame) (mk : MethodId) (a : Array Value) (h : GW G U) : GW G (U.calling g mk a) := by
  obtain ⟨h0, h1, h2, h3, h4, h5, h6, h7, ⟨t, h8, h9, h10⟩, h11⟩ := h
  have hv : U.vm.Alike (U.calling g mk a).vm := Vm.Alike.refl U.vm
  refine ⟨va_K.moved hv h0, fun q hm => va_Nw.same rfl rfl (h1 q hm), fun i hi => ?_, h3, fun i hi => ?_, fun i q hi => vk_R.same rfl (h5 i q hi), h6.moved hv, h7.moved hv, ⟨t, h8.moved hv, h9.moved hv, h10⟩, ⟨h11.1.moved hv, h11.2.1.moved hv, h11.2.2.1.moved hv, h11.2.2.2.1.go hv, va_Nw.same rfl rfl h11.2.2.2.2⟩⟩
  · obtain ⟨g1, g2, g3⟩ := h2 i hi
    exact ⟨g1.moved hv, g2.moved hv, g3.moved hv⟩
  · obtain ⟨g1, g2, g3, g4⟩ := h4 i hi
    exact ⟨g1.moved hv, g2.moved hv, g3.moved hv, g4.moved hv⟩
/-! contracts, and the judgement on a place of a method -/
def rmD (d mc ms : Nat) : Room := { frames := d, cells := mc, slots := ms, locals := 60 * d }
def ZQ (G : GT) (Post : Option Value → Wd → Prop) : Array Value → State → Outcome → State → Prop := fun _ st oc t => (∃ r w', oc = .returned r ∧ Post r w' ∧ HW G w' t.heap) ∧ va_F (AG G) st t
/-- the contract: depth d, mc cells of ms slots are made -/
def Mt (l : Launch) (G : GT) (mi : MI) (d mc ms : Nat) (as : List Value) (w : Wd) (Post : Option Value → Wd → Prop) : Prop :=
  Met l mi.1 (wY mi) (rmD d mc ms) (va_Pc as (fun U => GW G U ∧ HW G w U.heap)) (ZQ G Post) mc ms (AG G)
abbrev ZT : Type := GT × Program × Launch × Env × Room × State × MethodId × Array Value × List Frame × Method × Code × (State → Prop) × Nat
abbrev zG (Z : ZT) : GT := Z.1
abbrev zp (Z : ZT) : Program := Z.2.1
abbrev zl (Z : ZT) : Launch := Z.2.2.1
abbrev ze (Z : ZT) : Env := Z.2.2.2.1
abbrev zR (Z : ZT) : Room := Z.2.2.2.2.1
abbrev zs (Z : ZT) : State := Z.2.2.2.2.2.1
abbrev zm (Z : ZT) : MethodId := Z.2.2.2.2.2.2.1
abbrev za (Z : ZT) : Array Value := Z.2.2.2.2.2.2.2.1
abbrev zb (Z : ZT) : List Frame := Z.2.2.2.2.2.2.2.2.1
abbrev zt (Z : ZT) : Method := Z.2.2.2.2.2.2.2.2.2.1
abbrev zc (Z : ZT) : Code := Z.2.2.2.2.2.2.2.2.2.2.1
abbrev zQ (Z : ZT) : State → Prop := Z.2.2.2.2.2.2.2.2.2.2.2.1
abbrev zn (Z : ZT) : Nat := Z.2.2.2.2.2.2.2.2.2.2.2.2
def J (Z : ZT) (cs : Nat × Nat) (pc : Nat) (ls : LV) (st : List Value) (w : Wd) : Prop :=
  ∀ (H : Heap) (locs : List Loc) (la : Array Slot), HW (zG Z) w H → va_S (AG (zG Z)) (zs Z).heap H locs → lv_has la (zn Z) (lvl 0 ls) → W (zp Z) (zl Z) (ze Z) (zR Z) (zs Z) (zm Z) (za Z) (zb Z) (zt Z) (zc Z) H locs cs.1 cs.2 (zQ Z) (F0 (zm Z) pc la st)
def CX (Z : ZT) (G : GT) (mi : MI) (own : String) : Prop :=
  (zp Z).tables.exec = Jvm.exec ∧ (zc Z).code = mi.2.1 ∧ zG Z = G ∧ (zc Z).maxLocals = zn Z ∧ zn Z = mi.2.2.1 ∧ (zs Z).vm.findClass own = some (zm Z).cls ∧ (∀ w ∈ tbl2, w.before (za Z) (zs Z) = true) ∧ (zt Z).locks = false ∧ GW G (zs Z) ∧ (zt Z).sig.returnType = mi.2.2.2 ∧ (zt Z).name = mi.1.name
def CP (Z : ZT) (mc ms : Nat) (Post : Option Value → Wd → Prop) : Prop := zQ Z = MQ (zb Z) (ZQ (zG Z) Post) (za Z) (zs Z) mc ms (AG (zG Z))
/-- the room: depth d below, cs made already -/
def RB (Z : ZT) (d mc ms : Nat) : Prop := d ≤ (zR Z).frames ∧ 60 * d ≤ (zR Z).locals ∧ mc ≤ (zR Z).cells ∧ ms ≤ (zR Z).slots
def args0 : List Value → Nat → LV
  | [], n => List.replicate n none
  | .long x :: t, n => some (.long x) :: none :: args0 t (n - 2)
  | .double x :: t, n => some (.double x) :: none :: args0 t (n - 2)
  | v :: t, n => some v :: args0 t (n - 1)
theorem lvl_none : ∀ (n i : Nat), lvl i (List.replicate n none) = []
  | 0, _ => rfl
  | n + 1, i => lvl_none n (i + 1)
theorem args0_in : ∀ (as : List Value) (n i : Nat) (q : Nat × Value), q ∈ lvl i (args0 as n) → q ∈ lv_args i as := by
  intro as
  induction as with
  | nil => intro n i q h; rw [args0, lvl_none] at h; cases h
  | cons v t ih =>
    intro n i q h
    cases v
    case long x =>
      rcases List.mem_cons.mp (show q ∈ (i, Value.long x) :: lvl (i + 1 + 1) (args0 t (n - 2)) from h) with rfl | h
      · exact List.mem_cons_self
      · exact List.mem_cons_of_mem _ (ih _ _ _ h)
    case double x =>
      rcases List.mem_cons.mp (show q ∈ (i, Value.double x) :: lvl (i + 1 + 1) (args0 t (n - 2)) from h) with rfl | h
      · exact List.mem_cons_self
      · exact List.mem_cons_of_mem _ (ih _ _ _ h)
    all_goals
      rcases List.mem_cons.mp (show q ∈ (i, _) :: lvl (i + 1) (args0 t (n - 1)) from h) with rfl | h
      · exact List.mem_cons_self
      · exact List.mem_cons_of_mem _ (ih _ _ _ h)
theorem mt_of {l : Launch} {G : GT} {mi : MI} {d mc ms : Nat} {as : List Value} {w : Wd} {Post : Option Value → Wd → Prop} {own : String} (hy : plainName mi.1.cls = true) (hown : mi.1.cls = own) (hlen : Nat.ble (lg_sl as).length mi.2.2.1 = true)
    (h : ∀ Z : ZT, CX Z G mi own → CP Z mc ms Post → RB Z d mc ms → J Z (0, 0) 0 (args0 as mi.2.2.1) [] w) : Mt l G mi d mc ms as w Post := by
  refine Met.ofW (cc := mi.2.1) (maxL := mi.2.2.1) (ret := mi.2.2.2) hy rfl ?_
  intro p e s m args below meth c s₁ B hml hv
  obtain ⟨rfl, hG, hH⟩ := hv
  have hts := atoms_spec (ws := wY mi) B.pre
  have K := h (G, p, l, e, (headSpec (wY mi) (rmD d mc ms)).room, s, m, as.toArray, below, meth, c, MQ below (ZQ G Post) as.toArray s mc ms (AG G), mi.2.2.1) ⟨B.exec, B.bytes, rfl, hml, rfl, by rw [← hown]; exact findClass_of_methodNamed B.named, fun w hw => hts w (List.mem_cons_of_mem _ hw), B.notSynchronized, hG, B.returns, (name_of_methodNamed B.named B.method).1⟩ rfl ⟨Nat.le_refl _, Nat.le_refl _, Nat.le_refl _, Nat.le_refl _⟩
  rw [lg_entry_eq]
  exact K s.heap [] _ hH va_S.rf (lv_has_sub (lv_entry as (Nat.le_of_ble_eq_true hlen)) (args0_in as _ 0))
