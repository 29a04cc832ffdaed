/-! making cells: the next cell is number N; its places hold 0 and null before it is made -/
theorem HW_push {G : GT} {N : Nat} {sh : Nat → Nat × Nat} {I : Nat → Nat → Int32} {L : Nat → Nat → Int64} {R : Nat → Nat → Option Nat} {H H1 : Heap} (hH : HW G (N, sh, I, L, R) H) (hz : H1.size = H.size + 1) (ho : ∀ q, q < H.size → H1[q]? = H[q]?) (hN : Nat.ble (N + 2) 1000 = true) (ha : va_at (gD G) cls (gb G + N, ent G sh I L R N) H1) : HW G (N + 1, sh, I, L, R) H1 := by
  have hN := Nat.le_of_ble_eq_true hN
  have hsz : H.size = gb G + N := hH.2.1
  refine ⟨fun k q hk => ?_, ?_, ?_⟩
  · obtain ⟨h1, rfl⟩ := wsOf_in hk
    have h1 : k < N + 1 := h1
    by_cases h : k < N
    · exact (hH.1 k _ (wsOf_at (w := (N, sh, I, L, R)) h)).kept (ho _ (by rw [hsz]; show gb G + k < gb G + N; omega))
    · have : k = N := by omega
      subst this
      exact ha
  · rw [hz, hsz]
    show gb G + N + 1 = gb G + (N + 1)
    omega
  · show N + 1 < 1000
    omega
theorem vs_push {A : Nat → Prop} {H0 H H1 : Heap} {locs : List Loc} (hS : va_S A H0 H locs) (hz : H1.size = H.size + 1) (ho : ∀ q, q < H.size → H1[q]? = H[q]?) : va_S A H0 H1 locs := ⟨Nat.le_trans hS.1 (by omega), fun x h1 h2 => (ho x (Nat.lt_of_lt_of_le h1 hS.1)).trans (hS.2.1 x h1 h2), hS.2.2⟩
/-- the kind of a type's first value -/
def kdt : FieldType → Nat
  | .long => 1
  | .object _ => 2
  | .array _ => 2
  | .float => 9
  | .double => 9
  | _ => 0
theorem dv_ok {G : GT} {I : Nat → Nat → Int32} {L : Nat → Nat → Int64} {R : Nat → Nat → Option Nat} {a ci k : Nat} {t : FieldType} (h : fk ci k = kdt t ∧ kdt t < 3) (hI : I a k = 0) (hL : L a k = 0) (hR : R a k = none) : defaultValue t = fv G I L R a ci k := by
  unfold fv
  rw [h.1]
  cases t with
  | float => exact absurd h.2 (by decide)
  | double => exact absurd h.2 (by decide)
  | long => show Value.long 0 = Value.long (L a k); rw [hL]
  | object c => show Value.null = rv G (R a k); rw [hR]; rfl
  | array c => show Value.null = rv G (R a k); rw [hR]; rfl
  | _ => show Value.int 0 = Value.int (I a k); rw [hI]
/-- a cell more -/
theorem more (H : Heap) (x : Cell) : (H.push x).size = H.size + 1 ∧ (H.push x)[H.size]? = some x ∧ ∀ q, q < H.size → (H.push x)[q]? = H[q]? :=
  ⟨Array.size_push x, Array.getElem?_push_size, fun _ hq => Array.getElem?_push_lt hq ▸ (Array.getElem?_eq_getElem hq).symm⟩
/-- a final field is the class's that declares it -/
theorem fin_own {A : Array Value} {U : State} {C o nm ds : String} {cf mc : ClassId} {kf : Class} {fi : Nat} {fd : Field} (h : (Cond.laysFinal C o nm ds).before A U = true) (hf : U.fieldFound? o nm ds = some (cf, kf, fi, fd)) (ho : U.vm.findClass o = some mc) : mc = cf := by
  have ⟨_, _, _, _, _, _, _, _, found, _, _, _, named, _⟩ := Cond.laysFinal_spec h
  rw [found] at hf
  cases hf
  exact Option.some.inj (ho.symm.trans named)
section ALLOC
variable {Z : ZT} {G : GT} {mi : MI} {own : String} {cs : Nat × Nat} {pc : Nat} {ls : LV} {st : List Value} {N d mc ms : Nat} {sh : Nat → Nat × Nat} {I : Nat → Nat → Int32} {L : Nat → Nat → Int64} {R : Nat → Nat → Option Nat}
theorem j_new (C : CX Z G mi own) (B : RB Z d mc ms) {c : String} {T : u_T} {ty : Nat → FieldType} {ci n idx : Nat} (hc : cls[ci]? = some (c, T, n)) (hu : ∀ w ∈ u_ws c T n, w ∈ tbl2) (hty : ∀ k, k < n → parseFieldDescriptor (T k).2.2.1 = some (ty k)) (hdf : ∀ k, k < n → fk ci k = kdt (ty k) ∧ kdt (ty k) < 3) (hci : Nat.blt ci 20 = true)
    (h2 : Cond.instantiable c n ∈ tbl2) (h3 : Cond.initialized c ∈ tbl2) (h1 : Cond.classLink own idx c ∈ tbl2) (hs : sh N = (ci, n)) (hI : ∀ k, I N k = 0) (hL : ∀ k, L N k = 0) (hR : ∀ k, R N k = none) (hN : Nat.ble (N + 2) 1000 = true) (hcs : cs.1 + 1 ≤ mc ∧ cs.2 + n ≤ ms) (hd : decode mi.2.1 pc = .ok (.new idx, 3))
    (kk : J Z (cs.1 + 1, cs.2 + n) (pc + 3) ls (.ref (ra G N) :: st) (N + 1, sh, I, L, R)) : J Z cs pc ls st (N, sh, I, L, R) := by
  intro H locs la hH hS hl
  have hG : zG Z = G := C.2.2.1
  rw [hG] at hH hS
  have hts := C.2.2.2.2.2.2.1
  have hK := C.2.2.2.2.2.2.2.2.1.1
  have hKn := hK.1 ci _ hc
  have hsz : H.size = gb G + N := hH.2.1
  refine W.newcK C.1 C.2.1 C.2.2.2.2.2.1 (hts _ h1) (hts _ h2) (hts _ h3) rfl hd (Nat.le_trans hcs.1 B.2.2.1) (Nat.le_trans hcs.2 B.2.2.2) hKn.2.1 hsz fun H1 kC hkC e1 z1 o1 => ?_
  have hz : H1.size = H.size + 1 := by rw [hsz]; exact z1
  have ho : ∀ q, q < H.size → H1[q]? = H[q]? := by rw [hsz]; exact o1
  have hb : va_at (gD G) cls (gb G + N, ent G sh I L R N) H1 := by
    rw [ent_obj hs (Nat.le_of_ble_eq_true hci)]
    refine ⟨_, hc, (u_born ty hts hu hKn hkC e1 hty).to (fun j hj => ?_)⟩
    show defaultValue (ty j) = ((List.range n).map (fv G I L R N ci)).getD j .null
    rw [List.getD_eq_getElem?_getD, rg_at hj]
    exact dv_ok (hdf j hj) (hI j) (hL j) (hR j)
  have h := kk H1 locs la (by rw [hG]; exact HW_push hH hz ho hN hb) (by rw [hG]; exact vs_push hS hz ho) hl
  rw [ra_lt G (show N < 1000 from hH.2.2)] at h
  exact h
/-- arrays of int, byte, boolean -/
theorem j_newI (C : CX Z G mi own) (B : RB Z d mc ms) {kd n : Nat} {x : Int32} {a9 : ArrayType} (hk : kd < 3) (ht : (tysL G)[kd]? = some (gA G kd, newarray.typeOf a9)) (hdv : defaultValue (newarray.typeOf a9) = .int 0) (hra : ∀ (U : State) (cA : ClassId), va_RA U cA (newarray.typeOf a9) → U.vm.findClass ("[" ++ (newarray.typeOf a9).toString) = some cA)
    (harr : Cond.arrayClass (newarray.typeOf a9) ∈ tbl2) (hby : Nat.ble (n * componentBytes (newarray.typeOf a9)) 536870912 = true) (hx0 : ¬ x < 0) (hxn : x.toNatClampNeg = n) (hs : sh N = (20 + kd, n)) (hI : ∀ k, I N k = 0) (hN : Nat.ble (N + 2) 1000 = true) (hcs : cs.1 + 1 ≤ mc ∧ cs.2 + n ≤ ms) (hd : decode mi.2.1 pc = .ok (.newarray a9, 2))
    (kk : J Z (cs.1 + 1, cs.2 + n) (pc + 2) ls (.ref (ra G N) :: st) (N + 1, sh, I, L, R)) : J Z cs pc ls (.int x :: st) (N, sh, I, L, R) := by
  intro H locs la hH hS hl
  have hG : zG Z = G := C.2.2.1
  rw [hG] at hH hS
  have hts := C.2.2.2.2.2.2.1
  have hK := C.2.2.2.2.2.2.2.2.1.1
  have hsz : H.size = gb G + N := hH.2.1
  refine va_newaK C.1 C.2.1 (hts _ harr) rfl hd rfl hx0 hxn (Nat.le_of_ble_eq_true hby) (Nat.le_trans hcs.1 B.2.2.1) (Nat.le_trans hcs.2 B.2.2.2) hsz fun H1 cA e1 z1 o1 hAr hNm => ?_
  have hcA : cA = gA G kd := Option.some.inj (hNm.symm.trans (hra _ _ (hK.2 kd _ ht).2))
  subst hcA
  have hz : H1.size = H.size + 1 := by rw [hsz]; exact z1
  have ho : ∀ q, q < H.size → H1[q]? = H[q]? := by rw [hsz]; exact o1
  have hb : va_at (gD G) cls (gb G + N, ent G sh I L R N) H1 := by
    rw [ent_int hs hk]
    show H1[gb G + N]? = some (vp_cell (gA G kd) (n, .inl (I N)))
    rw [e1, vp_cell_i, hdv]
    congr 2
    funext j
    rw [hI]
  have h := kk H1 locs la (by rw [hG]; exact HW_push hH hz ho hN hb) (by rw [hG]; exact vs_push hS hz ho) hl
  rw [ra_lt G (show N < 1000 from hH.2.2)] at h
  exact h
theorem j_newint (C : CX Z G mi own) (B : RB Z d mc ms) {n : Nat} {x : Int32} (hby : Nat.ble (n * 4) 536870912 = true) (hx0 : ¬ x < 0) (hxn : x.toNatClampNeg = n) (hs : sh N = (20, n)) (hI : ∀ k, I N k = 0) (hN : Nat.ble (N + 2) 1000 = true) (hcs : cs.1 + 1 ≤ mc ∧ cs.2 + n ≤ ms) (hd : decode mi.2.1 pc = .ok (.newarray .int, 2))
    (kk : J Z (cs.1 + 1, cs.2 + n) (pc + 2) ls (.ref (ra G N) :: st) (N + 1, sh, I, L, R)) : J Z cs pc ls (.int x :: st) (N, sh, I, L, R) :=
  j_newI C B (kd := 0) (a9 := .int) (by decide) rfl rfl (fun _ _ h => h) (inT_mem (i := 204) (by decide +kernel)) hby hx0 hxn hs hI hN hcs hd kk
theorem j_newbyte (C : CX Z G mi own) (B : RB Z d mc ms) {n : Nat} {x : Int32} (hby : Nat.ble (n * 1) 536870912 = true) (hx0 : ¬ x < 0) (hxn : x.toNatClampNeg = n) (hs : sh N = (21, n)) (hI : ∀ k, I N k = 0) (hN : Nat.ble (N + 2) 1000 = true) (hcs : cs.1 + 1 ≤ mc ∧ cs.2 + n ≤ ms) (hd : decode mi.2.1 pc = .ok (.newarray .byte, 2))
    (kk : J Z (cs.1 + 1, cs.2 + n) (pc + 2) ls (.ref (ra G N) :: st) (N + 1, sh, I, L, R)) : J Z cs pc ls (.int x :: st) (N, sh, I, L, R) :=
  j_newI C B (kd := 1) (a9 := .byte) (by decide) rfl rfl (fun _ _ h => h) (inT_mem (i := 157) (by decide +kernel)) hby hx0 hxn hs hI hN hcs hd kk
theorem j_newbool (C : CX Z G mi own) (B : RB Z d mc ms) {n : Nat} {x : Int32} (hby : Nat.ble (n * 1) 536870912 = true) (hx0 : ¬ x < 0) (hxn : x.toNatClampNeg = n) (hs : sh N = (22, n)) (hI : ∀ k, I N k = 0) (hN : Nat.ble (N + 2) 1000 = true) (hcs : cs.1 + 1 ≤ mc ∧ cs.2 + n ≤ ms) (hd : decode mi.2.1 pc = .ok (.newarray .boolean, 2))
    (kk : J Z (cs.1 + 1, cs.2 + n) (pc + 2) ls (.ref (ra G N) :: st) (N + 1, sh, I, L, R)) : J Z cs pc ls (.int x :: st) (N, sh, I, L, R) :=
  j_newI C B (kd := 2) (a9 := .boolean) (by decide) rfl rfl (fun _ _ h => h) (inT_mem (i := 448) (by decide +kernel)) hby hx0 hxn hs hI hN hcs hd kk
theorem j_newlong (C : CX Z G mi own) (B : RB Z d mc ms) {n : Nat} {x : Int32} (hby : Nat.ble (n * 8) 536870912 = true) (hx0 : ¬ x < 0) (hxn : x.toNatClampNeg = n) (hs : sh N = (23, n)) (hL : ∀ k, L N k = 0) (hN : Nat.ble (N + 2) 1000 = true) (hcs : cs.1 + 1 ≤ mc ∧ cs.2 + n ≤ ms) (hd : decode mi.2.1 pc = .ok (.newarray .long, 2))
    (kk : J Z (cs.1 + 1, cs.2 + n) (pc + 2) ls (.ref (ra G N) :: st) (N + 1, sh, I, L, R)) : J Z cs pc ls (.int x :: st) (N, sh, I, L, R) := by
  intro H locs la hH hS hl
  have hG : zG Z = G := C.2.2.1
  rw [hG] at hH hS
  have hts := C.2.2.2.2.2.2.1
  have hK := C.2.2.2.2.2.2.2.2.1.1
  have hsz : H.size = gb G + N := hH.2.1
  have harr : Cond.arrayClass (newarray.typeOf .long) ∈ tbl2 := inT_mem (i := 1482) (by decide +kernel)
  refine va_newaK C.1 C.2.1 (hts _ harr) rfl hd rfl hx0 hxn (Nat.le_of_ble_eq_true hby) (Nat.le_trans hcs.1 B.2.2.1) (Nat.le_trans hcs.2 B.2.2.2) hsz fun H1 cA e1 z1 o1 hAr hNm => ?_
  have hq : (zs Z).vm.findClass ("[" ++ (newarray.typeOf .long).toString) = some (gA G 3) := (hK.2 3 (gA G 3, .long) rfl).2
  have hcA : cA = gA G 3 := Option.some.inj (hNm.symm.trans hq)
  subst hcA
  have hz : H1.size = H.size + 1 := by rw [hsz]; exact z1
  have ho : ∀ q, q < H.size → H1[q]? = H[q]? := by rw [hsz]; exact o1
  have hb : va_at (gD G) cls (gb G + N, ent G sh I L R N) H1 := by
    rw [ent_long hs]
    show H1[gb G + N]? = some (vp_cell (gA G 3) (n, .inr (.inl (L N))))
    rw [e1, vp_cell_l]
    congr 2
    funext j
    rw [hL]
    rfl
  have h := kk H1 locs la (by rw [hG]; exact HW_push hH hz ho hN hb) (by rw [hG]; exact vs_push hS hz ho) hl
  rw [ra_lt G (show N < 1000 from hH.2.2)] at h
  exact h
/-- arrays of references -/
theorem j_anew (C : CX Z G mi own) (B : RB Z d mc ms) {kd n idx : Nat} {x : Int32} {c : String} (ht : (tysL G)[4 + kd]? = some (gA G (4 + kd), .object c)) (hao : va_AO c (zs Z)) (hlk : Cond.classLink own idx c ∈ tbl2) (hby : Nat.ble (n * 4) 536870912 = true) (hx0 : ¬ x < 0) (hxn : x.toNatClampNeg = n) (hs : sh N = (24 + kd, n)) (hR : ∀ k, R N k = none) (hN : Nat.ble (N + 2) 1000 = true) (hcs : cs.1 + 1 ≤ mc ∧ cs.2 + n ≤ ms) (hd : decode mi.2.1 pc = .ok (.anewarray idx, 3))
    (kk : J Z (cs.1 + 1, cs.2 + n) (pc + 3) ls (.ref (ra G N) :: st) (N + 1, sh, I, L, R)) : J Z cs pc ls (.int x :: st) (N, sh, I, L, R) := by
  intro H locs la hH hS hl
  have hG : zG Z = G := C.2.2.1
  rw [hG] at hH hS
  have hts := C.2.2.2.2.2.2.1
  have hK := C.2.2.2.2.2.2.2.2.1.1
  have hsz : H.size = gb G + N := hH.2.1
  subst hxn
  refine W.anew C.1 C.2.1 C.2.2.2.2.2.1 (hts _ hlk) (va_AO.use hao) rfl hd rfl hx0 (Nat.le_of_ble_eq_true hby) (Nat.le_trans hcs.1 B.2.2.1) (Nat.le_trans hcs.2 B.2.2.2) fun cA kA comp f1 f2 f3 f4 => ?_
  obtain ⟨kA', comp', -, -, -, hq⟩ := (hK.2 (4 + kd) _ ht).2
  have hcA : cA = gA G (4 + kd) := Option.some.inj (f1.symm.trans hq)
  subst hcA
  rw [arrV_new]
  obtain ⟨hz, e1, ho⟩ := more H (arrV (gA G (4 + kd)) x.toNatClampNeg (fun _ => .null))
  generalize H.push (arrV (gA G (4 + kd)) x.toNatClampNeg (fun _ => .null)) = H1 at hz e1 ho ⊢
  have hb : va_at (gD G) cls (gb G + N, ent G sh I L R N) H1 := by
    rw [ent_ref hs]
    show H1[gb G + N]? = some (vp_cell (gA G (4 + kd)) (x.toNatClampNeg, .inr (.inr (.inr (.inr (fun j => (R N j).map (ra G)))))))
    rw [← hsz, e1, vp_cell_q]
    congr 2
    funext j
    rw [hR]
    rfl
  have h := kk H1 locs la (by rw [hG]; exact HW_push hH hz ho hN hb) (by rw [hG]; exact vs_push hS hz ho) hl
  rw [ra_lt G (show N < 1000 from hH.2.2), ← hsz] at h
  exact h
/-- Object.<init> -/
theorem j_oinit (C : CX Z G mi own) (B : RB Z d mc ms) {idx a : Nat} (hlk : Cond.methodLink own idx Lib.objectInit ∈ tbl2) (hdd : Nat.ble 1 d = true) (hW : Nat.ble (cats st) 8 = true) (hd : decode mi.2.1 pc = .ok (.invokespecial idx, 3)) (kk : J Z cs (pc + 3) ls st (N, sh, I, L, R)) : J Z cs pc ls (.ref a :: st) (N, sh, I, L, R) := by
  intro H locs la hH hS hl
  have hts := C.2.2.2.2.2.2.1
  have hr := mathRoom (cs := (0, 0)) B hdd hW ⟨Nat.zero_le _, Nat.zero_le _⟩
  refine W.objInit C.1 C.2.1 C.2.2.2.2.2.1 (hts _ hlk) (hts _ (inT_mem (i := 140) (by decide +kernel))) (hts _ (inT_mem (i := 141) (by decide +kernel))) rfl (by rw [C.2.2.2.1]; exact hl.1) rfl hd hr.1 (by have := hr.2.1; show 2 * 0 + _ + 12 ≤ _; omega) (kk H locs la hH hS hl)
/-- a final field, written by its class' maker -/
theorem j_putF (C : CX Z G mi own) {idx ci n k a : Nat} {ty : FieldType} (f : FL own idx ci n k ty true) (hini : mi.1.name = "<init>") (hco : ∃ T : u_T, cls[ci]? = some (own, T, n)) (hs : a < N ∧ sh a = (ci, n)) (hc : Nat.blt ci 20 = true) {v : Value} (hn : narrow ty v = v) (hfit : fits ty v = true) (hd : decode mi.2.1 pc = .ok (.putfield idx, 3)) {I' : Nat → Nat → Int32} {L' : Nat → Nat → Int64} {R' : Nat → Nat → Option Nat} (hv : fv G I' L' R' a ci k = v) (ho : ∀ j, j ≠ k → fv G I' L' R' a ci j = fv G I L R a ci j) (hb : ∀ b, b ≠ a → ent G sh I' L' R' b = ent G sh I L R b)
    (kk : J Z cs (pc + 3) ls st (N, sh, I', L', R')) : J Z cs pc ls (v :: .ref (ra G a) :: st) (N, sh, I, L, R) := by
  obtain ⟨c, T, t0, f1, f2, f3, f4, f5, f6, f7, f8, f9⟩ := f
  obtain ⟨T2, hT2⟩ := hco
  cases congrArg Prod.fst (Option.some.inj (f1.symm.trans hT2))
  have hci := Nat.le_of_ble_eq_true hc
  obtain ⟨ex, hcode, hG, -, -, hown, hts, -, ⟨hK, -⟩, -, hnm⟩ := C
  intro H locs la hH hS hl
  rw [hG] at hH hS
  rw [ra_lt G (Nat.lt_trans hs.1 hH.2.2)]
  -- the cell, and what its class says of place k
  have hw : (wsOf G (N, sh, I, L, R))[a]? = some (gb G + a, .inr (ci, (List.range n).map (fv G I L R a ci))) := by
    rw [← ent_obj hs.2 hci]
    exact wsOf_at (w := (N, sh, I, L, R)) hs.1
  have hD := wsOf_D G (N, sh, I, L, R)
  obtain ⟨hall, hat⟩ := hK.1 ci _ f1
  obtain ⟨cf, kf, fi, fd, found, slot⟩ := hall k f5
  have fin : (Cond.laysFinal own (T k).1 (T k).2.1 (T k).2.2.1).before (za Z) (zs Z) = true := by
    have := hts _ (f2 _ (u_in_lay f5))
    rwa [show u_lay own T k = .laysFinal own (T k).1 (T k).2.1 (T k).2.2.1 from if_pos f8] at this
  obtain ⟨r, hr, cell, there, ofC, whole, places⟩ := hH.1 a _ hw
  cases Option.some.inj (hr.symm.trans f1)
  obtain ⟨fc, kC, hkC, plain⟩ := hat
  refine W.putFinK ex hcode hown (hts _ f6) found (u_facts fc hkC (u_lays hts f2 f5) found).1 (fin_own fin found (by rw [f9]; exact hown)) (hnm.trans hini) (by rw [ofC]; exact u_fits fc hkC plain (Or.inr fin) found f7 hn hfit) there whole (by rw [slot]; exact k2_hasslot (places k f5)) rfl rfl hd fun H' new size rest => ?_
  rw [slot] at new ⊢
  have long : k < ((List.range n).map (fv G I L R a ci)).length := by
    rw [List.length_map, List.length_range]
    exact f5
  have hP : va_P (gD G) cls ((wsOf G (N, sh, I, L, R)).set a (gb G + a, .inr (ci, ((List.range n).map (fv G I L R a ci)).set k v))) H' := by
    refine hH.1.set hD hw ⟨_, f1, ?_⟩ rest
    exact t_OB.to (V := updV (vp_V ((List.range n).map (fv G I L R a ci))) k v) ⟨_, new, ofC, whole, t_set places (va_apart (own := own) hts f2 t0 f3 f4 hK f1) f5 v⟩ (fun j _ => vp_updV_set long v j)
  rw [rg_set (f := fv G I L R a ci) (g := fv G I' L' R' a ci) hv ho] at hP
  refine kk H' _ la ?_ ?_ hl
  · rw [hG]
    exact HW_set (w' := (N, sh, I', L', R')) hH rfl hs.1 (ent_obj hs.2 hci) hb hP size
  · rw [hG]
    exact hS.put size rest (hD.2 a _ hw)
theorem j_putFr (C : CX Z G mi own) {idx ci n k a : Nat} {ty : FieldType} (f : FL own idx ci n k ty true) (hty : ty.isReference = true) (hini : mi.1.name = "<init>") (hco : ∃ T : u_T, cls[ci]? = some (own, T, n)) (hs : a < N ∧ sh a = (ci, n)) (hc : Nat.blt ci 20 = true) (hk : fk ci k = 2) (hd : decode mi.2.1 pc = .ok (.putfield idx, 3)) {r : Nat} (kk : J Z cs (pc + 3) ls st (N, sh, I, L, up2 R a k (some r))) : J Z cs pc ls (.ref (ra G r) :: .ref (ra G a) :: st) (N, sh, I, L, R) :=
  j_putF C f hini hco hs hc (by cases ty <;> first | rfl | cases hty) (by cases ty <;> first | rfl | cases hty) hd (by unfold fv; rw [hk]; show rv G (up2 R a k (some r) a k) = _; rw [up2_same]; rfl) fv_upR (fun b hb => ent_upR hb) kk
/-- the enum's array, cloned -/
def vR (R : Nat → Nat → Option Nat) (N : Nat) : Nat → Nat → Option Nat := fun a k => if a = N then (if k < 42 then some (1000 + k) else none) else R a k
theorem HW_R {R' : Nat → Nat → Option Nat} {H : Heap} (hR : ∀ a, a < N → R' a = R a) (hH : HW G (N, sh, I, L, R) H) : HW G (N, sh, I, L, R') H := by
  refine ⟨fun k q hk => ?_, hH.2.1, hH.2.2⟩
  obtain ⟨h1, rfl⟩ := wsOf_in hk
  have h1 : k < N := h1
  have h2 := hH.1 k _ (wsOf_at (w := (N, sh, I, L, R)) h1)
  have e1 := hR k h1
  have e2 : ∀ c, fv G I L R' k c = fv G I L R k c := fun c => by funext j; unfold fv; rw [e1]
  have e3 : ent G sh I L R' k = ent G sh I L R k := by unfold ent; rw [e1, e2]
  show va_at (gD G) cls (gb G + k, ent G sh I L R' k) H
  rw [e3]
  exact h2
theorem arrV_ext {c : ClassId} {n : Nat} {F F' : Nat → Value} (h : ∀ j, j < n → F j = F' j) : arrV c n F = arrV c n F' := by
  have h1 : (arrV c n F).slots = (arrV c n F').slots := by
    apply Array.ext_getElem?
    intro i
    by_cases hi : i < n
    · rw [arrV_read _ _ hi, arrV_read _ _ hi, h i hi]
    · rw [Array.getElem?_eq_none (by rw [arrV_size]; omega), Array.getElem?_eq_none (by rw [arrV_size]; omega)]
  exact congrArg (fun s9 => ({ cls := c, slots := s9, vm := .none } : Cell)) h1
theorem j_vals (C : CX Z G mi own) (B : RB Z d mc ms) {i1 i2 i3 : Nat} (hdd : Nat.ble 1 d = true) (hW : Nat.ble (cats st) 8 = true) (l1 : Cond.fieldLink own i1 "TenTrials$Sign" "$VALUES" "[LTenTrials$Sign;" ∈ tbl2) (l2 : Cond.methodLink own i2 ⟨"[LTenTrials$Sign;", "clone", "()Ljava/lang/Object;"⟩ ∈ tbl2) (l3 : Cond.classLink own i3 "[LTenTrials$Sign;" ∈ tbl2)
    (hs : sh N = (24, 42)) (hN : Nat.ble (N + 2) 1000 = true) (hcs : cs.1 + 1 ≤ mc ∧ cs.2 + 42 ≤ ms) (d1 : decode mi.2.1 pc = .ok (.getstatic i1, 3)) (d2 : decode mi.2.1 (pc + 3) = .ok (.invokevirtual i2, 3)) (d3 : decode mi.2.1 (pc + 3 + 3) = .ok (.checkcast i3, 3))
    (kk : J Z (cs.1 + 1, cs.2 + 42) (pc + 3 + 3 + 3) ls (.ref (ra G N) :: st) (N + 1, sh, I, L, vR R N)) : J Z cs pc ls st (N, sh, I, L, R) := by
  intro H locs la hH hS hl
  have hG : zG Z = G := C.2.2.1
  rw [hG] at hH hS
  have hts := C.2.2.2.2.2.2.1
  have hK := C.2.2.2.2.2.2.2.2.1.1
  have hGS := C.2.2.2.2.2.2.2.2.1.2
  have hown := C.2.2.2.2.2.1
  have hsz : H.size = gb G + N := hH.2.1
  have hr := mathRoom (cs := (0, 0)) B hdd hW ⟨Nat.zero_le _, Nat.zero_le _⟩
  obtain ⟨t, h8, h9, h10⟩ := hGS.2.2.2.2.2.2.2.1
  refine va_gets C.1 C.2.1 h8 hS hown (hts _ l1) (fun _ h => h) d1 ?_
  obtain ⟨cell, q1, q2, q3, q4, q5, q6, q7⟩ := h9
  obtain ⟨hs42, hcls⟩ := h10 cell q1
  have hcH : H[t]? = some cell := (hS.2.1 t (Array.getElem?_eq_some_iff.mp q1).1 q7).trans q1
  obtain ⟨kA, comp, k1, k2, k3, k4⟩ := (hK.2 4 (gA G 4, .object "TenTrials$Sign") rfl).2
  have hq : (zs Z).vm.findClass "[LTenTrials$Sign;" = some (gA G 4) := by
    have e : "[" ++ (FieldType.object "TenTrials$Sign").toString = "[LTenTrials$Sign;" := by decide +kernel
    rw [← e]
    exact k4
  obtain ⟨c0, t0', f1, f2, f3⟩ := Cond.castable_spec (va_Nw.use (A := za Z) rfl hGS.2.2.2.2.2.2.2.2.2.2.2.2)
  have hc0 : c0 = gA G 4 := Option.some.inj (f1.symm.trans hq)
  rw [hc0] at f3
  intro T hT X
  obtain ⟨k', hk', he'⟩ := X.warmed.alike.2.2 _ _ k1
  have hkind : k'.kind = .array comp (.object "TenTrials$Sign") := by rw [he']; exact k2
  obtain ⟨vm', X', st'⟩ := X.cloneArray C.1 hown (hts _ l2) (hts _ (inT_mem (i := 178) (by decide +kernel))) (hts _ (inT_mem (i := 179) (by decide +kernel))) (hts _ (inT_mem (i := 180) (by decide +kernel))) (hts _ (inT_mem (i := 181) (by decide +kernel))) (a := t) (cell := cell) (by rw [hT]; exact hcH) q2.1 q3 (by rw [hcls]; exact hq) f2 (by rw [hcls]; exact f3)
    (fun i v hv => by
      rw [hcls]
      have hi : i < 42 := by rw [← hs42]; exact (Array.getElem?_eq_some_iff.mp hv).1
      have hvv : v = .ref (gE G i) := Option.some.inj (hv.symm.trans (q6 i hi))
      subst hvv
      have hk'' : T.vm.classes[gA G 4]? = some k' := hk'
      simp [State.fitsSlot, State.slotType?, hk'', hkind, fits])
    (g := F0 (zm Z) (pc + 3) la (.ref t :: st)) rfl (by rw [C.2.2.2.1]; exact hl.1) rfl (by rw [C.2.1]; exact d2) hr.1 (by have := hr.2.1; show 2 * 0 + _ + 14 ≤ _; omega) (Nat.le_trans hcs.1 B.2.2.1) (by rw [hs42]; exact Nat.le_trans hcs.2 B.2.2.2) (hloader := by rw [hcls]; exact Vm.clonesLoader_of_array k1 k2)
  rw [hs42] at X'
  have hcell : ({ cls := cell.cls, slots := cell.slots } : Cell) = arrV (gA G 4) 42 (fun j => .ref (gE G j)) := by
    have h1 : cell.slots = (arrV (gA G 4) 42 (fun j => .ref (gE G j))).slots := by
      apply Array.ext_getElem?
      intro i
      by_cases hi : i < 42
      · rw [q6 i hi, arrV_read _ _ hi]
      · rw [Array.getElem?_eq_none (by omega), Array.getElem?_eq_none (by rw [arrV_size]; omega)]
    rw [h1, hcls]
    rfl
  rw [hcell] at X' st'
  obtain ⟨hz, e1, ho⟩ := more H (arrV (gA G 4) 42 (fun j => .ref (gE G j)))
  generalize hH1 : H.push (arrV (gA G 4) 42 (fun j => .ref (gE G j))) = H1 at hz e1 ho
  have hb : va_at (gD G) cls (gb G + N, ent G sh I L (vR R N) N) H1 := by
    rw [ent_ref (kd := 0) hs]
    show H1[gb G + N]? = some (vp_cell (gA G 4) (42, .inr (.inr (.inr (.inr (fun j => (vR R N N j).map (ra G)))))))
    rw [← hsz, e1, vp_cell_q]
    have hh : ∀ j, j < 42 → va_rf ((vR R N N j).map (ra G)) = .ref (gE G j) := fun j hj => by
      unfold vR
      rw [if_pos rfl, if_pos hj]
      show Value.ref (ra G (1000 + j)) = _
      rw [ra_sgn G hj]
    exact congrArg some (arrV_ext (fun j hj => (hh j hj).symm))
  have hH' : HW G (N + 1, sh, I, L, vR R N) H1 := HW_push (HW_R (fun a ha => by unfold vR; funext k; rw [if_neg (by omega)]) hH) hz ho hN hb
  have hS' := vs_push hS hz ho
  have h := kk H1 locs la (by rw [hG]; exact hH') (by rw [hG]; exact hS') hl
  rw [ra_lt G (show N < 1000 from hH.2.2)] at h
  have ha : (wsOf G (N + 1, sh, I, L, vR R N))[N]? = some (gb G + N, .inl (gA G 4, 42, .inr (.inr (.inr (.inr (fun j => (vR R N N j).map (ra G))))))) := wsR (kd := 0) ⟨Nat.lt_succ_self _, hs⟩
  have hw := va_castA C.1 C.2.1 hown (hts _ l3) hH'.1 N ha hq d3 h
  obtain ⟨t2, b1, b2⟩ := hw ((T.setVm vm').pushCell (arrV (gA G 4) 42 (fun j => .ref (gE G j)))) (by rw [← hH1, ← hT]; rfl) X'
  refine ⟨t2, st' t2 ?_, b2⟩
  rw [hT, hsz]
  exact b1
end ALLOC
