/-! calls -/
def ps (r : Option Value) (st : List Value) : List Value := match r with
  | none => st
  | some v => v :: st
theorem ps_eq (r : Option Value) (st : List Value) : r.toList ++ st = ps r st := by cases r <;> rfl
def cats (st : List Value) : Nat := (st.map fun v => v.category).sum
/-- what the tables say of a call -/
def LB (own : String) (idx : Nat) (mi : MI) (np : Nat) : Prop :=
  Cond.code mi.1 mi.2.1 mi.2.2.1 mi.2.2.2 ∈ tbl2 ∧ Cond.initialized mi.1.cls ∈ tbl2 ∧ mi.1.cls ≠ "java/lang/invoke/MethodHandle" ∧ mi.1.cls ≠ "java/lang/invoke/VarHandle" ∧ (parseMethodDescriptor mi.1.desc).map (fun d => d.parameters.length) = some np ∧ mi.2.2.1 ≤ 40
def LKV (own : String) (idx : Nat) (mi : MI) (np : Nat) : Prop := LB own idx mi np ∧ Cond.methodLink own idx mi.1 ∈ tbl2 ∧ Cond.instanceMethod mi.1 ∈ tbl2 ∧ Cond.selects mi.1.cls mi.1 mi.1 ∈ tbl2
def LKS (own : String) (idx : Nat) (mi : MI) (np : Nat) : Prop := LB own idx mi np ∧ Cond.methodLink own idx mi.1 ∈ tbl2 ∧ Cond.static mi.1 ∈ tbl2
def LKI (own : String) (idx : Nat) (mi : MI) (np : Nat) : Prop := LB own idx mi np ∧ Cond.methodLink own idx mi.1 ∈ tbl2 ∧ mi.1.name = "<init>" ∧ mi.2.2.2 = none ∧ Cond.instanceMethod mi.1 ∈ tbl2
def LKSN (own : String) (idx : Nat) (mi : MI) (np : Nat) : Prop := LB own idx mi np ∧ (own, idx, mi.1) ∈ nsL ∧ Cond.static mi.1 ∈ tbl2
def LKIN (own : String) (idx : Nat) (mi : MI) (np : Nat) : Prop := LB own idx mi np ∧ (own, idx, mi.1) ∈ nsL ∧ mi.1.name = "<init>" ∧ mi.2.2.2 = none ∧ Cond.instanceMethod mi.1 ∈ tbl2
theorem goodY {own : String} {idx np : Nat} {mi : MI} (h : LB own idx mi np) : GoodIn tbl2 (wY mi) := fun w hw => by
  rcases List.mem_cons.mp hw with rfl | hw
  · exact ⟨h.1, tbl2_good h.1⟩
  · exact ⟨hw, tbl2_good hw⟩
section CALL
variable {p : Program} {l : Launch} {e : Env} {R : Room} {s : State} {m : MethodId} {args : Array Value} {below : List Frame} {meth : Method} {c : Code} {H : Heap} {locs : List Loc} {cells slots mc ms : Nat} {Q : State → Prop}
theorem run_go {G : GT} {Post : Option Value → Wd → Prop} {a : Array Value} {pc : Nat} {la : Array Slot} {st rest : List Value} (hr : va_Run p l e R s m args below meth c H locs cells slots mc ms (F0 m pc la st) rest (ZQ G Post a) (AG G)) (hS : va_S (AG G) s.heap H locs)
    (kk : ∀ (r : Option Value) (w' : Wd) (H1 : Heap) (locs1 : List Loc), Post r w' → HW G w' H1 → va_S (AG G) s.heap H1 locs1 → W p l e R s m args below meth c H1 locs1 (cells + mc) (slots + ms) Q (F0 m (pc + 3) la (ps r rest))) : W p l e R s m args below meth c H locs cells slots Q (F0 m pc la st) := by
  intro T hT X
  obtain ⟨v, st₀, t, T', L, h0, X', hL, e1, e2, ⟨⟨r, w', hv, hp, hb⟩, hz, hk⟩, go⟩ := hr T hT X
  cases hv
  rw [h0] at hz hk
  obtain ⟨t2, a1, b1⟩ := kk v w' T'.heap (locs ++ L) hp (by rw [e1]; exact hb)
    ⟨Nat.le_trans hS.1 (by rw [e1]; exact hz), fun q h1 h2 => by rw [e1, hk q (Nat.lt_of_lt_of_le h1 hS.1) h2]; exact hS.2.1 q h1 h2, fun q hq => by
      rcases List.mem_append.mp hq with h | h
      · exact hS.2.2 q h
      · exact hL q h⟩ T' rfl X'
  rw [← ps_eq] at a1
  exact ⟨t2, go t2 a1, b1⟩
end CALL
section JCALL
variable {Z : ZT} {G : GT} {mi mi' : MI} {own : String} {cs : Nat × Nat} {pc : Nat} {ls : LV} {st rest As : List Value} {w : Wd} {N : Nat} {sh : Nat → Nat × Nat} {I : Nat → Nat → Int32} {L : Nat → Nat → Int64} {R : Nat → Nat → Option Nat} {Post : Option Value → Wd → Prop} {d d' mc ms mc' ms' idx np b : Nat}
/-- the receiver's class is the method's -/
def RC (Z : ZT) (G : GT) (w : Wd) (b : Nat) (cn : String) : Prop := ∀ (H : Heap) (locs : List Loc), HW G w H → va_S (AG G) (zs Z).heap H locs → ∃ cell : Cell, H[ra G b]? = some cell ∧ cell.vm.isStatics = false ∧ (zs Z).vm.findClass cn = some cell.cls
theorem rc_obj (C : CX Z G mi own) {a ci n : Nat} {cn : String} {T : u_T} (hs : a < N ∧ sh a = (ci, n)) (hc : Nat.blt ci 20 = true) (hcl : cls[ci]? = some (cn, T, n)) : RC Z G (N, sh, I, L, R) a cn := by
  intro H locs hH hS
  have hv : (wsOf G (N, sh, I, L, R))[a]? = some (gb G + a, ent G sh I L R a) := wsA hs.1
  rw [ent_obj hs.2 (Nat.le_of_ble_eq_true hc)] at hv
  rw [ra_lt G (Nat.lt_trans hs.1 hH.2.2)]
  exact va_recv C.2.2.2.2.2.2.2.2.1.1 hH.1 hcl hv
theorem rc_sgn (C : CX Z G mi own) {i : Nat} (hi : i < 42) : RC Z G w (1000 + i) "TenTrials$Sign" := by
  intro H locs hH hS
  have hra : ra G (1000 + i) = gE G i := by
    unfold ra
    rw [if_neg (by omega), if_pos (by omega), show 1000 + i - 1000 = i by omega]
  obtain ⟨cell, c1, c2, c3, -⟩ := (C.2.2.2.2.2.2.2.2.1.2.2.1 i hi).2.1.kept hS.2.1
  rw [hra]
  exact ⟨cell, c1, c2, c3⟩
theorem rc_str (C : CX Z G mi own) {i : Nat} (hi : i < 67) : RC Z G w (2000 + i) "java/lang/String" := by
  intro H locs hH hS
  have hra : ra G (2000 + i) = gK G i := by
    unfold ra
    rw [if_neg (by omega), if_neg (by omega), if_pos (by omega), show 2000 + i - 2000 = i by omega]
  obtain ⟨cell, c1, c2, c3, -⟩ := (C.2.2.2.2.2.2.2.2.1.2.2.2.2.1 i hi).1.kept hS.2.1
  rw [hra]
  exact ⟨cell, c1, c2, c3⟩
theorem pre_blind {as : List Value} {w : Wd} : FrameBlind (va_Pc as (fun U => GW G U ∧ HW G w U.heap)) := fun a U g mk h => ⟨h.1, GW_blind g mk a h.2.1, h.2.2⟩
theorem roomOk (B : RB Z d mc ms) (hdd : Nat.ble (d' + 1) d = true) {k : Nat} (hk : k ≤ 40) {m1 m2 : Nat} : (rmD d' m1 m2).frames + 1 ≤ (zR Z).frames ∧ 8 + (k + 11) + (rmD d' m1 m2).locals ≤ (zR Z).locals := by
  have h := Nat.le_of_ble_eq_true hdd
  obtain ⟨b1, b2, -, -⟩ := B
  refine ⟨Nat.le_trans h b1, ?_⟩
  show 8 + (k + 11) + 60 * d' ≤ _
  omega
theorem j_callV' (C : CX Z G mi own) (B : RB Z d mc ms) (lk : LKV own idx mi' np) (hr : RC Z G w b mi'.1.cls) (hM : Mt (zl Z) G mi' d' mc' ms' (.ref (ra G b) :: As) w Post) (hst : st = As.reverse ++ .ref (ra G b) :: rest) (hn : As.length = np) (hdd : Nat.ble (d' + 1) d = true) (hW : Nat.ble (cats rest) 8 = true) (hcs : cs.1 + mc' ≤ mc ∧ cs.2 + ms' ≤ ms)
    (hd : decode mi.2.1 pc = .ok (.invokevirtual idx, 3)) (kk : ∀ (r : Option Value) (w' : Wd), Post r w' → J Z (cs.1 + mc', cs.2 + ms') (pc + 3) ls (ps r rest) w') : J Z cs pc ls st w := by
  intro H locs la hH hS hl
  have hG : zG Z = G := C.2.2.1
  rw [hG] at hH hS
  obtain ⟨lb, l1, l2, l3⟩ := lk
  have hts := C.2.2.2.2.2.2.1
  have cb : CallB (zR Z) (zs Z) (za Z) own idx mi'.1 mi'.2.1 mi'.2.2.1 mi'.2.2.2 (wY mi') (rmD d' mc' ms') mc' ms' np := callB_of np hts (goodY lb) rfl rfl rfl (hts _ lb.2.1) (hts _ l1) ⟨lb.2.2.1, lb.2.2.2.1, lb.2.2.2.2.1⟩ (roomOk B hdd lb.2.2.2.2.2)
  refine run_go (va_runV (As := As) (rest := rest) ⟨C.1, C.2.1, C.2.2.2.1, C.2.2.2.2.2.1, hts⟩ hM ⟨cb, hts _ l2, hts _ l3⟩ ⟨pre_blind, hr H locs hH hS, fun U hU hWm => ⟨rfl, GW_go C.2.2.2.2.2.2.2.2.1 hS hU hWm, by rw [hU]; exact hH⟩⟩ rfl hn hl.1 hst ?_ hd ⟨Nat.le_trans hcs.1 B.2.2.1, Nat.le_trans hcs.2 B.2.2.2⟩) hS (fun r w' H1 locs1 hp hH1 hS1 => kk r w' hp H1 locs1 la (by rw [hG]; exact hH1) (by rw [hG]; exact hS1) hl)
  have h8 := Nat.le_of_ble_eq_true hW
  show 2 * 0 + cats rest ≤ 8
  omega
theorem j_callS' (C : CX Z G mi own) (B : RB Z d mc ms) (lk : LKS own idx mi' np) (hM : Mt (zl Z) G mi' d' mc' ms' As w Post) (hst : st = As.reverse ++ rest) (hn : As.length = np) (hdd : Nat.ble (d' + 1) d = true) (hW : Nat.ble (cats rest) 8 = true) (hcs : cs.1 + mc' ≤ mc ∧ cs.2 + ms' ≤ ms)
    (hd : decode mi.2.1 pc = .ok (.invokestatic idx, 3)) (kk : ∀ (r : Option Value) (w' : Wd), Post r w' → J Z (cs.1 + mc', cs.2 + ms') (pc + 3) ls (ps r rest) w') : J Z cs pc ls st w := by
  intro H locs la hH hS hl
  have hG : zG Z = G := C.2.2.1
  rw [hG] at hH hS
  obtain ⟨lb, l1, l2⟩ := lk
  have hts := C.2.2.2.2.2.2.1
  have cb : CallB (zR Z) (zs Z) (za Z) own idx mi'.1 mi'.2.1 mi'.2.2.1 mi'.2.2.2 (wY mi') (rmD d' mc' ms') mc' ms' np := callB_of np hts (goodY lb) rfl rfl rfl (hts _ lb.2.1) (hts _ l1) ⟨lb.2.2.1, lb.2.2.2.1, lb.2.2.2.2.1⟩ (roomOk B hdd lb.2.2.2.2.2)
  refine run_go (va_runS (As := As) (rest := rest) ⟨C.1, C.2.1, C.2.2.2.1, C.2.2.2.2.2.1, hts⟩ hM ⟨cb, hts _ l2⟩ ⟨pre_blind, fun U hU hWm => ⟨rfl, GW_go C.2.2.2.2.2.2.2.2.1 hS hU hWm, by rw [hU]; exact hH⟩⟩ rfl hn hl.1 hst ?_ hd ⟨Nat.le_trans hcs.1 B.2.2.1, Nat.le_trans hcs.2 B.2.2.2⟩) hS (fun r w' H1 locs1 hp hH1 hS1 => kk r w' hp H1 locs1 la (by rw [hG]; exact hH1) (by rw [hG]; exact hS1) hl)
  have h8 := Nat.le_of_ble_eq_true hW
  show 2 * 0 + cats rest ≤ 8
  omega
theorem cnB (C : CX Z G mi own) (B : RB Z d mc ms) (lb : LB own idx mi' np) (l1 : (own, idx, mi'.1) ∈ nsL) (hdd : Nat.ble (d' + 1) d = true) : va_CN (zR Z) (zs Z) (za Z) own idx mi'.1 "TenTrials" mi'.2.1 mi'.2.2.1 mi'.2.2.2 (wY mi') (rmD d' mc' ms') mc' ms' np :=
  va_cnB np C.2.2.2.2.2.2.1 (goodY lb) rfl rfl rfl (C.2.2.2.2.2.2.2.2.1.2.1 _ l1) (C.2.2.2.2.2.2.1 _ lb.2.1) ⟨lb.2.2.1, lb.2.2.2.1, lb.2.2.2.2.1⟩ (roomOk B hdd lb.2.2.2.2.2)
theorem j_callSN' (C : CX Z G mi own) (B : RB Z d mc ms) (lk : LKSN own idx mi' np) (hM : Mt (zl Z) G mi' d' mc' ms' As w Post) (hst : st = As.reverse ++ rest) (hn : As.length = np) (hdd : Nat.ble (d' + 1) d = true) (hW : Nat.ble (cats rest) 8 = true) (hcs : cs.1 + mc' ≤ mc ∧ cs.2 + ms' ≤ ms)
    (hd : decode mi.2.1 pc = .ok (.invokestatic idx, 3)) (kk : ∀ (r : Option Value) (w' : Wd), Post r w' → J Z (cs.1 + mc', cs.2 + ms') (pc + 3) ls (ps r rest) w') : J Z cs pc ls st w := by
  intro H locs la hH hS hl
  have hG : zG Z = G := C.2.2.1
  rw [hG] at hH hS
  obtain ⟨lb, l1, l2⟩ := lk
  have hts := C.2.2.2.2.2.2.1
  refine run_go (va_runSN (As := As) (rest := rest) ⟨C.1, C.2.1, C.2.2.2.1, C.2.2.2.2.2.1, hts⟩ hM ⟨cnB C B lb l1 hdd, hts _ l2, trivial⟩ ⟨pre_blind, fun U hU hWm => ⟨rfl, GW_go C.2.2.2.2.2.2.2.2.1 hS hU hWm, by rw [hU]; exact hH⟩⟩ rfl hn hl.1 hst ?_ hd ⟨Nat.le_trans hcs.1 B.2.2.1, Nat.le_trans hcs.2 B.2.2.2⟩) hS (fun r w' H1 locs1 hp hH1 hS1 => kk r w' hp H1 locs1 la (by rw [hG]; exact hH1) (by rw [hG]; exact hS1) hl)
  have h8 := Nat.le_of_ble_eq_true hW
  show 2 * 0 + cats rest ≤ 8
  omega
theorem j_callI' (C : CX Z G mi own) (B : RB Z d mc ms) (lk : LKI own idx mi' np) (hM : Mt (zl Z) G mi' d' mc' ms' (.ref (ra G b) :: As) w Post) (hst : st = As.reverse ++ .ref (ra G b) :: rest) (hn : As.length = np) (hdd : Nat.ble (d' + 1) d = true) (hW : Nat.ble (cats rest) 8 = true) (hcs : cs.1 + mc' ≤ mc ∧ cs.2 + ms' ≤ ms)
    (hd : decode mi.2.1 pc = .ok (.invokespecial idx, 3)) (kk : ∀ (r : Option Value) (w' : Wd), Post r w' → J Z (cs.1 + mc', cs.2 + ms') (pc + 3) ls (ps r rest) w') : J Z cs pc ls st w := by
  intro H locs la hH hS hl
  have hG : zG Z = G := C.2.2.1
  rw [hG] at hH hS
  obtain ⟨lb, l1, l2, l3, l4⟩ := lk
  have hts := C.2.2.2.2.2.2.1
  have cb : CallB (zR Z) (zs Z) (za Z) own idx mi'.1 mi'.2.1 mi'.2.2.1 mi'.2.2.2 (wY mi') (rmD d' mc' ms') mc' ms' np := callB_of np hts (goodY lb) rfl rfl rfl (hts _ lb.2.1) (hts _ l1) ⟨lb.2.2.1, lb.2.2.2.1, lb.2.2.2.2.1⟩ (roomOk B hdd lb.2.2.2.2.2)
  rw [l3] at cb
  refine run_go (va_runI (As := As) (rest := rest) ⟨C.1, C.2.1, C.2.2.2.1, C.2.2.2.2.2.1, hts⟩ hM ⟨cb, l2, hts _ l4⟩ ⟨pre_blind, fun U hU hWm => ⟨rfl, GW_go C.2.2.2.2.2.2.2.2.1 hS hU hWm, by rw [hU]; exact hH⟩⟩ rfl hn hl.1 hst ?_ hd ⟨Nat.le_trans hcs.1 B.2.2.1, Nat.le_trans hcs.2 B.2.2.2⟩) hS (fun r w' H1 locs1 hp hH1 hS1 => kk r w' hp H1 locs1 la (by rw [hG]; exact hH1) (by rw [hG]; exact hS1) hl)
  have h8 := Nat.le_of_ble_eq_true hW
  show 2 * 0 + cats rest ≤ 8
  omega
theorem j_callIN' (C : CX Z G mi own) (B : RB Z d mc ms) (lk : LKIN own idx mi' np) (hM : Mt (zl Z) G mi' d' mc' ms' (.ref (ra G b) :: As) w Post) (hst : st = As.reverse ++ .ref (ra G b) :: rest) (hn : As.length = np) (hdd : Nat.ble (d' + 1) d = true) (hW : Nat.ble (cats rest) 8 = true) (hcs : cs.1 + mc' ≤ mc ∧ cs.2 + ms' ≤ ms)
    (hd : decode mi.2.1 pc = .ok (.invokespecial idx, 3)) (kk : ∀ (r : Option Value) (w' : Wd), Post r w' → J Z (cs.1 + mc', cs.2 + ms') (pc + 3) ls (ps r rest) w') : J Z cs pc ls st w := by
  intro H locs la hH hS hl
  have hG : zG Z = G := C.2.2.1
  rw [hG] at hH hS
  obtain ⟨lb, l1, l2, l3, l4⟩ := lk
  have hts := C.2.2.2.2.2.2.1
  have cb := cnB (mc' := mc') (ms' := ms') C B lb l1 hdd
  rw [l3] at cb
  refine run_go (va_runIN (As := As) (rest := rest) ⟨C.1, C.2.1, C.2.2.2.1, C.2.2.2.2.2.1, hts⟩ hM ⟨cb, l2, hts _ l4⟩ ⟨pre_blind, fun U hU hWm => ⟨rfl, GW_go C.2.2.2.2.2.2.2.2.1 hS hU hWm, by rw [hU]; exact hH⟩⟩ rfl hn hl.1 hst ?_ hd ⟨Nat.le_trans hcs.1 B.2.2.1, Nat.le_trans hcs.2 B.2.2.2⟩) hS (fun r w' H1 locs1 hp hH1 hS1 => kk r w' hp H1 locs1 la (by rw [hG]; exact hH1) (by rw [hG]; exact hS1) hl)
  have h8 := Nat.le_of_ble_eq_true hW
  show 2 * 0 + cats rest ≤ 8
  omega
/-! calls that make nothing -/
theorem j_callV (C : CX Z G mi own) (B : RB Z d mc ms) (lk : LKV own idx mi' np) (hr : RC Z G w b mi'.1.cls) (hM : Mt (zl Z) G mi' d' 0 0 (.ref (ra G b) :: As) w Post) (hst : st = As.reverse ++ .ref (ra G b) :: rest) (hn : As.length = np) (hdd : Nat.ble (d' + 1) d = true) (hW : Nat.ble (cats rest) 8 = true) (hcs : cs.1 ≤ mc ∧ cs.2 ≤ ms)
    (hd : decode mi.2.1 pc = .ok (.invokevirtual idx, 3)) (kk : ∀ (r : Option Value) (w' : Wd), Post r w' → J Z cs (pc + 3) ls (ps r rest) w') : J Z cs pc ls st w := j_callV' C B lk hr hM hst hn hdd hW hcs hd kk
theorem j_callS (C : CX Z G mi own) (B : RB Z d mc ms) (lk : LKS own idx mi' np) (hM : Mt (zl Z) G mi' d' 0 0 As w Post) (hst : st = As.reverse ++ rest) (hn : As.length = np) (hdd : Nat.ble (d' + 1) d = true) (hW : Nat.ble (cats rest) 8 = true) (hcs : cs.1 ≤ mc ∧ cs.2 ≤ ms)
    (hd : decode mi.2.1 pc = .ok (.invokestatic idx, 3)) (kk : ∀ (r : Option Value) (w' : Wd), Post r w' → J Z cs (pc + 3) ls (ps r rest) w') : J Z cs pc ls st w := j_callS' C B lk hM hst hn hdd hW hcs hd kk
theorem j_callSN (C : CX Z G mi own) (B : RB Z d mc ms) (lk : LKSN own idx mi' np) (hM : Mt (zl Z) G mi' d' 0 0 As w Post) (hst : st = As.reverse ++ rest) (hn : As.length = np) (hdd : Nat.ble (d' + 1) d = true) (hW : Nat.ble (cats rest) 8 = true) (hcs : cs.1 ≤ mc ∧ cs.2 ≤ ms)
    (hd : decode mi.2.1 pc = .ok (.invokestatic idx, 3)) (kk : ∀ (r : Option Value) (w' : Wd), Post r w' → J Z cs (pc + 3) ls (ps r rest) w') : J Z cs pc ls st w := j_callSN' C B lk hM hst hn hdd hW hcs hd kk
/-- an answer v, nothing changed -/
def pV (v : Value) (w : Wd) : Option Value → Wd → Prop := fun r w' => r = some v ∧ w' = w
/-- no answer, the world w -/
def pN (w : Wd) : Option Value → Wd → Prop := fun r w' => r = none ∧ w' = w
theorem j_cVp {v : Value} (C : CX Z G mi own) (B : RB Z d mc ms) (lk : LKV own idx mi' np) (hr : RC Z G w b mi'.1.cls) (hM : Mt (zl Z) G mi' d' 0 0 (.ref (ra G b) :: As) w (pV v w)) (hst : st = As.reverse ++ .ref (ra G b) :: rest) (hn : As.length = np) (hdd : Nat.ble (d' + 1) d = true) (hW : Nat.ble (cats rest) 8 = true) (hcs : cs.1 ≤ mc ∧ cs.2 ≤ ms)
    (hd : decode mi.2.1 pc = .ok (.invokevirtual idx, 3)) (kk : J Z cs (pc + 3) ls (v :: rest) w) : J Z cs pc ls st w := j_callV C B lk hr hM hst hn hdd hW hcs hd (fun r w' h => by obtain ⟨rfl, rfl⟩ := h; exact kk)
theorem j_cSp {v : Value} (C : CX Z G mi own) (B : RB Z d mc ms) (lk : LKS own idx mi' np) (hM : Mt (zl Z) G mi' d' 0 0 As w (pV v w)) (hst : st = As.reverse ++ rest) (hn : As.length = np) (hdd : Nat.ble (d' + 1) d = true) (hW : Nat.ble (cats rest) 8 = true) (hcs : cs.1 ≤ mc ∧ cs.2 ≤ ms)
    (hd : decode mi.2.1 pc = .ok (.invokestatic idx, 3)) (kk : J Z cs (pc + 3) ls (v :: rest) w) : J Z cs pc ls st w := j_callS C B lk hM hst hn hdd hW hcs hd (fun r w' h => by obtain ⟨rfl, rfl⟩ := h; exact kk)
theorem j_cSNp {v : Value} (C : CX Z G mi own) (B : RB Z d mc ms) (lk : LKSN own idx mi' np) (hM : Mt (zl Z) G mi' d' 0 0 As w (pV v w)) (hst : st = As.reverse ++ rest) (hn : As.length = np) (hdd : Nat.ble (d' + 1) d = true) (hW : Nat.ble (cats rest) 8 = true) (hcs : cs.1 ≤ mc ∧ cs.2 ≤ ms)
    (hd : decode mi.2.1 pc = .ok (.invokestatic idx, 3)) (kk : J Z cs (pc + 3) ls (v :: rest) w) : J Z cs pc ls st w := j_callSN C B lk hM hst hn hdd hW hcs hd (fun r w' h => by obtain ⟨rfl, rfl⟩ := h; exact kk)
/-! answers -/
theorem ZQ_ret {s t : State} {H : Heap} {locs : List Loc} {a : Array Value} {r : Option Value} (hp : Post r w) (hH : HW G w H) (hS : va_S (AG G) s.heap H locs) (ht : t.heap = H) : ZQ G Post a s (.returned r) t := ⟨⟨r, w, rfl, hp, by rw [ht]; exact hH⟩, hS.F ht⟩
theorem j_nret (C : CX Z G mi own) (P : CP Z mc ms Post) {v : Int32} {ty : FieldType} (hr : mi.2.2.2 = some ty) (hn : narrow ty (.int v) = .int v) (hd : decode mi.2.1 pc = .ok (.ireturn, 1)) (hcs : cs.1 ≤ mc ∧ cs.2 ≤ ms) (hp : Post (some (.int v)) w) : J Z cs pc ls [.int v] w := by
  intro H locs la hH hS hl
  have P' : zQ Z = _ := P
  rw [P']
  exact W.widen hcs.1 hcs.2 (W.zret C.1 C.2.1 (C.2.2.2.2.2.2.2.2.2.1.trans hr) hn (fun t ht _ => ZQ_ret hp hH hS ht) hS.2.2 hd C.2.2.2.2.2.2.2.1)
theorem j_iret (C : CX Z G mi own) (P : CP Z mc ms Post) {v : Int32} (hr : mi.2.2.2 = some .int) (hd : decode mi.2.1 pc = .ok (.ireturn, 1)) (hcs : cs.1 ≤ mc ∧ cs.2 ≤ ms) (hp : Post (some (.int v)) w) : J Z cs pc ls [.int v] w := j_nret C P hr rfl hd hcs hp
theorem j_zret (C : CX Z G mi own) (P : CP Z mc ms Post) {v : Int32} (hr : mi.2.2.2 = some .boolean) (hb : isB v) (hd : decode mi.2.1 pc = .ok (.ireturn, 1)) (hcs : cs.1 ≤ mc ∧ cs.2 ≤ ms) (hp : Post (some (.int v)) w) : J Z cs pc ls [.int v] w := j_nret C P hr (isB_n hb) hd hcs hp
theorem j_lret (C : CX Z G mi own) (P : CP Z mc ms Post) {v : Int64} (hr : mi.2.2.2 = some .long) (hd : decode mi.2.1 pc = .ok (.lreturn, 1)) (hcs : cs.1 ≤ mc ∧ cs.2 ≤ ms) (hp : Post (some (.long v)) w) : J Z cs pc ls [.long v] w := by
  intro H locs la hH hS hl
  have P' : zQ Z = _ := P
  rw [P']
  exact W.widen hcs.1 hcs.2 (W.lret C.1 C.2.1 (C.2.2.2.2.2.2.2.2.2.1.trans hr) (fun t ht _ => ZQ_ret hp hH hS ht) hS.2.2 hd C.2.2.2.2.2.2.2.1)
theorem j_aret (C : CX Z G mi own) (P : CP Z mc ms Post) {v : Nat} {rt : FieldType} (hr : mi.2.2.2 = some rt) (hrt : (∃ n, rt = .object n) ∨ ∃ t, rt = .array t) (hd : decode mi.2.1 pc = .ok (.areturn, 1)) (hcs : cs.1 ≤ mc ∧ cs.2 ≤ ms) (hp : Post (some (.ref v)) w) : J Z cs pc ls [.ref v] w := by
  intro H locs la hH hS hl
  have P' : zQ Z = _ := P
  rw [P']
  exact W.widen hcs.1 hcs.2 (W.aret C.1 C.2.1 (C.2.2.2.2.2.2.2.2.2.1.trans hr) hrt (Or.inr ⟨v, rfl⟩) (fun t ht _ => ZQ_ret hp hH hS ht) hS.2.2 hd C.2.2.2.2.2.2.2.1)
theorem j_vret (C : CX Z G mi own) (P : CP Z mc ms Post) (hr : mi.2.2.2 = none) (hd : decode mi.2.1 pc = .ok (.return_, 1)) (hcs : cs.1 ≤ mc ∧ cs.2 ≤ ms) (hp : Post none w) : J Z cs pc ls [] w := by
  intro H locs la hH hS hl
  have P' : zQ Z = _ := P
  rw [P']
  exact W.widen hcs.1 hcs.2 (W.vret C.1 C.2.1 (C.2.2.2.2.2.2.2.2.2.1.trans hr) (fun t ht _ => ZQ_ret hp hH hS ht) hS.2.2 hd C.2.2.2.2.2.2.2.1)
/-! Math -/
def LM (own : String) (idx : Nat) (y : MethodName) (c : ByteArray) (n : Nat) (t : FieldType) : Prop := Cond.methodLink own idx y ∈ tbl2 ∧ Cond.static y ∈ tbl2 ∧ Cond.initialized "java/lang/Math" ∈ tbl2 ∧ Cond.code y c n (some t) ∈ tbl2
theorem mathRoom (B : RB Z d mc ms) (hdd : Nat.ble 1 d = true) (hW : Nat.ble (cats st) 8 = true) (hcs : cs.1 ≤ mc ∧ cs.2 ≤ ms) : 1 ≤ (zR Z).frames ∧ (st.map fun v => v.category).sum + 15 ≤ (zR Z).locals ∧ cs.1 ≤ (zR Z).cells ∧ cs.2 ≤ (zR Z).slots := by
  have h1 := Nat.le_of_ble_eq_true hdd
  have h2 : (st.map fun v => v.category).sum ≤ 8 := Nat.le_of_ble_eq_true hW
  obtain ⟨b1, b2, b3, b4⟩ := B
  exact ⟨by omega, by omega, by omega, by omega⟩
theorem j_mmax (C : CX Z G mi own) (B : RB Z d mc ms) (lk : LM own idx Lib.Math.max.name Lib.Math.max.code 2 .int) {x y : Int32} (hdd : Nat.ble 1 d = true) (hW : Nat.ble (cats st) 8 = true) (hcs : cs.1 ≤ mc ∧ cs.2 ≤ ms) (hd : decode mi.2.1 pc = .ok (.invokestatic idx, 3)) (kk : J Z cs (pc + 3) ls (.int (if x < y then y else x) :: st) w) : J Z cs pc ls (.int y :: .int x :: st) w := by
  intro H locs la hH hS hl
  obtain ⟨r1, r2, r3, r4⟩ := mathRoom B hdd hW hcs
  have hts := C.2.2.2.2.2.2.1
  exact va_mmax C.1 C.2.1 (by rw [hl.1]; exact C.2.2.2.1) C.2.2.2.2.2.1 (hts _ lk.1) (hts _ lk.2.1) (hts _ lk.2.2.1) (hts _ lk.2.2.2) r1 (by omega) r3 r4 hd (kk H locs la hH hS hl)
theorem j_mmin (C : CX Z G mi own) (B : RB Z d mc ms) (lk : LM own idx Lib.Math.min.name Lib.Math.min.code 2 .int) {x y : Int32} (hdd : Nat.ble 1 d = true) (hW : Nat.ble (cats st) 8 = true) (hcs : cs.1 ≤ mc ∧ cs.2 ≤ ms) (hd : decode mi.2.1 pc = .ok (.invokestatic idx, 3)) (kk : J Z cs (pc + 3) ls (.int (if y < x then y else x) :: st) w) : J Z cs pc ls (.int y :: .int x :: st) w := by
  intro H locs la hH hS hl
  obtain ⟨r1, r2, r3, r4⟩ := mathRoom B hdd hW hcs
  have hts := C.2.2.2.2.2.2.1
  exact va_mmin C.1 C.2.1 (by rw [hl.1]; exact C.2.2.2.1) C.2.2.2.2.2.1 (hts _ lk.1) (hts _ lk.2.1) (hts _ lk.2.2.1) (hts _ lk.2.2.2) r1 (by omega) r3 r4 hd (kk H locs la hH hS hl)
theorem j_mabs (C : CX Z G mi own) (B : RB Z d mc ms) (lk : LM own idx Lib.Math.abs.name Lib.Math.abs.code 1 .int) {x : Int32} (hdd : Nat.ble 1 d = true) (hW : Nat.ble (cats st) 8 = true) (hcs : cs.1 ≤ mc ∧ cs.2 ≤ ms) (hd : decode mi.2.1 pc = .ok (.invokestatic idx, 3)) (kk : J Z cs (pc + 3) ls (.int (if 0 ≤ x then x else 0 - x) :: st) w) : J Z cs pc ls (.int x :: st) w := by
  intro H locs la hH hS hl
  obtain ⟨r1, r2, r3, r4⟩ := mathRoom B hdd hW hcs
  have hts := C.2.2.2.2.2.2.1
  exact va_mabs C.1 C.2.1 (by rw [hl.1]; exact C.2.2.2.1) C.2.2.2.2.2.1 (hts _ lk.1) (hts _ lk.2.1) (hts _ lk.2.2.1) (hts _ lk.2.2.2) r1 (by omega) r3 r4 hd (kk H locs la hH hS hl)
theorem j_mminL (C : CX Z G mi own) (B : RB Z d mc ms) (lk : LM own idx Lib.MathLoose.min_long.x Lib.MathLoose.min_long.code 4 .long) {x y : Int64} (hdd : Nat.ble 1 d = true) (hW : Nat.ble (cats st) 8 = true) (hcs : cs.1 ≤ mc ∧ cs.2 ≤ ms) (hd : decode mi.2.1 pc = .ok (.invokestatic idx, 3)) (kk : J Z cs (pc + 3) ls (.long (if y < x then y else x) :: st) w) : J Z cs pc ls (.long y :: .long x :: st) w := by
  intro H locs la hH hS hl
  obtain ⟨r1, r2, r3, r4⟩ := mathRoom B hdd hW hcs
  have hts := C.2.2.2.2.2.2.1
  exact va_mmin_long C.1 C.2.1 (by rw [hl.1]; exact C.2.2.2.1) C.2.2.2.2.2.1 (hts _ lk.1) (hts _ lk.2.1) (hts _ lk.2.2.1) (hts _ lk.2.2.2) r1 (by omega) r3 r4 hd (kk H locs la hH hS hl)
/-! signs -/
theorem ra_sgn (G : GT) {i : Nat} (hi : i < 42) : ra G (1000 + i) = gE G i := by
  unfold ra
  rw [if_neg (by omega), if_pos (by omega), show 1000 + i - 1000 = i by omega]
theorem j_gsgn (C : CX Z G mi own) {i : Nat} (hi : i < 42) (lk : Cond.fieldLink own idx "TenTrials$Sign" (sgL.getD i "") "LTenTrials$Sign;" ∈ tbl2) (hd : decode mi.2.1 pc = .ok (.getstatic idx, 3)) (kk : J Z cs (pc + 3) ls (.ref (ra G (1000 + i)) :: st) w) : J Z cs pc ls st w := by
  intro H locs la hH hS hl
  have hG : zG Z = G := C.2.2.1
  have kk := kk H locs la hH hS hl
  rw [hG] at hS
  rw [ra_sgn G hi] at kk
  exact va_gets C.1 C.2.1 (C.2.2.2.2.2.2.2.2.1.2.2.1 i hi).1 hS C.2.2.2.2.2.1 (C.2.2.2.2.2.2.1 _ lk) (fun _ h => h) hd kk
/-- two signs, by their numbers -/
theorem j_acmpS (C : CX Z G mi own) {rx : Option Nat} {i : Nat} (hi : i < 42) (hrx : ∀ r, rx = some r → ∃ j, j < 42 ∧ r = 1000 + j) {off : Int} (tgt : Nat) (hd : decode mi.2.1 pc = .ok (.if_acmp .ne off, 3)) (ht : (pc : Int) + off = (tgt : Int)) (kt : ¬ rx = some (1000 + i) → J Z cs tgt ls st w) (kf : rx = some (1000 + i) → J Z cs (pc + 3) ls st w) : J Z cs pc ls (.ref (ra G (1000 + i)) :: rv G rx :: st) w := by
  have h := j_acmp_ne (rx := rx) (ry := some (1000 + i)) (ls := ls) (st := st) (w := w) (cs := cs) C tgt hd ht
  refine h (fun z => kt (fun q => z (by rw [q]))) (fun z => kf ?_)
  cases rx with
  | none => cases z
  | some r =>
    obtain ⟨j, hj, rfl⟩ := hrx r rfl
    have z := Option.some.inj z
    rw [ra_sgn G hj, ra_sgn G hi] at z
    rw [C.2.2.2.2.2.2.2.2.1.2.2.2.1 j i hj hi z]
/-- the text of an entry of the pool -/
theorem j_ldcS (C : CX Z G mi own) {i : Nat} {tx : String} {by9 : List Int32} (hi : i < 67) (hq : stL[i]? = some (own, idx, tx, by9)) (hd : decode mi.2.1 pc = .ok (.ldc idx, 2)) (kk : J Z cs (pc + 2) ls (.ref (ra G (2000 + i)) :: st) w) : J Z cs pc ls st w := by
  intro H locs la hH hS hl
  have kk := kk H locs la hH hS hl
  have hra : ra G (2000 + i) = gK G i := by
    unfold ra
    rw [if_neg (by omega), if_neg (by omega), if_pos (by omega), show 2000 + i - 2000 = i by omega]
  rw [hra] at kk
  exact va_ldcS C.1 C.2.1 C.2.2.2.2.2.1 (C.2.2.2.2.2.2.2.2.1.2.2.2.2.2.1 i _ hq) hd kk
end JCALL
