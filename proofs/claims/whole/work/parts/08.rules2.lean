section ARR
variable {Z : ZT} {G : GT} {mi : MI} {own : String} {cs : Nat × Nat} {pc : Nat} {ls : LV} {st : List Value} {w : Wd} {N : Nat} {sh : Nat → Nat × Nat} {I : Nat → Nat → Int32} {L : Nat → Nat → Int64} {R : Nat → Nat → Option Nat}
theorem wsA {a : Nat} (h : a < N) : (wsOf G (N, sh, I, L, R))[a]? = some (gb G + a, ent G sh I L R a) := wsOf_at (w := (N, sh, I, L, R)) h
theorem wsI {a kd n : Nat} (hs : a < N ∧ sh a = (20 + kd, n)) (hk : kd < 3) : (wsOf G (N, sh, I, L, R))[a]? = some (gb G + a, .inl (gA G kd, n, .inl (I a))) := by rw [wsA hs.1, ent_int hs.2 hk]
theorem wsL {a n : Nat} (hs : a < N ∧ sh a = (23, n)) : (wsOf G (N, sh, I, L, R))[a]? = some (gb G + a, .inl (gA G 3, n, .inr (.inl (L a)))) := by rw [wsA hs.1, ent_long hs.2]
theorem wsR {a kd n : Nat} (hs : a < N ∧ sh a = (24 + kd, n)) : (wsOf G (N, sh, I, L, R))[a]? = some (gb G + a, .inl (gA G (4 + kd), n, .inr (.inr (.inr (.inr (fun j => (R a j).map (ra G))))))) := by rw [wsA hs.1, ent_ref hs.2]
theorem j_iald (C : CX Z G mi own) {a n k : Nat} {i : Int32} (hs : a < N ∧ sh a = (20, n)) (hi : ix i k n) (hd : decode mi.2.1 pc = .ok (.iaload, 1)) (kk : J Z cs (pc + 1) ls (.int (I a k) :: st) (N, sh, I, L, R)) : J Z cs pc ls (.int i :: .ref (ra G a) :: st) (N, sh, I, L, R) := by
  intro H locs la hH hS hl
  have hG : zG Z = G := C.2.2.1
  have kk := kk H locs la hH hS hl
  rw [hG] at hH
  rw [ra_lt G (Nat.lt_trans hs.1 hH.2.2)]
  exact va_iald C.1 C.2.1 C.2.2.2.2.2.2.2.2.1.1 hH.1 a 0 (wsI (kd := 0) hs (by omega)) rfl (ix_in hi) hd (by rw [ix_cl hi]; exact kk)
theorem j_bald (C : CX Z G mi own) {a n k : Nat} {i : Int32} (hs : a < N ∧ sh a = (21, n)) (hi : ix i k n) (hd : decode mi.2.1 pc = .ok (.baload, 1)) (kk : J Z cs (pc + 1) ls (.int (I a k) :: st) (N, sh, I, L, R)) : J Z cs pc ls (.int i :: .ref (ra G a) :: st) (N, sh, I, L, R) := by
  intro H locs la hH hS hl
  have hG : zG Z = G := C.2.2.1
  have kk := kk H locs la hH hS hl
  rw [hG] at hH
  rw [ra_lt G (Nat.lt_trans hs.1 hH.2.2)]
  exact va_bald C.1 C.2.1 C.2.2.2.2.2.2.2.2.1.1 hH.1 a 1 (wsI (kd := 1) hs (by omega)) rfl (ix_in hi) hd (by rw [ix_cl hi]; exact kk)
theorem j_zald (C : CX Z G mi own) {a n k : Nat} {i : Int32} (hs : a < N ∧ sh a = (22, n)) (hi : ix i k n) (hd : decode mi.2.1 pc = .ok (.baload, 1)) (kk : J Z cs (pc + 1) ls (.int (I a k) :: st) (N, sh, I, L, R)) : J Z cs pc ls (.int i :: .ref (ra G a) :: st) (N, sh, I, L, R) := by
  intro H locs la hH hS hl
  have hG : zG Z = G := C.2.2.1
  have kk := kk H locs la hH hS hl
  rw [hG] at hH
  rw [ra_lt G (Nat.lt_trans hs.1 hH.2.2)]
  exact va_zald C.1 C.2.1 C.2.2.2.2.2.2.2.2.1.1 hH.1 a 2 (wsI (kd := 2) hs (by omega)) rfl (ix_in hi) hd (by rw [ix_cl hi]; exact kk)
theorem j_lald (C : CX Z G mi own) {a n k : Nat} {i : Int32} (hs : a < N ∧ sh a = (23, n)) (hi : ix i k n) (hd : decode mi.2.1 pc = .ok (.laload, 1)) (kk : J Z cs (pc + 1) ls (.long (L a k) :: st) (N, sh, I, L, R)) : J Z cs pc ls (.int i :: .ref (ra G a) :: st) (N, sh, I, L, R) := by
  intro H locs la hH hS hl
  have hG : zG Z = G := C.2.2.1
  have kk := kk H locs la hH hS hl
  rw [hG] at hH
  rw [ra_lt G (Nat.lt_trans hs.1 hH.2.2)]
  exact va_lald C.1 C.2.1 C.2.2.2.2.2.2.2.2.1.1 hH.1 a 3 (wsL hs) rfl (ix_in hi) hd (by rw [ix_cl hi]; exact kk)
theorem tys_ref (G : GT) {kd : Nat} (h : kd < 4) : ∃ ty : FieldType, (tysL G)[4 + kd]? = some (gA G (4 + kd), ty) ∧ ty.isReference = true := by
  rcases (show kd = 0 ∨ kd = 1 ∨ kd = 2 ∨ kd = 3 by omega) with rfl | rfl | rfl | rfl
  · exact ⟨_, rfl, rfl⟩
  · exact ⟨_, rfl, rfl⟩
  · exact ⟨_, rfl, rfl⟩
  · exact ⟨_, rfl, rfl⟩
/-- a reference of a row: the row may hold null -/
theorem j_aaldv (C : CX Z G mi own) {a n k kd : Nat} {i : Int32} (hs : a < N ∧ sh a = (24 + kd, n)) (hkd : Nat.ble (kd + 1) 4 = true) (hi : ix i k n) (hd : decode mi.2.1 pc = .ok (.aaload, 1)) (kk : J Z cs (pc + 1) ls (rv G (R a k) :: st) (N, sh, I, L, R)) : J Z cs pc ls (.int i :: .ref (ra G a) :: st) (N, sh, I, L, R) := by
  intro H locs la hH hS hl
  have hG : zG Z = G := C.2.2.1
  have kk := kk H locs la hH hS hl
  rw [hG] at hH
  rw [ra_lt G (Nat.lt_trans hs.1 hH.2.2)]
  obtain ⟨ty, ht, hty⟩ := tys_ref G (Nat.le_of_ble_eq_true hkd)
  have hlt : i.toNatClampNeg < n := by rw [ix_cl hi]; exact hi.2
  exact W.aald (v := rv G (R a k)) (ty := ty) C.1 C.2.1 (hH.1 a _ (wsR hs)) ((C.2.2.2.2.2.2.2.2.1.1.2 (4 + kd) _ ht).1 n (fun j => va_rf ((R a j).map (ra G)))) hty (fun q => by cases q) (by show ¬ (i < 0 ∨ (arrV _ _ _).slots.size ≤ _); rw [arrV_size]; exact ix_in hi) (by show (arrV _ _ _).slots[_]? = _; rw [arrV_read _ _ hlt, ix_cl hi]; rfl) rfl rfl hd kk
theorem j_aald (C : CX Z G mi own) {a n k kd r : Nat} {i : Int32} (hs : a < N ∧ sh a = (24 + kd, n)) (hkd : Nat.ble (kd + 1) 4 = true) (hi : ix i k n) (hr : R a k = some r) (hd : decode mi.2.1 pc = .ok (.aaload, 1)) (kk : J Z cs (pc + 1) ls (.ref (ra G r) :: st) (N, sh, I, L, R)) : J Z cs pc ls (.int i :: .ref (ra G a) :: st) (N, sh, I, L, R) :=
  j_aaldv C hs hkd hi hd (by rw [hr]; exact kk)
theorem j_iast (C : CX Z G mi own) {a n k : Nat} {i x : Int32} (hs : a < N ∧ sh a = (20, n)) (hi : ix i k n) (hd : decode mi.2.1 pc = .ok (.iastore, 1)) (kk : J Z cs (pc + 1) ls st (N, sh, up2 I a k x, L, R)) : J Z cs pc ls (.int x :: .int i :: .ref (ra G a) :: st) (N, sh, I, L, R) := by
  intro H locs la hH hS hl
  have hG : zG Z = G := C.2.2.1
  rw [hG] at hH hS
  rw [ra_lt G (Nat.lt_trans hs.1 hH.2.2)]
  have hD := wsOf_D G (N, sh, I, L, R)
  have ha := wsI (G := G) (I := I) (L := L) (R := R) (kd := 0) hs (by omega)
  have hlt : i.toNatClampNeg < n := by rw [ix_cl hi]; exact hi.2
  refine W.iast C.1 C.2.1 (hH.1 a _ ha) ((C.2.2.2.2.2.2.2.2.1.1.2 0 _ rfl).1 n (fun j => .int (I a j))) (fun q => by cases q) (by show ¬ (i < 0 ∨ (arrV _ _ _).slots.size ≤ _); rw [arrV_size]; exact ix_in hi) rfl rfl hd fun H1 e z oq => ?_
  have e2 : H1[gb G + a]? = some (vp_cell (gA G 0) (n, .inl (upd (I a) k x))) := by
    rw [e, vp_cell_i, vp_cell_i, arrV_store, ix_cl hi]
    congr 2
    funext q
    by_cases hq : q = k
    · subst hq
      simp [updV, upd]
    · simp [updV, upd, hq]
  exact kk H1 _ la (by rw [hG]; exact HW_set (w' := (N, sh, up2 I a k x, L, R)) (e := .inl (gA G 0, n, .inl (upd (I a) k x))) hH rfl hs.1 (by rw [← up2_row]; exact ent_int (kd := 0) hs.2 (by omega)) (fun b hb => ent_upI hb) (hH.1.set hD ha e2 oq) z) (by rw [hG]; exact hS.put z oq (hD.2 a _ ha)) hl
theorem j_bast (C : CX Z G mi own) {a n k : Nat} {i x : Int32} (hs : a < N ∧ sh a = (21, n)) (hi : ix i k n) (hd : decode mi.2.1 pc = .ok (.bastore, 1)) (kk : J Z cs (pc + 1) ls st (N, sh, up2 I a k x.toInt8.toInt32, L, R)) : J Z cs pc ls (.int x :: .int i :: .ref (ra G a) :: st) (N, sh, I, L, R) := by
  intro H locs la hH hS hl
  have hG : zG Z = G := C.2.2.1
  rw [hG] at hH hS
  rw [ra_lt G (Nat.lt_trans hs.1 hH.2.2)]
  have hD := wsOf_D G (N, sh, I, L, R)
  have ha := wsI (G := G) (I := I) (L := L) (R := R) (kd := 1) hs (by omega)
  have hlt : i.toNatClampNeg < n := by rw [ix_cl hi]; exact hi.2
  refine W.bast C.1 C.2.1 (hH.1 a _ ha) ((C.2.2.2.2.2.2.2.2.1.1.2 1 _ rfl).1 n (fun j => .int (I a j))) (fun q => by cases q) (by show ¬ (i < 0 ∨ (arrV _ _ _).slots.size ≤ _); rw [arrV_size]; exact ix_in hi) rfl rfl hd fun H1 e z oq => ?_
  have e2 : H1[gb G + a]? = some (vp_cell (gA G 1) (n, .inl (upd (I a) k x.toInt8.toInt32))) := by
    rw [e, vp_cell_i, vp_cell_i, arrV_store, ix_cl hi]
    congr 2
    funext q
    by_cases hq : q = k
    · subst hq
      simp [updV, upd]
      try rfl
    · simp [updV, upd, hq]
  exact kk H1 _ la (by rw [hG]; exact HW_set (w' := (N, sh, up2 I a k x.toInt8.toInt32, L, R)) (e := .inl (gA G 1, n, .inl (upd (I a) k x.toInt8.toInt32))) hH rfl hs.1 (by rw [← up2_row]; exact ent_int (kd := 1) hs.2 (by omega)) (fun b hb => ent_upI hb) (hH.1.set hD ha e2 oq) z) (by rw [hG]; exact hS.put z oq (hD.2 a _ ha)) hl
theorem j_zast (C : CX Z G mi own) {a n k : Nat} {i x : Int32} (hs : a < N ∧ sh a = (22, n)) (hi : ix i k n) (hx : isB x) (hd : decode mi.2.1 pc = .ok (.bastore, 1)) (kk : J Z cs (pc + 1) ls st (N, sh, up2 I a k x, L, R)) : J Z cs pc ls (.int x :: .int i :: .ref (ra G a) :: st) (N, sh, I, L, R) := by
  intro H locs la hH hS hl
  have hG : zG Z = G := C.2.2.1
  rw [hG] at hH hS
  rw [ra_lt G (Nat.lt_trans hs.1 hH.2.2)]
  have hD := wsOf_D G (N, sh, I, L, R)
  have ha := wsI (G := G) (I := I) (L := L) (R := R) (kd := 2) hs (by omega)
  have hlt : i.toNatClampNeg < n := by rw [ix_cl hi]; exact hi.2
  refine W.zast C.1 C.2.1 (hH.1 a _ ha) ((C.2.2.2.2.2.2.2.2.1.1.2 2 _ rfl).1 n (fun j => .int (I a j))) (fun q => by cases q) (by show ¬ (i < 0 ∨ (arrV _ _ _).slots.size ≤ _); rw [arrV_size]; exact ix_in hi) rfl rfl hd fun H1 e z oq => ?_
  have e2 : H1[gb G + a]? = some (vp_cell (gA G 2) (n, .inl (upd (I a) k x))) := by
    rw [e, vp_cell_i, vp_cell_i, arrV_store, ix_cl hi]
    congr 2
    funext q
    by_cases hq : q = k
    · subst hq
      have hn := isB_n hx
      simp [updV, upd, hn]
    · simp [updV, upd, hq]
  exact kk H1 _ la (by rw [hG]; exact HW_set (w' := (N, sh, up2 I a k x, L, R)) (e := .inl (gA G 2, n, .inl (upd (I a) k x))) hH rfl hs.1 (by rw [← up2_row]; exact ent_int (kd := 2) hs.2 (by omega)) (fun b hb => ent_upI hb) (hH.1.set hD ha e2 oq) z) (by rw [hG]; exact hS.put z oq (hD.2 a _ ha)) hl
theorem j_last (C : CX Z G mi own) {a n k : Nat} {i : Int32} {x : Int64} (hs : a < N ∧ sh a = (23, n)) (hi : ix i k n) (hd : decode mi.2.1 pc = .ok (.lastore, 1)) (kk : J Z cs (pc + 1) ls st (N, sh, I, up2 L a k x, R)) : J Z cs pc ls (.long x :: .int i :: .ref (ra G a) :: st) (N, sh, I, L, R) := by
  intro H locs la hH hS hl
  have hG : zG Z = G := C.2.2.1
  rw [hG] at hH hS
  rw [ra_lt G (Nat.lt_trans hs.1 hH.2.2)]
  have hD := wsOf_D G (N, sh, I, L, R)
  have ha := wsL (G := G) (I := I) (L := L) (R := R) hs
  have hlt : i.toNatClampNeg < n := by rw [ix_cl hi]; exact hi.2
  refine W.last C.1 C.2.1 (hH.1 a _ ha) ((C.2.2.2.2.2.2.2.2.1.1.2 3 _ rfl).1 n (fun j => .long (L a j))) (fun q => by cases q) (by show ¬ (i < 0 ∨ (arrV _ _ _).slots.size ≤ _); rw [arrV_size]; exact ix_in hi) rfl rfl hd fun H1 e z oq => ?_
  have e2 : H1[gb G + a]? = some (vp_cell (gA G 3) (n, .inr (.inl (vp_updL (L a) k x)))) := by
    rw [e, vp_cell_l, vp_cell_l, arrV_store, ix_cl hi]
    congr 2
    funext q
    by_cases hq : q = k
    · subst hq
      simp [updV, vp_updL]
    · simp [updV, vp_updL, hq]
  exact kk H1 _ la (by rw [hG]; exact HW_set (w' := (N, sh, I, up2 L a k x, R)) (e := .inl (gA G 3, n, .inr (.inl (vp_updL (L a) k x)))) hH rfl hs.1 (by rw [← up2_rowL]; exact ent_long hs.2) (fun b hb => ent_upL hb) (hH.1.set hD ha e2 oq) z) (by rw [hG]; exact hS.put z oq (hD.2 a _ ha)) hl
theorem j_alen (C : CX Z G mi own) {a kd n : Nat} (hs : a < N ∧ sh a = (20 + kd, n)) (hkd : Nat.ble (kd + 1) 8 = true) (hd : decode mi.2.1 pc = .ok (.arraylength, 1)) (kk : J Z cs (pc + 1) ls (.int (nI n) :: st) (N, sh, I, L, R)) : J Z cs pc ls (.ref (ra G a) :: st) (N, sh, I, L, R) := by
  intro H locs la hH hS hl
  have hG : zG Z = G := C.2.2.1
  have kk := kk H locs la hH hS hl
  rw [hG] at hH
  rw [ra_lt G (Nat.lt_trans hs.1 hH.2.2)]
  have hK := C.2.2.2.2.2.2.2.2.1.1
  rcases (show kd < 3 ∨ kd = 3 ∨ 4 ≤ kd by omega) with h | h | h
  · rcases (show kd = 0 ∨ kd = 1 ∨ kd = 2 by omega) with rfl | rfl | rfl
    · exact va_alen C.1 C.2.1 hK hH.1 a 0 (wsI hs h) rfl rfl hd kk
    · exact va_alen C.1 C.2.1 hK hH.1 a 1 (wsI hs h) rfl rfl hd kk
    · exact va_alen C.1 C.2.1 hK hH.1 a 2 (wsI hs h) rfl rfl hd kk
  · subst h
    exact va_alen C.1 C.2.1 hK hH.1 a 3 (wsL hs) rfl rfl hd kk
  · obtain ⟨e, rfl⟩ : ∃ e, kd = 4 + e := ⟨kd - 4, by omega⟩
    have h8 := Nat.le_of_ble_eq_true hkd
    obtain ⟨ty, ht, -⟩ := tys_ref G (show e < 4 by omega)
    exact va_alen C.1 C.2.1 hK hH.1 a (4 + e) (wsR (kd := e) ⟨hs.1, by rw [hs.2]; congr 1; omega⟩) ht rfl hd kk
/-- a reference to a sign goes into a row of signs -/
theorem j_aastS (C : CX Z G mi own) {a n k r : Nat} {i : Int32} (hs : a < N ∧ sh a = (24, n)) (hi : ix i k n) (hr : r < 42) (hd : decode mi.2.1 pc = .ok (.aastore, 1)) (kk : J Z cs (pc + 1) ls st (N, sh, I, L, up2 R a k (some (1000 + r)))) : J Z cs pc ls (.ref (ra G (1000 + r)) :: .int i :: .ref (ra G a) :: st) (N, sh, I, L, R) := by
  intro H locs la hH hS hl
  have hG : zG Z = G := C.2.2.1
  rw [hG] at hH hS
  rw [ra_lt G (Nat.lt_trans hs.1 hH.2.2)]
  have hra : ra G (1000 + r) = gE G r := by
    unfold ra
    rw [if_neg (by omega), if_pos (by omega), show 1000 + r - 1000 = r by omega]
  have hD := wsOf_D G (N, sh, I, L, R)
  have ha := wsR (G := G) (I := I) (L := L) (R := R) (kd := 0) hs
  have hlt : i.toNatClampNeg < n := by rw [ix_cl hi]; exact hi.2
  have h0 : ¬ i < 0 := fun q => ix_in hi (Or.inl q)
  have hK := C.2.2.2.2.2.2.2.2.1.1
  obtain ⟨kA, comp, k1, k2, k3, -⟩ := (hK.2 4 (gA G 4, .object "TenTrials$Sign") rfl).2
  obtain ⟨kE, hkE, -⟩ := Vm.findClass_spec k3
  obtain ⟨cell, c1, c2, c3, -⟩ := (C.2.2.2.2.2.2.2.2.1.2.2.1 r hr).2.1.kept hS.2.1
  cases k3.symm.trans c3
  rw [hra]
  refine W.aast C.1 C.2.1 (hH.1 a _ ha) (fun q h => by cases h) (fun h => by cases h) k1 k2 rfl hkE ⟨h0, by show _ < (arrV _ _ _).slots.size; rw [arrV_size]; exact hlt⟩ c1 (fun q h => by rw [h] at c2; cases c2) hkE (va_asg _ _) rfl rfl hd fun H1 e z oq => ?_
  have e2 : H1[gb G + a]? = some (vp_cell (gA G 4) (n, .inr (.inr (.inr (.inr (fun j => (up2 R a k (some (1000 + r)) a j).map (ra G))))))) := by
    rw [e, vp_cell_q, vp_cell_q, arrV_store, ix_cl hi]
    congr 2
    funext q
    by_cases hq : q = k
    · subst hq
      simp [updV, up2, va_rf, hra]
    · simp [updV, up2, hq]
  exact kk H1 _ la (by rw [hG]; exact HW_set (w' := (N, sh, I, L, up2 R a k (some (1000 + r)))) (e := .inl (gA G 4, n, .inr (.inr (.inr (.inr (fun j => (up2 R a k (some (1000 + r)) a j).map (ra G))))))) hH rfl hs.1 (ent_ref (kd := 0) hs.2) (fun b hb => ent_upR hb) (hH.1.set hD ha e2 oq) z) (by rw [hG]; exact hS.put z oq (hD.2 a _ ha)) hl
/-- an object of the world goes into a row of its class -/
theorem j_aastO (C : CX Z G mi own) {a n k r kd ci nf : Nat} {i : Int32} {c : String} {T : u_T} (hs : a < N ∧ sh a = (24 + kd, n)) (hi : ix i k n) (ho : r < N ∧ sh r = (ci, nf)) (hc : Nat.blt ci 20 = true) (hcl : cls[ci]? = some (c, T, nf)) (hty : (tysL G)[4 + kd]? = some (gA G (4 + kd), .object c)) (hd : decode mi.2.1 pc = .ok (.aastore, 1)) (kk : J Z cs (pc + 1) ls st (N, sh, I, L, up2 R a k (some r))) : J Z cs pc ls (.ref (ra G r) :: .int i :: .ref (ra G a) :: st) (N, sh, I, L, R) := by
  intro H locs la hH hS hl
  have hG : zG Z = G := C.2.2.1
  rw [hG] at hH hS
  have hN : N < 1000 := hH.2.2
  have hra : ra G r = gb G + r := ra_lt G (Nat.lt_trans ho.1 hN)
  rw [ra_lt G (Nat.lt_trans hs.1 hN), hra]
  have hD := wsOf_D G (N, sh, I, L, R)
  have ha := wsR (G := G) (I := I) (L := L) (R := R) hs
  have hv : (wsOf G (N, sh, I, L, R))[r]? = some (gb G + r, ent G sh I L R r) := wsA ho.1
  rw [ent_obj ho.2 (Nat.le_of_ble_eq_true hc)] at hv
  have hlt : i.toNatClampNeg < n := by rw [ix_cl hi]; exact hi.2
  have h0 : ¬ i < 0 := fun q => ix_in hi (Or.inl q)
  have hK := C.2.2.2.2.2.2.2.2.1.1
  obtain ⟨r', hr', cellV, g1, g2, g3, -⟩ := hH.1 r _ hv
  have hcls := (hK.1 ci _ hcl).2
  obtain ⟨kA, comp, k1, k2, k3, -⟩ := (hK.2 (4 + kd) _ hty).2
  have hcomp : comp = (gD G).1 ci := Option.some.inj (k3.symm.trans hcls.1)
  subst hcomp
  obtain ⟨kC, hkC, -⟩ := hcls.2
  refine W.aast C.1 C.2.1 (hH.1 a _ ha) (fun q h => by cases h) (fun h => by cases h) k1 k2 rfl hkC ⟨h0, by show _ < (arrV _ _ _).slots.size; rw [arrV_size]; exact hlt⟩ g1 (fun q h => by rw [g3] at h; cases h) (by rw [g2]; exact hkC) (by rw [g2]; exact va_assign hcls) rfl rfl hd fun H1 e z oq => ?_
  have e2 : H1[gb G + a]? = some (vp_cell (gA G (4 + kd)) (n, .inr (.inr (.inr (.inr (fun j => (up2 R a k (some r) a j).map (ra G))))))) := by
    rw [e, vp_cell_q, vp_cell_q, arrV_store, ix_cl hi]
    congr 2
    funext q
    by_cases hq : q = k
    · subst hq
      simp [updV, up2, va_rf, hra]
    · simp [updV, up2, hq]
  exact kk H1 _ la (by rw [hG]; exact HW_set (w' := (N, sh, I, L, up2 R a k (some r))) (e := .inl (gA G (4 + kd), n, .inr (.inr (.inr (.inr (fun j => (up2 R a k (some r) a j).map (ra G))))))) hH rfl hs.1 (ent_ref hs.2) (fun b hb => ent_upR hb) (hH.1.set hD ha e2 oq) z) (by rw [hG]; exact hS.put z oq (hD.2 a _ ha)) hl
end ARR
