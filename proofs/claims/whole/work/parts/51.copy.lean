/-! System.arraycopy inside an int[] -/
def LA (own : String) (idx : Nat) : Prop := Cond.methodLink own idx arraycopyName ∈ tbl2 ∧ Cond.static arraycopyName ∈ tbl2 ∧ Cond.initialized "java/lang/System" ∈ tbl2 ∧ Cond.native arraycopyName ∈ tbl2
def upR (I : Nat → Nat → Int32) (a : Nat) (f : Nat → Int32) : Nat → Nat → Int32 := fun b => if b = a then f else I b
theorem nI_cl {k : Nat} (h : k < 2147483648) : (nI k).toNatClampNeg = k := by
  show (nI k).toInt.toNat = k
  rw [nI_int h]; rfl
theorem nI_nn {k : Nat} (h : k < 2147483648) : ¬ nI k < 0 := fun z => by rw [i_lt, nI_int h, i0] at z; omega
/-- one cell is written, at several places -/
theorem vs_cell {A : Nat → Prop} {H0 H H1 : Heap} {locs ps : List Loc} {x : Nat} (hS : va_S A H0 H locs) (hz : H1.size = H.size) (ho : ∀ q, q ≠ x → H1[q]? = H[q]?) (hx : A x) (hL : ∀ z ∈ ps, z.base = x) : va_S A H0 H1 (locs ++ ps) := by
  refine ⟨hz ▸ hS.1, fun q h1 h2 => ?_, fun z hm => ?_⟩
  · by_cases e : q = x
    · exact absurd (e ▸ hx) h2
    · exact (ho q e).trans (hS.2.1 q h1 h2)
  · cases List.mem_append.mp hm with
    | inl h => exact hS.2.2 z h
    | inr h => exact (hL z h).symm ▸ hx
section ACOPY
variable {Z : ZT} {G : GT} {mi : MI} {own : String} {cs : Nat × Nat} {pc d mc ms idx : Nat} {ls : LV} {st : List Value} {N : Nat} {sh : Nat → Nat × Nat} {I : Nat → Nat → Int32} {L : Nat → Nat → Int64} {R : Nat → Nat → Option Nat}
theorem j_acopy (C : CX Z G mi own) (B : RB Z d mc ms) (lk : LA own idx) {a n sp dp k : Nat} (hs : a < N ∧ sh a = (20, n)) (hn : n < 1000) (h4 : sp + k ≤ n) (h5 : dp + k ≤ n) (hdd : 1 ≤ d) (hW : Nat.ble (cats st) 8 = true) (hcs : cs.1 ≤ mc ∧ cs.2 ≤ ms) (hd : decode mi.2.1 pc = .ok (.invokestatic idx, 3))
    (kk : J Z cs (pc + 3) ls st (N, sh, upR I a (va_cpy (I a) (I a) sp dp k), L, R)) : J Z cs pc ls (.int (nI k) :: .int (nI dp) :: .ref (ra G a) :: .int (nI sp) :: .ref (ra G a) :: st) (N, sh, I, L, R) := by
  intro H locs la hH hS hl
  have hts := C.2.2.2.2.2.2.1
  have hG : zG Z = G := C.2.2.1
  have hW2 : (st.map fun v => v.category).sum ≤ 8 := Nat.le_of_ble_eq_true hW
  obtain ⟨b1, b2, b3, b4⟩ := B
  rw [hG] at hH hS
  rw [ra_lt G (Nat.lt_trans hs.1 hH.2.2)]
  have hD := wsOf_D G (N, sh, I, L, R)
  have ha := wsI (G := G) (I := I) (L := L) (R := R) (kd := 0) hs (by omega)
  have hc1 : H[gb G + a]? = some (vp_cell (gA G 0) (n, .inl (I a))) := hH.1 a _ ha
  obtain ⟨-, k1, hk1, cm1, hkk1⟩ := (C.2.2.2.2.2.2.2.2.1.1.2 0 _ rfl).1 n (fun j => .int (I a j))
  have hnw : nativeFrameWords "java/lang/System" "arraycopy" 5 + 11 ≤ 50 := by decide
  intro T hT X
  obtain ⟨vm', X', step⟩ := X.arraycopy C.1 C.2.2.2.2.2.1 (hts _ lk.1) (hts _ lk.2.2.2) (hts _ lk.2.1) (hts _ lk.2.2.1) (src := gb G + a) (dst := gb G + a) (cs := vp_cell (gA G 0) (n, .inl (I a))) (cd := vp_cell (gA G 0) (n, .inl (I a))) (srcPos := nI sp) (destPos := nI dp) (n := nI k) (by rw [hT]; exact hc1) (by rw [hT]; exact hc1)
    (fun _ h => by cases h) (fun _ h => by cases h) (fun h => by cases h) (fun h => by cases h) hk1 hk1 hkk1 hkk1 (by simp [refKind]) (nI_nn (by omega)) (nI_nn (by omega)) (nI_nn (by omega))
    (by rw [nI_int (by omega), nI_int (by omega)]; show ¬ _ > ((arrV (gA G 0) n (fun j => .int (I a j))).slots.size : Int); rw [arrV_size]; omega)
    (by rw [nI_int (by omega), nI_int (by omega)]; show ¬ _ > ((arrV (gA G 0) n (fun j => .int (I a j))).slots.size : Int); rw [arrV_size]; omega)
    (fun vm1 _ i hi => by
      have hi2 : i < k := by rw [nI_cl (by omega)] at hi; exact hi
      have e : (vp_cell (gA G 0) (n, .inl (I a))).slots.getD ((nI sp).toNatClampNeg + i) .null = .int (I a ((nI sp).toNatClampNeg + i)) := by
        show (arrV (gA G 0) n (fun j => .int (I a j))).slots.getD _ _ = _
        rw [Array.getD_eq_getD_getElem?, arrV_read _ _ (by rw [nI_cl (by omega)]; omega)]
        rfl
      exact ⟨by rw [e]; rfl, by rw [e]; exact trivial⟩)
    (g := F0 (zm Z) pc la (.int (nI k) :: .int (nI dp) :: .ref (gb G + a) :: .int (nI sp) :: .ref (gb G + a) :: st)) rfl (by rw [hl.1]; exact C.2.2.2.1.symm) (rest := st) rfl (by rw [C.2.1]; exact hd) (by omega) (by show 2 * 0 + _ + (nativeFrameWords "java/lang/System" "arraycopy" 5 + 11) ≤ _; omega)
  have e1 : copied (vp_cell (gA G 0) (n, .inl (I a))) (vp_cell (gA G 0) (n, .inl (I a))) (nI sp) (nI dp) (nI k) = vp_cell (gA G 0) (n, .inl (va_cpy (I a) (I a) sp dp k)) := by
    have := va_copied (fun z : Int32 => Value.int z) (gA G 0) (gA G 0) (n0 := n) (n1 := n) (sp := (nI sp).toNatClampNeg) (dp := (nI dp).toNatClampNeg) (n := (nI k).toNatClampNeg) (I a) (I a) (by rw [nI_cl (by omega), nI_cl (by omega)]; exact h4)
    rw [nI_cl (show k < 2147483648 by omega), nI_cl (show sp < 2147483648 by omega), nI_cl (show dp < 2147483648 by omega)] at this
    have e2 : copied (vp_cell (gA G 0) (n, .inl (I a))) (vp_cell (gA G 0) (n, .inl (I a))) (nI sp) (nI dp) (nI k) = (arrV (gA G 0) n (fun j => .int (I a j))).storeRun (nI dp).toNatClampNeg ((arrV (gA G 0) n (fun j => .int (I a j))).stretch (nI sp).toNatClampNeg (nI k).toNatClampNeg) := rfl
    rw [e2, nI_cl (show k < 2147483648 by omega), nI_cl (show sp < 2147483648 by omega), nI_cl (show dp < 2147483648 by omega)]
    exact this
  rw [e1] at X' step
  have hrow : upR I a (va_cpy (I a) (I a) sp dp k) a = va_cpy (I a) (I a) sp dp k := if_pos rfl
  have he1 : ent G sh (upR I a (va_cpy (I a) (I a) sp dp k)) L R a = .inl (gA G 0, n, .inl (va_cpy (I a) (I a) sp dp k)) := by
    have := ent_int (G := G) (I := upR I a (va_cpy (I a) (I a) sp dp k)) (L := L) (R := R) (kd := 0) hs.2 (by omega)
    rw [hrow] at this
    exact this
  have he2 : ∀ b, b ≠ a → ent G sh (upR I a (va_cpy (I a) (I a) sp dp k)) L R b = ent G sh I L R b := fun b hb => by
    have hbr : upR I a (va_cpy (I a) (I a) sp dp k) b = I b := if_neg hb
    unfold ent fv
    rw [hbr]
  obtain ⟨U, hU⟩ : ∃ U : State, U = (T.setVm vm').setCell (gb G + a) (vp_cell (gA G 0) (n, .inl (va_cpy (I a) (I a) sp dp k))) := ⟨_, rfl⟩
  have u1 : U.heap[gb G + a]? = some (vp_cell (gA G 0) (n, .inl (va_cpy (I a) (I a) sp dp k))) := by
    rw [hU]
    exact heapAt_setCell_self _ (show gb G + a < T.heap.size by rw [hT]; exact (Array.getElem?_eq_some_iff.mp hc1).1)
  have u2 : ∀ q, q ≠ gb G + a → U.heap[q]? = H[q]? := fun q hq => by
    rw [hU, heapAt_setCell_ne _ (Ne.symm hq), ← hT]
    rfl
  have u3 : U.heap.size = H.size := by
    rw [hU, size_setCell, ← hT]
    rfl
  rw [← hU] at X' step
  obtain ⟨t, a1, b1⟩ := kk U.heap _ la (by rw [hG]; exact HW_set (w' := (N, sh, upR I a (va_cpy (I a) (I a) sp dp k), L, R)) hH rfl hs.1 he1 he2 (hH.1.set hD ha u1 u2) u3) (by rw [hG]; exact vs_cell hS u3 u2 (hD.2 a _ ha) (fun z hz => by obtain ⟨_, -, rfl⟩ := List.mem_map.mp hz; rfl)) hl U rfl X'
  exact ⟨t, step t a1, b1⟩
end ACOPY
theorem la_X2_31 : LA RX2 31 := ⟨inT_mem (i := 1234) (by decide +kernel), inT_mem (i := 1235) (by decide +kernel), inT_mem (i := 133) (by decide +kernel), inT_mem (i := 1236) (by decide +kernel)⟩
