/-! BONUSES -/
def FrB (c : Nat) (I I' : Nat → Nat → Int32) : Prop := ∀ b j, ¬ (b = c + 5 ∧ j = 7) → b ≠ c + 9 → I' b j = I b j
theorem FrB.tr {c : Nat} {I I' I'' : Nat → Nat → Int32} (h : FrB c I I') (h' : FrB c I' I'') : FrB c I I'' := fun b j h1 h2 => (h' b j h1 h2).trans (h b j h1 h2)
theorem FrB.S {c : Nat} {I I' : Nat → Nat → Int32} (hc : isC c) (h : FrB c I I') : FrS I I' := fun b j hb => by
  unfold scr at hb
  rcases hc with rfl | rfl <;> exact h b j (by omega) (by omega)
/-- the pile f holds s, its top first -/
def PL (f : Nat → Int32) : List Int → Prop
  | [] => True
  | x :: r => (f r.length).toInt = x ∧ PL f r
theorem PL_of {f f' : Nat → Int32} : ∀ {s : List Int}, PL f s → (∀ j, j < s.length → f' j = f j) → PL f' s
  | [], _, _ => trivial
  | x :: r, h, hf => ⟨by rw [hf r.length (by simp)]; exact h.1, PL_of h.2 (fun j hj => hf j (by simp; omega))⟩
theorem join_p {op : Nat} {x y : Int32} (h : op = 6 ∨ op = 7 ∨ op = 8 ∨ op = 9 ∨ op = 10 ∨ op = 12 ∨ op = 13) : True := trivial
theorem one_int : (1 : Int32).toInt = 1 := by decide
theorem n1_int : (nI 1).toInt = 1 := by decide
theorem n0_int : (nI 0).toInt = 0 := by decide
set_option maxRecDepth 20000 in
theorem c_push (l : Launch) (G : GT) {c : Nat} (hc : isC c) {I : Nat → Nat → Int32} {L : Nat → Nat → Int64} {R : Nat → Nat → Option Nat} (hL : Lay R) (h : Nat) (x : Int32) (hh : h < 64) (hI : I (c + 5) 7 = nI h) : Mt l G mX0_push (0) 0 0 [.ref (ra G (c + 5)), .int x] (wd I L R) (pN (wd (up2 (up2 I (c + 9) h x) (c + 5) 7 (nI (h + 1))) L R)) := by
  refine mt_of (own := RX0) (by decide) rfl rfl (fun Z C P B => ?_)
  have D := @dc_of _ _ dX0_push
  refine j_aload_n C (D 0 rfl) rfl ?_
  refine j_geti C f_X0_35 (sC5 hc) rfl rfl (D 1 rfl) ?_
  rw [hI]
  refine j_aload_n C (D 2 rfl) rfl ?_
  refine j_getr C f_X0_21 (sC5 hc) rfl rfl (hL _ _ _ (rB6 hc)) (D 3 rfl) ?_
  refine j_alen C (kd := 0) (sC9 hc) rfl (D 4 rfl) ?_
  refine j_icmp_ge C  32 (D 5 rfl) (by decide) (fun h9 => absurd h9 (fun z => by rw [nle (by omega) (by omega)] at z; omega)) (fun h9 => ?_)
  refine j_aload_n C (D 6 rfl) rfl ?_
  refine j_getr C f_X0_21 (sC5 hc) rfl rfl (hL _ _ _ (rB6 hc)) (D 7 rfl) ?_
  refine j_aload_n C (D 8 rfl) rfl ?_
  refine j_geti C f_X0_35 (sC5 hc) rfl rfl (D 9 rfl) ?_
  rw [hI]
  refine j_iload_n C (D 10 rfl) rfl ?_
  refine j_iast C (sC9 hc) (ix_n hh (by decide)) (D 11 rfl) ?_
  refine j_aload_n C (D 12 rfl) rfl ?_
  refine j_dup C (D 13 rfl) rfl ?_
  refine j_geti C f_X0_35 (sC5 hc) rfl rfl (D 14 rfl) ?_
  rw [up2_i (by omega), hI]
  refine j_iconst C (v := nI 1) (D 15 rfl) rfl ?_
  refine j_iadd C (D 16 rfl) ?_
  rw [nI_add]
  refine j_puti C f_X0_35 (sC5 hc) rfl rfl (D 17 rfl) ?_
  exact j_vret C P rfl (D 18 rfl) ⟨Nat.le_refl _, Nat.le_refl _⟩ ⟨rfl, rfl⟩
set_option maxRecDepth 20000 in
theorem c_pop (l : Launch) (G : GT) {c : Nat} (hc : isC c) {I : Nat → Nat → Int32} {L : Nat → Nat → Int64} {R : Nat → Nat → Option Nat} (hL : Lay R) (h : Nat) (hh : h < 64) (hI : I (c + 5) 7 = nI (h + 1)) : Mt l G mX0_pop (0) 0 0 [.ref (ra G (c + 5))] (wd I L R) (fun r w' => r = some (.int (I (c + 9) h)) ∧ w' = wd (up2 I (c + 5) 7 (nI h)) L R) := by
  refine mt_of (own := RX0) (by decide) rfl rfl (fun Z C P B => ?_)
  have D := @dc_of _ _ dX0_pop
  refine j_aload_n C (D 0 rfl) rfl ?_
  refine j_geti C f_X0_35 (sC5 hc) rfl rfl (D 1 rfl) ?_
  rw [hI]
  refine j_iconst C (v := nI 1) (D 2 rfl) rfl ?_
  refine j_icmp_ge C  10 (D 3 rfl) (by decide) (fun h5 => ?_) (fun h5 => absurd h5 (fun z => z ((nle (by omega) (by omega)).mpr (by omega))))
  refine j_aload_n C (D 6 rfl) rfl ?_
  refine j_dup C (D 7 rfl) rfl ?_
  refine j_geti C f_X0_35 (sC5 hc) rfl rfl (D 8 rfl) ?_
  rw [hI]
  refine j_iconst C (v := nI 1) (D 9 rfl) rfl ?_
  refine j_isub C (D 10 rfl) ?_
  rw [pk_sub (by omega), show h + 1 - 1 = h by omega]
  refine j_puti C f_X0_35 (sC5 hc) rfl rfl (D 11 rfl) ?_
  refine j_aload_n C (D 12 rfl) rfl ?_
  refine j_getr C f_X0_21 (sC5 hc) rfl rfl (hL _ _ _ (rB6 hc)) (D 13 rfl) ?_
  refine j_aload_n C (D 14 rfl) rfl ?_
  refine j_geti C f_X0_35 (sC5 hc) rfl rfl (D 15 rfl) ?_
  rw [up2_same]
  refine j_iald C (sC9 hc) (ix_n hh (by decide)) (D 16 rfl) ?_
  rw [up2_i (by omega)]
  exact j_iret C P rfl (D 17 rfl) ⟨Nat.le_refl _, Nat.le_refl _⟩ ⟨rfl, rfl⟩
theorem two8 {x y : Int} : twoZ 8 x y = if x < y then 1 else 0 := by simp [twoZ]
theorem two9 {x y : Int} : twoZ 9 x y = if x = y then 1 else 0 := by simp [twoZ]
theorem two10 {x y : Int} : twoZ 10 x y = if y < x then 1 else 0 := by simp [twoZ]
set_option maxRecDepth 20000 in
theorem c_join (l : Launch) (G : GT) (w : Wd) (op : Nat) (x y : Int32) (hop : op = 6 ∨ op = 7 ∨ op = 8 ∨ op = 9 ∨ op = 10 ∨ op = 12 ∨ op = 13) (hx : -500000000 ≤ x.toInt ∧ x.toInt ≤ 500000000) (hy : -500000000 ≤ y.toInt ∧ y.toInt ≤ 500000000) (hf : op = 12 → isB x ∧ isB y) (hg : op = 13 → isB x ∧ isB y) : Mt l G mX0_join (0) 0 0 [.int (nI (cop op)), .int x, .int y] w (pV (.int (Int32.ofInt (twoZ op x.toInt y.toInt))) w) := by
  refine mt_of (own := RX0) (by decide) rfl rfl (fun Z C P B => ?_)
  have D := @dc_of _ _ dX0_join
  refine j_iload_n C (D 0 rfl) rfl ?_
  rcases hop with rfl | rfl | rfl | rfl | rfl | rfl | rfl
  · refine j_tableIn C 40 (D 1 rfl) (by decide) (by decide) rfl (by decide) ?_
    refine j_iload_n C (D 2 rfl) rfl ?_
    refine j_iload_n C (D 3 rfl) rfl ?_
    refine j_iadd C (D 4 rfl) ?_
    exact j_iret C P rfl (D 5 rfl) ⟨Nat.le_refl _, Nat.le_refl _⟩ (pv_i (eq_ofI (by rw [i_add (by omega) (by omega)]; rfl)))
  · refine j_tableIn C 44 (D 1 rfl) (by decide) (by decide) rfl (by decide) ?_
    refine j_iload_n C (D 6 rfl) rfl ?_
    refine j_iload_n C (D 7 rfl) rfl ?_
    refine j_isub C (D 8 rfl) ?_
    exact j_iret C P rfl (D 9 rfl) ⟨Nat.le_refl _, Nat.le_refl _⟩ (pv_i (eq_ofI (by rw [i_sub (by omega) (by omega)]; rfl)))
  · refine j_tableIn C 48 (D 1 rfl) (by decide) (by decide) rfl (by decide) ?_
    refine j_iload_n C (D 10 rfl) rfl ?_
    refine j_iload_n C (D 11 rfl) rfl ?_
    refine j_icmp_ge C  57 (D 12 rfl) (by decide) (fun h50 => ?_) (fun h50 => ?_)
    · refine j_iconst C (v := nI 0) (D 15 rfl) rfl ?_
      exact j_iret C P rfl (D 16 rfl) ⟨Nat.le_refl _, Nat.le_refl _⟩ (pv_i (eq_ofI (by rw [two8, if_neg (by rw [i_le] at h50; omega)]; decide)))
    · refine j_iconst C (v := nI 1) (D 13 rfl) rfl ?_
      refine j_goto C 58 (D 14 rfl) (by decide) ?_
      exact j_iret C P rfl (D 16 rfl) ⟨Nat.le_refl _, Nat.le_refl _⟩ (pv_i (eq_ofI (by rw [two8, if_pos (by rw [i_le] at h50; omega)]; decide)))
  · refine j_tableIn C 59 (D 1 rfl) (by decide) (by decide) rfl (by decide) ?_
    refine j_iload_n C (D 17 rfl) rfl ?_
    refine j_iload_n C (D 18 rfl) rfl ?_
    refine j_icmp_ne C  68 (D 19 rfl) (by decide) (fun h61 => ?_) (fun h61 => ?_)
    · refine j_iconst C (v := nI 0) (D 22 rfl) rfl ?_
      exact j_iret C P rfl (D 23 rfl) ⟨Nat.le_refl _, Nat.le_refl _⟩ (pv_i (eq_ofI (by rw [two9, if_neg (by rw [i_eq] at h61; omega)]; decide)))
    · refine j_iconst C (v := nI 1) (D 20 rfl) rfl ?_
      refine j_goto C 69 (D 21 rfl) (by decide) ?_
      exact j_iret C P rfl (D 23 rfl) ⟨Nat.le_refl _, Nat.le_refl _⟩ (pv_i (eq_ofI (by rw [two9, if_pos (by rw [i_eq] at h61; omega)]; decide)))
  · refine j_tableIn C 70 (D 1 rfl) (by decide) (by decide) rfl (by decide) ?_
    refine j_iload_n C (D 24 rfl) rfl ?_
    refine j_iload_n C (D 25 rfl) rfl ?_
    refine j_icmp_le C  79 (D 26 rfl) (by decide) (fun h72 => ?_) (fun h72 => ?_)
    · refine j_iconst C (v := nI 0) (D 29 rfl) rfl ?_
      exact j_iret C P rfl (D 30 rfl) ⟨Nat.le_refl _, Nat.le_refl _⟩ (pv_i (eq_ofI (by rw [two10, if_neg (by rw [i_le] at h72; omega)]; decide)))
    · refine j_iconst C (v := nI 1) (D 27 rfl) rfl ?_
      refine j_goto C 80 (D 28 rfl) (by decide) ?_
      exact j_iret C P rfl (D 30 rfl) ⟨Nat.le_refl _, Nat.le_refl _⟩ (pv_i (eq_ofI (by rw [two10, if_pos (by rw [i_le] at h72; omega)]; decide)))
  · refine j_tableIn C 81 (D 1 rfl) (by decide) (by decide) rfl (by decide) ?_
    refine j_iload_n C (D 31 rfl) rfl ?_
    refine j_iload_n C (D 32 rfl) rfl ?_
    refine j_iand C (D 33 rfl) ?_
    exact j_iret C P rfl (D 34 rfl) ⟨Nat.le_refl _, Nat.le_refl _⟩ (pv_i (by obtain ⟨hx, hy⟩ := hf rfl; rcases hx with rfl | rfl <;> rcases hy with rfl | rfl <;> decide))
  · refine j_tableOut C 85 (D 1 rfl) (by decide) (by decide) ?_
    refine j_iload_n C (D 35 rfl) rfl ?_
    refine j_iload_n C (D 36 rfl) rfl ?_
    refine j_ior C (D 37 rfl) ?_
    exact j_iret C P rfl (D 38 rfl) ⟨Nat.le_refl _, Nat.le_refl _⟩ (pv_i (by obtain ⟨hx, hy⟩ := hg rfl; rcases hx with rfl | rfl <;> rcases hy with rfl | rfl <;> decide))
theorem cop_le {op : Nat} (h : op ≤ 13) : cop op ≤ 13 := by unfold cop; split; omega; split; omega; split; omega; exact h
theorem cop_5 {op : Nat} : cop op ≤ 5 ↔ op ≤ 5 := by unfold cop; split; omega; split; omega; split; omega; exact Iff.rfl
theorem cop_id {op : Nat} (h : op ≤ 10) : cop op = op := by unfold cop; rw [if_neg (by omega), if_neg (by omega), if_neg (by omega)]
theorem cop_13 {op : Nat} (h : op ≤ 13) : cop op = 13 ↔ op = 11 := by unfold cop; split; omega; split; omega; split; omega; omega
theorem enc_n {q : Nat × Int32} {n : Nat} (h : WO n q) : ∃ m : Nat, m ≤ 99999 ∧ q.2 = nI m ∧ encC q = nI (cop q.1 * 100000 + m) := by
  obtain ⟨m, h1, h2, h3⟩ := i_nat h.2.1
  have h4 := h.2.2.1
  refine ⟨m, by omega, h2, ?_⟩
  unfold encC
  rw [h2, show (100000 : Int32) = nI 100000 from rfl, pk_mul, nI_add]
theorem enc_div {q : Nat × Int32} {n : Nat} (h : WO n q) : encC q / 100000 = nI (cop q.1) := by
  obtain ⟨m, h1, h2, h3⟩ := enc_n h
  have h4 := cop_le h.1
  rw [h3, show (100000 : Int32) = nI 100000 from rfl, pk_div (by omega) (by decide) (by decide)]
  congr 1
  omega
theorem enc_rem {q : Nat × Int32} {n : Nat} (h : WO n q) : encC q - encC q / 100000 * 100000 = q.2 := by
  obtain ⟨m, h1, h2, h3⟩ := enc_n h
  have h4 := cop_le h.1
  rw [h3, show (100000 : Int32) = nI 100000 from rfl, pk_rem (by omega) (by decide) (by decide), h2]
  congr 1
  omega
theorem ck_5 {op : Nat} {ts ts' : List Bool} (h5 : op ≤ 5) (h : ck1 op ts = some ts') : ts.length < 60 := by
  unfold ck1 at h
  rw [if_pos h5] at h
  by_cases hl : ts.length < 60
  · exact hl
  · rw [if_neg hl] at h; cases h
theorem ck_13 {op : Nat} {ts ts' : List Bool} (h : ck1 op ts = some ts') : op ≤ 13 := by
  rcases Nat.lt_or_ge 13 op with q | q
  · unfold ck1 at h
    rw [if_neg (by omega), if_neg (by omega), if_neg (by omega), if_neg (by omega), if_neg (by omega)] at h
    cases h
  · exact q
theorem ck_11 {ts ts' : List Bool} {s : List Int} (h : ck1 11 ts = some ts') (hf : fitsK ts s) : ∃ x r, s = x :: r ∧ (x = 0 ∨ x = 1) := by
  unfold ck1 at h
  rw [if_neg (by omega), if_pos rfl] at h
  match ts, s, hf, h with
  | true :: _, x :: r, hf, _ => exact ⟨x, r, rfl, hf.1⟩
  | false :: _, _ :: _, _, h => cases h
  | [], [], _, h => cases h
theorem ck_2 {op : Nat} {ts ts' : List Bool} {s : List Int} (h5 : ¬ op ≤ 5) (h11 : ¬ op = 11) (h : ck1 op ts = some ts') (hf : fitsK ts s) : ∃ y x r, s = y :: x :: r ∧ ((op = 12 ∨ op = 13) → (x = 0 ∨ x = 1) ∧ (y = 0 ∨ y = 1)) := by
  unfold ck1 at h
  rw [if_neg h5, if_neg h11] at h
  by_cases h67 : op = 6 ∨ op = 7
  · rw [if_pos h67] at h
    match ts, s, hf, h with
    | false :: false :: _, y :: x :: r, hf, _ => exact ⟨y, x, r, rfl, fun q => by omega⟩
    | false :: true :: _, _, _, h => cases h
    | true :: _, _, _, h => cases h
    | [false], _, _, h => cases h
    | [], _, _, h => cases h
  · rw [if_neg h67] at h
    by_cases h8 : op = 8 ∨ op = 9 ∨ op = 10
    · rw [if_pos h8] at h
      match ts, s, hf, h with
      | false :: false :: _, y :: x :: r, hf, _ => exact ⟨y, x, r, rfl, fun q => by omega⟩
      | false :: true :: _, _, _, h => cases h
      | true :: _, _, _, h => cases h
      | [false], _, _, h => cases h
      | [], _, _, h => cases h
    · rw [if_neg h8] at h
      by_cases h12 : op = 12 ∨ op = 13
      · rw [if_pos h12] at h
        match ts, s, hf, h with
        | true :: true :: _, y :: x :: r, hf, _ => exact ⟨y, x, r, rfl, fun _ => ⟨hf.2.1, hf.1⟩⟩
        | true :: false :: _, _, _, h => cases h
        | false :: _, _, _, h => cases h
        | [true], _, _, h => cases h
        | [], _, _, h => cases h
      · rw [if_neg h12] at h; cases h
theorem st1_5 {env : Nat → Int32 → Int} {op : Nat} {v : Int32} {s : List Int} (h : op ≤ 5) : st1 env op v s = env op v :: s := by unfold st1; rw [if_pos h]
theorem st1_11 {env : Nat → Int32 → Int} {v : Int32} {x : Int} {r : List Int} : st1 env 11 v (x :: r) = (1 - x) :: r := by unfold st1; rw [if_neg (by omega), if_pos rfl]
theorem st1_2 {env : Nat → Int32 → Int} {op : Nat} {v : Int32} {x y : Int} {r : List Int} (h5 : ¬ op ≤ 5) (h11 : ¬ op = 11) : st1 env op v (y :: x :: r) = twoZ op x y :: r := by unfold st1; rw [if_neg h5, if_neg h11]
theorem ck_len {op : Nat} {ts ts' : List Bool} (h : ck1 op ts = some ts') : ts'.length ≤ 60 ∨ ts'.length ≤ ts.length := by
  unfold ck1 at h
  by_cases h5 : op ≤ 5
  · rw [if_pos h5] at h
    by_cases hl : ts.length < 60
    · rw [if_pos hl] at h; cases h; left; simp; omega
    · rw [if_neg hl] at h; cases h
  · rw [if_neg h5] at h
    right
    by_cases h11 : op = 11
    · rw [if_pos h11] at h
      match ts, h with
      | true :: _, h => cases h; exact Nat.le_refl _
    · rw [if_neg h11] at h
      by_cases h67 : op = 6 ∨ op = 7
      · rw [if_pos h67] at h
        match ts, h with
        | false :: false :: _, h => cases h; simp
      · rw [if_neg h67] at h
        by_cases h8 : op = 8 ∨ op = 9 ∨ op = 10
        · rw [if_pos h8] at h
          match ts, h with
          | false :: false :: _, h => cases h; simp
        · rw [if_neg h8] at h
          by_cases h12 : op = 12 ∨ op = 13
          · rw [if_pos h12] at h
            match ts, h with
            | true :: true :: _, h => cases h; simp
          · rw [if_neg h12] at h; cases h
theorem B_of {x : Int32} {z : Int} (h : x.toInt = z) (hz : z = 0 ∨ z = 1) : isB x := hz.elim (fun q => Or.inl (i_eq.mpr (by rw [h, q]; rfl))) (fun q => Or.inr (i_eq.mpr (by rw [h, q]; rfl)))
theorem SC_B {c o : Nat} {I I' : Nat → Nat → Int32} {p : Nat → Int32} {g : Nat → Bool} {n : Nat} (hc : isC c) (ho : isS o) (h : FrB c I I') (hS : SC I o p g n) : SC I' o p g n := by
  have hr := isS_rng ho
  have hcc : c ≤ 55 := by rcases hc with rfl | rfl <;> omega
  exact ⟨by rw [h o 2 (by omega) (by omega)]; exact hS.1, fun e he => by rw [h (o + 1) e (by omega) (by omega), h (o + 2) e (by omega) (by omega)]; exact hS.2 e he⟩
theorem SK_B {c o : Nat} {I I' : Nat → Nat → Int32} {p : Nat → Int32} {g : Nat → Bool} {n : Nat} (hc : isC c) (ho : isS o) (h : FrB c I I') (hK : SK I o p g n) : SK I' o p g n := by
  have hr := isS_rng ho
  have hcc : c ≤ 55 := by rcases hc with rfl | rfl <;> omega
  unfold SK
  rw [h o 3 (by omega) (by omega), h o 4 (by omega) (by omega), h o 5 (by omega) (by omega), h o 6 (by omega) (by omega)]
  exact hK
set_option maxRecDepth 20000 in
theorem c_isSo (l : Launch) (G : GT) {c : Nat} (hc : isC c) {o : Nat} (ho : isS o) {I : Nat → Nat → Int32} {L : Nat → Nat → Int64} {R : Nat → Nat → Option Nat} (hL : Lay R) {V : VT} (hV : WV V) (hT : CT I c V) {p : Nat → Int32} {g : Nat → Bool} (hp : pz p g (vE V)) (hS : SC I o p g (vE V)) (hK : SK I o p g (vE V)) (k : Nat) (hk : k < vB V) : Mt l G mX0_isSo (1) 0 0 [.ref (ra G (c + 5)), .int (nI k), .ref (ra G o)] (wd I L R) (fun r w' => r = some (.int (b2 (tstS (envZ p g (vE V)) (vts V k) = true))) ∧ ∃ I', w' = wd I' L R ∧ FrB c I I') := by
  refine mt_of (own := RX0) (by decide) rfl rfl (fun Z C P B => ?_)
  have D := @dc_of _ _ dX0_isSo
  have hk4 := hV.2.2.1
  have hoff := hV.2.2.2.2.2.2.2
  have hofk : off (vts V) k + (vts V k).length ≤ off (vts V) (vB V) := off_mono (vts V) (j := k + 1) (k := vB V) (by omega)
  have Lp : ∀ (t2 t1 : OPS) (s : List Int) (ts : List Bool) (x4 x5 : Option Value) (I1 : Nat → Nat → Int32), vts V k = t1 ++ t2 → ckS t2 ts = some [true] → fitsK ts s → sumA s ≤ 99999 * t1.length → evS (envZ p g (vE V)) t2 s = evS (envZ p g (vE V)) (vts V k) [] → FrB c I I1 → I1 (c + 5) 7 = nI s.length → PL (I1 (c + 9)) s → ts.length ≤ 60 → J Z (0, 0) 12 [some (.ref (ra G (c + 5))), some (.int (nI k)), some (.ref (ra G o)), some (.int (nI (off (vts V) k + t1.length))), x4, x5] [] (wd I1 L R) := by
    intro t2
    induction t2 with
    | nil =>
      intro t1 s ts x4 x5 I1 hq hck hfit hsum hev hFB hh hPL hts60
      have ht1 : vts V k = t1 := by rw [hq]; simp
      have hlen : (vts V k).length = t1.length := by rw [ht1]
      have hok : off (vts V) (k + 1) = off (vts V) k + (vts V k).length := rfl
      have hts : ts = [true] := Option.some.inj hck
      subst hts
      obtain ⟨x, rfl⟩ : ∃ x, s = [x] := by
        match s, hfit with
        | [x], _ => exact ⟨x, rfl⟩
        | _ :: _ :: _, h => exact h.2.elim
      have hPL0 : (I1 (c + 9) 0).toInt = x := hPL.1
      refine j_iload_n C (D 8 rfl) rfl ?_
      refine j_aload_n C (D 9 rfl) rfl ?_
      refine j_getr C f_X0_15 (sC5 hc) rfl rfl (hL _ _ _ (rB2 hc)) (D 10 rfl) ?_
      refine j_iload_n C (D 11 rfl) rfl ?_
      refine j_iconst C (v := nI 1) (D 12 rfl) rfl ?_
      refine j_iadd C (D 13 rfl) ?_
      rw [nI_add]
      refine j_iald C (sC7 hc) (ix_n (by omega) (by decide)) (D 14 rfl) ?_
      rw [hFB (c + 7) _ (by omega) (by omega), hT.2.2.2.2.2.2.2.1 (k + 1) (by omega)]
      refine j_icmp_ge C  110 (D 15 rfl) (by decide) (fun h21 => ?_) (fun h21 => absurd h21 (fun z => z ((nle (by omega) (by omega)).mpr (by omega))))
      refine j_aload_n C (D 60 rfl) rfl ?_
      refine j_callV C B k_X0_48 (rc_obj C (sC5 hc) rfl rfl) (c_pop _ _ hc hL 0 (by decide) hh) rfl rfl rfl rfl ⟨Nat.le_refl _, Nat.le_refl _⟩ (D 61 rfl) ?_
      rintro r w' ⟨rfl, rfl⟩
      refine j_iconst C (v := nI 1) (D 62 rfl) rfl ?_
      refine j_icmp_ne C  122 (D 63 rfl) (by decide) (fun h115 => ?_) (fun h115 => ?_)
      · refine j_iconst C (v := nI 0) (D 66 rfl) rfl ?_
        exact j_zret C P rfl (by first | exact isB_1 | exact isB_0) (D 67 rfl) ⟨Nat.le_refl _, Nat.le_refl _⟩ ⟨by rw [← b2_f (p := tstS (envZ p g (vE V)) (vts V k) = true) (by rw [tstS, ← hev]; simp only [evS]; simp; intro z; exact h115 (i_eq.mpr (by rw [hPL0, z]; rfl)))], _, rfl, hFB.tr (fun b j q1 q2 => up2_i q1)⟩
      · refine j_iconst C (v := nI 1) (D 64 rfl) rfl ?_
        refine j_goto C 123 (D 65 rfl) (by decide) ?_
        exact j_zret C P rfl (by first | exact isB_1 | exact isB_0) (D 67 rfl) ⟨Nat.le_refl _, Nat.le_refl _⟩ ⟨by rw [← b2_t (p := tstS (envZ p g (vE V)) (vts V k) = true) (by rw [tstS, ← hev]; simp only [evS]; simp; rw [← hPL0]; exact i_eq.mp h115)], _, rfl, hFB.tr (fun b j q1 q2 => up2_i q1)⟩
    | cons q t ih =>
      intro t1 s ts x4 x5 I1 hq hck hfit hsum hev hFB hh hPL hts60
      have hlen : (vts V k).length = t1.length + t.length + 1 := by rw [hq]; simp; omega
      have hok : off (vts V) (k + 1) = off (vts V) k + (vts V k).length := rfl
      have hWO : WO (vE V) q := (hV.2.2.2.2.2.2.1 k hk).2.1 q (by rw [hq]; simp)
      have hec : I1 (c + 8) (off (vts V) k + t1.length) = encC q := by
        rw [hFB (c + 8) _ (by omega) (by omega)]
        exact hT.2.2.2.2.2.2.2.2.1 k hk t1.length q (by rw [hq]; simp)
      have hc13 := cop_le hWO.1
      have hq13 := hWO.1
      obtain ⟨ts', hk1, hk2⟩ : ∃ ts', ck1 q.1 ts = some ts' ∧ ckS t ts' = some [true] := by
        rw [ckS] at hck
        cases h9 : ck1 q.1 ts with
        | none => rw [h9] at hck; cases hck
        | some ts' => rw [h9] at hck; exact ⟨ts', rfl, hck⟩
      have hst := st1_ok (env := (envZ p g (vE V))) (v := q.2) hk1 hfit (fun h5 => by have := envZ_rng hV.1 hp h5 ⟨hWO.2.1, hWO.2.2.1⟩ hWO.2.2.2; omega)
      have hsl := fitsK_len hfit
      have hts' : ts'.length ≤ 60 := by have := ck_len hk1; omega
      have hle : (vts V k).length ≤ 1200 := by omega
      refine j_iload_n C (D 8 rfl) rfl ?_
      refine j_aload_n C (D 9 rfl) rfl ?_
      refine j_getr C f_X0_15 (sC5 hc) rfl rfl (hL _ _ _ (rB2 hc)) (D 10 rfl) ?_
      refine j_iload_n C (D 11 rfl) rfl ?_
      refine j_iconst C (v := nI 1) (D 12 rfl) rfl ?_
      refine j_iadd C (D 13 rfl) ?_
      rw [nI_add]
      refine j_iald C (sC7 hc) (ix_n (by omega) (by decide)) (D 14 rfl) ?_
      rw [hFB (c + 7) _ (by omega) (by omega), hT.2.2.2.2.2.2.2.1 (k + 1) (by omega)]
      refine j_icmp_ge C  110 (D 15 rfl) (by decide) (fun h21 => absurd h21 (fun z => by rw [nle (by omega) (by omega)] at z; omega)) (fun h21 => ?_)
      refine j_aload_n C (D 16 rfl) rfl ?_
      refine j_getr C f_X0_18 (sC5 hc) rfl rfl (hL _ _ _ (rB3 hc)) (D 17 rfl) ?_
      refine j_iload_n C (D 18 rfl) rfl ?_
      refine j_iald C (sC8 hc) (ix_n (by omega) (by decide)) (D 19 rfl) ?_
      rw [hec]
      refine j_ldc C (v := 100000) (D 20 rfl) n_X0_34 ?_
      refine j_idiv C (D 21 rfl) (by decide) ?_
      rw [enc_div hWO]
      refine j_istore C (D 22 rfl) rfl ?_
      refine j_iload C (D 23 rfl) rfl ?_
      refine j_iconst C (v := nI 5) (D 24 rfl) rfl ?_
      refine j_icmp_gt C  63 (D 25 rfl) (by decide) (fun h38 => ?_) (fun h38 => ?_)
      · have h5 : ¬ q.1 ≤ 5 := fun z => by rw [nlt (by omega) (by omega)] at h38; have := cop_5.mpr z; omega
        refine j_iload C (D 38 rfl) rfl ?_
        refine j_bipush C (v := nI 13) (D 39 rfl) rfl ?_
        refine j_icmp_ne C  83 (D 40 rfl) (by decide) (fun h67 => ?_) (fun h67 => ?_)
        · have h11 : ¬ q.1 = 11 := fun z => h67 (congrArg nI ((cop_13 (by omega)).mpr z))
          obtain ⟨y, x, r, rfl, hxy⟩ := ck_2 h5 h11 hk1 hfit
          have hPLy : (I1 (c + 9) (r.length + 1)).toInt = y := hPL.1
          have hPLx : (I1 (c + 9) r.length).toInt = x := hPL.2.1
          have hsy : y.natAbs + (x.natAbs + sumA r) ≤ 99999 * t1.length := hsum
          have htw : (twoZ q.1 x y).natAbs ≤ 99999 * t1.length + 99999 := by have := hst.2; rw [st1_2 h5 h11] at this; have t2 : (twoZ q.1 x y).natAbs + sumA r ≤ y.natAbs + (x.natAbs + sumA r) + 99999 := this; omega
          refine j_aload_n C (D 48 rfl) rfl ?_
          refine j_callV C B k_X0_48 (rc_obj C (sC5 hc) rfl rfl) (c_pop _ _ hc hL (r.length + 1) (by have : r.length + 1 + 1 = ts.length := hsl; omega) hh) rfl rfl rfl rfl ⟨Nat.le_refl _, Nat.le_refl _⟩ (D 49 rfl) ?_
          rintro r9 w' ⟨rfl, rfl⟩
          refine j_istore C (D 50 rfl) rfl ?_
          refine j_aload_n C (D 51 rfl) rfl ?_
          refine j_iload C (D 52 rfl) rfl ?_
          refine j_aload_n C (D 53 rfl) rfl ?_
          refine j_callV C B k_X0_48 (rc_obj C (sC5 hc) rfl rfl) (c_pop _ _ hc hL r.length (by have : r.length + 1 + 1 = ts.length := hsl; omega) (by rw [up2_same])) rfl rfl rfl rfl ⟨Nat.le_refl _, Nat.le_refl _⟩ (D 54 rfl) ?_
          rintro r9 w' ⟨rfl, rfl⟩
          rw [up2_i (by omega)]
          refine j_iload C (D 55 rfl) rfl ?_
          refine j_cSp C B k_X0_52 (c_join _ _ _ q.1 (I1 (c + 9) r.length) (I1 (c + 9) (r.length + 1)) (by omega) (by rw [hPL.2.1]; omega) (by have := hPL.1; rw [show (x :: r).length = r.length + 1 from rfl] at this; rw [this]; omega) (fun z => ⟨B_of hPL.2.1 (hxy (Or.inl z)).1, B_of hPL.1 (hxy (Or.inl z)).2⟩) (fun z => ⟨B_of hPL.2.1 (hxy (Or.inr z)).1, B_of hPL.1 (hxy (Or.inr z)).2⟩)) rfl rfl rfl rfl ⟨Nat.le_refl _, Nat.le_refl _⟩ (D 56 rfl) ?_
          refine j_callV C B k_X0_44 (rc_obj C (sC5 hc) rfl rfl) (c_push _ _ hc hL r.length _ (by have : r.length + 1 + 1 = ts.length := hsl; omega) (by rw [up2_same])) rfl rfl rfl rfl ⟨Nat.le_refl _, Nat.le_refl _⟩ (D 57 rfl) ?_
          rintro r9 w' ⟨rfl, rfl⟩
          first | refine j_iinc1 C (D 58 rfl) rfl rfl ?_ | refine j_iinc C (D 58 rfl) rfl rfl rfl ?_
          refine j_goto C 12 (D 59 rfl) (by decide) ?_
          rw [show off (vts V) k + t1.length + 1 = off (vts V) k + (t1 ++ [q]).length by simp; omega]
          rw [st1_2 h5 h11] at hst
          exact ih (t1 ++ [q]) _ ts' _ _ _ (by rw [hq]; simp) hk2 hst.1 (by rw [List.length_append]; simp only [List.length_singleton]; have := hst.2; omega) (by rw [← hev, evS, st1_2 h5 h11]) (hFB.tr (fun b j q1 q2 => by rw [up2_i q1, up2_i (by omega), up2_i q1, up2_i q1])) (by rw [up2_same]; rfl) ⟨by rw [up2_i (by omega), up2_same, ofI (by rw [hPLx, hPLy]; omega) (by rw [hPLx, hPLy]; omega), hPLx, hPLy], PL_of hPL.2.2 (fun j hj => by rw [up2_i (by omega), up2_i (by omega), up2_i (by omega), up2_i (by omega)])⟩ hts'
        · have h11 : q.1 = 11 := (cop_13 (by omega)).mp (nI_inj (by omega) (by decide) h67)
          rw [h11] at hk1
          obtain ⟨x, r, rfl, hx01⟩ := ck_11 hk1 hfit
          rw [← h11] at hk1
          refine j_aload_n C (D 41 rfl) rfl ?_
          refine j_iconst C (v := nI 1) (D 42 rfl) rfl ?_
          refine j_aload_n C (D 43 rfl) rfl ?_
          refine j_callV C B k_X0_48 (rc_obj C (sC5 hc) rfl rfl) (c_pop _ _ hc hL r.length (by have : r.length + 1 = ts.length := hsl; omega) hh) rfl rfl rfl rfl ⟨Nat.le_refl _, Nat.le_refl _⟩ (D 44 rfl) ?_
          rintro r9 w' ⟨rfl, rfl⟩
          refine j_isub C (D 45 rfl) ?_
          have hsub : (nI 1 - I1 (c + 9) r.length).toInt = 1 - x := by rw [i_sub (by rw [n1_int, hPL.1]; omega) (by rw [n1_int, hPL.1]; omega), n1_int, hPL.1]
          refine j_callV C B k_X0_44 (rc_obj C (sC5 hc) rfl rfl) (c_push _ _ hc hL r.length _ (by have : r.length + 1 = ts.length := hsl; omega) (by rw [up2_same])) rfl rfl rfl rfl ⟨Nat.le_refl _, Nat.le_refl _⟩ (D 46 rfl) ?_
          rintro r9 w' ⟨rfl, rfl⟩
          refine j_goto C 104 (D 47 rfl) (by decide) ?_
          first | refine j_iinc1 C (D 58 rfl) rfl rfl ?_ | refine j_iinc C (D 58 rfl) rfl rfl rfl ?_
          refine j_goto C 12 (D 59 rfl) (by decide) ?_
          rw [show off (vts V) k + t1.length + 1 = off (vts V) k + (t1 ++ [q]).length by simp; omega]
          rw [h11, st1_11] at hst
          exact ih (t1 ++ [q]) _ ts' _ _ _ (by rw [hq]; simp) hk2 hst.1 (by rw [List.length_append]; simp only [List.length_singleton]; have := hst.2; omega) (by rw [← hev, evS, h11, st1_11]) (hFB.tr (fun b j q1 q2 => by rw [up2_i q1, up2_i (by omega), up2_i q1])) (by rw [up2_same]; rfl) ⟨by rw [up2_i (by omega), up2_same]; exact hsub, PL_of hPL.2 (fun j hj => by rw [up2_i (by omega), up2_i (by omega), up2_i (by omega)])⟩ hts'
      · have h5 : q.1 ≤ 5 := by rw [nlt (by omega) (by omega)] at h38; exact cop_5.mp (by omega)
        rw [cop_id (by omega)]
        have hl60 := ck_5 h5 hk1
        have henv := envZ_rng hV.1 hp h5 ⟨hWO.2.1, hWO.2.2.1⟩ hWO.2.2.2
        refine j_aload_n C (D 26 rfl) rfl ?_
        refine j_aload_n C (D 27 rfl) rfl ?_
        refine j_iload C (D 28 rfl) rfl ?_
        refine j_aload_n C (D 29 rfl) rfl ?_
        refine j_getr C f_X0_18 (sC5 hc) rfl rfl (hL _ _ _ (rB3 hc)) (D 30 rfl) ?_
        refine j_iload_n C (D 31 rfl) rfl ?_
        refine j_iald C (sC8 hc) (ix_n (by omega) (by decide)) (D 32 rfl) ?_
        rw [hec]
        refine j_ldc C (v := 100000) (D 33 rfl) n_X0_34 ?_
        refine j_irem C (D 34 rfl) (by decide) ?_
        rw [enc_rem hWO]
        refine j_cVp C B k_X0_38 (rc_obj C (sS0 ho) rfl rfl) (c_word _ _ ho hL hV.1 hp (SC_B hc ho hFB hS) (SK_B hc ho hFB hK) q.1 q.2 h5 ⟨hWO.2.1, hWO.2.2.1⟩ hWO.2.2.2) rfl rfl rfl rfl ⟨Nat.le_refl _, Nat.le_refl _⟩ (D 35 rfl) ?_
        refine j_callV C B k_X0_44 (rc_obj C (sC5 hc) rfl rfl) (c_push _ _ hc hL s.length _ (by omega) hh) rfl rfl rfl rfl ⟨Nat.le_refl _, Nat.le_refl _⟩ (D 36 rfl) ?_
        rintro r w' ⟨rfl, rfl⟩
        refine j_goto C 104 (D 37 rfl) (by decide) ?_
        first | refine j_iinc1 C (D 58 rfl) rfl rfl ?_ | refine j_iinc C (D 58 rfl) rfl rfl rfl ?_
        refine j_goto C 12 (D 59 rfl) (by decide) ?_
        rw [show off (vts V) k + t1.length + 1 = off (vts V) k + (t1 ++ [q]).length by simp; omega]
        rw [st1_5 h5] at hst
        exact ih (t1 ++ [q]) _ ts' _ _ _ (by rw [hq]; simp) hk2 hst.1 (by rw [List.length_append]; simp only [List.length_singleton]; have := hst.2; omega) (by rw [← hev, evS, st1_5 h5]) (hFB.tr (fun b j q1 q2 => by rw [up2_i q1, up2_i (by omega)])) (by rw [up2_same]; rfl) ⟨by rw [up2_i (by omega), up2_same, ofI (by omega) (by omega)], PL_of hPL (fun j hj => by rw [up2_i (by omega), up2_i (by omega)])⟩ hts'
  refine j_aload_n C (D 0 rfl) rfl ?_
  refine j_iconst C (v := nI 0) (D 1 rfl) rfl ?_
  refine j_puti C f_X0_35 (sC5 hc) rfl rfl (D 2 rfl) ?_
  refine j_aload_n C (D 3 rfl) rfl ?_
  refine j_getr C f_X0_15 (sC5 hc) rfl rfl (hL _ _ _ (rB2 hc)) (D 4 rfl) ?_
  refine j_iload_n C (D 5 rfl) rfl ?_
  refine j_iald C (sC7 hc) (ix_n (by omega) (by decide)) (D 6 rfl) ?_
  rw [up2_i (by omega), hT.2.2.2.2.2.2.2.1 k (by omega)]
  refine j_istore_n C (D 7 rfl) rfl ?_
  exact Lp (vts V k) [] [] [] _ _ _ rfl (hV.2.2.2.2.2.2.1 k hk).2.2 trivial (Nat.zero_le _) rfl (fun b j q1 q2 => up2_i q1) (by rw [up2_same]; rfl) trivial (by decide)
/-- what the bonuses come to -/
def paidS (V : VT) (p : Nat → Int32) (g : Nat → Bool) : Int32 := sumN (fun j => if tstS (envZ p g (vE V)) (vts V j) = true then vbn V j else 0) (vB V)
def FrBo (c o : Nat) (I I' : Nat → Nat → Int32) : Prop := ∀ b j, ¬ (b = c + 5 ∧ j = 7) → b ≠ c + 9 → ¬ (b = o ∧ j = 7) → I' b j = I b j
theorem FrBo.S {c o : Nat} {I I' : Nat → Nat → Int32} (hc : isC c) (ho : isS o) (h : FrBo c o I I') : FrS I I' := fun b j hb => by
  have hr := isS_rng ho
  unfold scr at hb
  rcases hc with rfl | rfl <;> exact h b j (by omega) (by omega) (by omega)
theorem SC_Bo {c o : Nat} {I I' : Nat → Nat → Int32} {p : Nat → Int32} {g : Nat → Bool} {n : Nat} (hc : isC c) (ho : isS o) (h : FrBo c o I I') (hS : SC I o p g n) : SC I' o p g n := by
  have hr := isS_rng ho
  have hcc : c ≤ 55 := by rcases hc with rfl | rfl <;> omega
  exact ⟨by rw [h o 2 (by omega) (by omega) (by omega)]; exact hS.1, fun e he => by rw [h (o + 1) e (by omega) (by omega) (by omega), h (o + 2) e (by omega) (by omega) (by omega)]; exact hS.2 e he⟩
theorem SK_Bo {c o : Nat} {I I' : Nat → Nat → Int32} {p : Nat → Int32} {g : Nat → Bool} {n : Nat} (hc : isC c) (ho : isS o) (h : FrBo c o I I') (hK : SK I o p g n) : SK I' o p g n := by
  have hr := isS_rng ho
  have hcc : c ≤ 55 := by rcases hc with rfl | rfl <;> omega
  unfold SK
  rw [h o 3 (by omega) (by omega) (by omega), h o 4 (by omega) (by omega) (by omega), h o 5 (by omega) (by omega) (by omega), h o 6 (by omega) (by omega) (by omega)]
  exact hK
theorem paid_rng {V : VT} (hV : WV V) (p : Nat → Int32) (g : Nat → Bool) : 0 ≤ (paidS V p g).toInt ∧ (paidS V p g).toInt ≤ (sumN (vbn V) (vB V)).toInt ∧ (sumN (vbn V) (vB V)).toInt ≤ 2000 := by
  have h4 := hV.2.2.1
  have hb : ∀ k, k < vB V → 1 ≤ (vbn V k).toInt ∧ (vbn V k).toInt ≤ 500 := fun k hk => (hV.2.2.2.2.2.2.1 k hk).1
  have key : ∀ n, n ≤ vB V → 0 ≤ (sumN (fun j => if tstS (envZ p g (vE V)) (vts V j) = true then vbn V j else 0) n).toInt ∧ (sumN (fun j => if tstS (envZ p g (vE V)) (vts V j) = true then vbn V j else 0) n).toInt ≤ (sumN (vbn V) n).toInt ∧ (sumN (vbn V) n).toInt ≤ 500 * n := by
    intro n
    induction n with
    | zero => intro _; simp only [sumN]; exact ⟨by decide, by decide, by decide⟩
    | succ n ih =>
      intro hn
      have i1 := ih (by omega)
      have h1 := hb n (by omega)
      have e2 : (sumN (vbn V) (n + 1)).toInt = (sumN (vbn V) n).toInt + (vbn V n).toInt := by rw [sumN, i_add (by omega) (by omega)]
      by_cases q : tstS (envZ p g (vE V)) (vts V n) = true
      · have e1 : (sumN (fun j => if tstS (envZ p g (vE V)) (vts V j) = true then vbn V j else 0) (n + 1)).toInt = (sumN (fun j => if tstS (envZ p g (vE V)) (vts V j) = true then vbn V j else 0) n).toInt + (vbn V n).toInt := by
          rw [sumN, if_pos q, i_add (by omega) (by omega)]
        rw [e1, e2]; omega
      · have e1 : sumN (fun j => if tstS (envZ p g (vE V)) (vts V j) = true then vbn V j else 0) (n + 1) = sumN (fun j => if tstS (envZ p g (vE V)) (vts V j) = true then vbn V j else 0) n := by
          rw [sumN, if_neg q, Int32.add_zero]
        rw [e1, e2]; omega
  have := key (vB V) (Nat.le_refl _)
  unfold paidS
  omega
set_option maxRecDepth 20000 in
theorem c_pay (l : Launch) (G : GT) {c : Nat} (hc : isC c) {o : Nat} (ho : isS o) {I : Nat → Nat → Int32} {L : Nat → Nat → Int64} {R : Nat → Nat → Option Nat} (hL : Lay R) {V : VT} (hV : WV V) (hT : CT I c V) {p : Nat → Int32} {g : Nat → Bool} (hp : pz p g (vE V)) (hS : SC I o p g (vE V)) (hK : SK I o p g (vE V)) : Mt l G mX0_pay (2) 0 0 [.ref (ra G (c + 5)), .ref (ra G o)] (wd I L R) (fun r w' => r = none ∧ ∃ I', w' = wd I' L R ∧ FrBo c o I I' ∧ I' o 7 = paidS V p g) := by
  refine mt_of (own := RX0) (by decide) rfl rfl (fun Z C P B => ?_)
  have D := @dc_of _ _ dX0_pay
  have hk4 := hV.2.2.1
  have hr := isS_rng ho
  have hcc : c ≤ 55 := by rcases hc with rfl | rfl <;> omega
  have Lp : ∀ (m k : Nat) (I1 : Nat → Nat → Int32), k + m = vB V → FrBo c o I I1 → I1 o 7 = sumN (fun j => if tstS (envZ p g (vE V)) (vts V j) = true then vbn V j else 0) k → J Z (0, 0) 7 [some (.ref (ra G (c + 5))), some (.ref (ra G o)), some (.int (nI k))] [] (wd I1 L R) := by
    intro m
    induction m with
    | zero =>
      intro k I1 hk hF hpd
      refine j_iload_n C (D 5 rfl) rfl ?_
      refine j_aload_n C (D 6 rfl) rfl ?_
      refine j_geti C f_X0_24 (sC5 hc) rfl rfl (D 7 rfl) ?_
      rw [hF (c + 5) 1 (by omega) (by omega) (by omega), hT.2.2.2.1]
      refine j_icmp_ge C  49 (D 8 rfl) (by decide) (fun h12 => ?_) (fun h12 => absurd h12 (fun z => z ((nle (by omega) (by omega)).mpr (by omega))))
      exact j_vret C P rfl (D 27 rfl) ⟨Nat.le_refl _, Nat.le_refl _⟩ ⟨rfl, I1, rfl, hF, by rw [hpd, paidS, show vB V = k by omega]⟩
    | succ m ih =>
      intro k I1 hk hF hpd
      refine j_iload_n C (D 5 rfl) rfl ?_
      refine j_aload_n C (D 6 rfl) rfl ?_
      refine j_geti C f_X0_24 (sC5 hc) rfl rfl (D 7 rfl) ?_
      rw [hF (c + 5) 1 (by omega) (by omega) (by omega), hT.2.2.2.1]
      refine j_icmp_ge C  49 (D 8 rfl) (by decide) (fun h12 => absurd h12 (fun z => by rw [nle (by omega) (by omega)] at z; omega)) (fun h12 => ?_)
      refine j_aload_n C (D 9 rfl) rfl ?_
      refine j_dup C (D 10 rfl) rfl ?_
      refine j_geti C f_X0_56 (sS0 ho) rfl rfl (D 11 rfl) ?_
      rw [hpd]
      refine j_aload_n C (D 12 rfl) rfl ?_
      refine j_iload_n C (D 13 rfl) rfl ?_
      refine j_aload_n C (D 14 rfl) rfl ?_
      refine j_callV C B k_X0_59 (rc_obj C (sC5 hc) rfl rfl) (c_isSo _ _ hc ho hL hV (CT_fr hc hT (hF.S hc ho) hV.1) hp (SC_Bo hc ho hF hS) (SK_Bo hc ho hF hK) k (by omega)) rfl rfl rfl rfl ⟨Nat.le_refl _, Nat.le_refl _⟩ (D 15 rfl) ?_
      rintro r w' ⟨rfl, I2, rfl, hF2⟩
      refine j_if_eq C  38 (D 16 rfl) (by decide) (fun h26 => ?_) (fun h26 => ?_)
      · refine j_iconst C (v := nI 0) (D 22 rfl) rfl ?_
        refine j_iadd C (D 23 rfl) ?_
        rw [show nI 0 = (0 : Int32) from rfl, Int32.add_zero]
        refine j_puti C f_X0_56 (sS0 ho) rfl rfl (D 24 rfl) ?_
        first | refine j_iinc1 C (D 25 rfl) rfl rfl ?_ | refine j_iinc C (D 25 rfl) rfl rfl rfl ?_
        refine j_goto C 7 (D 26 rfl) (by decide) ?_
        exact ih (k + 1) _ (by omega) (fun b j q1 q2 q3 => by rw [up2_i q3, hF2 b j q1 q2, hF b j q1 q2 q3]) (by rw [up2_same, sumN, if_neg (b2_eq h26), Int32.add_zero])
      · refine j_aload_n C (D 17 rfl) rfl ?_
        refine j_getr C f_X0_9 (sC5 hc) rfl rfl (hL _ _ _ (rB0 hc)) (D 18 rfl) ?_
        refine j_iload_n C (D 19 rfl) rfl ?_
        refine j_iald C (sC6 hc) (ix_n (by omega) (by decide)) (D 20 rfl) ?_
        rw [hF2 (c + 6) k (by omega) (by omega), hF (c + 6) k (by omega) (by omega) (by omega), hT.2.2.2.2.2.2.1 k (by omega)]
        refine j_goto C 39 (D 21 rfl) (by decide) ?_
        refine j_iadd C (D 23 rfl) ?_
        refine j_puti C f_X0_56 (sS0 ho) rfl rfl (D 24 rfl) ?_
        first | refine j_iinc1 C (D 25 rfl) rfl rfl ?_ | refine j_iinc C (D 25 rfl) rfl rfl rfl ?_
        refine j_goto C 7 (D 26 rfl) (by decide) ?_
        exact ih (k + 1) _ (by omega) (fun b j q1 q2 q3 => by rw [up2_i q3, hF2 b j q1 q2, hF b j q1 q2 q3]) (by rw [up2_same, sumN, if_pos (b2_ne h26)])
  refine j_aload_n C (D 0 rfl) rfl ?_
  refine j_iconst C (v := nI 0) (D 1 rfl) rfl ?_
  refine j_puti C f_X0_56 (sS0 ho) rfl rfl (D 2 rfl) ?_
  refine j_iconst C (v := nI 0) (D 3 rfl) rfl ?_
  refine j_istore_n C (D 4 rfl) rfl ?_
  exact Lp (vB V) 0 _ (by omega) (fun b j q1 q2 q3 => up2_i q3) (by rw [up2_same]; rfl)
set_option maxRecDepth 20000 in
theorem c_comesTo (l : Launch) (G : GT) {c : Nat} (hc : isC c) {o : Nat} (ho : isS o) {I : Nat → Nat → Int32} {L : Nat → Nat → Int64} {R : Nat → Nat → Option Nat} (hL : Lay R) {V : VT} (hV : WV V) (hT : CT I c V) {p : Nat → Int32} {g : Nat → Bool} (hp : pz p g (vE V)) (hS : SC I o p g (vE V)) (hK : SK I o p g (vE V)) (n : Int32) : Mt l G mX0_comesTo (3) 0 0 [.ref (ra G (c + 5)), .ref (ra G o), .int n] (wd I L R) (fun r w' => r = some (.int (b2 (n ≤ sumN p (vE V) + paidS V p g))) ∧ ∃ I', w' = wd I' L R ∧ FrBo c o I I') := by
  refine mt_of (own := RX0) (by decide) rfl rfl (fun Z C P B => ?_)
  have D := @dc_of _ _ dX0_comesTo
  have hr := isS_rng ho
  have hcc : c ≤ 55 := by rcases hc with rfl | rfl <;> omega
  have hE10 := hV.1
  have hpr := paid_rng hV p g
  have hsr := sumN_rng (f := p) (M := 2000) (n := vE V) (by omega) (fun i hi => (hp i hi).1)
  have etot : (sumN p (vE V) + paidS V p g).toInt = (sumN p (vE V)).toInt + (paidS V p g).toInt := i_add (by omega) (by omega)
  have eam : (sumN p (vE V) + sumN (vbn V) (vB V)).toInt = (sumN p (vE V)).toInt + (sumN (vbn V) (vB V)).toInt := i_add (by omega) (by omega)
  refine j_aload_n C (D 0 rfl) rfl ?_
  refine j_geti C f_X0_63 (sS0 ho) rfl rfl (D 1 rfl) ?_
  rw [hK.1]
  refine j_iload_n C (D 2 rfl) rfl ?_
  refine j_icmp_lt C  10 (D 3 rfl) (by decide) (fun h5 => ?_) (fun h5 => ?_)
  · refine j_aload_n C (D 6 rfl) rfl ?_
    refine j_geti C f_X0_63 (sS0 ho) rfl rfl (D 7 rfl) ?_
    rw [hK.1]
    refine j_aload_n C (D 8 rfl) rfl ?_
    refine j_geti C f_X0_31 (sC5 hc) rfl rfl (D 9 rfl) ?_
    rw [hT.2.2.2.2.2.2.2.2.2.2]
    refine j_iadd C (D 10 rfl) ?_
    refine j_iload_n C (D 11 rfl) rfl ?_
    refine j_icmp_ge C  25 (D 12 rfl) (by decide) (fun h20 => ?_) (fun h20 => ?_)
    · refine j_aload_n C (D 15 rfl) rfl ?_
      refine j_aload_n C (D 16 rfl) rfl ?_
      refine j_callV C B k_X0_66 (rc_obj C (sC5 hc) rfl rfl) (c_pay _ _ hc ho hL hV hT hp hS hK) rfl rfl rfl rfl ⟨Nat.le_refl _, Nat.le_refl _⟩ (D 17 rfl) ?_
      rintro r w' ⟨rfl, I2, rfl, hF2, hpd2⟩
      refine j_aload_n C (D 18 rfl) rfl ?_
      refine j_geti C f_X0_63 (sS0 ho) rfl rfl (D 19 rfl) ?_
      rw [hF2 o 3 (by omega) (by omega) (by omega), hK.1]
      refine j_aload_n C (D 20 rfl) rfl ?_
      refine j_geti C f_X0_56 (sS0 ho) rfl rfl (D 21 rfl) ?_
      rw [hpd2]
      refine j_iadd C (D 22 rfl) ?_
      refine j_iload_n C (D 23 rfl) rfl ?_
      refine j_icmp_lt C  47 (D 24 rfl) (by decide) (fun h40 => ?_) (fun h40 => ?_)
      · refine j_iconst C (v := nI 0) (D 27 rfl) rfl ?_
        exact j_zret C P rfl (by first | exact isB_1 | exact isB_0) (D 28 rfl) ⟨Nat.le_refl _, Nat.le_refl _⟩ ⟨by rw [← b2_f (by rw [i_le]; rw [i_lt] at h40; omega)], _, rfl, hF2⟩
      · refine j_iconst C (v := nI 1) (D 25 rfl) rfl ?_
        refine j_goto C 48 (D 26 rfl) (by decide) ?_
        exact j_zret C P rfl (by first | exact isB_1 | exact isB_0) (D 28 rfl) ⟨Nat.le_refl _, Nat.le_refl _⟩ ⟨by rw [← b2_t (by rw [i_le]; rw [i_lt] at h40; omega)], _, rfl, hF2⟩
    · refine j_iconst C (v := nI 0) (D 13 rfl) rfl ?_
      exact j_zret C P rfl isB_0 (D 14 rfl) ⟨Nat.le_refl _, Nat.le_refl _⟩ ⟨by rw [← b2_f (by rw [i_le, etot]; rw [i_le, eam] at h20; omega)], _, rfl, fun _ _ _ _ _ => rfl⟩
  · refine j_iconst C (v := nI 1) (D 4 rfl) rfl ?_
    exact j_zret C P rfl isB_1 (D 5 rfl) ⟨Nat.le_refl _, Nat.le_refl _⟩ ⟨by rw [← b2_t (by rw [i_le, etot]; rw [i_lt] at h5; omega)], _, rfl, fun _ _ _ _ _ => rfl⟩
