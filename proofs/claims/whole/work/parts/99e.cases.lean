/-! THE LAW: a case -/
def lawMI (nm : String) : MI := (⟨R_law, nm, "([I)Z"⟩, code, 4, ret)
def LX (Z : ZT) (G : GT) (b n : Nat) (xs : Nat → Int32) (nm : String) : Prop := CX Z G (lawMI nm) R_law ∧ RB Z 60 1000 100000 ∧ va_X b n xs (zs Z) (zs Z).heap ∧ b < (zs Z).heap.size ∧ gb G = (zs Z).heap.size ∧ n ≤ 3072
def lvS (G : GT) (b k : Nat) : LV := [some (.ref b), some (.ref (ra G 0)), some (.ref (ra G 172)), some (.int (nI k))]
section LAW
variable {Z : ZT} {G : GT} {b n k : Nat} {xs : Nat → Int32} {nm : String} {cs : Nat × Nat} {pc : Nat} {ls : LV} {st rest as : List Value} {w : Wd} {m1 m2 : MI} {d1 d2 np idx : Nat}
theorem j_sld (X : LX Z G b n xs nm) {i : Int32} {j : Nat} (hi : ix i j n) (hd : decode code pc = .ok (.iaload, 1)) (kk : J Z cs (pc + 1) ls (.int (xs j) :: st) w) : J Z cs pc ls (.int i :: .ref b :: st) w := by
  intro H locs la hH hS hl
  have h := kk H locs la hH hS hl
  obtain ⟨C, B, hX, hb, hg, hn⟩ := X
  have hG : zG Z = G := C.2.2.1
  rw [hG] at hS
  rw [← ix_cl hi] at h
  exact va_sld C.1 C.2.1 hX hb (by show ¬ gb G ≤ b; omega) hS (ix_in hi) hd h
theorem j_slen (X : LX Z G b n xs nm) (hd : decode code pc = .ok (.arraylength, 1)) (kk : J Z cs (pc + 1) ls (.int (nI n) :: st) w) : J Z cs pc ls (.ref b :: st) w := by
  intro H locs la hH hS hl
  have h := kk H locs la hH hS hl
  obtain ⟨C, B, hX, hb, hg, hn⟩ := X
  have hG : zG Z = G := C.2.2.1
  rw [hG] at hS
  exact va_slen C.1 C.2.1 hX hb (by show ¬ gb G ≤ b; omega) hS hd h
theorem j_arg (X : LX Z G b n xs nm) (hk : k + 6 ≤ n) {j : Nat} {q : Int} (hq : Int32.ofInt q = nI j) (hj : Nat.ble j 5 = true) (t0 : decode code pc = .ok (.aload_n 0, 1)) (t1 : decode code (pc + 1) = .ok (.iload_n 3, 1)) (t2 : decode code (pc + 1 + 1) = .ok (.iconst q, 1)) (t3 : decode code (pc + 1 + 1 + 1) = .ok (.iadd, 1)) (t4 : decode code (pc + 1 + 1 + 1 + 1) = .ok (.iaload, 1))
    (kk : J Z cs (pc + 1 + 1 + 1 + 1 + 1) (lvS G b k) (.int (xs (k + j)) :: st) w) : J Z cs pc (lvS G b k) st w := by
  have C := X.1
  have hn := X.2.2.2.2.2
  have hj := Nat.le_of_ble_eq_true hj
  refine j_aload_n C t0 rfl ?_
  refine j_iload_n C t1 rfl ?_
  refine j_iconst C (v := nI j) t2 hq ?_
  refine j_iadd C t3 ?_
  refine j_sld X (j := k + j) ⟨?_, by omega⟩ t4 kk
  have e1 : (nI k).toInt = k := nI_int (by omega)
  have e2 : (nI j).toInt = j := nI_int (by omega)
  rw [i_add (by omega) (by omega), e1, e2]
  omega
def Rst (l : Launch) (G : GT) (m2 : MI) (d2 : Nat) (as : List Value) (v : Int32) (w1 : Wd) : Prop := ∃ P2 : Wd → Prop, w1.1 = NN ∧ w1.2.1 = SH ∧ Mt l G m2 d2 0 0 (.ref (ra G 172) :: as) w1 (fun r w' => r = some (.int v) ∧ P2 w') ∧ ∀ w2, P2 w2 → Sv w2
theorem law_c1 (X : LX Z G b n xs nm) (hcs : cs.1 ≤ 1000 ∧ cs.2 ≤ 100000) (S : Sv w) (T : Two (zl Z) G m1 m2 d1 d2 as w) (lk : LKV R_law idx m1 np) (hm : m1.1.cls = RX11) (hst : st = as.reverse ++ .ref (ra G 0) :: rest) (hn : as.length = np) (hdd : Nat.ble (d1 + 1) 60 = true) (hW : Nat.ble (cats rest) 8 = true) (hd : decode code pc = .ok (.invokevirtual idx, 3))
    (kk : ∀ (v : Int32) (w1 : Wd), Rst (zl Z) G m2 d2 as v w1 → J Z cs (pc + 3) ls (.int v :: rest) w1) : J Z cs pc ls st w := by
  obtain ⟨v, P, h1, h2⟩ := T
  obtain ⟨I, L, R, c, c', s, rfl, -⟩ := S
  have C := X.1
  refine j_callV C X.2.1 lk (by rw [hm]; exact rc_obj C (lit (kd := 11) (n := 12) rfl) rfl rfl) h1 hst hn hdd hW hcs hd (fun r w' hp => ?_)
  obtain ⟨rfl, hp⟩ := hp
  exact kk v w' (h2 w' hp)
theorem law_c2 (X : LX Z G b n xs nm) (hcs : cs.1 ≤ 1000 ∧ cs.2 ≤ 100000) {v : Int32} (T : Rst (zl Z) G m2 d2 as v w) (lk : LKV R_law idx m2 np) (hm : m2.1.cls = RX12) (hst : st = as.reverse ++ .ref (ra G 172) :: rest) (hn : as.length = np) (hdd : Nat.ble (d2 + 1) 60 = true) (hW : Nat.ble (cats rest) 8 = true) (hd : decode code pc = .ok (.invokevirtual idx, 3))
    (kk : ∀ (w2 : Wd), Sv w2 → J Z cs (pc + 3) ls (.int v :: rest) w2) : J Z cs pc ls st w := by
  obtain ⟨P2, e1, e2, h1, h2⟩ := T
  obtain ⟨N', sh', I, L, R⟩ := w
  have e1 : N' = NN := e1
  have e2 : sh' = SH := e2
  subst e1
  subst e2
  have C := X.1
  refine j_callV C X.2.1 lk (by rw [hm]; exact rc_obj C (lit (kd := 12) (n := 48) rfl) rfl rfl) h1 hst hn hdd hW hcs hd (fun r w' hp => ?_)
  obtain ⟨rfl, hp⟩ := hp
  exact kk w' (h2 w' hp)
theorem and63 (x : Int32) : 0 ≤ (x &&& nI 63).toInt ∧ (x &&& nI 63).toInt ≤ 63 := by
  have h : (x &&& nI 63).toBitVec.toNat ≤ 63 := by
    rw [Int32.toBitVec_and, BitVec.toNat_and]
    exact Nat.le_trans Nat.and_le_right (by decide)
  have e : (x &&& nI 63).toInt = ((x &&& nI 63).toBitVec.toNat : Int) := by
    show (x &&& nI 63).toBitVec.toInt = _
    rw [BitVec.toInt_eq_toNat_of_lt (by omega)]
  omega
end LAW
theorem w_feed {Z : ZT} {G : GT} {b n k : Nat} {xs : Nat → Int32} {nm : String} {cs : Nat × Nat} {w : Wd} (X : LX Z G b n xs nm) (hk : k + 6 ≤ n) (hcs : cs.1 ≤ 1000 ∧ cs.2 ≤ 100000) (S : Sv w) (K : ∀ w2, Sv w2 → J Z cs 1771 (lvS G b k) [] w2) : J Z cs 244 (lvS G b k) [] w := by
  have C := X.1
  refine j_aload_n C (@dc_of _ _ dL_law_0 22 _ _ _ rfl) rfl ?_
  refine j_arg X hk (j := 1) (q := 1) rfl rfl (@dc_of _ _ dL_law_0 23 _ _ _ rfl) (@dc_of _ _ dL_law_0 24 _ _ _ rfl) (@dc_of _ _ dL_law_0 25 _ _ _ rfl) (@dc_of _ _ dL_law_0 26 _ _ _ rfl) (@dc_of _ _ dL_law_0 27 _ _ _ rfl) ?_
  refine j_arg X hk (j := 2) (q := 2) rfl rfl (@dc_of _ _ dL_law_0 28 _ _ _ rfl) (@dc_of _ _ dL_law_0 29 _ _ _ rfl) (@dc_of _ _ dL_law_0 30 _ _ _ rfl) (@dc_of _ _ dL_law_0 31 _ _ _ rfl) (@dc_of _ _ dL_law_0 32 _ _ _ rfl) ?_
  refine j_arg X hk (j := 3) (q := 3) rfl rfl (@dc_of _ _ dL_law_0 33 _ _ _ rfl) (@dc_of _ _ dL_law_0 34 _ _ _ rfl) (@dc_of _ _ dL_law_0 35 _ _ _ rfl) (@dc_of _ _ dL_law_0 36 _ _ _ rfl) (@dc_of _ _ dL_law_0 37 _ _ _ rfl) ?_
  refine j_arg X hk (j := 4) (q := 4) rfl rfl (@dc_of _ _ dL_law_0 38 _ _ _ rfl) (@dc_of _ _ dL_law_0 39 _ _ _ rfl) (@dc_of _ _ dL_law_0 40 _ _ _ rfl) (@dc_of _ _ dL_law_0 41 _ _ _ rfl) (@dc_of _ _ dL_law_0 42 _ _ _ rfl) ?_
  refine j_arg X hk (j := 5) (q := 5) rfl rfl (@dc_of _ _ dL_law_0 43 _ _ _ rfl) (@dc_of _ _ dL_law_0 44 _ _ _ rfl) (@dc_of _ _ dL_law_0 45 _ _ _ rfl) (@dc_of _ _ dL_law_0 46 _ _ _ rfl) (@dc_of _ _ dL_law_0 47 _ _ _ rfl) ?_
  refine law_c1 X hcs S (t_feed _ G S (xs (k + 1)) (xs (k + 2)) (xs (k + 3)) (xs (k + 4)) (xs (k + 5))) k__law_13 rfl (rest := []) rfl rfl rfl rfl (@dc_of _ _ dL_law_0 48 _ _ _ rfl) (fun v w1 h => ?_)
  refine j_aload_n C (@dc_of _ _ dL_law_0 49 _ _ _ rfl) rfl ?_
  refine j_arg X hk (j := 1) (q := 1) rfl rfl (@dc_of _ _ dL_law_0 50 _ _ _ rfl) (@dc_of _ _ dL_law_0 51 _ _ _ rfl) (@dc_of _ _ dL_law_0 52 _ _ _ rfl) (@dc_of _ _ dL_law_0 53 _ _ _ rfl) (@dc_of _ _ dL_law_0 54 _ _ _ rfl) ?_
  refine j_arg X hk (j := 2) (q := 2) rfl rfl (@dc_of _ _ dL_law_0 55 _ _ _ rfl) (@dc_of _ _ dL_law_0 56 _ _ _ rfl) (@dc_of _ _ dL_law_0 57 _ _ _ rfl) (@dc_of _ _ dL_law_0 58 _ _ _ rfl) (@dc_of _ _ dL_law_0 59 _ _ _ rfl) ?_
  refine j_arg X hk (j := 3) (q := 3) rfl rfl (@dc_of _ _ dL_law_0 60 _ _ _ rfl) (@dc_of _ _ dL_law_0 61 _ _ _ rfl) (@dc_of _ _ dL_law_0 62 _ _ _ rfl) (@dc_of _ _ dL_law_0 63 _ _ _ rfl) (@dc_of _ _ dL_law_0 64 _ _ _ rfl) ?_
  refine j_arg X hk (j := 4) (q := 4) rfl rfl (@dc_of _ _ dL_law_0 65 _ _ _ rfl) (@dc_of _ _ dL_law_0 66 _ _ _ rfl) (@dc_of _ _ dL_law_0 67 _ _ _ rfl) (@dc_of _ _ dL_law_0 68 _ _ _ rfl) (@dc_of _ _ dL_law_0 69 _ _ _ rfl) ?_
  refine j_arg X hk (j := 5) (q := 5) rfl rfl (@dc_of _ _ dL_law_0 70 _ _ _ rfl) (@dc_of _ _ dL_law_0 71 _ _ _ rfl) (@dc_of _ _ dL_law_0 72 _ _ _ rfl) (@dc_of _ _ dL_law_0 73 _ _ _ rfl) (@dc_of _ _ dL_law_0 74 _ _ _ rfl) ?_
  refine law_c2 X hcs h k__law_17 rfl (rest := [.int v]) rfl rfl rfl rfl (@dc_of _ _ dL_law_0 75 _ _ _ rfl) (fun w2 S2 => ?_)
  exact j_icmp_eq C 1771 (@dc_of _ _ dL_law_0 76 _ _ _ rfl) (by decide) (fun _ => K w2 S2) (fun h => absurd rfl h)
theorem w_end {Z : ZT} {G : GT} {b n k : Nat} {xs : Nat → Int32} {nm : String} {cs : Nat × Nat} {w : Wd} (X : LX Z G b n xs nm) (hk : k + 6 ≤ n) (hcs : cs.1 ≤ 1000 ∧ cs.2 ≤ 100000) (S : Sv w) (K : ∀ w2, Sv w2 → J Z cs 1771 (lvS G b k) [] w2) : J Z cs 307 (lvS G b k) [] w := by
  have C := X.1
  refine j_aload_n C (@dc_of _ _ dL_law_0 79 _ _ _ rfl) rfl ?_
  refine j_arg X hk (j := 1) (q := 1) rfl rfl (@dc_of _ _ dL_law_0 80 _ _ _ rfl) (@dc_of _ _ dL_law_0 81 _ _ _ rfl) (@dc_of _ _ dL_law_0 82 _ _ _ rfl) (@dc_of _ _ dL_law_0 83 _ _ _ rfl) (@dc_of _ _ dL_law_0 84 _ _ _ rfl) ?_
  refine law_c1 X hcs S (t_end _ G S (xs (k + 1))) k__law_18 rfl (rest := []) rfl rfl rfl rfl (@dc_of _ _ dL_law_0 85 _ _ _ rfl) (fun v w1 h => ?_)
  refine j_aload_n C (@dc_of _ _ dL_law_0 86 _ _ _ rfl) rfl ?_
  refine j_arg X hk (j := 1) (q := 1) rfl rfl (@dc_of _ _ dL_law_0 87 _ _ _ rfl) (@dc_of _ _ dL_law_0 88 _ _ _ rfl) (@dc_of _ _ dL_law_0 89 _ _ _ rfl) (@dc_of _ _ dL_law_0 90 _ _ _ rfl) (@dc_of _ _ dL_law_0 91 _ _ _ rfl) ?_
  refine law_c2 X hcs h k__law_22 rfl (rest := [.int v]) rfl rfl rfl rfl (@dc_of _ _ dL_law_0 92 _ _ _ rfl) (fun w2 S2 => ?_)
  exact j_icmp_eq C 1771 (@dc_of _ _ dL_law_0 93 _ _ _ rfl) (by decide) (fun _ => K w2 S2) (fun h => absurd rfl h)
theorem w_text {Z : ZT} {G : GT} {b n k : Nat} {xs : Nat → Int32} {nm : String} {cs : Nat × Nat} {w : Wd} (X : LX Z G b n xs nm) (hk : k + 6 ≤ n) (hcs : cs.1 ≤ 1000 ∧ cs.2 ≤ 100000) (S : Sv w) (K : ∀ w2, Sv w2 → J Z cs 1771 (lvS G b k) [] w2) : J Z cs 330 (lvS G b k) [] w := by
  have C := X.1
  refine j_aload_n C (@dc_of _ _ dL_law_0 96 _ _ _ rfl) rfl ?_
  refine law_c1 X hcs S (t_text _ G S) k__law_23 rfl (rest := []) rfl rfl rfl rfl (@dc_of _ _ dL_law_0 97 _ _ _ rfl) (fun v w1 h => ?_)
  refine j_aload_n C (@dc_of _ _ dL_law_0 98 _ _ _ rfl) rfl ?_
  refine law_c2 X hcs h k__law_27 rfl (rest := [.int v]) rfl rfl rfl rfl (@dc_of _ _ dL_law_0 99 _ _ _ rfl) (fun w2 S2 => ?_)
  exact j_icmp_eq C 1771 (@dc_of _ _ dL_law_0 100 _ _ _ rfl) (by decide) (fun _ => K w2 S2) (fun h => absurd rfl h)
theorem w_fault {Z : ZT} {G : GT} {b n k : Nat} {xs : Nat → Int32} {nm : String} {cs : Nat × Nat} {w : Wd} (X : LX Z G b n xs nm) (hk : k + 6 ≤ n) (hcs : cs.1 ≤ 1000 ∧ cs.2 ≤ 100000) (S : Sv w) (K : ∀ w2, Sv w2 → J Z cs 1771 (lvS G b k) [] w2) : J Z cs 343 (lvS G b k) [] w := by
  have C := X.1
  refine j_aload_n C (@dc_of _ _ dL_law_0 103 _ _ _ rfl) rfl ?_
  refine j_arg X hk (j := 1) (q := 1) rfl rfl (@dc_of _ _ dL_law_0 104 _ _ _ rfl) (@dc_of _ _ dL_law_0 105 _ _ _ rfl) (@dc_of _ _ dL_law_0 106 _ _ _ rfl) (@dc_of _ _ dL_law_0 107 _ _ _ rfl) (@dc_of _ _ dL_law_0 108 _ _ _ rfl) ?_
  refine law_c1 X hcs S (t_fault _ G S (xs (k + 1))) k__law_28 rfl (rest := []) rfl rfl rfl rfl (@dc_of _ _ dL_law_0 109 _ _ _ rfl) (fun v w1 h => ?_)
  refine j_aload_n C (@dc_of _ _ dL_law_0 110 _ _ _ rfl) rfl ?_
  refine j_arg X hk (j := 1) (q := 1) rfl rfl (@dc_of _ _ dL_law_0 111 _ _ _ rfl) (@dc_of _ _ dL_law_0 112 _ _ _ rfl) (@dc_of _ _ dL_law_0 113 _ _ _ rfl) (@dc_of _ _ dL_law_0 114 _ _ _ rfl) (@dc_of _ _ dL_law_0 115 _ _ _ rfl) ?_
  refine law_c2 X hcs h k__law_31 rfl (rest := [.int v]) rfl rfl rfl rfl (@dc_of _ _ dL_law_0 116 _ _ _ rfl) (fun w2 S2 => ?_)
  exact j_icmp_eq C 1771 (@dc_of _ _ dL_law_0 117 _ _ _ rfl) (by decide) (fun _ => K w2 S2) (fun h => absurd rfl h)
theorem w_count {Z : ZT} {G : GT} {b n k : Nat} {xs : Nat → Int32} {nm : String} {cs : Nat × Nat} {w : Wd} (X : LX Z G b n xs nm) (hk : k + 6 ≤ n) (hcs : cs.1 ≤ 1000 ∧ cs.2 ≤ 100000) (S : Sv w) (K : ∀ w2, Sv w2 → J Z cs 1771 (lvS G b k) [] w2) : J Z cs 366 (lvS G b k) [] w := by
  have C := X.1
  refine j_aload_n C (@dc_of _ _ dL_law_0 120 _ _ _ rfl) rfl ?_
  refine j_arg X hk (j := 1) (q := 1) rfl rfl (@dc_of _ _ dL_law_0 121 _ _ _ rfl) (@dc_of _ _ dL_law_0 122 _ _ _ rfl) (@dc_of _ _ dL_law_0 123 _ _ _ rfl) (@dc_of _ _ dL_law_0 124 _ _ _ rfl) (@dc_of _ _ dL_law_0 125 _ _ _ rfl) ?_
  refine law_c1 X hcs S (t_count _ G S (xs (k + 1))) k__law_32 rfl (rest := []) rfl rfl rfl rfl (@dc_of _ _ dL_law_0 126 _ _ _ rfl) (fun v w1 h => ?_)
  refine j_aload_n C (@dc_of _ _ dL_law_0 127 _ _ _ rfl) rfl ?_
  refine j_arg X hk (j := 1) (q := 1) rfl rfl (@dc_of _ _ dL_law_0 128 _ _ _ rfl) (@dc_of _ _ dL_law_0 129 _ _ _ rfl) (@dc_of _ _ dL_law_1 0 _ _ _ rfl) (@dc_of _ _ dL_law_1 1 _ _ _ rfl) (@dc_of _ _ dL_law_1 2 _ _ _ rfl) ?_
  refine law_c2 X hcs h k__law_35 rfl (rest := [.int v]) rfl rfl rfl rfl (@dc_of _ _ dL_law_1 3 _ _ _ rfl) (fun w2 S2 => ?_)
  exact j_icmp_eq C 1771 (@dc_of _ _ dL_law_1 4 _ _ _ rfl) (by decide) (fun _ => K w2 S2) (fun h => absurd rfl h)
theorem w_event {Z : ZT} {G : GT} {b n k : Nat} {xs : Nat → Int32} {nm : String} {cs : Nat × Nat} {w : Wd} (X : LX Z G b n xs nm) (hk : k + 6 ≤ n) (hcs : cs.1 ≤ 1000 ∧ cs.2 ≤ 100000) (S : Sv w) (K : ∀ w2, Sv w2 → J Z cs 1771 (lvS G b k) [] w2) : J Z cs 389 (lvS G b k) [] w := by
  have C := X.1
  refine j_aload_n C (@dc_of _ _ dL_law_1 7 _ _ _ rfl) rfl ?_
  refine j_arg X hk (j := 1) (q := 1) rfl rfl (@dc_of _ _ dL_law_1 8 _ _ _ rfl) (@dc_of _ _ dL_law_1 9 _ _ _ rfl) (@dc_of _ _ dL_law_1 10 _ _ _ rfl) (@dc_of _ _ dL_law_1 11 _ _ _ rfl) (@dc_of _ _ dL_law_1 12 _ _ _ rfl) ?_
  refine j_arg X hk (j := 2) (q := 2) rfl rfl (@dc_of _ _ dL_law_1 13 _ _ _ rfl) (@dc_of _ _ dL_law_1 14 _ _ _ rfl) (@dc_of _ _ dL_law_1 15 _ _ _ rfl) (@dc_of _ _ dL_law_1 16 _ _ _ rfl) (@dc_of _ _ dL_law_1 17 _ _ _ rfl) ?_
  refine law_c1 X hcs S (t_event _ G S (xs (k + 1)) (xs (k + 2))) k__law_36 rfl (rest := []) rfl rfl rfl rfl (@dc_of _ _ dL_law_1 18 _ _ _ rfl) (fun v w1 h => ?_)
  refine j_aload_n C (@dc_of _ _ dL_law_1 19 _ _ _ rfl) rfl ?_
  refine j_arg X hk (j := 1) (q := 1) rfl rfl (@dc_of _ _ dL_law_1 20 _ _ _ rfl) (@dc_of _ _ dL_law_1 21 _ _ _ rfl) (@dc_of _ _ dL_law_1 22 _ _ _ rfl) (@dc_of _ _ dL_law_1 23 _ _ _ rfl) (@dc_of _ _ dL_law_1 24 _ _ _ rfl) ?_
  refine j_arg X hk (j := 2) (q := 2) rfl rfl (@dc_of _ _ dL_law_1 25 _ _ _ rfl) (@dc_of _ _ dL_law_1 26 _ _ _ rfl) (@dc_of _ _ dL_law_1 27 _ _ _ rfl) (@dc_of _ _ dL_law_1 28 _ _ _ rfl) (@dc_of _ _ dL_law_1 29 _ _ _ rfl) ?_
  refine law_c2 X hcs h k__law_40 rfl (rest := [.int v]) rfl rfl rfl rfl (@dc_of _ _ dL_law_1 30 _ _ _ rfl) (fun w2 S2 => ?_)
  exact j_icmp_eq C 1771 (@dc_of _ _ dL_law_1 31 _ _ _ rfl) (by decide) (fun _ => K w2 S2) (fun h => absurd rfl h)
theorem w_points {Z : ZT} {G : GT} {b n k : Nat} {xs : Nat → Int32} {nm : String} {cs : Nat × Nat} {w : Wd} (X : LX Z G b n xs nm) (hk : k + 6 ≤ n) (hcs : cs.1 ≤ 1000 ∧ cs.2 ≤ 100000) (S : Sv w) (K : ∀ w2, Sv w2 → J Z cs 1771 (lvS G b k) [] w2) : J Z cs 422 (lvS G b k) [] w := by
  have C := X.1
  refine j_aload_n C (@dc_of _ _ dL_law_1 34 _ _ _ rfl) rfl ?_
  refine j_arg X hk (j := 1) (q := 1) rfl rfl (@dc_of _ _ dL_law_1 35 _ _ _ rfl) (@dc_of _ _ dL_law_1 36 _ _ _ rfl) (@dc_of _ _ dL_law_1 37 _ _ _ rfl) (@dc_of _ _ dL_law_1 38 _ _ _ rfl) (@dc_of _ _ dL_law_1 39 _ _ _ rfl) ?_
  refine j_arg X hk (j := 2) (q := 2) rfl rfl (@dc_of _ _ dL_law_1 40 _ _ _ rfl) (@dc_of _ _ dL_law_1 41 _ _ _ rfl) (@dc_of _ _ dL_law_1 42 _ _ _ rfl) (@dc_of _ _ dL_law_1 43 _ _ _ rfl) (@dc_of _ _ dL_law_1 44 _ _ _ rfl) ?_
  refine law_c1 X hcs S (t_points _ G S (xs (k + 1)) (xs (k + 2))) k__law_41 rfl (rest := []) rfl rfl rfl rfl (@dc_of _ _ dL_law_1 45 _ _ _ rfl) (fun v w1 h => ?_)
  refine j_aload_n C (@dc_of _ _ dL_law_1 46 _ _ _ rfl) rfl ?_
  refine j_arg X hk (j := 1) (q := 1) rfl rfl (@dc_of _ _ dL_law_1 47 _ _ _ rfl) (@dc_of _ _ dL_law_1 48 _ _ _ rfl) (@dc_of _ _ dL_law_1 49 _ _ _ rfl) (@dc_of _ _ dL_law_1 50 _ _ _ rfl) (@dc_of _ _ dL_law_1 51 _ _ _ rfl) ?_
  refine j_arg X hk (j := 2) (q := 2) rfl rfl (@dc_of _ _ dL_law_1 52 _ _ _ rfl) (@dc_of _ _ dL_law_1 53 _ _ _ rfl) (@dc_of _ _ dL_law_1 54 _ _ _ rfl) (@dc_of _ _ dL_law_1 55 _ _ _ rfl) (@dc_of _ _ dL_law_1 56 _ _ _ rfl) ?_
  refine law_c2 X hcs h k__law_44 rfl (rest := [.int v]) rfl rfl rfl rfl (@dc_of _ _ dL_law_1 57 _ _ _ rfl) (fun w2 S2 => ?_)
  exact j_icmp_eq C 1771 (@dc_of _ _ dL_law_1 58 _ _ _ rfl) (by decide) (fun _ => K w2 S2) (fun h => absurd rfl h)
theorem w_worst {Z : ZT} {G : GT} {b n k : Nat} {xs : Nat → Int32} {nm : String} {cs : Nat × Nat} {w : Wd} (X : LX Z G b n xs nm) (hk : k + 6 ≤ n) (hcs : cs.1 ≤ 1000 ∧ cs.2 ≤ 100000) (S : Sv w) (K : ∀ w2, Sv w2 → J Z cs 1771 (lvS G b k) [] w2) : J Z cs 455 (lvS G b k) [] w := by
  have C := X.1
  refine j_aload_n C (@dc_of _ _ dL_law_1 61 _ _ _ rfl) rfl ?_
  refine j_arg X hk (j := 1) (q := 1) rfl rfl (@dc_of _ _ dL_law_1 62 _ _ _ rfl) (@dc_of _ _ dL_law_1 63 _ _ _ rfl) (@dc_of _ _ dL_law_1 64 _ _ _ rfl) (@dc_of _ _ dL_law_1 65 _ _ _ rfl) (@dc_of _ _ dL_law_1 66 _ _ _ rfl) ?_
  refine j_arg X hk (j := 2) (q := 2) rfl rfl (@dc_of _ _ dL_law_1 67 _ _ _ rfl) (@dc_of _ _ dL_law_1 68 _ _ _ rfl) (@dc_of _ _ dL_law_1 69 _ _ _ rfl) (@dc_of _ _ dL_law_1 70 _ _ _ rfl) (@dc_of _ _ dL_law_1 71 _ _ _ rfl) ?_
  refine law_c1 X hcs S (t_worst _ G S (xs (k + 1)) (xs (k + 2))) k__law_45 rfl (rest := []) rfl rfl rfl rfl (@dc_of _ _ dL_law_1 72 _ _ _ rfl) (fun v w1 h => ?_)
  refine j_aload_n C (@dc_of _ _ dL_law_1 73 _ _ _ rfl) rfl ?_
  refine j_arg X hk (j := 1) (q := 1) rfl rfl (@dc_of _ _ dL_law_1 74 _ _ _ rfl) (@dc_of _ _ dL_law_1 75 _ _ _ rfl) (@dc_of _ _ dL_law_1 76 _ _ _ rfl) (@dc_of _ _ dL_law_1 77 _ _ _ rfl) (@dc_of _ _ dL_law_1 78 _ _ _ rfl) ?_
  refine j_arg X hk (j := 2) (q := 2) rfl rfl (@dc_of _ _ dL_law_1 79 _ _ _ rfl) (@dc_of _ _ dL_law_1 80 _ _ _ rfl) (@dc_of _ _ dL_law_1 81 _ _ _ rfl) (@dc_of _ _ dL_law_1 82 _ _ _ rfl) (@dc_of _ _ dL_law_1 83 _ _ _ rfl) ?_
  refine law_c2 X hcs h k__law_48 rfl (rest := [.int v]) rfl rfl rfl rfl (@dc_of _ _ dL_law_1 84 _ _ _ rfl) (fun w2 S2 => ?_)
  exact j_icmp_eq C 1771 (@dc_of _ _ dL_law_1 85 _ _ _ rfl) (by decide) (fun _ => K w2 S2) (fun h => absurd rfl h)
theorem w_top {Z : ZT} {G : GT} {b n k : Nat} {xs : Nat → Int32} {nm : String} {cs : Nat × Nat} {w : Wd} (X : LX Z G b n xs nm) (hk : k + 6 ≤ n) (hcs : cs.1 ≤ 1000 ∧ cs.2 ≤ 100000) (S : Sv w) (K : ∀ w2, Sv w2 → J Z cs 1771 (lvS G b k) [] w2) : J Z cs 488 (lvS G b k) [] w := by
  have C := X.1
  refine j_aload_n C (@dc_of _ _ dL_law_1 88 _ _ _ rfl) rfl ?_
  refine j_arg X hk (j := 1) (q := 1) rfl rfl (@dc_of _ _ dL_law_1 89 _ _ _ rfl) (@dc_of _ _ dL_law_1 90 _ _ _ rfl) (@dc_of _ _ dL_law_1 91 _ _ _ rfl) (@dc_of _ _ dL_law_1 92 _ _ _ rfl) (@dc_of _ _ dL_law_1 93 _ _ _ rfl) ?_
  refine law_c1 X hcs S (t_top _ G S (xs (k + 1))) k__law_49 rfl (rest := []) rfl rfl rfl rfl (@dc_of _ _ dL_law_1 94 _ _ _ rfl) (fun v w1 h => ?_)
  refine j_aload_n C (@dc_of _ _ dL_law_1 95 _ _ _ rfl) rfl ?_
  refine j_arg X hk (j := 1) (q := 1) rfl rfl (@dc_of _ _ dL_law_1 96 _ _ _ rfl) (@dc_of _ _ dL_law_1 97 _ _ _ rfl) (@dc_of _ _ dL_law_1 98 _ _ _ rfl) (@dc_of _ _ dL_law_1 99 _ _ _ rfl) (@dc_of _ _ dL_law_1 100 _ _ _ rfl) ?_
  refine law_c2 X hcs h k__law_52 rfl (rest := [.int v]) rfl rfl rfl rfl (@dc_of _ _ dL_law_1 101 _ _ _ rfl) (fun w2 S2 => ?_)
  exact j_icmp_eq C 1771 (@dc_of _ _ dL_law_1 102 _ _ _ rfl) (by decide) (fun _ => K w2 S2) (fun h => absurd rfl h)
theorem w_same {Z : ZT} {G : GT} {b n k : Nat} {xs : Nat → Int32} {nm : String} {cs : Nat × Nat} {w : Wd} (X : LX Z G b n xs nm) (hk : k + 6 ≤ n) (hcs : cs.1 ≤ 1000 ∧ cs.2 ≤ 100000) (S : Sv w) (K : ∀ w2, Sv w2 → J Z cs 1771 (lvS G b k) [] w2) : J Z cs 511 (lvS G b k) [] w := by
  have C := X.1
  refine j_aload_n C (@dc_of _ _ dL_law_1 105 _ _ _ rfl) rfl ?_
  refine j_arg X hk (j := 1) (q := 1) rfl rfl (@dc_of _ _ dL_law_1 106 _ _ _ rfl) (@dc_of _ _ dL_law_1 107 _ _ _ rfl) (@dc_of _ _ dL_law_1 108 _ _ _ rfl) (@dc_of _ _ dL_law_1 109 _ _ _ rfl) (@dc_of _ _ dL_law_1 110 _ _ _ rfl) ?_
  refine j_arg X hk (j := 2) (q := 2) rfl rfl (@dc_of _ _ dL_law_1 111 _ _ _ rfl) (@dc_of _ _ dL_law_1 112 _ _ _ rfl) (@dc_of _ _ dL_law_1 113 _ _ _ rfl) (@dc_of _ _ dL_law_1 114 _ _ _ rfl) (@dc_of _ _ dL_law_1 115 _ _ _ rfl) ?_
  refine j_arg X hk (j := 3) (q := 3) rfl rfl (@dc_of _ _ dL_law_1 116 _ _ _ rfl) (@dc_of _ _ dL_law_1 117 _ _ _ rfl) (@dc_of _ _ dL_law_1 118 _ _ _ rfl) (@dc_of _ _ dL_law_1 119 _ _ _ rfl) (@dc_of _ _ dL_law_1 120 _ _ _ rfl) ?_
  refine law_c1 X hcs S (t_same _ G S (xs (k + 1)) (xs (k + 2)) (xs (k + 3))) k__law_53 rfl (rest := []) rfl rfl rfl rfl (@dc_of _ _ dL_law_1 121 _ _ _ rfl) (fun v w1 h => ?_)
  refine j_aload_n C (@dc_of _ _ dL_law_1 122 _ _ _ rfl) rfl ?_
  refine j_arg X hk (j := 1) (q := 1) rfl rfl (@dc_of _ _ dL_law_1 123 _ _ _ rfl) (@dc_of _ _ dL_law_1 124 _ _ _ rfl) (@dc_of _ _ dL_law_1 125 _ _ _ rfl) (@dc_of _ _ dL_law_1 126 _ _ _ rfl) (@dc_of _ _ dL_law_1 127 _ _ _ rfl) ?_
  refine j_arg X hk (j := 2) (q := 2) rfl rfl (@dc_of _ _ dL_law_1 128 _ _ _ rfl) (@dc_of _ _ dL_law_1 129 _ _ _ rfl) (@dc_of _ _ dL_law_2 0 _ _ _ rfl) (@dc_of _ _ dL_law_2 1 _ _ _ rfl) (@dc_of _ _ dL_law_2 2 _ _ _ rfl) ?_
  refine j_arg X hk (j := 3) (q := 3) rfl rfl (@dc_of _ _ dL_law_2 3 _ _ _ rfl) (@dc_of _ _ dL_law_2 4 _ _ _ rfl) (@dc_of _ _ dL_law_2 5 _ _ _ rfl) (@dc_of _ _ dL_law_2 6 _ _ _ rfl) (@dc_of _ _ dL_law_2 7 _ _ _ rfl) ?_
  refine law_c2 X hcs h k__law_57 rfl (rest := [.int v]) rfl rfl rfl rfl (@dc_of _ _ dL_law_2 8 _ _ _ rfl) (fun w2 S2 => ?_)
  exact j_icmp_eq C 1771 (@dc_of _ _ dL_law_2 9 _ _ _ rfl) (by decide) (fun _ => K w2 S2) (fun h => absurd rfl h)
theorem w_step {Z : ZT} {G : GT} {b n k : Nat} {xs : Nat → Int32} {nm : String} {cs : Nat × Nat} {w : Wd} (X : LX Z G b n xs nm) (hk : k + 6 ≤ n) (hcs : cs.1 ≤ 1000 ∧ cs.2 ≤ 100000) (S : Sv w) (K : ∀ w2, Sv w2 → J Z cs 1771 (lvS G b k) [] w2) : J Z cs 554 (lvS G b k) [] w := by
  have C := X.1
  refine j_aload_n C (@dc_of _ _ dL_law_2 12 _ _ _ rfl) rfl ?_
  refine j_arg X hk (j := 1) (q := 1) rfl rfl (@dc_of _ _ dL_law_2 13 _ _ _ rfl) (@dc_of _ _ dL_law_2 14 _ _ _ rfl) (@dc_of _ _ dL_law_2 15 _ _ _ rfl) (@dc_of _ _ dL_law_2 16 _ _ _ rfl) (@dc_of _ _ dL_law_2 17 _ _ _ rfl) ?_
  refine j_arg X hk (j := 2) (q := 2) rfl rfl (@dc_of _ _ dL_law_2 18 _ _ _ rfl) (@dc_of _ _ dL_law_2 19 _ _ _ rfl) (@dc_of _ _ dL_law_2 20 _ _ _ rfl) (@dc_of _ _ dL_law_2 21 _ _ _ rfl) (@dc_of _ _ dL_law_2 22 _ _ _ rfl) ?_
  refine law_c1 X hcs S (t_step _ G S (xs (k + 1)) (xs (k + 2))) k__law_58 rfl (rest := []) rfl rfl rfl rfl (@dc_of _ _ dL_law_2 23 _ _ _ rfl) (fun v w1 h => ?_)
  refine j_aload_n C (@dc_of _ _ dL_law_2 24 _ _ _ rfl) rfl ?_
  refine j_arg X hk (j := 1) (q := 1) rfl rfl (@dc_of _ _ dL_law_2 25 _ _ _ rfl) (@dc_of _ _ dL_law_2 26 _ _ _ rfl) (@dc_of _ _ dL_law_2 27 _ _ _ rfl) (@dc_of _ _ dL_law_2 28 _ _ _ rfl) (@dc_of _ _ dL_law_2 29 _ _ _ rfl) ?_
  refine j_arg X hk (j := 2) (q := 2) rfl rfl (@dc_of _ _ dL_law_2 30 _ _ _ rfl) (@dc_of _ _ dL_law_2 31 _ _ _ rfl) (@dc_of _ _ dL_law_2 32 _ _ _ rfl) (@dc_of _ _ dL_law_2 33 _ _ _ rfl) (@dc_of _ _ dL_law_2 34 _ _ _ rfl) ?_
  refine law_c2 X hcs h k__law_61 rfl (rest := [.int v]) rfl rfl rfl rfl (@dc_of _ _ dL_law_2 35 _ _ _ rfl) (fun w2 S2 => ?_)
  exact j_icmp_eq C 1771 (@dc_of _ _ dL_law_2 36 _ _ _ rfl) (by decide) (fun _ => K w2 S2) (fun h => absurd rfl h)
theorem w_mark {Z : ZT} {G : GT} {b n k : Nat} {xs : Nat → Int32} {nm : String} {cs : Nat × Nat} {w : Wd} (X : LX Z G b n xs nm) (hk : k + 6 ≤ n) (hcs : cs.1 ≤ 1000 ∧ cs.2 ≤ 100000) (S : Sv w) (K : ∀ w2, Sv w2 → J Z cs 1771 (lvS G b k) [] w2) : J Z cs 587 (lvS G b k) [] w := by
  have C := X.1
  refine j_aload_n C (@dc_of _ _ dL_law_2 39 _ _ _ rfl) rfl ?_
  refine j_arg X hk (j := 1) (q := 1) rfl rfl (@dc_of _ _ dL_law_2 40 _ _ _ rfl) (@dc_of _ _ dL_law_2 41 _ _ _ rfl) (@dc_of _ _ dL_law_2 42 _ _ _ rfl) (@dc_of _ _ dL_law_2 43 _ _ _ rfl) (@dc_of _ _ dL_law_2 44 _ _ _ rfl) ?_
  refine j_arg X hk (j := 2) (q := 2) rfl rfl (@dc_of _ _ dL_law_2 45 _ _ _ rfl) (@dc_of _ _ dL_law_2 46 _ _ _ rfl) (@dc_of _ _ dL_law_2 47 _ _ _ rfl) (@dc_of _ _ dL_law_2 48 _ _ _ rfl) (@dc_of _ _ dL_law_2 49 _ _ _ rfl) ?_
  refine law_c1 X hcs S (t_mark _ G S (xs (k + 1)) (xs (k + 2))) k__law_62 rfl (rest := []) rfl rfl rfl rfl (@dc_of _ _ dL_law_2 50 _ _ _ rfl) (fun v w1 h => ?_)
  refine j_aload_n C (@dc_of _ _ dL_law_2 51 _ _ _ rfl) rfl ?_
  refine j_arg X hk (j := 1) (q := 1) rfl rfl (@dc_of _ _ dL_law_2 52 _ _ _ rfl) (@dc_of _ _ dL_law_2 53 _ _ _ rfl) (@dc_of _ _ dL_law_2 54 _ _ _ rfl) (@dc_of _ _ dL_law_2 55 _ _ _ rfl) (@dc_of _ _ dL_law_2 56 _ _ _ rfl) ?_
  refine j_arg X hk (j := 2) (q := 2) rfl rfl (@dc_of _ _ dL_law_2 57 _ _ _ rfl) (@dc_of _ _ dL_law_2 58 _ _ _ rfl) (@dc_of _ _ dL_law_2 59 _ _ _ rfl) (@dc_of _ _ dL_law_2 60 _ _ _ rfl) (@dc_of _ _ dL_law_2 61 _ _ _ rfl) ?_
  refine law_c2 X hcs h k__law_65 rfl (rest := [.int v]) rfl rfl rfl rfl (@dc_of _ _ dL_law_2 62 _ _ _ rfl) (fun w2 S2 => ?_)
  exact j_icmp_eq C 1771 (@dc_of _ _ dL_law_2 63 _ _ _ rfl) (by decide) (fun _ => K w2 S2) (fun h => absurd rfl h)
theorem w_worth {Z : ZT} {G : GT} {b n k : Nat} {xs : Nat → Int32} {nm : String} {cs : Nat × Nat} {w : Wd} (X : LX Z G b n xs nm) (hk : k + 6 ≤ n) (hcs : cs.1 ≤ 1000 ∧ cs.2 ≤ 100000) (S : Sv w) (K : ∀ w2, Sv w2 → J Z cs 1771 (lvS G b k) [] w2) : J Z cs 620 (lvS G b k) [] w := by
  have C := X.1
  refine j_aload_n C (@dc_of _ _ dL_law_2 66 _ _ _ rfl) rfl ?_
  refine j_arg X hk (j := 1) (q := 1) rfl rfl (@dc_of _ _ dL_law_2 67 _ _ _ rfl) (@dc_of _ _ dL_law_2 68 _ _ _ rfl) (@dc_of _ _ dL_law_2 69 _ _ _ rfl) (@dc_of _ _ dL_law_2 70 _ _ _ rfl) (@dc_of _ _ dL_law_2 71 _ _ _ rfl) ?_
  refine j_arg X hk (j := 2) (q := 2) rfl rfl (@dc_of _ _ dL_law_2 72 _ _ _ rfl) (@dc_of _ _ dL_law_2 73 _ _ _ rfl) (@dc_of _ _ dL_law_2 74 _ _ _ rfl) (@dc_of _ _ dL_law_2 75 _ _ _ rfl) (@dc_of _ _ dL_law_2 76 _ _ _ rfl) ?_
  refine law_c1 X hcs S (t_worth _ G S (xs (k + 1)) (xs (k + 2))) k__law_66 rfl (rest := []) rfl rfl rfl rfl (@dc_of _ _ dL_law_2 77 _ _ _ rfl) (fun v w1 h => ?_)
  refine j_aload_n C (@dc_of _ _ dL_law_2 78 _ _ _ rfl) rfl ?_
  refine j_arg X hk (j := 1) (q := 1) rfl rfl (@dc_of _ _ dL_law_2 79 _ _ _ rfl) (@dc_of _ _ dL_law_2 80 _ _ _ rfl) (@dc_of _ _ dL_law_2 81 _ _ _ rfl) (@dc_of _ _ dL_law_2 82 _ _ _ rfl) (@dc_of _ _ dL_law_2 83 _ _ _ rfl) ?_
  refine j_arg X hk (j := 2) (q := 2) rfl rfl (@dc_of _ _ dL_law_2 84 _ _ _ rfl) (@dc_of _ _ dL_law_2 85 _ _ _ rfl) (@dc_of _ _ dL_law_2 86 _ _ _ rfl) (@dc_of _ _ dL_law_2 87 _ _ _ rfl) (@dc_of _ _ dL_law_2 88 _ _ _ rfl) ?_
  refine law_c2 X hcs h k__law_69 rfl (rest := [.int v]) rfl rfl rfl rfl (@dc_of _ _ dL_law_2 89 _ _ _ rfl) (fun w2 S2 => ?_)
  exact j_icmp_eq C 1771 (@dc_of _ _ dL_law_2 90 _ _ _ rfl) (by decide) (fun _ => K w2 S2) (fun h => absurd rfl h)
theorem w_of {Z : ZT} {G : GT} {b n k : Nat} {xs : Nat → Int32} {nm : String} {cs : Nat × Nat} {w : Wd} (X : LX Z G b n xs nm) (hk : k + 6 ≤ n) (hcs : cs.1 ≤ 1000 ∧ cs.2 ≤ 100000) (S : Sv w) (K : ∀ w2, Sv w2 → J Z cs 1771 (lvS G b k) [] w2) : J Z cs 653 (lvS G b k) [] w := by
  have C := X.1
  refine j_aload_n C (@dc_of _ _ dL_law_2 93 _ _ _ rfl) rfl ?_
  refine j_arg X hk (j := 1) (q := 1) rfl rfl (@dc_of _ _ dL_law_2 94 _ _ _ rfl) (@dc_of _ _ dL_law_2 95 _ _ _ rfl) (@dc_of _ _ dL_law_2 96 _ _ _ rfl) (@dc_of _ _ dL_law_2 97 _ _ _ rfl) (@dc_of _ _ dL_law_2 98 _ _ _ rfl) ?_
  refine j_arg X hk (j := 2) (q := 2) rfl rfl (@dc_of _ _ dL_law_2 99 _ _ _ rfl) (@dc_of _ _ dL_law_2 100 _ _ _ rfl) (@dc_of _ _ dL_law_2 101 _ _ _ rfl) (@dc_of _ _ dL_law_2 102 _ _ _ rfl) (@dc_of _ _ dL_law_2 103 _ _ _ rfl) ?_
  refine law_c1 X hcs S (t_of _ G S (xs (k + 1)) (xs (k + 2))) k__law_70 rfl (rest := []) rfl rfl rfl rfl (@dc_of _ _ dL_law_2 104 _ _ _ rfl) (fun v w1 h => ?_)
  refine j_aload_n C (@dc_of _ _ dL_law_2 105 _ _ _ rfl) rfl ?_
  refine j_arg X hk (j := 1) (q := 1) rfl rfl (@dc_of _ _ dL_law_2 106 _ _ _ rfl) (@dc_of _ _ dL_law_2 107 _ _ _ rfl) (@dc_of _ _ dL_law_2 108 _ _ _ rfl) (@dc_of _ _ dL_law_2 109 _ _ _ rfl) (@dc_of _ _ dL_law_2 110 _ _ _ rfl) ?_
  refine j_arg X hk (j := 2) (q := 2) rfl rfl (@dc_of _ _ dL_law_2 111 _ _ _ rfl) (@dc_of _ _ dL_law_2 112 _ _ _ rfl) (@dc_of _ _ dL_law_2 113 _ _ _ rfl) (@dc_of _ _ dL_law_2 114 _ _ _ rfl) (@dc_of _ _ dL_law_2 115 _ _ _ rfl) ?_
  refine law_c2 X hcs h k__law_73 rfl (rest := [.int v]) rfl rfl rfl rfl (@dc_of _ _ dL_law_2 116 _ _ _ rfl) (fun w2 S2 => ?_)
  exact j_icmp_eq C 1771 (@dc_of _ _ dL_law_2 117 _ _ _ rfl) (by decide) (fun _ => K w2 S2) (fun h => absurd rfl h)
theorem w_holds {Z : ZT} {G : GT} {b n k : Nat} {xs : Nat → Int32} {nm : String} {cs : Nat × Nat} {w : Wd} (X : LX Z G b n xs nm) (hk : k + 6 ≤ n) (hcs : cs.1 ≤ 1000 ∧ cs.2 ≤ 100000) (S : Sv w) (K : ∀ w2, Sv w2 → J Z cs 1771 (lvS G b k) [] w2) : J Z cs 686 (lvS G b k) [] w := by
  have C := X.1
  refine j_aload_n C (@dc_of _ _ dL_law_2 120 _ _ _ rfl) rfl ?_
  refine j_arg X hk (j := 1) (q := 1) rfl rfl (@dc_of _ _ dL_law_2 121 _ _ _ rfl) (@dc_of _ _ dL_law_2 122 _ _ _ rfl) (@dc_of _ _ dL_law_2 123 _ _ _ rfl) (@dc_of _ _ dL_law_2 124 _ _ _ rfl) (@dc_of _ _ dL_law_2 125 _ _ _ rfl) ?_
  refine j_arg X hk (j := 2) (q := 2) rfl rfl (@dc_of _ _ dL_law_2 126 _ _ _ rfl) (@dc_of _ _ dL_law_2 127 _ _ _ rfl) (@dc_of _ _ dL_law_2 128 _ _ _ rfl) (@dc_of _ _ dL_law_2 129 _ _ _ rfl) (@dc_of _ _ dL_law_3 0 _ _ _ rfl) ?_
  refine law_c1 X hcs S (t_holds _ G S (xs (k + 1)) (xs (k + 2))) k__law_74 rfl (rest := []) rfl rfl rfl rfl (@dc_of _ _ dL_law_3 1 _ _ _ rfl) (fun v w1 h => ?_)
  refine j_aload_n C (@dc_of _ _ dL_law_3 2 _ _ _ rfl) rfl ?_
  refine j_arg X hk (j := 1) (q := 1) rfl rfl (@dc_of _ _ dL_law_3 3 _ _ _ rfl) (@dc_of _ _ dL_law_3 4 _ _ _ rfl) (@dc_of _ _ dL_law_3 5 _ _ _ rfl) (@dc_of _ _ dL_law_3 6 _ _ _ rfl) (@dc_of _ _ dL_law_3 7 _ _ _ rfl) ?_
  refine j_arg X hk (j := 2) (q := 2) rfl rfl (@dc_of _ _ dL_law_3 8 _ _ _ rfl) (@dc_of _ _ dL_law_3 9 _ _ _ rfl) (@dc_of _ _ dL_law_3 10 _ _ _ rfl) (@dc_of _ _ dL_law_3 11 _ _ _ rfl) (@dc_of _ _ dL_law_3 12 _ _ _ rfl) ?_
  refine law_c2 X hcs h k__law_77 rfl (rest := [.int v]) rfl rfl rfl rfl (@dc_of _ _ dL_law_3 13 _ _ _ rfl) (fun w2 S2 => ?_)
  exact j_icmp_eq C 1771 (@dc_of _ _ dL_law_3 14 _ _ _ rfl) (by decide) (fun _ => K w2 S2) (fun h => absurd rfl h)
theorem w_bonus {Z : ZT} {G : GT} {b n k : Nat} {xs : Nat → Int32} {nm : String} {cs : Nat × Nat} {w : Wd} (X : LX Z G b n xs nm) (hk : k + 6 ≤ n) (hcs : cs.1 ≤ 1000 ∧ cs.2 ≤ 100000) (S : Sv w) (K : ∀ w2, Sv w2 → J Z cs 1771 (lvS G b k) [] w2) : J Z cs 719 (lvS G b k) [] w := by
  have C := X.1
  refine j_aload_n C (@dc_of _ _ dL_law_3 17 _ _ _ rfl) rfl ?_
  refine j_arg X hk (j := 1) (q := 1) rfl rfl (@dc_of _ _ dL_law_3 18 _ _ _ rfl) (@dc_of _ _ dL_law_3 19 _ _ _ rfl) (@dc_of _ _ dL_law_3 20 _ _ _ rfl) (@dc_of _ _ dL_law_3 21 _ _ _ rfl) (@dc_of _ _ dL_law_3 22 _ _ _ rfl) ?_
  refine law_c1 X hcs S (t_bonus _ G S (xs (k + 1))) k__law_78 rfl (rest := []) rfl rfl rfl rfl (@dc_of _ _ dL_law_3 23 _ _ _ rfl) (fun v w1 h => ?_)
  refine j_aload_n C (@dc_of _ _ dL_law_3 24 _ _ _ rfl) rfl ?_
  refine j_arg X hk (j := 1) (q := 1) rfl rfl (@dc_of _ _ dL_law_3 25 _ _ _ rfl) (@dc_of _ _ dL_law_3 26 _ _ _ rfl) (@dc_of _ _ dL_law_3 27 _ _ _ rfl) (@dc_of _ _ dL_law_3 28 _ _ _ rfl) (@dc_of _ _ dL_law_3 29 _ _ _ rfl) ?_
  refine law_c2 X hcs h k__law_81 rfl (rest := [.int v]) rfl rfl rfl rfl (@dc_of _ _ dL_law_3 30 _ _ _ rfl) (fun w2 S2 => ?_)
  exact j_icmp_eq C 1771 (@dc_of _ _ dL_law_3 31 _ _ _ rfl) (by decide) (fun _ => K w2 S2) (fun h => absurd rfl h)
theorem w_place {Z : ZT} {G : GT} {b n k : Nat} {xs : Nat → Int32} {nm : String} {cs : Nat × Nat} {w : Wd} (X : LX Z G b n xs nm) (hk : k + 6 ≤ n) (hcs : cs.1 ≤ 1000 ∧ cs.2 ≤ 100000) (S : Sv w) (K : ∀ w2, Sv w2 → J Z cs 1771 (lvS G b k) [] w2) : J Z cs 742 (lvS G b k) [] w := by
  have C := X.1
  refine j_aload_n C (@dc_of _ _ dL_law_3 34 _ _ _ rfl) rfl ?_
  refine j_arg X hk (j := 1) (q := 1) rfl rfl (@dc_of _ _ dL_law_3 35 _ _ _ rfl) (@dc_of _ _ dL_law_3 36 _ _ _ rfl) (@dc_of _ _ dL_law_3 37 _ _ _ rfl) (@dc_of _ _ dL_law_3 38 _ _ _ rfl) (@dc_of _ _ dL_law_3 39 _ _ _ rfl) ?_
  refine law_c1 X hcs S (t_place _ G S (xs (k + 1))) k__law_82 rfl (rest := []) rfl rfl rfl rfl (@dc_of _ _ dL_law_3 40 _ _ _ rfl) (fun v w1 h => ?_)
  refine j_aload_n C (@dc_of _ _ dL_law_3 41 _ _ _ rfl) rfl ?_
  refine j_arg X hk (j := 1) (q := 1) rfl rfl (@dc_of _ _ dL_law_3 42 _ _ _ rfl) (@dc_of _ _ dL_law_3 43 _ _ _ rfl) (@dc_of _ _ dL_law_3 44 _ _ _ rfl) (@dc_of _ _ dL_law_3 45 _ _ _ rfl) (@dc_of _ _ dL_law_3 46 _ _ _ rfl) ?_
  refine law_c2 X hcs h k__law_85 rfl (rest := [.int v]) rfl rfl rfl rfl (@dc_of _ _ dL_law_3 47 _ _ _ rfl) (fun w2 S2 => ?_)
  exact j_icmp_eq C 1771 (@dc_of _ _ dL_law_3 48 _ _ _ rfl) (by decide) (fun _ => K w2 S2) (fun h => absurd rfl h)
theorem w_rank {Z : ZT} {G : GT} {b n k : Nat} {xs : Nat → Int32} {nm : String} {cs : Nat × Nat} {w : Wd} (X : LX Z G b n xs nm) (hk : k + 6 ≤ n) (hcs : cs.1 ≤ 1000 ∧ cs.2 ≤ 100000) (S : Sv w) (K : ∀ w2, Sv w2 → J Z cs 1771 (lvS G b k) [] w2) : J Z cs 765 (lvS G b k) [] w := by
  have C := X.1
  refine j_aload_n C (@dc_of _ _ dL_law_3 51 _ _ _ rfl) rfl ?_
  refine j_arg X hk (j := 1) (q := 1) rfl rfl (@dc_of _ _ dL_law_3 52 _ _ _ rfl) (@dc_of _ _ dL_law_3 53 _ _ _ rfl) (@dc_of _ _ dL_law_3 54 _ _ _ rfl) (@dc_of _ _ dL_law_3 55 _ _ _ rfl) (@dc_of _ _ dL_law_3 56 _ _ _ rfl) ?_
  refine law_c1 X hcs S (t_rank _ G S (xs (k + 1))) k__law_86 rfl (rest := []) rfl rfl rfl rfl (@dc_of _ _ dL_law_3 57 _ _ _ rfl) (fun v w1 h => ?_)
  refine j_aload_n C (@dc_of _ _ dL_law_3 58 _ _ _ rfl) rfl ?_
  refine j_arg X hk (j := 1) (q := 1) rfl rfl (@dc_of _ _ dL_law_3 59 _ _ _ rfl) (@dc_of _ _ dL_law_3 60 _ _ _ rfl) (@dc_of _ _ dL_law_3 61 _ _ _ rfl) (@dc_of _ _ dL_law_3 62 _ _ _ rfl) (@dc_of _ _ dL_law_3 63 _ _ _ rfl) ?_
  refine law_c2 X hcs h k__law_89 rfl (rest := [.int v]) rfl rfl rfl rfl (@dc_of _ _ dL_law_3 64 _ _ _ rfl) (fun w2 S2 => ?_)
  exact j_icmp_eq C 1771 (@dc_of _ _ dL_law_3 65 _ _ _ rfl) (by decide) (fun _ => K w2 S2) (fun h => absurd rfl h)
theorem w_leads {Z : ZT} {G : GT} {b n k : Nat} {xs : Nat → Int32} {nm : String} {cs : Nat × Nat} {w : Wd} (X : LX Z G b n xs nm) (hk : k + 6 ≤ n) (hcs : cs.1 ≤ 1000 ∧ cs.2 ≤ 100000) (S : Sv w) (K : ∀ w2, Sv w2 → J Z cs 1771 (lvS G b k) [] w2) : J Z cs 788 (lvS G b k) [] w := by
  have C := X.1
  refine j_aload_n C (@dc_of _ _ dL_law_3 68 _ _ _ rfl) rfl ?_
  refine j_arg X hk (j := 1) (q := 1) rfl rfl (@dc_of _ _ dL_law_3 69 _ _ _ rfl) (@dc_of _ _ dL_law_3 70 _ _ _ rfl) (@dc_of _ _ dL_law_3 71 _ _ _ rfl) (@dc_of _ _ dL_law_3 72 _ _ _ rfl) (@dc_of _ _ dL_law_3 73 _ _ _ rfl) ?_
  refine law_c1 X hcs S (t_leads _ G S (xs (k + 1))) k__law_90 rfl (rest := []) rfl rfl rfl rfl (@dc_of _ _ dL_law_3 74 _ _ _ rfl) (fun v w1 h => ?_)
  refine j_aload_n C (@dc_of _ _ dL_law_3 75 _ _ _ rfl) rfl ?_
  refine j_arg X hk (j := 1) (q := 1) rfl rfl (@dc_of _ _ dL_law_3 76 _ _ _ rfl) (@dc_of _ _ dL_law_3 77 _ _ _ rfl) (@dc_of _ _ dL_law_3 78 _ _ _ rfl) (@dc_of _ _ dL_law_3 79 _ _ _ rfl) (@dc_of _ _ dL_law_3 80 _ _ _ rfl) ?_
  refine law_c2 X hcs h k__law_93 rfl (rest := [.int v]) rfl rfl rfl rfl (@dc_of _ _ dL_law_3 81 _ _ _ rfl) (fun w2 S2 => ?_)
  exact j_icmp_eq C 1771 (@dc_of _ _ dL_law_3 82 _ _ _ rfl) (by decide) (fun _ => K w2 S2) (fun h => absurd rfl h)
theorem w_dream {Z : ZT} {G : GT} {b n k : Nat} {xs : Nat → Int32} {nm : String} {cs : Nat × Nat} {w : Wd} (X : LX Z G b n xs nm) (hk : k + 6 ≤ n) (hcs : cs.1 ≤ 1000 ∧ cs.2 ≤ 100000) (S : Sv w) (K : ∀ w2, Sv w2 → J Z cs 1771 (lvS G b k) [] w2) : J Z cs 811 (lvS G b k) [] w := by
  have C := X.1
  refine j_aload_n C (@dc_of _ _ dL_law_3 85 _ _ _ rfl) rfl ?_
  refine law_c1 X hcs S (t_dream _ G S) k__law_94 rfl (rest := []) rfl rfl rfl rfl (@dc_of _ _ dL_law_3 86 _ _ _ rfl) (fun v w1 h => ?_)
  refine j_aload_n C (@dc_of _ _ dL_law_3 87 _ _ _ rfl) rfl ?_
  refine law_c2 X hcs h k__law_97 rfl (rest := [.int v]) rfl rfl rfl rfl (@dc_of _ _ dL_law_3 88 _ _ _ rfl) (fun w2 S2 => ?_)
  exact j_icmp_eq C 1771 (@dc_of _ _ dL_law_3 89 _ _ _ rfl) (by decide) (fun _ => K w2 S2) (fun h => absurd rfl h)
theorem w_need {Z : ZT} {G : GT} {b n k : Nat} {xs : Nat → Int32} {nm : String} {cs : Nat × Nat} {w : Wd} (X : LX Z G b n xs nm) (hk : k + 6 ≤ n) (hcs : cs.1 ≤ 1000 ∧ cs.2 ≤ 100000) (S : Sv w) (K : ∀ w2, Sv w2 → J Z cs 1771 (lvS G b k) [] w2) : J Z cs 824 (lvS G b k) [] w := by
  have C := X.1
  refine j_aload_n C (@dc_of _ _ dL_law_3 92 _ _ _ rfl) rfl ?_
  refine j_arg X hk (j := 1) (q := 1) rfl rfl (@dc_of _ _ dL_law_3 93 _ _ _ rfl) (@dc_of _ _ dL_law_3 94 _ _ _ rfl) (@dc_of _ _ dL_law_3 95 _ _ _ rfl) (@dc_of _ _ dL_law_3 96 _ _ _ rfl) (@dc_of _ _ dL_law_3 97 _ _ _ rfl) ?_
  refine j_arg X hk (j := 2) (q := 2) rfl rfl (@dc_of _ _ dL_law_3 98 _ _ _ rfl) (@dc_of _ _ dL_law_3 99 _ _ _ rfl) (@dc_of _ _ dL_law_3 100 _ _ _ rfl) (@dc_of _ _ dL_law_3 101 _ _ _ rfl) (@dc_of _ _ dL_law_3 102 _ _ _ rfl) ?_
  refine law_c1 X hcs S (t_need _ G S (xs (k + 1)) (xs (k + 2))) k__law_98 rfl (rest := []) rfl rfl rfl rfl (@dc_of _ _ dL_law_3 103 _ _ _ rfl) (fun v w1 h => ?_)
  refine j_aload_n C (@dc_of _ _ dL_law_3 104 _ _ _ rfl) rfl ?_
  refine j_arg X hk (j := 1) (q := 1) rfl rfl (@dc_of _ _ dL_law_3 105 _ _ _ rfl) (@dc_of _ _ dL_law_3 106 _ _ _ rfl) (@dc_of _ _ dL_law_3 107 _ _ _ rfl) (@dc_of _ _ dL_law_3 108 _ _ _ rfl) (@dc_of _ _ dL_law_3 109 _ _ _ rfl) ?_
  refine j_arg X hk (j := 2) (q := 2) rfl rfl (@dc_of _ _ dL_law_3 110 _ _ _ rfl) (@dc_of _ _ dL_law_3 111 _ _ _ rfl) (@dc_of _ _ dL_law_3 112 _ _ _ rfl) (@dc_of _ _ dL_law_3 113 _ _ _ rfl) (@dc_of _ _ dL_law_3 114 _ _ _ rfl) ?_
  refine law_c2 X hcs h k__law_101 rfl (rest := [.int v]) rfl rfl rfl rfl (@dc_of _ _ dL_law_3 115 _ _ _ rfl) (fun w2 S2 => ?_)
  exact j_icmp_eq C 1771 (@dc_of _ _ dL_law_3 116 _ _ _ rfl) (by decide) (fun _ => K w2 S2) (fun h => absurd rfl h)
theorem w_needIn {Z : ZT} {G : GT} {b n k : Nat} {xs : Nat → Int32} {nm : String} {cs : Nat × Nat} {w : Wd} (X : LX Z G b n xs nm) (hk : k + 6 ≤ n) (hcs : cs.1 ≤ 1000 ∧ cs.2 ≤ 100000) (S : Sv w) (K : ∀ w2, Sv w2 → J Z cs 1771 (lvS G b k) [] w2) : J Z cs 857 (lvS G b k) [] w := by
  have C := X.1
  refine j_aload_n C (@dc_of _ _ dL_law_3 119 _ _ _ rfl) rfl ?_
  refine j_arg X hk (j := 1) (q := 1) rfl rfl (@dc_of _ _ dL_law_3 120 _ _ _ rfl) (@dc_of _ _ dL_law_3 121 _ _ _ rfl) (@dc_of _ _ dL_law_3 122 _ _ _ rfl) (@dc_of _ _ dL_law_3 123 _ _ _ rfl) (@dc_of _ _ dL_law_3 124 _ _ _ rfl) ?_
  refine j_arg X hk (j := 2) (q := 2) rfl rfl (@dc_of _ _ dL_law_3 125 _ _ _ rfl) (@dc_of _ _ dL_law_3 126 _ _ _ rfl) (@dc_of _ _ dL_law_3 127 _ _ _ rfl) (@dc_of _ _ dL_law_3 128 _ _ _ rfl) (@dc_of _ _ dL_law_3 129 _ _ _ rfl) ?_
  refine j_arg X hk (j := 3) (q := 3) rfl rfl (@dc_of _ _ dL_law_4 0 _ _ _ rfl) (@dc_of _ _ dL_law_4 1 _ _ _ rfl) (@dc_of _ _ dL_law_4 2 _ _ _ rfl) (@dc_of _ _ dL_law_4 3 _ _ _ rfl) (@dc_of _ _ dL_law_4 4 _ _ _ rfl) ?_
  refine law_c1 X hcs S (t_needIn _ G S (xs (k + 1)) (xs (k + 2)) (xs (k + 3))) k__law_102 rfl (rest := []) rfl rfl rfl rfl (@dc_of _ _ dL_law_4 5 _ _ _ rfl) (fun v w1 h => ?_)
  refine j_aload_n C (@dc_of _ _ dL_law_4 6 _ _ _ rfl) rfl ?_
  refine j_arg X hk (j := 1) (q := 1) rfl rfl (@dc_of _ _ dL_law_4 7 _ _ _ rfl) (@dc_of _ _ dL_law_4 8 _ _ _ rfl) (@dc_of _ _ dL_law_4 9 _ _ _ rfl) (@dc_of _ _ dL_law_4 10 _ _ _ rfl) (@dc_of _ _ dL_law_4 11 _ _ _ rfl) ?_
  refine j_arg X hk (j := 2) (q := 2) rfl rfl (@dc_of _ _ dL_law_4 12 _ _ _ rfl) (@dc_of _ _ dL_law_4 13 _ _ _ rfl) (@dc_of _ _ dL_law_4 14 _ _ _ rfl) (@dc_of _ _ dL_law_4 15 _ _ _ rfl) (@dc_of _ _ dL_law_4 16 _ _ _ rfl) ?_
  refine j_arg X hk (j := 3) (q := 3) rfl rfl (@dc_of _ _ dL_law_4 17 _ _ _ rfl) (@dc_of _ _ dL_law_4 18 _ _ _ rfl) (@dc_of _ _ dL_law_4 19 _ _ _ rfl) (@dc_of _ _ dL_law_4 20 _ _ _ rfl) (@dc_of _ _ dL_law_4 21 _ _ _ rfl) ?_
  refine law_c2 X hcs h k__law_105 rfl (rest := [.int v]) rfl rfl rfl rfl (@dc_of _ _ dL_law_4 22 _ _ _ rfl) (fun w2 S2 => ?_)
  exact j_icmp_eq C 1771 (@dc_of _ _ dL_law_4 23 _ _ _ rfl) (by decide) (fun _ => K w2 S2) (fun h => absurd rfl h)
theorem w_pass {Z : ZT} {G : GT} {b n k : Nat} {xs : Nat → Int32} {nm : String} {cs : Nat × Nat} {w : Wd} (X : LX Z G b n xs nm) (hk : k + 6 ≤ n) (hcs : cs.1 ≤ 1000 ∧ cs.2 ≤ 100000) (S : Sv w) (K : ∀ w2, Sv w2 → J Z cs 1771 (lvS G b k) [] w2) : J Z cs 900 (lvS G b k) [] w := by
  have C := X.1
  refine j_aload_n C (@dc_of _ _ dL_law_4 26 _ _ _ rfl) rfl ?_
  refine j_arg X hk (j := 1) (q := 1) rfl rfl (@dc_of _ _ dL_law_4 27 _ _ _ rfl) (@dc_of _ _ dL_law_4 28 _ _ _ rfl) (@dc_of _ _ dL_law_4 29 _ _ _ rfl) (@dc_of _ _ dL_law_4 30 _ _ _ rfl) (@dc_of _ _ dL_law_4 31 _ _ _ rfl) ?_
  refine j_arg X hk (j := 2) (q := 2) rfl rfl (@dc_of _ _ dL_law_4 32 _ _ _ rfl) (@dc_of _ _ dL_law_4 33 _ _ _ rfl) (@dc_of _ _ dL_law_4 34 _ _ _ rfl) (@dc_of _ _ dL_law_4 35 _ _ _ rfl) (@dc_of _ _ dL_law_4 36 _ _ _ rfl) ?_
  refine j_arg X hk (j := 3) (q := 3) rfl rfl (@dc_of _ _ dL_law_4 37 _ _ _ rfl) (@dc_of _ _ dL_law_4 38 _ _ _ rfl) (@dc_of _ _ dL_law_4 39 _ _ _ rfl) (@dc_of _ _ dL_law_4 40 _ _ _ rfl) (@dc_of _ _ dL_law_4 41 _ _ _ rfl) ?_
  refine law_c1 X hcs S (t_pass _ G S (xs (k + 1)) (xs (k + 2)) (xs (k + 3))) k__law_106 rfl (rest := []) rfl rfl rfl rfl (@dc_of _ _ dL_law_4 42 _ _ _ rfl) (fun v w1 h => ?_)
  refine j_aload_n C (@dc_of _ _ dL_law_4 43 _ _ _ rfl) rfl ?_
  refine j_arg X hk (j := 1) (q := 1) rfl rfl (@dc_of _ _ dL_law_4 44 _ _ _ rfl) (@dc_of _ _ dL_law_4 45 _ _ _ rfl) (@dc_of _ _ dL_law_4 46 _ _ _ rfl) (@dc_of _ _ dL_law_4 47 _ _ _ rfl) (@dc_of _ _ dL_law_4 48 _ _ _ rfl) ?_
  refine j_arg X hk (j := 2) (q := 2) rfl rfl (@dc_of _ _ dL_law_4 49 _ _ _ rfl) (@dc_of _ _ dL_law_4 50 _ _ _ rfl) (@dc_of _ _ dL_law_4 51 _ _ _ rfl) (@dc_of _ _ dL_law_4 52 _ _ _ rfl) (@dc_of _ _ dL_law_4 53 _ _ _ rfl) ?_
  refine j_arg X hk (j := 3) (q := 3) rfl rfl (@dc_of _ _ dL_law_4 54 _ _ _ rfl) (@dc_of _ _ dL_law_4 55 _ _ _ rfl) (@dc_of _ _ dL_law_4 56 _ _ _ rfl) (@dc_of _ _ dL_law_4 57 _ _ _ rfl) (@dc_of _ _ dL_law_4 58 _ _ _ rfl) ?_
  refine law_c2 X hcs h k__law_109 rfl (rest := [.int v]) rfl rfl rfl rfl (@dc_of _ _ dL_law_4 59 _ _ _ rfl) (fun w2 S2 => ?_)
  exact j_icmp_eq C 1771 (@dc_of _ _ dL_law_4 60 _ _ _ rfl) (by decide) (fun _ => K w2 S2) (fun h => absurd rfl h)
theorem w_trained {Z : ZT} {G : GT} {b n k : Nat} {xs : Nat → Int32} {nm : String} {cs : Nat × Nat} {w : Wd} (X : LX Z G b n xs nm) (hk : k + 6 ≤ n) (hcs : cs.1 ≤ 1000 ∧ cs.2 ≤ 100000) (S : Sv w) (K : ∀ w2, Sv w2 → J Z cs 1771 (lvS G b k) [] w2) : J Z cs 943 (lvS G b k) [] w := by
  have C := X.1
  refine j_aload_n C (@dc_of _ _ dL_law_4 63 _ _ _ rfl) rfl ?_
  refine j_arg X hk (j := 1) (q := 1) rfl rfl (@dc_of _ _ dL_law_4 64 _ _ _ rfl) (@dc_of _ _ dL_law_4 65 _ _ _ rfl) (@dc_of _ _ dL_law_4 66 _ _ _ rfl) (@dc_of _ _ dL_law_4 67 _ _ _ rfl) (@dc_of _ _ dL_law_4 68 _ _ _ rfl) ?_
  refine j_arg X hk (j := 2) (q := 2) rfl rfl (@dc_of _ _ dL_law_4 69 _ _ _ rfl) (@dc_of _ _ dL_law_4 70 _ _ _ rfl) (@dc_of _ _ dL_law_4 71 _ _ _ rfl) (@dc_of _ _ dL_law_4 72 _ _ _ rfl) (@dc_of _ _ dL_law_4 73 _ _ _ rfl) ?_
  refine j_arg X hk (j := 3) (q := 3) rfl rfl (@dc_of _ _ dL_law_4 74 _ _ _ rfl) (@dc_of _ _ dL_law_4 75 _ _ _ rfl) (@dc_of _ _ dL_law_4 76 _ _ _ rfl) (@dc_of _ _ dL_law_4 77 _ _ _ rfl) (@dc_of _ _ dL_law_4 78 _ _ _ rfl) ?_
  refine law_c1 X hcs S (t_trained _ G S (xs (k + 1)) (xs (k + 2)) (xs (k + 3))) k__law_110 rfl (rest := []) rfl rfl rfl rfl (@dc_of _ _ dL_law_4 79 _ _ _ rfl) (fun v w1 h => ?_)
  refine j_aload_n C (@dc_of _ _ dL_law_4 80 _ _ _ rfl) rfl ?_
  refine j_arg X hk (j := 1) (q := 1) rfl rfl (@dc_of _ _ dL_law_4 81 _ _ _ rfl) (@dc_of _ _ dL_law_4 82 _ _ _ rfl) (@dc_of _ _ dL_law_4 83 _ _ _ rfl) (@dc_of _ _ dL_law_4 84 _ _ _ rfl) (@dc_of _ _ dL_law_4 85 _ _ _ rfl) ?_
  refine j_arg X hk (j := 2) (q := 2) rfl rfl (@dc_of _ _ dL_law_4 86 _ _ _ rfl) (@dc_of _ _ dL_law_4 87 _ _ _ rfl) (@dc_of _ _ dL_law_4 88 _ _ _ rfl) (@dc_of _ _ dL_law_4 89 _ _ _ rfl) (@dc_of _ _ dL_law_4 90 _ _ _ rfl) ?_
  refine j_arg X hk (j := 3) (q := 3) rfl rfl (@dc_of _ _ dL_law_4 91 _ _ _ rfl) (@dc_of _ _ dL_law_4 92 _ _ _ rfl) (@dc_of _ _ dL_law_4 93 _ _ _ rfl) (@dc_of _ _ dL_law_4 94 _ _ _ rfl) (@dc_of _ _ dL_law_4 95 _ _ _ rfl) ?_
  refine law_c2 X hcs h k__law_113 rfl (rest := [.int v]) rfl rfl rfl rfl (@dc_of _ _ dL_law_4 96 _ _ _ rfl) (fun w2 S2 => ?_)
  exact j_icmp_eq C 1771 (@dc_of _ _ dL_law_4 97 _ _ _ rfl) (by decide) (fun _ => K w2 S2) (fun h => absurd rfl h)
theorem w_gains {Z : ZT} {G : GT} {b n k : Nat} {xs : Nat → Int32} {nm : String} {cs : Nat × Nat} {w : Wd} (X : LX Z G b n xs nm) (hk : k + 6 ≤ n) (hcs : cs.1 ≤ 1000 ∧ cs.2 ≤ 100000) (S : Sv w) (K : ∀ w2, Sv w2 → J Z cs 1771 (lvS G b k) [] w2) : J Z cs 986 (lvS G b k) [] w := by
  have C := X.1
  refine j_aload_n C (@dc_of _ _ dL_law_4 100 _ _ _ rfl) rfl ?_
  refine j_arg X hk (j := 1) (q := 1) rfl rfl (@dc_of _ _ dL_law_4 101 _ _ _ rfl) (@dc_of _ _ dL_law_4 102 _ _ _ rfl) (@dc_of _ _ dL_law_4 103 _ _ _ rfl) (@dc_of _ _ dL_law_4 104 _ _ _ rfl) (@dc_of _ _ dL_law_4 105 _ _ _ rfl) ?_
  refine j_arg X hk (j := 2) (q := 2) rfl rfl (@dc_of _ _ dL_law_4 106 _ _ _ rfl) (@dc_of _ _ dL_law_4 107 _ _ _ rfl) (@dc_of _ _ dL_law_4 108 _ _ _ rfl) (@dc_of _ _ dL_law_4 109 _ _ _ rfl) (@dc_of _ _ dL_law_4 110 _ _ _ rfl) ?_
  refine j_arg X hk (j := 3) (q := 3) rfl rfl (@dc_of _ _ dL_law_4 111 _ _ _ rfl) (@dc_of _ _ dL_law_4 112 _ _ _ rfl) (@dc_of _ _ dL_law_4 113 _ _ _ rfl) (@dc_of _ _ dL_law_4 114 _ _ _ rfl) (@dc_of _ _ dL_law_4 115 _ _ _ rfl) ?_
  refine law_c1 X hcs S (t_gains _ G S (xs (k + 1)) (xs (k + 2)) (xs (k + 3))) k__law_114 rfl (rest := []) rfl rfl rfl rfl (@dc_of _ _ dL_law_4 116 _ _ _ rfl) (fun v w1 h => ?_)
  refine j_aload_n C (@dc_of _ _ dL_law_4 117 _ _ _ rfl) rfl ?_
  refine j_arg X hk (j := 1) (q := 1) rfl rfl (@dc_of _ _ dL_law_4 118 _ _ _ rfl) (@dc_of _ _ dL_law_4 119 _ _ _ rfl) (@dc_of _ _ dL_law_4 120 _ _ _ rfl) (@dc_of _ _ dL_law_4 121 _ _ _ rfl) (@dc_of _ _ dL_law_4 122 _ _ _ rfl) ?_
  refine j_arg X hk (j := 2) (q := 2) rfl rfl (@dc_of _ _ dL_law_4 123 _ _ _ rfl) (@dc_of _ _ dL_law_4 124 _ _ _ rfl) (@dc_of _ _ dL_law_4 125 _ _ _ rfl) (@dc_of _ _ dL_law_4 126 _ _ _ rfl) (@dc_of _ _ dL_law_4 127 _ _ _ rfl) ?_
  refine j_arg X hk (j := 3) (q := 3) rfl rfl (@dc_of _ _ dL_law_4 128 _ _ _ rfl) (@dc_of _ _ dL_law_4 129 _ _ _ rfl) (@dc_of _ _ dL_law_5 0 _ _ _ rfl) (@dc_of _ _ dL_law_5 1 _ _ _ rfl) (@dc_of _ _ dL_law_5 2 _ _ _ rfl) ?_
  refine law_c2 X hcs h k__law_117 rfl (rest := [.int v]) rfl rfl rfl rfl (@dc_of _ _ dL_law_5 3 _ _ _ rfl) (fun w2 S2 => ?_)
  exact j_icmp_eq C 1771 (@dc_of _ _ dL_law_5 4 _ _ _ rfl) (by decide) (fun _ => K w2 S2) (fun h => absurd rfl h)
theorem w_pays {Z : ZT} {G : GT} {b n k : Nat} {xs : Nat → Int32} {nm : String} {cs : Nat × Nat} {w : Wd} (X : LX Z G b n xs nm) (hk : k + 6 ≤ n) (hcs : cs.1 ≤ 1000 ∧ cs.2 ≤ 100000) (S : Sv w) (K : ∀ w2, Sv w2 → J Z cs 1771 (lvS G b k) [] w2) : J Z cs 1029 (lvS G b k) [] w := by
  have C := X.1
  refine j_aload_n C (@dc_of _ _ dL_law_5 7 _ _ _ rfl) rfl ?_
  refine j_arg X hk (j := 1) (q := 1) rfl rfl (@dc_of _ _ dL_law_5 8 _ _ _ rfl) (@dc_of _ _ dL_law_5 9 _ _ _ rfl) (@dc_of _ _ dL_law_5 10 _ _ _ rfl) (@dc_of _ _ dL_law_5 11 _ _ _ rfl) (@dc_of _ _ dL_law_5 12 _ _ _ rfl) ?_
  refine j_arg X hk (j := 2) (q := 2) rfl rfl (@dc_of _ _ dL_law_5 13 _ _ _ rfl) (@dc_of _ _ dL_law_5 14 _ _ _ rfl) (@dc_of _ _ dL_law_5 15 _ _ _ rfl) (@dc_of _ _ dL_law_5 16 _ _ _ rfl) (@dc_of _ _ dL_law_5 17 _ _ _ rfl) ?_
  refine law_c1 X hcs S (t_pays _ G S (xs (k + 1)) (xs (k + 2))) k__law_118 rfl (rest := []) rfl rfl rfl rfl (@dc_of _ _ dL_law_5 18 _ _ _ rfl) (fun v w1 h => ?_)
  refine j_aload_n C (@dc_of _ _ dL_law_5 19 _ _ _ rfl) rfl ?_
  refine j_arg X hk (j := 1) (q := 1) rfl rfl (@dc_of _ _ dL_law_5 20 _ _ _ rfl) (@dc_of _ _ dL_law_5 21 _ _ _ rfl) (@dc_of _ _ dL_law_5 22 _ _ _ rfl) (@dc_of _ _ dL_law_5 23 _ _ _ rfl) (@dc_of _ _ dL_law_5 24 _ _ _ rfl) ?_
  refine j_arg X hk (j := 2) (q := 2) rfl rfl (@dc_of _ _ dL_law_5 25 _ _ _ rfl) (@dc_of _ _ dL_law_5 26 _ _ _ rfl) (@dc_of _ _ dL_law_5 27 _ _ _ rfl) (@dc_of _ _ dL_law_5 28 _ _ _ rfl) (@dc_of _ _ dL_law_5 29 _ _ _ rfl) ?_
  refine law_c2 X hcs h k__law_121 rfl (rest := [.int v]) rfl rfl rfl rfl (@dc_of _ _ dL_law_5 30 _ _ _ rfl) (fun w2 S2 => ?_)
  exact j_icmp_eq C 1771 (@dc_of _ _ dL_law_5 31 _ _ _ rfl) (by decide) (fun _ => K w2 S2) (fun h => absurd rfl h)
theorem w_spread {Z : ZT} {G : GT} {b n k : Nat} {xs : Nat → Int32} {nm : String} {cs : Nat × Nat} {w : Wd} (X : LX Z G b n xs nm) (hk : k + 6 ≤ n) (hcs : cs.1 ≤ 1000 ∧ cs.2 ≤ 100000) (S : Sv w) (K : ∀ w2, Sv w2 → J Z cs 1771 (lvS G b k) [] w2) : J Z cs 1062 (lvS G b k) [] w := by
  have C := X.1
  refine j_aload_n C (@dc_of _ _ dL_law_5 34 _ _ _ rfl) rfl ?_
  refine j_arg X hk (j := 1) (q := 1) rfl rfl (@dc_of _ _ dL_law_5 35 _ _ _ rfl) (@dc_of _ _ dL_law_5 36 _ _ _ rfl) (@dc_of _ _ dL_law_5 37 _ _ _ rfl) (@dc_of _ _ dL_law_5 38 _ _ _ rfl) (@dc_of _ _ dL_law_5 39 _ _ _ rfl) ?_
  refine j_arg X hk (j := 2) (q := 2) rfl rfl (@dc_of _ _ dL_law_5 40 _ _ _ rfl) (@dc_of _ _ dL_law_5 41 _ _ _ rfl) (@dc_of _ _ dL_law_5 42 _ _ _ rfl) (@dc_of _ _ dL_law_5 43 _ _ _ rfl) (@dc_of _ _ dL_law_5 44 _ _ _ rfl) ?_
  refine j_arg X hk (j := 3) (q := 3) rfl rfl (@dc_of _ _ dL_law_5 45 _ _ _ rfl) (@dc_of _ _ dL_law_5 46 _ _ _ rfl) (@dc_of _ _ dL_law_5 47 _ _ _ rfl) (@dc_of _ _ dL_law_5 48 _ _ _ rfl) (@dc_of _ _ dL_law_5 49 _ _ _ rfl) ?_
  refine law_c1 X hcs S (t_spread _ G S (xs (k + 1)) (xs (k + 2)) (xs (k + 3))) k__law_122 rfl (rest := []) rfl rfl rfl rfl (@dc_of _ _ dL_law_5 50 _ _ _ rfl) (fun v w1 h => ?_)
  refine j_aload_n C (@dc_of _ _ dL_law_5 51 _ _ _ rfl) rfl ?_
  refine j_arg X hk (j := 1) (q := 1) rfl rfl (@dc_of _ _ dL_law_5 52 _ _ _ rfl) (@dc_of _ _ dL_law_5 53 _ _ _ rfl) (@dc_of _ _ dL_law_5 54 _ _ _ rfl) (@dc_of _ _ dL_law_5 55 _ _ _ rfl) (@dc_of _ _ dL_law_5 56 _ _ _ rfl) ?_
  refine j_arg X hk (j := 2) (q := 2) rfl rfl (@dc_of _ _ dL_law_5 57 _ _ _ rfl) (@dc_of _ _ dL_law_5 58 _ _ _ rfl) (@dc_of _ _ dL_law_5 59 _ _ _ rfl) (@dc_of _ _ dL_law_5 60 _ _ _ rfl) (@dc_of _ _ dL_law_5 61 _ _ _ rfl) ?_
  refine j_arg X hk (j := 3) (q := 3) rfl rfl (@dc_of _ _ dL_law_5 62 _ _ _ rfl) (@dc_of _ _ dL_law_5 63 _ _ _ rfl) (@dc_of _ _ dL_law_5 64 _ _ _ rfl) (@dc_of _ _ dL_law_5 65 _ _ _ rfl) (@dc_of _ _ dL_law_5 66 _ _ _ rfl) ?_
  refine law_c2 X hcs h k__law_125 rfl (rest := [.int v]) rfl rfl rfl rfl (@dc_of _ _ dL_law_5 67 _ _ _ rfl) (fun w2 S2 => ?_)
  exact j_icmp_eq C 1771 (@dc_of _ _ dL_law_5 68 _ _ _ rfl) (by decide) (fun _ => K w2 S2) (fun h => absurd rfl h)
theorem w_hours {Z : ZT} {G : GT} {b n k : Nat} {xs : Nat → Int32} {nm : String} {cs : Nat × Nat} {w : Wd} (X : LX Z G b n xs nm) (hk : k + 6 ≤ n) (hcs : cs.1 ≤ 1000 ∧ cs.2 ≤ 100000) (S : Sv w) (K : ∀ w2, Sv w2 → J Z cs 1771 (lvS G b k) [] w2) : J Z cs 1105 (lvS G b k) [] w := by
  have C := X.1
  refine j_aload_n C (@dc_of _ _ dL_law_5 71 _ _ _ rfl) rfl ?_
  refine j_arg X hk (j := 1) (q := 1) rfl rfl (@dc_of _ _ dL_law_5 72 _ _ _ rfl) (@dc_of _ _ dL_law_5 73 _ _ _ rfl) (@dc_of _ _ dL_law_5 74 _ _ _ rfl) (@dc_of _ _ dL_law_5 75 _ _ _ rfl) (@dc_of _ _ dL_law_5 76 _ _ _ rfl) ?_
  refine j_arg X hk (j := 2) (q := 2) rfl rfl (@dc_of _ _ dL_law_5 77 _ _ _ rfl) (@dc_of _ _ dL_law_5 78 _ _ _ rfl) (@dc_of _ _ dL_law_5 79 _ _ _ rfl) (@dc_of _ _ dL_law_5 80 _ _ _ rfl) (@dc_of _ _ dL_law_5 81 _ _ _ rfl) ?_
  refine law_c1 X hcs S (t_hours _ G S (xs (k + 1)) (xs (k + 2))) k__law_126 rfl (rest := []) rfl rfl rfl rfl (@dc_of _ _ dL_law_5 82 _ _ _ rfl) (fun v w1 h => ?_)
  refine j_aload_n C (@dc_of _ _ dL_law_5 83 _ _ _ rfl) rfl ?_
  refine j_arg X hk (j := 1) (q := 1) rfl rfl (@dc_of _ _ dL_law_5 84 _ _ _ rfl) (@dc_of _ _ dL_law_5 85 _ _ _ rfl) (@dc_of _ _ dL_law_5 86 _ _ _ rfl) (@dc_of _ _ dL_law_5 87 _ _ _ rfl) (@dc_of _ _ dL_law_5 88 _ _ _ rfl) ?_
  refine j_arg X hk (j := 2) (q := 2) rfl rfl (@dc_of _ _ dL_law_5 89 _ _ _ rfl) (@dc_of _ _ dL_law_5 90 _ _ _ rfl) (@dc_of _ _ dL_law_5 91 _ _ _ rfl) (@dc_of _ _ dL_law_5 92 _ _ _ rfl) (@dc_of _ _ dL_law_5 93 _ _ _ rfl) ?_
  refine law_c2 X hcs h k__law_129 rfl (rest := [.int v]) rfl rfl rfl rfl (@dc_of _ _ dL_law_5 94 _ _ _ rfl) (fun w2 S2 => ?_)
  exact j_icmp_eq C 1771 (@dc_of _ _ dL_law_5 95 _ _ _ rfl) (by decide) (fun _ => K w2 S2) (fun h => absurd rfl h)
theorem w_meet {Z : ZT} {G : GT} {b n k : Nat} {xs : Nat → Int32} {nm : String} {cs : Nat × Nat} {w : Wd} (X : LX Z G b n xs nm) (hk : k + 6 ≤ n) (hcs : cs.1 ≤ 1000 ∧ cs.2 ≤ 100000) (S : Sv w) (K : ∀ w2, Sv w2 → J Z cs 1771 (lvS G b k) [] w2) : J Z cs 1138 (lvS G b k) [] w := by
  have C := X.1
  refine j_aload_n C (@dc_of _ _ dL_law_5 98 _ _ _ rfl) rfl ?_
  refine j_arg X hk (j := 1) (q := 1) rfl rfl (@dc_of _ _ dL_law_5 99 _ _ _ rfl) (@dc_of _ _ dL_law_5 100 _ _ _ rfl) (@dc_of _ _ dL_law_5 101 _ _ _ rfl) (@dc_of _ _ dL_law_5 102 _ _ _ rfl) (@dc_of _ _ dL_law_5 103 _ _ _ rfl) ?_
  refine j_arg X hk (j := 2) (q := 2) rfl rfl (@dc_of _ _ dL_law_5 104 _ _ _ rfl) (@dc_of _ _ dL_law_5 105 _ _ _ rfl) (@dc_of _ _ dL_law_5 106 _ _ _ rfl) (@dc_of _ _ dL_law_5 107 _ _ _ rfl) (@dc_of _ _ dL_law_5 108 _ _ _ rfl) ?_
  refine law_c1 X hcs S (t_meet _ G S (xs (k + 1)) (xs (k + 2))) k__law_130 rfl (rest := []) rfl rfl rfl rfl (@dc_of _ _ dL_law_5 109 _ _ _ rfl) (fun v w1 h => ?_)
  refine j_aload_n C (@dc_of _ _ dL_law_5 110 _ _ _ rfl) rfl ?_
  refine j_arg X hk (j := 1) (q := 1) rfl rfl (@dc_of _ _ dL_law_5 111 _ _ _ rfl) (@dc_of _ _ dL_law_5 112 _ _ _ rfl) (@dc_of _ _ dL_law_5 113 _ _ _ rfl) (@dc_of _ _ dL_law_5 114 _ _ _ rfl) (@dc_of _ _ dL_law_5 115 _ _ _ rfl) ?_
  refine j_arg X hk (j := 2) (q := 2) rfl rfl (@dc_of _ _ dL_law_5 116 _ _ _ rfl) (@dc_of _ _ dL_law_5 117 _ _ _ rfl) (@dc_of _ _ dL_law_5 118 _ _ _ rfl) (@dc_of _ _ dL_law_5 119 _ _ _ rfl) (@dc_of _ _ dL_law_5 120 _ _ _ rfl) ?_
  refine law_c2 X hcs h k__law_133 rfl (rest := [.int v]) rfl rfl rfl rfl (@dc_of _ _ dL_law_5 121 _ _ _ rfl) (fun w2 S2 => ?_)
  exact j_icmp_eq C 1771 (@dc_of _ _ dL_law_5 122 _ _ _ rfl) (by decide) (fun _ => K w2 S2) (fun h => absurd rfl h)
theorem w_met {Z : ZT} {G : GT} {b n k : Nat} {xs : Nat → Int32} {nm : String} {cs : Nat × Nat} {w : Wd} (X : LX Z G b n xs nm) (hk : k + 6 ≤ n) (hcs : cs.1 ≤ 1000 ∧ cs.2 ≤ 100000) (S : Sv w) (K : ∀ w2, Sv w2 → J Z cs 1771 (lvS G b k) [] w2) : J Z cs 1171 (lvS G b k) [] w := by
  have C := X.1
  refine j_aload_n C (@dc_of _ _ dL_law_5 125 _ _ _ rfl) rfl ?_
  refine j_arg X hk (j := 1) (q := 1) rfl rfl (@dc_of _ _ dL_law_5 126 _ _ _ rfl) (@dc_of _ _ dL_law_5 127 _ _ _ rfl) (@dc_of _ _ dL_law_5 128 _ _ _ rfl) (@dc_of _ _ dL_law_5 129 _ _ _ rfl) (@dc_of _ _ dL_law_6 0 _ _ _ rfl) ?_
  refine j_arg X hk (j := 2) (q := 2) rfl rfl (@dc_of _ _ dL_law_6 1 _ _ _ rfl) (@dc_of _ _ dL_law_6 2 _ _ _ rfl) (@dc_of _ _ dL_law_6 3 _ _ _ rfl) (@dc_of _ _ dL_law_6 4 _ _ _ rfl) (@dc_of _ _ dL_law_6 5 _ _ _ rfl) ?_
  refine law_c1 X hcs S (t_met _ G S (xs (k + 1)) (xs (k + 2))) k__law_134 rfl (rest := []) rfl rfl rfl rfl (@dc_of _ _ dL_law_6 6 _ _ _ rfl) (fun v w1 h => ?_)
  refine j_aload_n C (@dc_of _ _ dL_law_6 7 _ _ _ rfl) rfl ?_
  refine j_arg X hk (j := 1) (q := 1) rfl rfl (@dc_of _ _ dL_law_6 8 _ _ _ rfl) (@dc_of _ _ dL_law_6 9 _ _ _ rfl) (@dc_of _ _ dL_law_6 10 _ _ _ rfl) (@dc_of _ _ dL_law_6 11 _ _ _ rfl) (@dc_of _ _ dL_law_6 12 _ _ _ rfl) ?_
  refine j_arg X hk (j := 2) (q := 2) rfl rfl (@dc_of _ _ dL_law_6 13 _ _ _ rfl) (@dc_of _ _ dL_law_6 14 _ _ _ rfl) (@dc_of _ _ dL_law_6 15 _ _ _ rfl) (@dc_of _ _ dL_law_6 16 _ _ _ rfl) (@dc_of _ _ dL_law_6 17 _ _ _ rfl) ?_
  refine law_c2 X hcs h k__law_137 rfl (rest := [.int v]) rfl rfl rfl rfl (@dc_of _ _ dL_law_6 18 _ _ _ rfl) (fun w2 S2 => ?_)
  exact j_icmp_eq C 1771 (@dc_of _ _ dL_law_6 19 _ _ _ rfl) (by decide) (fun _ => K w2 S2) (fun h => absurd rfl h)
theorem w_odds {Z : ZT} {G : GT} {b n k : Nat} {xs : Nat → Int32} {nm : String} {cs : Nat × Nat} {w : Wd} (X : LX Z G b n xs nm) (hk : k + 6 ≤ n) (hcs : cs.1 ≤ 1000 ∧ cs.2 ≤ 100000) (S : Sv w) (K : ∀ w2, Sv w2 → J Z cs 1771 (lvS G b k) [] w2) : J Z cs 1204 (lvS G b k) [] w := by
  have C := X.1
  refine j_aload_n C (@dc_of _ _ dL_law_6 22 _ _ _ rfl) rfl ?_
  refine j_arg X hk (j := 1) (q := 1) rfl rfl (@dc_of _ _ dL_law_6 23 _ _ _ rfl) (@dc_of _ _ dL_law_6 24 _ _ _ rfl) (@dc_of _ _ dL_law_6 25 _ _ _ rfl) (@dc_of _ _ dL_law_6 26 _ _ _ rfl) (@dc_of _ _ dL_law_6 27 _ _ _ rfl) ?_
  refine j_arg X hk (j := 2) (q := 2) rfl rfl (@dc_of _ _ dL_law_6 28 _ _ _ rfl) (@dc_of _ _ dL_law_6 29 _ _ _ rfl) (@dc_of _ _ dL_law_6 30 _ _ _ rfl) (@dc_of _ _ dL_law_6 31 _ _ _ rfl) (@dc_of _ _ dL_law_6 32 _ _ _ rfl) ?_
  refine j_arg X hk (j := 3) (q := 3) rfl rfl (@dc_of _ _ dL_law_6 33 _ _ _ rfl) (@dc_of _ _ dL_law_6 34 _ _ _ rfl) (@dc_of _ _ dL_law_6 35 _ _ _ rfl) (@dc_of _ _ dL_law_6 36 _ _ _ rfl) (@dc_of _ _ dL_law_6 37 _ _ _ rfl) ?_
  refine law_c1 X hcs S (t_odds _ G S (xs (k + 1)) (xs (k + 2)) (xs (k + 3))) k__law_138 rfl (rest := []) rfl rfl rfl rfl (@dc_of _ _ dL_law_6 38 _ _ _ rfl) (fun v w1 h => ?_)
  refine j_aload_n C (@dc_of _ _ dL_law_6 39 _ _ _ rfl) rfl ?_
  refine j_arg X hk (j := 1) (q := 1) rfl rfl (@dc_of _ _ dL_law_6 40 _ _ _ rfl) (@dc_of _ _ dL_law_6 41 _ _ _ rfl) (@dc_of _ _ dL_law_6 42 _ _ _ rfl) (@dc_of _ _ dL_law_6 43 _ _ _ rfl) (@dc_of _ _ dL_law_6 44 _ _ _ rfl) ?_
  refine j_arg X hk (j := 2) (q := 2) rfl rfl (@dc_of _ _ dL_law_6 45 _ _ _ rfl) (@dc_of _ _ dL_law_6 46 _ _ _ rfl) (@dc_of _ _ dL_law_6 47 _ _ _ rfl) (@dc_of _ _ dL_law_6 48 _ _ _ rfl) (@dc_of _ _ dL_law_6 49 _ _ _ rfl) ?_
  refine j_arg X hk (j := 3) (q := 3) rfl rfl (@dc_of _ _ dL_law_6 50 _ _ _ rfl) (@dc_of _ _ dL_law_6 51 _ _ _ rfl) (@dc_of _ _ dL_law_6 52 _ _ _ rfl) (@dc_of _ _ dL_law_6 53 _ _ _ rfl) (@dc_of _ _ dL_law_6 54 _ _ _ rfl) ?_
  refine law_c2 X hcs h k__law_141 rfl (rest := [.int v]) rfl rfl rfl rfl (@dc_of _ _ dL_law_6 55 _ _ _ rfl) (fun w2 S2 => ?_)
  exact j_icmp_eq C 1771 (@dc_of _ _ dL_law_6 56 _ _ _ rfl) (by decide) (fun _ => K w2 S2) (fun h => absurd rfl h)
theorem w_sets {Z : ZT} {G : GT} {b n k : Nat} {xs : Nat → Int32} {nm : String} {cs : Nat × Nat} {w : Wd} (X : LX Z G b n xs nm) (hk : k + 6 ≤ n) (hcs : cs.1 ≤ 1000 ∧ cs.2 ≤ 100000) (S : Sv w) (K : ∀ w2, Sv w2 → J Z cs 1771 (lvS G b k) [] w2) : J Z cs 1247 (lvS G b k) [] w := by
  have C := X.1
  refine j_aload_n C (@dc_of _ _ dL_law_6 59 _ _ _ rfl) rfl ?_
  refine j_arg X hk (j := 1) (q := 1) rfl rfl (@dc_of _ _ dL_law_6 60 _ _ _ rfl) (@dc_of _ _ dL_law_6 61 _ _ _ rfl) (@dc_of _ _ dL_law_6 62 _ _ _ rfl) (@dc_of _ _ dL_law_6 63 _ _ _ rfl) (@dc_of _ _ dL_law_6 64 _ _ _ rfl) ?_
  refine j_arg X hk (j := 2) (q := 2) rfl rfl (@dc_of _ _ dL_law_6 65 _ _ _ rfl) (@dc_of _ _ dL_law_6 66 _ _ _ rfl) (@dc_of _ _ dL_law_6 67 _ _ _ rfl) (@dc_of _ _ dL_law_6 68 _ _ _ rfl) (@dc_of _ _ dL_law_6 69 _ _ _ rfl) ?_
  refine j_arg X hk (j := 3) (q := 3) rfl rfl (@dc_of _ _ dL_law_6 70 _ _ _ rfl) (@dc_of _ _ dL_law_6 71 _ _ _ rfl) (@dc_of _ _ dL_law_6 72 _ _ _ rfl) (@dc_of _ _ dL_law_6 73 _ _ _ rfl) (@dc_of _ _ dL_law_6 74 _ _ _ rfl) ?_
  refine law_c1 X hcs S (t_sets _ G S (xs (k + 1)) (xs (k + 2)) (xs (k + 3))) k__law_142 rfl (rest := []) rfl rfl rfl rfl (@dc_of _ _ dL_law_6 75 _ _ _ rfl) (fun v w1 h => ?_)
  refine j_aload_n C (@dc_of _ _ dL_law_6 76 _ _ _ rfl) rfl ?_
  refine j_arg X hk (j := 1) (q := 1) rfl rfl (@dc_of _ _ dL_law_6 77 _ _ _ rfl) (@dc_of _ _ dL_law_6 78 _ _ _ rfl) (@dc_of _ _ dL_law_6 79 _ _ _ rfl) (@dc_of _ _ dL_law_6 80 _ _ _ rfl) (@dc_of _ _ dL_law_6 81 _ _ _ rfl) ?_
  refine j_arg X hk (j := 2) (q := 2) rfl rfl (@dc_of _ _ dL_law_6 82 _ _ _ rfl) (@dc_of _ _ dL_law_6 83 _ _ _ rfl) (@dc_of _ _ dL_law_6 84 _ _ _ rfl) (@dc_of _ _ dL_law_6 85 _ _ _ rfl) (@dc_of _ _ dL_law_6 86 _ _ _ rfl) ?_
  refine j_arg X hk (j := 3) (q := 3) rfl rfl (@dc_of _ _ dL_law_6 87 _ _ _ rfl) (@dc_of _ _ dL_law_6 88 _ _ _ rfl) (@dc_of _ _ dL_law_6 89 _ _ _ rfl) (@dc_of _ _ dL_law_6 90 _ _ _ rfl) (@dc_of _ _ dL_law_6 91 _ _ _ rfl) ?_
  refine law_c2 X hcs h k__law_145 rfl (rest := [.int v]) rfl rfl rfl rfl (@dc_of _ _ dL_law_6 92 _ _ _ rfl) (fun w2 S2 => ?_)
  exact j_icmp_eq C 1771 (@dc_of _ _ dL_law_6 93 _ _ _ rfl) (by decide) (fun _ => K w2 S2) (fun h => absurd rfl h)
theorem w_athlete {Z : ZT} {G : GT} {b n k : Nat} {xs : Nat → Int32} {nm : String} {cs : Nat × Nat} {w : Wd} (X : LX Z G b n xs nm) (hk : k + 6 ≤ n) (hcs : cs.1 ≤ 1000 ∧ cs.2 ≤ 100000) (S : Sv w) (K : ∀ w2, Sv w2 → J Z cs 1771 (lvS G b k) [] w2) : J Z cs 1290 (lvS G b k) [] w := by
  have C := X.1
  refine j_aload_n C (@dc_of _ _ dL_law_6 96 _ _ _ rfl) rfl ?_
  refine law_c1 X hcs S (t_athlete _ G S) k__law_146 rfl (rest := []) rfl rfl rfl rfl (@dc_of _ _ dL_law_6 97 _ _ _ rfl) (fun v w1 h => ?_)
  refine j_aload_n C (@dc_of _ _ dL_law_6 98 _ _ _ rfl) rfl ?_
  refine law_c2 X hcs h k__law_149 rfl (rest := [.int v]) rfl rfl rfl rfl (@dc_of _ _ dL_law_6 99 _ _ _ rfl) (fun w2 S2 => ?_)
  exact j_icmp_eq C 1771 (@dc_of _ _ dL_law_6 100 _ _ _ rfl) (by decide) (fun _ => K w2 S2) (fun h => absurd rfl h)
theorem w_gain {Z : ZT} {G : GT} {b n k : Nat} {xs : Nat → Int32} {nm : String} {cs : Nat × Nat} {w : Wd} (X : LX Z G b n xs nm) (hk : k + 6 ≤ n) (hcs : cs.1 ≤ 1000 ∧ cs.2 ≤ 100000) (S : Sv w) (K : ∀ w2, Sv w2 → J Z cs 1771 (lvS G b k) [] w2) : J Z cs 1303 (lvS G b k) [] w := by
  have C := X.1
  refine j_aload_n C (@dc_of _ _ dL_law_6 103 _ _ _ rfl) rfl ?_
  refine j_arg X hk (j := 1) (q := 1) rfl rfl (@dc_of _ _ dL_law_6 104 _ _ _ rfl) (@dc_of _ _ dL_law_6 105 _ _ _ rfl) (@dc_of _ _ dL_law_6 106 _ _ _ rfl) (@dc_of _ _ dL_law_6 107 _ _ _ rfl) (@dc_of _ _ dL_law_6 108 _ _ _ rfl) ?_
  refine j_arg X hk (j := 2) (q := 2) rfl rfl (@dc_of _ _ dL_law_6 109 _ _ _ rfl) (@dc_of _ _ dL_law_6 110 _ _ _ rfl) (@dc_of _ _ dL_law_6 111 _ _ _ rfl) (@dc_of _ _ dL_law_6 112 _ _ _ rfl) (@dc_of _ _ dL_law_6 113 _ _ _ rfl) ?_
  refine j_arg X hk (j := 3) (q := 3) rfl rfl (@dc_of _ _ dL_law_6 114 _ _ _ rfl) (@dc_of _ _ dL_law_6 115 _ _ _ rfl) (@dc_of _ _ dL_law_6 116 _ _ _ rfl) (@dc_of _ _ dL_law_6 117 _ _ _ rfl) (@dc_of _ _ dL_law_6 118 _ _ _ rfl) ?_
  refine j_arg X hk (j := 4) (q := 4) rfl rfl (@dc_of _ _ dL_law_6 119 _ _ _ rfl) (@dc_of _ _ dL_law_6 120 _ _ _ rfl) (@dc_of _ _ dL_law_6 121 _ _ _ rfl) (@dc_of _ _ dL_law_6 122 _ _ _ rfl) (@dc_of _ _ dL_law_6 123 _ _ _ rfl) ?_
  refine law_c1 X hcs S (t_gain _ G S (xs (k + 1)) (xs (k + 2)) (xs (k + 3)) (xs (k + 4))) k__law_150 rfl (rest := []) rfl rfl rfl rfl (@dc_of _ _ dL_law_6 124 _ _ _ rfl) (fun v w1 h => ?_)
  refine j_aload_n C (@dc_of _ _ dL_law_6 125 _ _ _ rfl) rfl ?_
  refine j_arg X hk (j := 1) (q := 1) rfl rfl (@dc_of _ _ dL_law_6 126 _ _ _ rfl) (@dc_of _ _ dL_law_6 127 _ _ _ rfl) (@dc_of _ _ dL_law_6 128 _ _ _ rfl) (@dc_of _ _ dL_law_6 129 _ _ _ rfl) (@dc_of _ _ dL_law_7 0 _ _ _ rfl) ?_
  refine j_arg X hk (j := 2) (q := 2) rfl rfl (@dc_of _ _ dL_law_7 1 _ _ _ rfl) (@dc_of _ _ dL_law_7 2 _ _ _ rfl) (@dc_of _ _ dL_law_7 3 _ _ _ rfl) (@dc_of _ _ dL_law_7 4 _ _ _ rfl) (@dc_of _ _ dL_law_7 5 _ _ _ rfl) ?_
  refine j_arg X hk (j := 3) (q := 3) rfl rfl (@dc_of _ _ dL_law_7 6 _ _ _ rfl) (@dc_of _ _ dL_law_7 7 _ _ _ rfl) (@dc_of _ _ dL_law_7 8 _ _ _ rfl) (@dc_of _ _ dL_law_7 9 _ _ _ rfl) (@dc_of _ _ dL_law_7 10 _ _ _ rfl) ?_
  refine j_arg X hk (j := 4) (q := 4) rfl rfl (@dc_of _ _ dL_law_7 11 _ _ _ rfl) (@dc_of _ _ dL_law_7 12 _ _ _ rfl) (@dc_of _ _ dL_law_7 13 _ _ _ rfl) (@dc_of _ _ dL_law_7 14 _ _ _ rfl) (@dc_of _ _ dL_law_7 15 _ _ _ rfl) ?_
  refine law_c2 X hcs h k__law_154 rfl (rest := [.int v]) rfl rfl rfl rfl (@dc_of _ _ dL_law_7 16 _ _ _ rfl) (fun w2 S2 => ?_)
  exact j_icmp_eq C 1771 (@dc_of _ _ dL_law_7 17 _ _ _ rfl) (by decide) (fun _ => K w2 S2) (fun h => absurd rfl h)
theorem w_trains {Z : ZT} {G : GT} {b n k : Nat} {xs : Nat → Int32} {nm : String} {cs : Nat × Nat} {w : Wd} (X : LX Z G b n xs nm) (hk : k + 6 ≤ n) (hcs : cs.1 ≤ 1000 ∧ cs.2 ≤ 100000) (S : Sv w) (K : ∀ w2, Sv w2 → J Z cs 1771 (lvS G b k) [] w2) : J Z cs 1356 (lvS G b k) [] w := by
  have C := X.1
  refine j_aload_n C (@dc_of _ _ dL_law_7 20 _ _ _ rfl) rfl ?_
  refine j_arg X hk (j := 1) (q := 1) rfl rfl (@dc_of _ _ dL_law_7 21 _ _ _ rfl) (@dc_of _ _ dL_law_7 22 _ _ _ rfl) (@dc_of _ _ dL_law_7 23 _ _ _ rfl) (@dc_of _ _ dL_law_7 24 _ _ _ rfl) (@dc_of _ _ dL_law_7 25 _ _ _ rfl) ?_
  refine j_arg X hk (j := 2) (q := 2) rfl rfl (@dc_of _ _ dL_law_7 26 _ _ _ rfl) (@dc_of _ _ dL_law_7 27 _ _ _ rfl) (@dc_of _ _ dL_law_7 28 _ _ _ rfl) (@dc_of _ _ dL_law_7 29 _ _ _ rfl) (@dc_of _ _ dL_law_7 30 _ _ _ rfl) ?_
  refine j_arg X hk (j := 3) (q := 3) rfl rfl (@dc_of _ _ dL_law_7 31 _ _ _ rfl) (@dc_of _ _ dL_law_7 32 _ _ _ rfl) (@dc_of _ _ dL_law_7 33 _ _ _ rfl) (@dc_of _ _ dL_law_7 34 _ _ _ rfl) (@dc_of _ _ dL_law_7 35 _ _ _ rfl) ?_
  refine law_c1 X hcs S (t_trains _ G S (xs (k + 1)) (xs (k + 2)) (xs (k + 3))) k__law_155 rfl (rest := []) rfl rfl rfl rfl (@dc_of _ _ dL_law_7 36 _ _ _ rfl) (fun v w1 h => ?_)
  refine j_aload_n C (@dc_of _ _ dL_law_7 37 _ _ _ rfl) rfl ?_
  refine j_arg X hk (j := 1) (q := 1) rfl rfl (@dc_of _ _ dL_law_7 38 _ _ _ rfl) (@dc_of _ _ dL_law_7 39 _ _ _ rfl) (@dc_of _ _ dL_law_7 40 _ _ _ rfl) (@dc_of _ _ dL_law_7 41 _ _ _ rfl) (@dc_of _ _ dL_law_7 42 _ _ _ rfl) ?_
  refine j_arg X hk (j := 2) (q := 2) rfl rfl (@dc_of _ _ dL_law_7 43 _ _ _ rfl) (@dc_of _ _ dL_law_7 44 _ _ _ rfl) (@dc_of _ _ dL_law_7 45 _ _ _ rfl) (@dc_of _ _ dL_law_7 46 _ _ _ rfl) (@dc_of _ _ dL_law_7 47 _ _ _ rfl) ?_
  refine j_arg X hk (j := 3) (q := 3) rfl rfl (@dc_of _ _ dL_law_7 48 _ _ _ rfl) (@dc_of _ _ dL_law_7 49 _ _ _ rfl) (@dc_of _ _ dL_law_7 50 _ _ _ rfl) (@dc_of _ _ dL_law_7 51 _ _ _ rfl) (@dc_of _ _ dL_law_7 52 _ _ _ rfl) ?_
  refine law_c2 X hcs h k__law_158 rfl (rest := [.int v]) rfl rfl rfl rfl (@dc_of _ _ dL_law_7 53 _ _ _ rfl) (fun w2 S2 => ?_)
  exact j_icmp_eq C 1771 (@dc_of _ _ dL_law_7 54 _ _ _ rfl) (by decide) (fun _ => K w2 S2) (fun h => absurd rfl h)
theorem w_tie {Z : ZT} {G : GT} {b n k : Nat} {xs : Nat → Int32} {nm : String} {cs : Nat × Nat} {w : Wd} (X : LX Z G b n xs nm) (hk : k + 6 ≤ n) (hcs : cs.1 ≤ 1000 ∧ cs.2 ≤ 100000) (S : Sv w) (K : ∀ w2, Sv w2 → J Z cs 1771 (lvS G b k) [] w2) : J Z cs 1399 (lvS G b k) [] w := by
  have C := X.1
  refine j_aload_n C (@dc_of _ _ dL_law_7 57 _ _ _ rfl) rfl ?_
  refine j_arg X hk (j := 1) (q := 1) rfl rfl (@dc_of _ _ dL_law_7 58 _ _ _ rfl) (@dc_of _ _ dL_law_7 59 _ _ _ rfl) (@dc_of _ _ dL_law_7 60 _ _ _ rfl) (@dc_of _ _ dL_law_7 61 _ _ _ rfl) (@dc_of _ _ dL_law_7 62 _ _ _ rfl) ?_
  refine law_c1 X hcs S (t_tie _ G S (xs (k + 1))) k__law_159 rfl (rest := []) rfl rfl rfl rfl (@dc_of _ _ dL_law_7 63 _ _ _ rfl) (fun v w1 h => ?_)
  refine j_aload_n C (@dc_of _ _ dL_law_7 64 _ _ _ rfl) rfl ?_
  refine j_arg X hk (j := 1) (q := 1) rfl rfl (@dc_of _ _ dL_law_7 65 _ _ _ rfl) (@dc_of _ _ dL_law_7 66 _ _ _ rfl) (@dc_of _ _ dL_law_7 67 _ _ _ rfl) (@dc_of _ _ dL_law_7 68 _ _ _ rfl) (@dc_of _ _ dL_law_7 69 _ _ _ rfl) ?_
  refine law_c2 X hcs h k__law_162 rfl (rest := [.int v]) rfl rfl rfl rfl (@dc_of _ _ dL_law_7 70 _ _ _ rfl) (fun w2 S2 => ?_)
  exact j_icmp_eq C 1771 (@dc_of _ _ dL_law_7 71 _ _ _ rfl) (by decide) (fun _ => K w2 S2) (fun h => absurd rfl h)
theorem w_undo {Z : ZT} {G : GT} {b n k : Nat} {xs : Nat → Int32} {nm : String} {cs : Nat × Nat} {w : Wd} (X : LX Z G b n xs nm) (hk : k + 6 ≤ n) (hcs : cs.1 ≤ 1000 ∧ cs.2 ≤ 100000) (S : Sv w) (K : ∀ w2, Sv w2 → J Z cs 1771 (lvS G b k) [] w2) : J Z cs 1422 (lvS G b k) [] w := by
  have C := X.1
  refine j_aload_n C (@dc_of _ _ dL_law_7 74 _ _ _ rfl) rfl ?_
  refine law_c1 X hcs S (t_undo _ G S) k__law_163 rfl (rest := []) rfl rfl rfl rfl (@dc_of _ _ dL_law_7 75 _ _ _ rfl) (fun v w1 h => ?_)
  refine j_aload_n C (@dc_of _ _ dL_law_7 76 _ _ _ rfl) rfl ?_
  refine law_c2 X hcs h k__law_166 rfl (rest := [.int v]) rfl rfl rfl rfl (@dc_of _ _ dL_law_7 77 _ _ _ rfl) (fun w2 S2 => ?_)
  exact j_icmp_eq C 1771 (@dc_of _ _ dL_law_7 78 _ _ _ rfl) (by decide) (fun _ => K w2 S2) (fun h => absurd rfl h)
theorem w_tell {Z : ZT} {G : GT} {b n k : Nat} {xs : Nat → Int32} {nm : String} {cs : Nat × Nat} {w : Wd} (X : LX Z G b n xs nm) (hk : k + 6 ≤ n) (hcs : cs.1 ≤ 1000 ∧ cs.2 ≤ 100000) (S : Sv w) (K : ∀ w2, Sv w2 → J Z cs 1771 (lvS G b k) [] w2) : J Z cs 1435 (lvS G b k) [] w := by
  have C := X.1
  refine j_aload_n C (@dc_of _ _ dL_law_7 81 _ _ _ rfl) rfl ?_
  refine law_c1 X hcs S (t_tell _ G S) k__law_167 rfl (rest := []) rfl rfl rfl rfl (@dc_of _ _ dL_law_7 82 _ _ _ rfl) (fun v w1 h => ?_)
  refine j_aload_n C (@dc_of _ _ dL_law_7 83 _ _ _ rfl) rfl ?_
  refine law_c2 X hcs h k__law_170 rfl (rest := [.int v]) rfl rfl rfl rfl (@dc_of _ _ dL_law_7 84 _ _ _ rfl) (fun w2 S2 => ?_)
  exact j_icmp_eq C 1771 (@dc_of _ _ dL_law_7 85 _ _ _ rfl) (by decide) (fun _ => K w2 S2) (fun h => absurd rfl h)
theorem w_card {Z : ZT} {G : GT} {b n k : Nat} {xs : Nat → Int32} {nm : String} {cs : Nat × Nat} {w : Wd} (X : LX Z G b n xs nm) (hk : k + 6 ≤ n) (hcs : cs.1 ≤ 1000 ∧ cs.2 ≤ 100000) (S : Sv w) (K : ∀ w2, Sv w2 → J Z cs 1771 (lvS G b k) [] w2) : J Z cs 1448 (lvS G b k) [] w := by
  have C := X.1
  refine j_aload_n C (@dc_of _ _ dL_law_7 88 _ _ _ rfl) rfl ?_
  refine j_arg X hk (j := 1) (q := 1) rfl rfl (@dc_of _ _ dL_law_7 89 _ _ _ rfl) (@dc_of _ _ dL_law_7 90 _ _ _ rfl) (@dc_of _ _ dL_law_7 91 _ _ _ rfl) (@dc_of _ _ dL_law_7 92 _ _ _ rfl) (@dc_of _ _ dL_law_7 93 _ _ _ rfl) ?_
  refine law_c1 X hcs S (t_card _ G S (xs (k + 1))) k__law_171 rfl (rest := []) rfl rfl rfl rfl (@dc_of _ _ dL_law_7 94 _ _ _ rfl) (fun v w1 h => ?_)
  refine j_aload_n C (@dc_of _ _ dL_law_7 95 _ _ _ rfl) rfl ?_
  refine j_arg X hk (j := 1) (q := 1) rfl rfl (@dc_of _ _ dL_law_7 96 _ _ _ rfl) (@dc_of _ _ dL_law_7 97 _ _ _ rfl) (@dc_of _ _ dL_law_7 98 _ _ _ rfl) (@dc_of _ _ dL_law_7 99 _ _ _ rfl) (@dc_of _ _ dL_law_7 100 _ _ _ rfl) ?_
  refine law_c2 X hcs h k__law_174 rfl (rest := [.int v]) rfl rfl rfl rfl (@dc_of _ _ dL_law_7 101 _ _ _ rfl) (fun w2 S2 => ?_)
  exact j_icmp_eq C 1771 (@dc_of _ _ dL_law_7 102 _ _ _ rfl) (by decide) (fun _ => K w2 S2) (fun h => absurd rfl h)
theorem w_octet {Z : ZT} {G : GT} {b n k : Nat} {xs : Nat → Int32} {nm : String} {cs : Nat × Nat} {w : Wd} (X : LX Z G b n xs nm) (hk : k + 6 ≤ n) (hcs : cs.1 ≤ 1000 ∧ cs.2 ≤ 100000) (S : Sv w) (K : ∀ w2, Sv w2 → J Z cs 1771 (lvS G b k) [] w2) : J Z cs 1471 (lvS G b k) [] w := by
  have C := X.1
  refine j_aload_n C (@dc_of _ _ dL_law_7 105 _ _ _ rfl) rfl ?_
  refine j_arg X hk (j := 1) (q := 1) rfl rfl (@dc_of _ _ dL_law_7 106 _ _ _ rfl) (@dc_of _ _ dL_law_7 107 _ _ _ rfl) (@dc_of _ _ dL_law_7 108 _ _ _ rfl) (@dc_of _ _ dL_law_7 109 _ _ _ rfl) (@dc_of _ _ dL_law_7 110 _ _ _ rfl) ?_
  refine law_c1 X hcs S (t_octet _ G S (xs (k + 1))) k__law_175 rfl (rest := []) rfl rfl rfl rfl (@dc_of _ _ dL_law_7 111 _ _ _ rfl) (fun v w1 h => ?_)
  refine j_aload_n C (@dc_of _ _ dL_law_7 112 _ _ _ rfl) rfl ?_
  refine j_arg X hk (j := 1) (q := 1) rfl rfl (@dc_of _ _ dL_law_7 113 _ _ _ rfl) (@dc_of _ _ dL_law_7 114 _ _ _ rfl) (@dc_of _ _ dL_law_7 115 _ _ _ rfl) (@dc_of _ _ dL_law_7 116 _ _ _ rfl) (@dc_of _ _ dL_law_7 117 _ _ _ rfl) ?_
  refine law_c2 X hcs h k__law_178 rfl (rest := [.int v]) rfl rfl rfl rfl (@dc_of _ _ dL_law_7 118 _ _ _ rfl) (fun w2 S2 => ?_)
  exact j_icmp_eq C 1771 (@dc_of _ _ dL_law_7 119 _ _ _ rfl) (by decide) (fun _ => K w2 S2) (fun h => absurd rfl h)
theorem w_kth {Z : ZT} {G : GT} {b n k : Nat} {xs : Nat → Int32} {nm : String} {cs : Nat × Nat} {w : Wd} (X : LX Z G b n xs nm) (hk : k + 6 ≤ n) (hcs : cs.1 ≤ 1000 ∧ cs.2 ≤ 100000) (S : Sv w) (K : ∀ w2, Sv w2 → J Z cs 1771 (lvS G b k) [] w2) : J Z cs 1494 (lvS G b k) [] w := by
  have C := X.1
  refine j_aload_n C (@dc_of _ _ dL_law_7 122 _ _ _ rfl) rfl ?_
  refine j_arg X hk (j := 1) (q := 1) rfl rfl (@dc_of _ _ dL_law_7 123 _ _ _ rfl) (@dc_of _ _ dL_law_7 124 _ _ _ rfl) (@dc_of _ _ dL_law_7 125 _ _ _ rfl) (@dc_of _ _ dL_law_7 126 _ _ _ rfl) (@dc_of _ _ dL_law_7 127 _ _ _ rfl) ?_
  refine j_arg X hk (j := 2) (q := 2) rfl rfl (@dc_of _ _ dL_law_7 128 _ _ _ rfl) (@dc_of _ _ dL_law_7 129 _ _ _ rfl) (@dc_of _ _ dL_law_8 0 _ _ _ rfl) (@dc_of _ _ dL_law_8 1 _ _ _ rfl) (@dc_of _ _ dL_law_8 2 _ _ _ rfl) ?_
  refine law_c1 X hcs S (t_kth _ G S (xs (k + 1)) (xs (k + 2))) k__law_179 rfl (rest := []) rfl rfl rfl rfl (@dc_of _ _ dL_law_8 3 _ _ _ rfl) (fun v w1 h => ?_)
  refine j_aload_n C (@dc_of _ _ dL_law_8 4 _ _ _ rfl) rfl ?_
  refine j_arg X hk (j := 1) (q := 1) rfl rfl (@dc_of _ _ dL_law_8 5 _ _ _ rfl) (@dc_of _ _ dL_law_8 6 _ _ _ rfl) (@dc_of _ _ dL_law_8 7 _ _ _ rfl) (@dc_of _ _ dL_law_8 8 _ _ _ rfl) (@dc_of _ _ dL_law_8 9 _ _ _ rfl) ?_
  refine j_arg X hk (j := 2) (q := 2) rfl rfl (@dc_of _ _ dL_law_8 10 _ _ _ rfl) (@dc_of _ _ dL_law_8 11 _ _ _ rfl) (@dc_of _ _ dL_law_8 12 _ _ _ rfl) (@dc_of _ _ dL_law_8 13 _ _ _ rfl) (@dc_of _ _ dL_law_8 14 _ _ _ rfl) ?_
  refine law_c2 X hcs h k__law_182 rfl (rest := [.int v]) rfl rfl rfl rfl (@dc_of _ _ dL_law_8 15 _ _ _ rfl) (fun w2 S2 => ?_)
  exact j_icmp_eq C 1771 (@dc_of _ _ dL_law_8 16 _ _ _ rfl) (by decide) (fun _ => K w2 S2) (fun h => absurd rfl h)
theorem w_behind {Z : ZT} {G : GT} {b n k : Nat} {xs : Nat → Int32} {nm : String} {cs : Nat × Nat} {w : Wd} (X : LX Z G b n xs nm) (hk : k + 6 ≤ n) (hcs : cs.1 ≤ 1000 ∧ cs.2 ≤ 100000) (S : Sv w) (K : ∀ w2, Sv w2 → J Z cs 1771 (lvS G b k) [] w2) : J Z cs 1527 (lvS G b k) [] w := by
  have C := X.1
  refine j_aload_n C (@dc_of _ _ dL_law_8 19 _ _ _ rfl) rfl ?_
  refine j_arg X hk (j := 1) (q := 1) rfl rfl (@dc_of _ _ dL_law_8 20 _ _ _ rfl) (@dc_of _ _ dL_law_8 21 _ _ _ rfl) (@dc_of _ _ dL_law_8 22 _ _ _ rfl) (@dc_of _ _ dL_law_8 23 _ _ _ rfl) (@dc_of _ _ dL_law_8 24 _ _ _ rfl) ?_
  refine law_c1 X hcs S (t_behind _ G S (xs (k + 1))) k__law_183 rfl (rest := []) rfl rfl rfl rfl (@dc_of _ _ dL_law_8 25 _ _ _ rfl) (fun v w1 h => ?_)
  refine j_aload_n C (@dc_of _ _ dL_law_8 26 _ _ _ rfl) rfl ?_
  refine j_arg X hk (j := 1) (q := 1) rfl rfl (@dc_of _ _ dL_law_8 27 _ _ _ rfl) (@dc_of _ _ dL_law_8 28 _ _ _ rfl) (@dc_of _ _ dL_law_8 29 _ _ _ rfl) (@dc_of _ _ dL_law_8 30 _ _ _ rfl) (@dc_of _ _ dL_law_8 31 _ _ _ rfl) ?_
  refine law_c2 X hcs h k__law_186 rfl (rest := [.int v]) rfl rfl rfl rfl (@dc_of _ _ dL_law_8 32 _ _ _ rfl) (fun w2 S2 => ?_)
  exact j_icmp_eq C 1771 (@dc_of _ _ dL_law_8 33 _ _ _ rfl) (by decide) (fun _ => K w2 S2) (fun h => absurd rfl h)
theorem w_hour {Z : ZT} {G : GT} {b n k : Nat} {xs : Nat → Int32} {nm : String} {cs : Nat × Nat} {w : Wd} (X : LX Z G b n xs nm) (hk : k + 6 ≤ n) (hcs : cs.1 ≤ 1000 ∧ cs.2 ≤ 100000) (S : Sv w) (K : ∀ w2, Sv w2 → J Z cs 1771 (lvS G b k) [] w2) : J Z cs 1550 (lvS G b k) [] w := by
  have C := X.1
  refine j_aload_n C (@dc_of _ _ dL_law_8 36 _ _ _ rfl) rfl ?_
  refine j_arg X hk (j := 1) (q := 1) rfl rfl (@dc_of _ _ dL_law_8 37 _ _ _ rfl) (@dc_of _ _ dL_law_8 38 _ _ _ rfl) (@dc_of _ _ dL_law_8 39 _ _ _ rfl) (@dc_of _ _ dL_law_8 40 _ _ _ rfl) (@dc_of _ _ dL_law_8 41 _ _ _ rfl) ?_
  refine j_arg X hk (j := 2) (q := 2) rfl rfl (@dc_of _ _ dL_law_8 42 _ _ _ rfl) (@dc_of _ _ dL_law_8 43 _ _ _ rfl) (@dc_of _ _ dL_law_8 44 _ _ _ rfl) (@dc_of _ _ dL_law_8 45 _ _ _ rfl) (@dc_of _ _ dL_law_8 46 _ _ _ rfl) ?_
  refine j_arg X hk (j := 3) (q := 3) rfl rfl (@dc_of _ _ dL_law_8 47 _ _ _ rfl) (@dc_of _ _ dL_law_8 48 _ _ _ rfl) (@dc_of _ _ dL_law_8 49 _ _ _ rfl) (@dc_of _ _ dL_law_8 50 _ _ _ rfl) (@dc_of _ _ dL_law_8 51 _ _ _ rfl) ?_
  refine law_c1 X hcs S (t_hour _ G S (xs (k + 1)) (xs (k + 2)) (xs (k + 3))) k__law_187 rfl (rest := []) rfl rfl rfl rfl (@dc_of _ _ dL_law_8 52 _ _ _ rfl) (fun v w1 h => ?_)
  refine j_aload_n C (@dc_of _ _ dL_law_8 53 _ _ _ rfl) rfl ?_
  refine j_arg X hk (j := 1) (q := 1) rfl rfl (@dc_of _ _ dL_law_8 54 _ _ _ rfl) (@dc_of _ _ dL_law_8 55 _ _ _ rfl) (@dc_of _ _ dL_law_8 56 _ _ _ rfl) (@dc_of _ _ dL_law_8 57 _ _ _ rfl) (@dc_of _ _ dL_law_8 58 _ _ _ rfl) ?_
  refine j_arg X hk (j := 2) (q := 2) rfl rfl (@dc_of _ _ dL_law_8 59 _ _ _ rfl) (@dc_of _ _ dL_law_8 60 _ _ _ rfl) (@dc_of _ _ dL_law_8 61 _ _ _ rfl) (@dc_of _ _ dL_law_8 62 _ _ _ rfl) (@dc_of _ _ dL_law_8 63 _ _ _ rfl) ?_
  refine j_arg X hk (j := 3) (q := 3) rfl rfl (@dc_of _ _ dL_law_8 64 _ _ _ rfl) (@dc_of _ _ dL_law_8 65 _ _ _ rfl) (@dc_of _ _ dL_law_8 66 _ _ _ rfl) (@dc_of _ _ dL_law_8 67 _ _ _ rfl) (@dc_of _ _ dL_law_8 68 _ _ _ rfl) ?_
  refine law_c2 X hcs h k__law_190 rfl (rest := [.int v]) rfl rfl rfl rfl (@dc_of _ _ dL_law_8 69 _ _ _ rfl) (fun w2 S2 => ?_)
  exact j_icmp_eq C 1771 (@dc_of _ _ dL_law_8 70 _ _ _ rfl) (by decide) (fun _ => K w2 S2) (fun h => absurd rfl h)
theorem w_squad {Z : ZT} {G : GT} {b n k : Nat} {xs : Nat → Int32} {nm : String} {cs : Nat × Nat} {w : Wd} (X : LX Z G b n xs nm) (hk : k + 6 ≤ n) (hcs : cs.1 ≤ 1000 ∧ cs.2 ≤ 100000) (S : Sv w) (K : ∀ w2, Sv w2 → J Z cs 1771 (lvS G b k) [] w2) : J Z cs 1593 (lvS G b k) [] w := by
  have C := X.1
  refine j_aload_n C (@dc_of _ _ dL_law_8 73 _ _ _ rfl) rfl ?_
  refine j_arg X hk (j := 1) (q := 1) rfl rfl (@dc_of _ _ dL_law_8 74 _ _ _ rfl) (@dc_of _ _ dL_law_8 75 _ _ _ rfl) (@dc_of _ _ dL_law_8 76 _ _ _ rfl) (@dc_of _ _ dL_law_8 77 _ _ _ rfl) (@dc_of _ _ dL_law_8 78 _ _ _ rfl) ?_
  refine j_arg X hk (j := 2) (q := 2) rfl rfl (@dc_of _ _ dL_law_8 79 _ _ _ rfl) (@dc_of _ _ dL_law_8 80 _ _ _ rfl) (@dc_of _ _ dL_law_8 81 _ _ _ rfl) (@dc_of _ _ dL_law_8 82 _ _ _ rfl) (@dc_of _ _ dL_law_8 83 _ _ _ rfl) ?_
  refine law_c1 X hcs S (t_squad _ G S (xs (k + 1)) (xs (k + 2))) k__law_191 rfl (rest := []) rfl rfl rfl rfl (@dc_of _ _ dL_law_8 84 _ _ _ rfl) (fun v w1 h => ?_)
  refine j_aload_n C (@dc_of _ _ dL_law_8 85 _ _ _ rfl) rfl ?_
  refine j_arg X hk (j := 1) (q := 1) rfl rfl (@dc_of _ _ dL_law_8 86 _ _ _ rfl) (@dc_of _ _ dL_law_8 87 _ _ _ rfl) (@dc_of _ _ dL_law_8 88 _ _ _ rfl) (@dc_of _ _ dL_law_8 89 _ _ _ rfl) (@dc_of _ _ dL_law_8 90 _ _ _ rfl) ?_
  refine j_arg X hk (j := 2) (q := 2) rfl rfl (@dc_of _ _ dL_law_8 91 _ _ _ rfl) (@dc_of _ _ dL_law_8 92 _ _ _ rfl) (@dc_of _ _ dL_law_8 93 _ _ _ rfl) (@dc_of _ _ dL_law_8 94 _ _ _ rfl) (@dc_of _ _ dL_law_8 95 _ _ _ rfl) ?_
  refine law_c2 X hcs h k__law_194 rfl (rest := [.int v]) rfl rfl rfl rfl (@dc_of _ _ dL_law_8 96 _ _ _ rfl) (fun w2 S2 => ?_)
  exact j_icmp_eq C 1771 (@dc_of _ _ dL_law_8 97 _ _ _ rfl) (by decide) (fun _ => K w2 S2) (fun h => absurd rfl h)
theorem w_close {Z : ZT} {G : GT} {b n k : Nat} {xs : Nat → Int32} {nm : String} {cs : Nat × Nat} {w : Wd} (X : LX Z G b n xs nm) (hk : k + 6 ≤ n) (hcs : cs.1 ≤ 1000 ∧ cs.2 ≤ 100000) (S : Sv w) (K : ∀ w2, Sv w2 → J Z cs 1771 (lvS G b k) [] w2) : J Z cs 1626 (lvS G b k) [] w := by
  have C := X.1
  refine j_aload_n C (@dc_of _ _ dL_law_8 100 _ _ _ rfl) rfl ?_
  refine law_c1 X hcs S (t_close _ G S) k__law_195 rfl (rest := []) rfl rfl rfl rfl (@dc_of _ _ dL_law_8 101 _ _ _ rfl) (fun v w1 h => ?_)
  refine j_aload_n C (@dc_of _ _ dL_law_8 102 _ _ _ rfl) rfl ?_
  refine law_c2 X hcs h k__law_198 rfl (rest := [.int v]) rfl rfl rfl rfl (@dc_of _ _ dL_law_8 103 _ _ _ rfl) (fun w2 S2 => ?_)
  exact j_icmp_eq C 1771 (@dc_of _ _ dL_law_8 104 _ _ _ rfl) (by decide) (fun _ => K w2 S2) (fun h => absurd rfl h)
theorem w_team {Z : ZT} {G : GT} {b n k : Nat} {xs : Nat → Int32} {nm : String} {cs : Nat × Nat} {w : Wd} (X : LX Z G b n xs nm) (hk : k + 6 ≤ n) (hcs : cs.1 ≤ 1000 ∧ cs.2 ≤ 100000) (S : Sv w) (K : ∀ w2, Sv w2 → J Z cs 1771 (lvS G b k) [] w2) : J Z cs 1639 (lvS G b k) [] w := by
  have C := X.1
  refine j_aload_n C (@dc_of _ _ dL_law_8 107 _ _ _ rfl) rfl ?_
  refine j_arg X hk (j := 1) (q := 1) rfl rfl (@dc_of _ _ dL_law_8 108 _ _ _ rfl) (@dc_of _ _ dL_law_8 109 _ _ _ rfl) (@dc_of _ _ dL_law_8 110 _ _ _ rfl) (@dc_of _ _ dL_law_8 111 _ _ _ rfl) (@dc_of _ _ dL_law_8 112 _ _ _ rfl) ?_
  refine law_c1 X hcs S (t_team _ G S (xs (k + 1))) k__law_199 rfl (rest := []) rfl rfl rfl rfl (@dc_of _ _ dL_law_8 113 _ _ _ rfl) (fun v w1 h => ?_)
  refine j_aload_n C (@dc_of _ _ dL_law_8 114 _ _ _ rfl) rfl ?_
  refine j_arg X hk (j := 1) (q := 1) rfl rfl (@dc_of _ _ dL_law_8 115 _ _ _ rfl) (@dc_of _ _ dL_law_8 116 _ _ _ rfl) (@dc_of _ _ dL_law_8 117 _ _ _ rfl) (@dc_of _ _ dL_law_8 118 _ _ _ rfl) (@dc_of _ _ dL_law_8 119 _ _ _ rfl) ?_
  refine law_c2 X hcs h k__law_202 rfl (rest := [.int v]) rfl rfl rfl rfl (@dc_of _ _ dL_law_8 120 _ _ _ rfl) (fun w2 S2 => ?_)
  exact j_icmp_eq C 1771 (@dc_of _ _ dL_law_8 121 _ _ _ rfl) (by decide) (fun _ => K w2 S2) (fun h => absurd rfl h)
theorem w_kinds {Z : ZT} {G : GT} {b n k : Nat} {xs : Nat → Int32} {nm : String} {cs : Nat × Nat} {w : Wd} (X : LX Z G b n xs nm) (hk : k + 6 ≤ n) (hcs : cs.1 ≤ 1000 ∧ cs.2 ≤ 100000) (S : Sv w) (K : ∀ w2, Sv w2 → J Z cs 1771 (lvS G b k) [] w2) : J Z cs 1662 (lvS G b k) [] w := by
  have C := X.1
  refine j_aload_n C (@dc_of _ _ dL_law_8 124 _ _ _ rfl) rfl ?_
  refine j_arg X hk (j := 1) (q := 1) rfl rfl (@dc_of _ _ dL_law_8 125 _ _ _ rfl) (@dc_of _ _ dL_law_8 126 _ _ _ rfl) (@dc_of _ _ dL_law_8 127 _ _ _ rfl) (@dc_of _ _ dL_law_8 128 _ _ _ rfl) (@dc_of _ _ dL_law_8 129 _ _ _ rfl) ?_
  refine j_arg X hk (j := 2) (q := 2) rfl rfl (@dc_of _ _ dL_law_9 0 _ _ _ rfl) (@dc_of _ _ dL_law_9 1 _ _ _ rfl) (@dc_of _ _ dL_law_9 2 _ _ _ rfl) (@dc_of _ _ dL_law_9 3 _ _ _ rfl) (@dc_of _ _ dL_law_9 4 _ _ _ rfl) ?_
  refine j_arg X hk (j := 3) (q := 3) rfl rfl (@dc_of _ _ dL_law_9 5 _ _ _ rfl) (@dc_of _ _ dL_law_9 6 _ _ _ rfl) (@dc_of _ _ dL_law_9 7 _ _ _ rfl) (@dc_of _ _ dL_law_9 8 _ _ _ rfl) (@dc_of _ _ dL_law_9 9 _ _ _ rfl) ?_
  refine law_c1 X hcs S (t_kinds _ G S (xs (k + 1)) (xs (k + 2)) (xs (k + 3))) k__law_203 rfl (rest := []) rfl rfl rfl rfl (@dc_of _ _ dL_law_9 10 _ _ _ rfl) (fun v w1 h => ?_)
  refine j_aload_n C (@dc_of _ _ dL_law_9 11 _ _ _ rfl) rfl ?_
  refine j_arg X hk (j := 1) (q := 1) rfl rfl (@dc_of _ _ dL_law_9 12 _ _ _ rfl) (@dc_of _ _ dL_law_9 13 _ _ _ rfl) (@dc_of _ _ dL_law_9 14 _ _ _ rfl) (@dc_of _ _ dL_law_9 15 _ _ _ rfl) (@dc_of _ _ dL_law_9 16 _ _ _ rfl) ?_
  refine j_arg X hk (j := 2) (q := 2) rfl rfl (@dc_of _ _ dL_law_9 17 _ _ _ rfl) (@dc_of _ _ dL_law_9 18 _ _ _ rfl) (@dc_of _ _ dL_law_9 19 _ _ _ rfl) (@dc_of _ _ dL_law_9 20 _ _ _ rfl) (@dc_of _ _ dL_law_9 21 _ _ _ rfl) ?_
  refine j_arg X hk (j := 3) (q := 3) rfl rfl (@dc_of _ _ dL_law_9 22 _ _ _ rfl) (@dc_of _ _ dL_law_9 23 _ _ _ rfl) (@dc_of _ _ dL_law_9 24 _ _ _ rfl) (@dc_of _ _ dL_law_9 25 _ _ _ rfl) (@dc_of _ _ dL_law_9 26 _ _ _ rfl) ?_
  refine law_c2 X hcs h k__law_206 rfl (rest := [.int v]) rfl rfl rfl rfl (@dc_of _ _ dL_law_9 27 _ _ _ rfl) (fun w2 S2 => ?_)
  exact j_icmp_eq C 1771 (@dc_of _ _ dL_law_9 28 _ _ _ rfl) (by decide) (fun _ => K w2 S2) (fun h => absurd rfl h)
theorem w_lent {Z : ZT} {G : GT} {b n k : Nat} {xs : Nat → Int32} {nm : String} {cs : Nat × Nat} {w : Wd} (X : LX Z G b n xs nm) (hk : k + 6 ≤ n) (hcs : cs.1 ≤ 1000 ∧ cs.2 ≤ 100000) (S : Sv w) (K : ∀ w2, Sv w2 → J Z cs 1771 (lvS G b k) [] w2) : J Z cs 1705 (lvS G b k) [] w := by
  have C := X.1
  refine j_aload_n C (@dc_of _ _ dL_law_9 31 _ _ _ rfl) rfl ?_
  refine j_arg X hk (j := 1) (q := 1) rfl rfl (@dc_of _ _ dL_law_9 32 _ _ _ rfl) (@dc_of _ _ dL_law_9 33 _ _ _ rfl) (@dc_of _ _ dL_law_9 34 _ _ _ rfl) (@dc_of _ _ dL_law_9 35 _ _ _ rfl) (@dc_of _ _ dL_law_9 36 _ _ _ rfl) ?_
  refine j_arg X hk (j := 2) (q := 2) rfl rfl (@dc_of _ _ dL_law_9 37 _ _ _ rfl) (@dc_of _ _ dL_law_9 38 _ _ _ rfl) (@dc_of _ _ dL_law_9 39 _ _ _ rfl) (@dc_of _ _ dL_law_9 40 _ _ _ rfl) (@dc_of _ _ dL_law_9 41 _ _ _ rfl) ?_
  refine j_arg X hk (j := 3) (q := 3) rfl rfl (@dc_of _ _ dL_law_9 42 _ _ _ rfl) (@dc_of _ _ dL_law_9 43 _ _ _ rfl) (@dc_of _ _ dL_law_9 44 _ _ _ rfl) (@dc_of _ _ dL_law_9 45 _ _ _ rfl) (@dc_of _ _ dL_law_9 46 _ _ _ rfl) ?_
  refine law_c1 X hcs S (t_lent _ G S (xs (k + 1)) (xs (k + 2)) (xs (k + 3))) k__law_207 rfl (rest := []) rfl rfl rfl rfl (@dc_of _ _ dL_law_9 47 _ _ _ rfl) (fun v w1 h => ?_)
  refine j_aload_n C (@dc_of _ _ dL_law_9 48 _ _ _ rfl) rfl ?_
  refine j_arg X hk (j := 1) (q := 1) rfl rfl (@dc_of _ _ dL_law_9 49 _ _ _ rfl) (@dc_of _ _ dL_law_9 50 _ _ _ rfl) (@dc_of _ _ dL_law_9 51 _ _ _ rfl) (@dc_of _ _ dL_law_9 52 _ _ _ rfl) (@dc_of _ _ dL_law_9 53 _ _ _ rfl) ?_
  refine j_arg X hk (j := 2) (q := 2) rfl rfl (@dc_of _ _ dL_law_9 54 _ _ _ rfl) (@dc_of _ _ dL_law_9 55 _ _ _ rfl) (@dc_of _ _ dL_law_9 56 _ _ _ rfl) (@dc_of _ _ dL_law_9 57 _ _ _ rfl) (@dc_of _ _ dL_law_9 58 _ _ _ rfl) ?_
  refine j_arg X hk (j := 3) (q := 3) rfl rfl (@dc_of _ _ dL_law_9 59 _ _ _ rfl) (@dc_of _ _ dL_law_9 60 _ _ _ rfl) (@dc_of _ _ dL_law_9 61 _ _ _ rfl) (@dc_of _ _ dL_law_9 62 _ _ _ rfl) (@dc_of _ _ dL_law_9 63 _ _ _ rfl) ?_
  refine law_c2 X hcs h k__law_210 rfl (rest := [.int v]) rfl rfl rfl rfl (@dc_of _ _ dL_law_9 64 _ _ _ rfl) (fun w2 S2 => ?_)
  exact j_icmp_eq C 1771 (@dc_of _ _ dL_law_9 65 _ _ _ rfl) (by decide) (fun _ => K w2 S2) (fun h => absurd rfl h)
theorem w_even {Z : ZT} {G : GT} {b n k : Nat} {xs : Nat → Int32} {nm : String} {cs : Nat × Nat} {w : Wd} (X : LX Z G b n xs nm) (hk : k + 6 ≤ n) (hcs : cs.1 ≤ 1000 ∧ cs.2 ≤ 100000) (S : Sv w) (K : ∀ w2, Sv w2 → J Z cs 1771 (lvS G b k) [] w2) : J Z cs 1748 (lvS G b k) [] w := by
  have C := X.1
  refine j_aload_n C (@dc_of _ _ dL_law_9 68 _ _ _ rfl) rfl ?_
  refine j_arg X hk (j := 1) (q := 1) rfl rfl (@dc_of _ _ dL_law_9 69 _ _ _ rfl) (@dc_of _ _ dL_law_9 70 _ _ _ rfl) (@dc_of _ _ dL_law_9 71 _ _ _ rfl) (@dc_of _ _ dL_law_9 72 _ _ _ rfl) (@dc_of _ _ dL_law_9 73 _ _ _ rfl) ?_
  refine law_c1 X hcs S (t_even _ G S (xs (k + 1))) k__law_211 rfl (rest := []) rfl rfl rfl rfl (@dc_of _ _ dL_law_9 74 _ _ _ rfl) (fun v w1 h => ?_)
  refine j_aload_n C (@dc_of _ _ dL_law_9 75 _ _ _ rfl) rfl ?_
  refine j_arg X hk (j := 1) (q := 1) rfl rfl (@dc_of _ _ dL_law_9 76 _ _ _ rfl) (@dc_of _ _ dL_law_9 77 _ _ _ rfl) (@dc_of _ _ dL_law_9 78 _ _ _ rfl) (@dc_of _ _ dL_law_9 79 _ _ _ rfl) (@dc_of _ _ dL_law_9 80 _ _ _ rfl) ?_
  refine law_c2 X hcs h k__law_214 rfl (rest := [.int v]) rfl rfl rfl rfl (@dc_of _ _ dL_law_9 81 _ _ _ rfl) (fun w2 S2 => ?_)
  exact j_icmp_eq C 1771 (@dc_of _ _ dL_law_9 82 _ _ _ rfl) (by decide) (fun _ => K w2 S2) (fun h => absurd rfl h)
