def oc1 (x : Int32) : Int32 := x.toInt8.toInt32.toInt8.toInt32
/-- the digits of a number, from the place j down -/
def dgJ (v : Nat) : Nat → BT → BT
  | 0, b => put1 b (oc1 (nI (48 + v / 1 % 10)))
  | j + 1, b => dgJ v j (put1 b (oc1 (nI (48 + v / 10 ^ (j + 1) % 10))))
def tdN (v : Nat) : Nat := if v < 10 then 0 else if v < 100 then 1 else if v < 1000 then 2 else if v < 10000 then 3 else 4
def nmB (v : Nat) (b : BT) : BT := dgJ v (tdN v) b
theorem dgJ_1 (v : Nat) : ∀ (j : Nat) (b : BT), (dgJ v j b).1 = b.1 + j + 1
  | 0, b => rfl
  | j + 1, b => by rw [dgJ, dgJ_1 v j]; show b.1 + 1 + j + 1 = _; omega
theorem nmB_1 (v : Nat) (b : BT) : (nmB v b).1 = b.1 + tdN v + 1 := dgJ_1 v _ b
theorem tdN_le (v : Nat) : tdN v ≤ 4 := by
  unfold tdN
  by_cases h1 : v < 10
  · rw [if_pos h1]; omega
  by_cases h2 : v < 100
  · rw [if_neg h1, if_pos h2]; omega
  by_cases h3 : v < 1000
  · rw [if_neg h1, if_neg h2, if_pos h3]; omega
  by_cases h4 : v < 10000
  · rw [if_neg h1, if_neg h2, if_neg h3, if_pos h4]; omega
  · rw [if_neg h1, if_neg h2, if_neg h3, if_neg h4]; omega
set_option maxRecDepth 20000 in
theorem c_pput (l : Launch) (G : GT) {I : Nat → Nat → Int32} {L : Nat → Nat → Int64} {R : Nat → Nat → Option Nat} (hL : Lay R) (b : BT) (hb : b.1 < 64) (hT : TP I 2 1 3 b) (x : Int32) : Mt l G mX3_put (0) 0 0 [.ref (ra G 2), .int x] (wd I L R) (fun r w' => r = none ∧ ∃ I', w' = wd I' L R ∧ TP I' 2 1 3 (put1 b (oc1 x)) ∧ FrT 2 1 3 I I') := by
  refine mt_of (own := RX3) (by decide) rfl rfl (fun Z C P B => ?_)
  have D := @dc_of _ _ dX3_put
  refine j_aload_n C (D 0 rfl) rfl ?_
  refine j_geti C f_X3_13 (lit (kd := 3) (n := 2) rfl) rfl rfl (D 1 rfl) ?_
  rw [hT.1]
  refine j_aload_n C (D 2 rfl) rfl ?_
  refine j_getr C f_X3_7 (lit (kd := 3) (n := 2) rfl) rfl rfl (hL _ _ _ rfl) (D 3 rfl) ?_
  refine j_alen C (kd := 1) (lit (kd := 21) (n := 64) rfl) rfl (D 4 rfl) ?_
  refine j_icmp_ge C  33 (D 5 rfl) (by decide) (fun h9 => absurd h9 (fun z => by rw [nle (by omega) (by omega)] at z; omega)) (fun h9 => ?_)
  refine j_aload_n C (D 6 rfl) rfl ?_
  refine j_getr C f_X3_7 (lit (kd := 3) (n := 2) rfl) rfl rfl (hL _ _ _ rfl) (D 7 rfl) ?_
  refine j_aload_n C (D 8 rfl) rfl ?_
  refine j_geti C f_X3_13 (lit (kd := 3) (n := 2) rfl) rfl rfl (D 9 rfl) ?_
  rw [hT.1]
  refine j_iload_n C (D 10 rfl) rfl ?_
  refine j_i2b C (D 11 rfl) ?_
  refine j_bast C (lit (kd := 21) (n := 64) rfl) (ix_n (by omega) (by decide)) (D 12 rfl) ?_
  refine j_aload_n C (D 13 rfl) rfl ?_
  refine j_dup C (D 14 rfl) rfl ?_
  refine j_geti C f_X3_13 (lit (kd := 3) (n := 2) rfl) rfl rfl (D 15 rfl) ?_
  rw [up2_i (show ¬ ((2 : Nat) = 3 ∧ 1 = b.1) by omega), hT.1]
  refine j_iconst C (v := nI 1) (D 16 rfl) rfl ?_
  refine j_iadd C (D 17 rfl) ?_
  rw [nI_add]
  refine j_puti C f_X3_13 (lit (kd := 3) (n := 2) rfl) rfl rfl (D 18 rfl) ?_
  exact j_vret C P rfl (D 19 rfl) ⟨Nat.le_refl _, Nat.le_refl _⟩ ⟨rfl, _, rfl, TP_put (by decide) hT, FrT.up (fun _ _ _ _ => rfl)⟩
set_option maxRecDepth 20000 in
theorem d_says (l : Launch) (G : GT) {I : Nat → Nat → Int32} {L : Nat → Nat → Int64} {R : Nat → Nat → Option Nat} (hL : Lay R) (b : BT) (hb : b.1 < 200) (hT : TP I 172 47 196 b) (x : Int32) : Mt l G mX12_says (0) 0 0 [.ref (ra G 172), .int x] (wd I L R) (fun r w' => r = none ∧ ∃ I', w' = wd I' L R ∧ TP I' 172 47 196 (put1 b (oc1 x)) ∧ FrT 172 47 196 I I') := by
  refine mt_of (own := RX12) (by decide) rfl rfl (fun Z C P B => ?_)
  have D := @dc_of _ _ dX12_says
  refine j_aload_n C (D 0 rfl) rfl ?_
  refine j_getr C f_X12_86 (lit (kd := 12) (n := 48) rfl) rfl rfl (hL _ _ _ rfl) (D 1 rfl) ?_
  refine j_aload_n C (D 2 rfl) rfl ?_
  refine j_geti C f_X12_314 (lit (kd := 12) (n := 48) rfl) rfl rfl (D 3 rfl) ?_
  rw [hT.1]
  refine j_iload_n C (D 4 rfl) rfl ?_
  refine j_i2b C (D 5 rfl) ?_
  refine j_bast C (lit (kd := 21) (n := 200) rfl) (ix_n (by omega) (by decide)) (D 6 rfl) ?_
  refine j_aload_n C (D 7 rfl) rfl ?_
  refine j_dup C (D 8 rfl) rfl ?_
  refine j_geti C f_X12_314 (lit (kd := 12) (n := 48) rfl) rfl rfl (D 9 rfl) ?_
  rw [up2_i (show ¬ ((172 : Nat) = 196 ∧ 47 = b.1) by omega), hT.1]
  refine j_iconst C (v := nI 1) (D 10 rfl) rfl ?_
  refine j_iadd C (D 11 rfl) ?_
  rw [nI_add]
  refine j_puti C f_X12_314 (lit (kd := 12) (n := 48) rfl) rfl rfl (D 12 rfl) ?_
  exact j_vret C P rfl (D 13 rfl) ⟨Nat.le_refl _, Nat.le_refl _⟩ ⟨rfl, _, rfl, TP_put (by decide) hT, FrT.up (fun _ _ _ _ => rfl)⟩
set_option maxRecDepth 20000 in
theorem c_putNumber (l : Launch) (G : GT) {I : Nat → Nat → Int32} {L : Nat → Nat → Int64} {R : Nat → Nat → Option Nat} (hL : Lay R) (b0 : BT) (v : Nat) (hv : v ≤ 22000) (hb0 : b0.1 + 5 ≤ 64) (hT : TP I 2 1 3 b0) : Mt l G mX3_putNumber (1) 0 0 [.ref (ra G 2), .int (nI v)] (wd I L R) (fun r w' => r = none ∧ ∃ I', w' = wd I' L R ∧ TP I' 2 1 3 (nmB v b0) ∧ FrT 2 1 3 I I') := by
  refine mt_of (own := RX3) (by decide) rfl rfl (fun Z C P B => ?_)
  have D := @dc_of _ _ dX3_putNumber
  have E0 : ∀ (b : BT) (I1 : Nat → Nat → Int32) (x3 : Option Value), b.1 + 0 ≤ 64 → TP I1 2 1 3 b → FrT 2 1 3 I I1 → b = nmB v b0 → J Z (0, 0) 29 [some (.ref (ra G 2)), some (.int (nI v)), some (.int (nI 0)), x3] [] (wd I1 L R) := by
    intro b I1 x3 hb hT hF hE
    refine j_iload_n C (D 18 rfl) rfl ?_
    refine j_if_le C  54 (D 19 rfl) (by decide) (fun h30 => ?_) (fun h30 => absurd h30 (fun z => z (by decide)))
    exact j_vret C P rfl (D 34 rfl) ⟨Nat.le_refl _, Nat.le_refl _⟩ ⟨rfl, I1, rfl, by rw [← hE]; exact hT, hF⟩
  have E1 : ∀ (b : BT) (I1 : Nat → Nat → Int32) (x3 : Option Value), b.1 + 1 ≤ 64 → TP I1 2 1 3 b → FrT 2 1 3 I I1 → (dgJ v 0 b) = nmB v b0 → J Z (0, 0) 29 [some (.ref (ra G 2)), some (.int (nI v)), some (.int (nI 1)), x3] [] (wd I1 L R) := by
    intro b I1 x3 hb hT hF hE
    refine j_iload_n C (D 18 rfl) rfl ?_
    refine j_if_le C  54 (D 19 rfl) (by decide) (fun h30 => absurd h30 (fun z => absurd z (by decide))) (fun h30 => ?_)
    refine j_aload_n C (D 20 rfl) rfl ?_
    refine j_bipush C (v := nI 48) (D 21 rfl) rfl ?_
    refine j_iload_n C (D 22 rfl) rfl ?_
    refine j_iload_n C (D 23 rfl) rfl ?_
    refine j_idiv C (D 24 rfl) (by decide) ?_
    rw [pk_div (by omega) (by decide) (by decide)]
    refine j_bipush C (v := nI 10) (D 25 rfl) rfl ?_
    refine j_irem C (D 26 rfl) (by decide) ?_
    rw [pk_rem (by omega) (by decide) (by decide)]
    refine j_iadd C (D 27 rfl) ?_
    rw [nI_add]
    refine j_callV C B k_X3_17 (rc_obj C (lit (kd := 3) (n := 2) rfl) rfl rfl) (c_pput _ _ hL b (by omega) hT _) rfl rfl rfl rfl ⟨Nat.le_refl _, Nat.le_refl _⟩ (D 28 rfl) ?_
    rintro r w' ⟨rfl, I2, rfl, hT2, hF2⟩
    refine j_iload_n C (D 29 rfl) rfl ?_
    refine j_bipush C (v := nI 10) (D 30 rfl) rfl ?_
    refine j_idiv C (D 31 rfl) (by decide) ?_
    rw [pk_div (by decide) (by decide) (by decide)]
    refine j_istore_n C (D 32 rfl) rfl ?_
    refine j_goto C 29 (D 33 rfl) (by decide) ?_
    exact E0 _ I2 _ (by show b.1 + 1 + 0 ≤ 64; omega) hT2 (hF.tr hF2) hE
  have E2 : ∀ (b : BT) (I1 : Nat → Nat → Int32) (x3 : Option Value), b.1 + 2 ≤ 64 → TP I1 2 1 3 b → FrT 2 1 3 I I1 → (dgJ v 1 b) = nmB v b0 → J Z (0, 0) 29 [some (.ref (ra G 2)), some (.int (nI v)), some (.int (nI 10)), x3] [] (wd I1 L R) := by
    intro b I1 x3 hb hT hF hE
    refine j_iload_n C (D 18 rfl) rfl ?_
    refine j_if_le C  54 (D 19 rfl) (by decide) (fun h30 => absurd h30 (fun z => absurd z (by decide))) (fun h30 => ?_)
    refine j_aload_n C (D 20 rfl) rfl ?_
    refine j_bipush C (v := nI 48) (D 21 rfl) rfl ?_
    refine j_iload_n C (D 22 rfl) rfl ?_
    refine j_iload_n C (D 23 rfl) rfl ?_
    refine j_idiv C (D 24 rfl) (by decide) ?_
    rw [pk_div (by omega) (by decide) (by decide)]
    refine j_bipush C (v := nI 10) (D 25 rfl) rfl ?_
    refine j_irem C (D 26 rfl) (by decide) ?_
    rw [pk_rem (by omega) (by decide) (by decide)]
    refine j_iadd C (D 27 rfl) ?_
    rw [nI_add]
    refine j_callV C B k_X3_17 (rc_obj C (lit (kd := 3) (n := 2) rfl) rfl rfl) (c_pput _ _ hL b (by omega) hT _) rfl rfl rfl rfl ⟨Nat.le_refl _, Nat.le_refl _⟩ (D 28 rfl) ?_
    rintro r w' ⟨rfl, I2, rfl, hT2, hF2⟩
    refine j_iload_n C (D 29 rfl) rfl ?_
    refine j_bipush C (v := nI 10) (D 30 rfl) rfl ?_
    refine j_idiv C (D 31 rfl) (by decide) ?_
    rw [pk_div (by decide) (by decide) (by decide)]
    refine j_istore_n C (D 32 rfl) rfl ?_
    refine j_goto C 29 (D 33 rfl) (by decide) ?_
    exact E1 _ I2 _ (by show b.1 + 1 + 1 ≤ 64; omega) hT2 (hF.tr hF2) hE
  have E3 : ∀ (b : BT) (I1 : Nat → Nat → Int32) (x3 : Option Value), b.1 + 3 ≤ 64 → TP I1 2 1 3 b → FrT 2 1 3 I I1 → (dgJ v 2 b) = nmB v b0 → J Z (0, 0) 29 [some (.ref (ra G 2)), some (.int (nI v)), some (.int (nI 100)), x3] [] (wd I1 L R) := by
    intro b I1 x3 hb hT hF hE
    refine j_iload_n C (D 18 rfl) rfl ?_
    refine j_if_le C  54 (D 19 rfl) (by decide) (fun h30 => absurd h30 (fun z => absurd z (by decide))) (fun h30 => ?_)
    refine j_aload_n C (D 20 rfl) rfl ?_
    refine j_bipush C (v := nI 48) (D 21 rfl) rfl ?_
    refine j_iload_n C (D 22 rfl) rfl ?_
    refine j_iload_n C (D 23 rfl) rfl ?_
    refine j_idiv C (D 24 rfl) (by decide) ?_
    rw [pk_div (by omega) (by decide) (by decide)]
    refine j_bipush C (v := nI 10) (D 25 rfl) rfl ?_
    refine j_irem C (D 26 rfl) (by decide) ?_
    rw [pk_rem (by omega) (by decide) (by decide)]
    refine j_iadd C (D 27 rfl) ?_
    rw [nI_add]
    refine j_callV C B k_X3_17 (rc_obj C (lit (kd := 3) (n := 2) rfl) rfl rfl) (c_pput _ _ hL b (by omega) hT _) rfl rfl rfl rfl ⟨Nat.le_refl _, Nat.le_refl _⟩ (D 28 rfl) ?_
    rintro r w' ⟨rfl, I2, rfl, hT2, hF2⟩
    refine j_iload_n C (D 29 rfl) rfl ?_
    refine j_bipush C (v := nI 10) (D 30 rfl) rfl ?_
    refine j_idiv C (D 31 rfl) (by decide) ?_
    rw [pk_div (by decide) (by decide) (by decide)]
    refine j_istore_n C (D 32 rfl) rfl ?_
    refine j_goto C 29 (D 33 rfl) (by decide) ?_
    exact E2 _ I2 _ (by show b.1 + 1 + 2 ≤ 64; omega) hT2 (hF.tr hF2) hE
  have E4 : ∀ (b : BT) (I1 : Nat → Nat → Int32) (x3 : Option Value), b.1 + 4 ≤ 64 → TP I1 2 1 3 b → FrT 2 1 3 I I1 → (dgJ v 3 b) = nmB v b0 → J Z (0, 0) 29 [some (.ref (ra G 2)), some (.int (nI v)), some (.int (nI 1000)), x3] [] (wd I1 L R) := by
    intro b I1 x3 hb hT hF hE
    refine j_iload_n C (D 18 rfl) rfl ?_
    refine j_if_le C  54 (D 19 rfl) (by decide) (fun h30 => absurd h30 (fun z => absurd z (by decide))) (fun h30 => ?_)
    refine j_aload_n C (D 20 rfl) rfl ?_
    refine j_bipush C (v := nI 48) (D 21 rfl) rfl ?_
    refine j_iload_n C (D 22 rfl) rfl ?_
    refine j_iload_n C (D 23 rfl) rfl ?_
    refine j_idiv C (D 24 rfl) (by decide) ?_
    rw [pk_div (by omega) (by decide) (by decide)]
    refine j_bipush C (v := nI 10) (D 25 rfl) rfl ?_
    refine j_irem C (D 26 rfl) (by decide) ?_
    rw [pk_rem (by omega) (by decide) (by decide)]
    refine j_iadd C (D 27 rfl) ?_
    rw [nI_add]
    refine j_callV C B k_X3_17 (rc_obj C (lit (kd := 3) (n := 2) rfl) rfl rfl) (c_pput _ _ hL b (by omega) hT _) rfl rfl rfl rfl ⟨Nat.le_refl _, Nat.le_refl _⟩ (D 28 rfl) ?_
    rintro r w' ⟨rfl, I2, rfl, hT2, hF2⟩
    refine j_iload_n C (D 29 rfl) rfl ?_
    refine j_bipush C (v := nI 10) (D 30 rfl) rfl ?_
    refine j_idiv C (D 31 rfl) (by decide) ?_
    rw [pk_div (by decide) (by decide) (by decide)]
    refine j_istore_n C (D 32 rfl) rfl ?_
    refine j_goto C 29 (D 33 rfl) (by decide) ?_
    exact E3 _ I2 _ (by show b.1 + 1 + 3 ≤ 64; omega) hT2 (hF.tr hF2) hE
  have E5 : ∀ (b : BT) (I1 : Nat → Nat → Int32) (x3 : Option Value), b.1 + 5 ≤ 64 → TP I1 2 1 3 b → FrT 2 1 3 I I1 → (dgJ v 4 b) = nmB v b0 → J Z (0, 0) 29 [some (.ref (ra G 2)), some (.int (nI v)), some (.int (nI 10000)), x3] [] (wd I1 L R) := by
    intro b I1 x3 hb hT hF hE
    refine j_iload_n C (D 18 rfl) rfl ?_
    refine j_if_le C  54 (D 19 rfl) (by decide) (fun h30 => absurd h30 (fun z => absurd z (by decide))) (fun h30 => ?_)
    refine j_aload_n C (D 20 rfl) rfl ?_
    refine j_bipush C (v := nI 48) (D 21 rfl) rfl ?_
    refine j_iload_n C (D 22 rfl) rfl ?_
    refine j_iload_n C (D 23 rfl) rfl ?_
    refine j_idiv C (D 24 rfl) (by decide) ?_
    rw [pk_div (by omega) (by decide) (by decide)]
    refine j_bipush C (v := nI 10) (D 25 rfl) rfl ?_
    refine j_irem C (D 26 rfl) (by decide) ?_
    rw [pk_rem (by omega) (by decide) (by decide)]
    refine j_iadd C (D 27 rfl) ?_
    rw [nI_add]
    refine j_callV C B k_X3_17 (rc_obj C (lit (kd := 3) (n := 2) rfl) rfl rfl) (c_pput _ _ hL b (by omega) hT _) rfl rfl rfl rfl ⟨Nat.le_refl _, Nat.le_refl _⟩ (D 28 rfl) ?_
    rintro r w' ⟨rfl, I2, rfl, hT2, hF2⟩
    refine j_iload_n C (D 29 rfl) rfl ?_
    refine j_bipush C (v := nI 10) (D 30 rfl) rfl ?_
    refine j_idiv C (D 31 rfl) (by decide) ?_
    rw [pk_div (by decide) (by decide) (by decide)]
    refine j_istore_n C (D 32 rfl) rfl ?_
    refine j_goto C 29 (D 33 rfl) (by decide) ?_
    exact E4 _ I2 _ (by show b.1 + 1 + 4 ≤ 64; omega) hT2 (hF.tr hF2) hE
  have F4 : 10000 ≤ v → J Z (0, 0) 4 [some (.ref (ra G 2)), some (.int (nI v)), some (.int (nI 10000)), some (.int (nI 5))] [] (wd I L R) := by
    intro hlo
    refine j_iload_n C (D 4 rfl) rfl ?_
    refine j_bipush C (v := nI 9) (D 5 rfl) rfl ?_
    refine j_icmp_ge C  29 (D 6 rfl) (by decide) (fun h7 => absurd h7 (fun z => absurd z (by decide))) (fun h7 => ?_)
    refine j_iload_n C (D 7 rfl) rfl ?_
    refine j_iload_n C (D 8 rfl) rfl ?_
    refine j_idiv C (D 9 rfl) (by decide) ?_
    rw [pk_div (by omega) (by decide) (by decide)]
    refine j_bipush C (v := nI 10) (D 10 rfl) rfl ?_
    refine j_icmp_lt C  29 (D 11 rfl) (by decide) (fun h15 => ?_) (fun h15 => absurd h15 (fun z => z ((nlt (by omega) (by omega)).mpr (by omega))))
    have hlt : v < 100000 := by omega
    exact E5 b0 I _ (by omega) hT (fun _ _ _ _ => rfl) (by rw [nmB, tdN, if_neg (show ¬ v < 10 by omega), if_neg (show ¬ v < 100 by omega), if_neg (show ¬ v < 1000 by omega), if_neg (show ¬ v < 10000 by omega)])
  have F3 : 1000 ≤ v → J Z (0, 0) 4 [some (.ref (ra G 2)), some (.int (nI v)), some (.int (nI 1000)), some (.int (nI 4))] [] (wd I L R) := by
    intro hlo
    refine j_iload_n C (D 4 rfl) rfl ?_
    refine j_bipush C (v := nI 9) (D 5 rfl) rfl ?_
    refine j_icmp_ge C  29 (D 6 rfl) (by decide) (fun h7 => absurd h7 (fun z => absurd z (by decide))) (fun h7 => ?_)
    refine j_iload_n C (D 7 rfl) rfl ?_
    refine j_iload_n C (D 8 rfl) rfl ?_
    refine j_idiv C (D 9 rfl) (by decide) ?_
    rw [pk_div (by omega) (by decide) (by decide)]
    refine j_bipush C (v := nI 10) (D 10 rfl) rfl ?_
    refine j_icmp_lt C  29 (D 11 rfl) (by decide) (fun h15 => ?_) (fun h15 => ?_)
    · have hlt : v < 10000 := by rw [nlt (by omega) (by omega)] at h15; omega
      exact E4 b0 I _ (by omega) hT (fun _ _ _ _ => rfl) (by rw [nmB, tdN, if_neg (show ¬ v < 10 by omega), if_neg (show ¬ v < 100 by omega), if_neg (show ¬ v < 1000 by omega), if_pos (show v < 10000 by omega)])
    · refine j_iload_n C (D 12 rfl) rfl ?_
      refine j_bipush C (v := nI 10) (D 13 rfl) rfl ?_
      refine j_imul C (D 14 rfl) ?_
      rw [pk_mul]
      refine j_istore_n C (D 15 rfl) rfl ?_
      first | refine j_iinc1 C (D 16 rfl) rfl rfl ?_ | refine j_iinc C (D 16 rfl) rfl rfl rfl ?_
      refine j_goto C 4 (D 17 rfl) (by decide) ?_
      exact F4 (by rw [nlt (by omega) (by omega)] at h15; omega)
  have F2 : 100 ≤ v → J Z (0, 0) 4 [some (.ref (ra G 2)), some (.int (nI v)), some (.int (nI 100)), some (.int (nI 3))] [] (wd I L R) := by
    intro hlo
    refine j_iload_n C (D 4 rfl) rfl ?_
    refine j_bipush C (v := nI 9) (D 5 rfl) rfl ?_
    refine j_icmp_ge C  29 (D 6 rfl) (by decide) (fun h7 => absurd h7 (fun z => absurd z (by decide))) (fun h7 => ?_)
    refine j_iload_n C (D 7 rfl) rfl ?_
    refine j_iload_n C (D 8 rfl) rfl ?_
    refine j_idiv C (D 9 rfl) (by decide) ?_
    rw [pk_div (by omega) (by decide) (by decide)]
    refine j_bipush C (v := nI 10) (D 10 rfl) rfl ?_
    refine j_icmp_lt C  29 (D 11 rfl) (by decide) (fun h15 => ?_) (fun h15 => ?_)
    · have hlt : v < 1000 := by rw [nlt (by omega) (by omega)] at h15; omega
      exact E3 b0 I _ (by omega) hT (fun _ _ _ _ => rfl) (by rw [nmB, tdN, if_neg (show ¬ v < 10 by omega), if_neg (show ¬ v < 100 by omega), if_pos (show v < 1000 by omega)])
    · refine j_iload_n C (D 12 rfl) rfl ?_
      refine j_bipush C (v := nI 10) (D 13 rfl) rfl ?_
      refine j_imul C (D 14 rfl) ?_
      rw [pk_mul]
      refine j_istore_n C (D 15 rfl) rfl ?_
      first | refine j_iinc1 C (D 16 rfl) rfl rfl ?_ | refine j_iinc C (D 16 rfl) rfl rfl rfl ?_
      refine j_goto C 4 (D 17 rfl) (by decide) ?_
      exact F3 (by rw [nlt (by omega) (by omega)] at h15; omega)
  have F1 : 10 ≤ v → J Z (0, 0) 4 [some (.ref (ra G 2)), some (.int (nI v)), some (.int (nI 10)), some (.int (nI 2))] [] (wd I L R) := by
    intro hlo
    refine j_iload_n C (D 4 rfl) rfl ?_
    refine j_bipush C (v := nI 9) (D 5 rfl) rfl ?_
    refine j_icmp_ge C  29 (D 6 rfl) (by decide) (fun h7 => absurd h7 (fun z => absurd z (by decide))) (fun h7 => ?_)
    refine j_iload_n C (D 7 rfl) rfl ?_
    refine j_iload_n C (D 8 rfl) rfl ?_
    refine j_idiv C (D 9 rfl) (by decide) ?_
    rw [pk_div (by omega) (by decide) (by decide)]
    refine j_bipush C (v := nI 10) (D 10 rfl) rfl ?_
    refine j_icmp_lt C  29 (D 11 rfl) (by decide) (fun h15 => ?_) (fun h15 => ?_)
    · have hlt : v < 100 := by rw [nlt (by omega) (by omega)] at h15; omega
      exact E2 b0 I _ (by omega) hT (fun _ _ _ _ => rfl) (by rw [nmB, tdN, if_neg (show ¬ v < 10 by omega), if_pos (show v < 100 by omega)])
    · refine j_iload_n C (D 12 rfl) rfl ?_
      refine j_bipush C (v := nI 10) (D 13 rfl) rfl ?_
      refine j_imul C (D 14 rfl) ?_
      rw [pk_mul]
      refine j_istore_n C (D 15 rfl) rfl ?_
      first | refine j_iinc1 C (D 16 rfl) rfl rfl ?_ | refine j_iinc C (D 16 rfl) rfl rfl rfl ?_
      refine j_goto C 4 (D 17 rfl) (by decide) ?_
      exact F2 (by rw [nlt (by omega) (by omega)] at h15; omega)
  have F0 : True → J Z (0, 0) 4 [some (.ref (ra G 2)), some (.int (nI v)), some (.int (nI 1)), some (.int (nI 1))] [] (wd I L R) := by
    intro hlo
    refine j_iload_n C (D 4 rfl) rfl ?_
    refine j_bipush C (v := nI 9) (D 5 rfl) rfl ?_
    refine j_icmp_ge C  29 (D 6 rfl) (by decide) (fun h7 => absurd h7 (fun z => absurd z (by decide))) (fun h7 => ?_)
    refine j_iload_n C (D 7 rfl) rfl ?_
    refine j_iload_n C (D 8 rfl) rfl ?_
    refine j_idiv C (D 9 rfl) (by decide) ?_
    rw [pk_div (by omega) (by decide) (by decide)]
    refine j_bipush C (v := nI 10) (D 10 rfl) rfl ?_
    refine j_icmp_lt C  29 (D 11 rfl) (by decide) (fun h15 => ?_) (fun h15 => ?_)
    · have hlt : v < 10 := by rw [nlt (by omega) (by omega)] at h15; omega
      exact E1 b0 I _ (by omega) hT (fun _ _ _ _ => rfl) (by rw [nmB, tdN, if_pos (show v < 10 by omega)])
    · refine j_iload_n C (D 12 rfl) rfl ?_
      refine j_bipush C (v := nI 10) (D 13 rfl) rfl ?_
      refine j_imul C (D 14 rfl) ?_
      rw [pk_mul]
      refine j_istore_n C (D 15 rfl) rfl ?_
      first | refine j_iinc1 C (D 16 rfl) rfl rfl ?_ | refine j_iinc C (D 16 rfl) rfl rfl rfl ?_
      refine j_goto C 4 (D 17 rfl) (by decide) ?_
      exact F1 (by rw [nlt (by omega) (by omega)] at h15; omega)
  refine j_iconst C (v := nI 1) (D 0 rfl) rfl ?_
  refine j_istore_n C (D 1 rfl) rfl ?_
  refine j_iconst C (v := nI 1) (D 2 rfl) rfl ?_
  refine j_istore_n C (D 3 rfl) rfl ?_
  exact F0 trivial
set_option maxRecDepth 20000 in
theorem d_saysNumber (l : Launch) (G : GT) {I : Nat → Nat → Int32} {L : Nat → Nat → Int64} {R : Nat → Nat → Option Nat} (hL : Lay R) (b0 : BT) (v : Nat) (hv : v ≤ 22000) (hb0 : b0.1 + 5 ≤ 200) (hT : TP I 172 47 196 b0) : Mt l G mX12_saysNumber (1) 0 0 [.ref (ra G 172), .int (nI v)] (wd I L R) (fun r w' => r = none ∧ ∃ I', w' = wd I' L R ∧ TP I' 172 47 196 (nmB v b0) ∧ FrT 172 47 196 I I') := by
  refine mt_of (own := RX12) (by decide) rfl rfl (fun Z C P B => ?_)
  have D := @dc_of _ _ dX12_saysNumber
  have E0 : ∀ (b : BT) (I1 : Nat → Nat → Int32), b.1 + 0 ≤ 200 → TP I1 172 47 196 b → FrT 172 47 196 I I1 → b = nmB v b0 → J Z (0, 0) 18 [some (.ref (ra G 172)), some (.int (nI v)), some (.int (nI 0))] [] (wd I1 L R) := by
    intro b I1 hb hT hF hE
    refine j_iload_n C (D 12 rfl) rfl ?_
    refine j_if_le C  43 (D 13 rfl) (by decide) (fun h19 => ?_) (fun h19 => absurd h19 (fun z => z (by decide)))
    exact j_vret C P rfl (D 28 rfl) ⟨Nat.le_refl _, Nat.le_refl _⟩ ⟨rfl, I1, rfl, by rw [← hE]; exact hT, hF⟩
  have E1 : ∀ (b : BT) (I1 : Nat → Nat → Int32), b.1 + 1 ≤ 200 → TP I1 172 47 196 b → FrT 172 47 196 I I1 → (dgJ v 0 b) = nmB v b0 → J Z (0, 0) 18 [some (.ref (ra G 172)), some (.int (nI v)), some (.int (nI 1))] [] (wd I1 L R) := by
    intro b I1 hb hT hF hE
    refine j_iload_n C (D 12 rfl) rfl ?_
    refine j_if_le C  43 (D 13 rfl) (by decide) (fun h19 => absurd h19 (fun z => absurd z (by decide))) (fun h19 => ?_)
    refine j_aload_n C (D 14 rfl) rfl ?_
    refine j_bipush C (v := nI 48) (D 15 rfl) rfl ?_
    refine j_iload_n C (D 16 rfl) rfl ?_
    refine j_iload_n C (D 17 rfl) rfl ?_
    refine j_idiv C (D 18 rfl) (by decide) ?_
    rw [pk_div (by omega) (by decide) (by decide)]
    refine j_bipush C (v := nI 10) (D 19 rfl) rfl ?_
    refine j_irem C (D 20 rfl) (by decide) ?_
    rw [pk_rem (by omega) (by decide) (by decide)]
    refine j_iadd C (D 21 rfl) ?_
    rw [nI_add]
    refine j_callV C B k_X12_488 (rc_obj C (lit (kd := 12) (n := 48) rfl) rfl rfl) (d_says _ _ hL b (by omega) hT _) rfl rfl rfl rfl ⟨Nat.le_refl _, Nat.le_refl _⟩ (D 22 rfl) ?_
    rintro r w' ⟨rfl, I2, rfl, hT2, hF2⟩
    refine j_iload_n C (D 23 rfl) rfl ?_
    refine j_bipush C (v := nI 10) (D 24 rfl) rfl ?_
    refine j_idiv C (D 25 rfl) (by decide) ?_
    rw [pk_div (by decide) (by decide) (by decide)]
    refine j_istore_n C (D 26 rfl) rfl ?_
    refine j_goto C 18 (D 27 rfl) (by decide) ?_
    exact E0 _ I2 (by show b.1 + 1 + 0 ≤ 200; omega) hT2 (hF.tr hF2) hE
  have E2 : ∀ (b : BT) (I1 : Nat → Nat → Int32), b.1 + 2 ≤ 200 → TP I1 172 47 196 b → FrT 172 47 196 I I1 → (dgJ v 1 b) = nmB v b0 → J Z (0, 0) 18 [some (.ref (ra G 172)), some (.int (nI v)), some (.int (nI 10))] [] (wd I1 L R) := by
    intro b I1 hb hT hF hE
    refine j_iload_n C (D 12 rfl) rfl ?_
    refine j_if_le C  43 (D 13 rfl) (by decide) (fun h19 => absurd h19 (fun z => absurd z (by decide))) (fun h19 => ?_)
    refine j_aload_n C (D 14 rfl) rfl ?_
    refine j_bipush C (v := nI 48) (D 15 rfl) rfl ?_
    refine j_iload_n C (D 16 rfl) rfl ?_
    refine j_iload_n C (D 17 rfl) rfl ?_
    refine j_idiv C (D 18 rfl) (by decide) ?_
    rw [pk_div (by omega) (by decide) (by decide)]
    refine j_bipush C (v := nI 10) (D 19 rfl) rfl ?_
    refine j_irem C (D 20 rfl) (by decide) ?_
    rw [pk_rem (by omega) (by decide) (by decide)]
    refine j_iadd C (D 21 rfl) ?_
    rw [nI_add]
    refine j_callV C B k_X12_488 (rc_obj C (lit (kd := 12) (n := 48) rfl) rfl rfl) (d_says _ _ hL b (by omega) hT _) rfl rfl rfl rfl ⟨Nat.le_refl _, Nat.le_refl _⟩ (D 22 rfl) ?_
    rintro r w' ⟨rfl, I2, rfl, hT2, hF2⟩
    refine j_iload_n C (D 23 rfl) rfl ?_
    refine j_bipush C (v := nI 10) (D 24 rfl) rfl ?_
    refine j_idiv C (D 25 rfl) (by decide) ?_
    rw [pk_div (by decide) (by decide) (by decide)]
    refine j_istore_n C (D 26 rfl) rfl ?_
    refine j_goto C 18 (D 27 rfl) (by decide) ?_
    exact E1 _ I2 (by show b.1 + 1 + 1 ≤ 200; omega) hT2 (hF.tr hF2) hE
  have E3 : ∀ (b : BT) (I1 : Nat → Nat → Int32), b.1 + 3 ≤ 200 → TP I1 172 47 196 b → FrT 172 47 196 I I1 → (dgJ v 2 b) = nmB v b0 → J Z (0, 0) 18 [some (.ref (ra G 172)), some (.int (nI v)), some (.int (nI 100))] [] (wd I1 L R) := by
    intro b I1 hb hT hF hE
    refine j_iload_n C (D 12 rfl) rfl ?_
    refine j_if_le C  43 (D 13 rfl) (by decide) (fun h19 => absurd h19 (fun z => absurd z (by decide))) (fun h19 => ?_)
    refine j_aload_n C (D 14 rfl) rfl ?_
    refine j_bipush C (v := nI 48) (D 15 rfl) rfl ?_
    refine j_iload_n C (D 16 rfl) rfl ?_
    refine j_iload_n C (D 17 rfl) rfl ?_
    refine j_idiv C (D 18 rfl) (by decide) ?_
    rw [pk_div (by omega) (by decide) (by decide)]
    refine j_bipush C (v := nI 10) (D 19 rfl) rfl ?_
    refine j_irem C (D 20 rfl) (by decide) ?_
    rw [pk_rem (by omega) (by decide) (by decide)]
    refine j_iadd C (D 21 rfl) ?_
    rw [nI_add]
    refine j_callV C B k_X12_488 (rc_obj C (lit (kd := 12) (n := 48) rfl) rfl rfl) (d_says _ _ hL b (by omega) hT _) rfl rfl rfl rfl ⟨Nat.le_refl _, Nat.le_refl _⟩ (D 22 rfl) ?_
    rintro r w' ⟨rfl, I2, rfl, hT2, hF2⟩
    refine j_iload_n C (D 23 rfl) rfl ?_
    refine j_bipush C (v := nI 10) (D 24 rfl) rfl ?_
    refine j_idiv C (D 25 rfl) (by decide) ?_
    rw [pk_div (by decide) (by decide) (by decide)]
    refine j_istore_n C (D 26 rfl) rfl ?_
    refine j_goto C 18 (D 27 rfl) (by decide) ?_
    exact E2 _ I2 (by show b.1 + 1 + 2 ≤ 200; omega) hT2 (hF.tr hF2) hE
  have E4 : ∀ (b : BT) (I1 : Nat → Nat → Int32), b.1 + 4 ≤ 200 → TP I1 172 47 196 b → FrT 172 47 196 I I1 → (dgJ v 3 b) = nmB v b0 → J Z (0, 0) 18 [some (.ref (ra G 172)), some (.int (nI v)), some (.int (nI 1000))] [] (wd I1 L R) := by
    intro b I1 hb hT hF hE
    refine j_iload_n C (D 12 rfl) rfl ?_
    refine j_if_le C  43 (D 13 rfl) (by decide) (fun h19 => absurd h19 (fun z => absurd z (by decide))) (fun h19 => ?_)
    refine j_aload_n C (D 14 rfl) rfl ?_
    refine j_bipush C (v := nI 48) (D 15 rfl) rfl ?_
    refine j_iload_n C (D 16 rfl) rfl ?_
    refine j_iload_n C (D 17 rfl) rfl ?_
    refine j_idiv C (D 18 rfl) (by decide) ?_
    rw [pk_div (by omega) (by decide) (by decide)]
    refine j_bipush C (v := nI 10) (D 19 rfl) rfl ?_
    refine j_irem C (D 20 rfl) (by decide) ?_
    rw [pk_rem (by omega) (by decide) (by decide)]
    refine j_iadd C (D 21 rfl) ?_
    rw [nI_add]
    refine j_callV C B k_X12_488 (rc_obj C (lit (kd := 12) (n := 48) rfl) rfl rfl) (d_says _ _ hL b (by omega) hT _) rfl rfl rfl rfl ⟨Nat.le_refl _, Nat.le_refl _⟩ (D 22 rfl) ?_
    rintro r w' ⟨rfl, I2, rfl, hT2, hF2⟩
    refine j_iload_n C (D 23 rfl) rfl ?_
    refine j_bipush C (v := nI 10) (D 24 rfl) rfl ?_
    refine j_idiv C (D 25 rfl) (by decide) ?_
    rw [pk_div (by decide) (by decide) (by decide)]
    refine j_istore_n C (D 26 rfl) rfl ?_
    refine j_goto C 18 (D 27 rfl) (by decide) ?_
    exact E3 _ I2 (by show b.1 + 1 + 3 ≤ 200; omega) hT2 (hF.tr hF2) hE
  have E5 : ∀ (b : BT) (I1 : Nat → Nat → Int32), b.1 + 5 ≤ 200 → TP I1 172 47 196 b → FrT 172 47 196 I I1 → (dgJ v 4 b) = nmB v b0 → J Z (0, 0) 18 [some (.ref (ra G 172)), some (.int (nI v)), some (.int (nI 10000))] [] (wd I1 L R) := by
    intro b I1 hb hT hF hE
    refine j_iload_n C (D 12 rfl) rfl ?_
    refine j_if_le C  43 (D 13 rfl) (by decide) (fun h19 => absurd h19 (fun z => absurd z (by decide))) (fun h19 => ?_)
    refine j_aload_n C (D 14 rfl) rfl ?_
    refine j_bipush C (v := nI 48) (D 15 rfl) rfl ?_
    refine j_iload_n C (D 16 rfl) rfl ?_
    refine j_iload_n C (D 17 rfl) rfl ?_
    refine j_idiv C (D 18 rfl) (by decide) ?_
    rw [pk_div (by omega) (by decide) (by decide)]
    refine j_bipush C (v := nI 10) (D 19 rfl) rfl ?_
    refine j_irem C (D 20 rfl) (by decide) ?_
    rw [pk_rem (by omega) (by decide) (by decide)]
    refine j_iadd C (D 21 rfl) ?_
    rw [nI_add]
    refine j_callV C B k_X12_488 (rc_obj C (lit (kd := 12) (n := 48) rfl) rfl rfl) (d_says _ _ hL b (by omega) hT _) rfl rfl rfl rfl ⟨Nat.le_refl _, Nat.le_refl _⟩ (D 22 rfl) ?_
    rintro r w' ⟨rfl, I2, rfl, hT2, hF2⟩
    refine j_iload_n C (D 23 rfl) rfl ?_
    refine j_bipush C (v := nI 10) (D 24 rfl) rfl ?_
    refine j_idiv C (D 25 rfl) (by decide) ?_
    rw [pk_div (by decide) (by decide) (by decide)]
    refine j_istore_n C (D 26 rfl) rfl ?_
    refine j_goto C 18 (D 27 rfl) (by decide) ?_
    exact E4 _ I2 (by show b.1 + 1 + 4 ≤ 200; omega) hT2 (hF.tr hF2) hE
  have F4 : 10000 ≤ v → J Z (0, 0) 2 [some (.ref (ra G 172)), some (.int (nI v)), some (.int (nI 10000))] [] (wd I L R) := by
    intro hlo
    refine j_iload_n C (D 2 rfl) rfl ?_
    refine j_iload_n C (D 3 rfl) rfl ?_
    refine j_idiv C (D 4 rfl) (by decide) ?_
    rw [pk_div (by omega) (by decide) (by decide)]
    refine j_bipush C (v := nI 10) (D 5 rfl) rfl ?_
    refine j_icmp_lt C  18 (D 6 rfl) (by decide) (fun h7 => ?_) (fun h7 => absurd h7 (fun z => z ((nlt (by omega) (by omega)).mpr (by omega))))
    have hlt : v < 100000 := by omega
    exact E5 b0 I (by omega) hT (fun _ _ _ _ => rfl) (by rw [nmB, tdN, if_neg (show ¬ v < 10 by omega), if_neg (show ¬ v < 100 by omega), if_neg (show ¬ v < 1000 by omega), if_neg (show ¬ v < 10000 by omega)])
  have F3 : 1000 ≤ v → J Z (0, 0) 2 [some (.ref (ra G 172)), some (.int (nI v)), some (.int (nI 1000))] [] (wd I L R) := by
    intro hlo
    refine j_iload_n C (D 2 rfl) rfl ?_
    refine j_iload_n C (D 3 rfl) rfl ?_
    refine j_idiv C (D 4 rfl) (by decide) ?_
    rw [pk_div (by omega) (by decide) (by decide)]
    refine j_bipush C (v := nI 10) (D 5 rfl) rfl ?_
    refine j_icmp_lt C  18 (D 6 rfl) (by decide) (fun h7 => ?_) (fun h7 => ?_)
    · have hlt : v < 10000 := by rw [nlt (by omega) (by omega)] at h7; omega
      exact E4 b0 I (by omega) hT (fun _ _ _ _ => rfl) (by rw [nmB, tdN, if_neg (show ¬ v < 10 by omega), if_neg (show ¬ v < 100 by omega), if_neg (show ¬ v < 1000 by omega), if_pos (show v < 10000 by omega)])
    · refine j_iload_n C (D 7 rfl) rfl ?_
      refine j_bipush C (v := nI 10) (D 8 rfl) rfl ?_
      refine j_imul C (D 9 rfl) ?_
      rw [pk_mul]
      refine j_istore_n C (D 10 rfl) rfl ?_
      refine j_goto C 2 (D 11 rfl) (by decide) ?_
      exact F4 (by rw [nlt (by omega) (by omega)] at h7; omega)
  have F2 : 100 ≤ v → J Z (0, 0) 2 [some (.ref (ra G 172)), some (.int (nI v)), some (.int (nI 100))] [] (wd I L R) := by
    intro hlo
    refine j_iload_n C (D 2 rfl) rfl ?_
    refine j_iload_n C (D 3 rfl) rfl ?_
    refine j_idiv C (D 4 rfl) (by decide) ?_
    rw [pk_div (by omega) (by decide) (by decide)]
    refine j_bipush C (v := nI 10) (D 5 rfl) rfl ?_
    refine j_icmp_lt C  18 (D 6 rfl) (by decide) (fun h7 => ?_) (fun h7 => ?_)
    · have hlt : v < 1000 := by rw [nlt (by omega) (by omega)] at h7; omega
      exact E3 b0 I (by omega) hT (fun _ _ _ _ => rfl) (by rw [nmB, tdN, if_neg (show ¬ v < 10 by omega), if_neg (show ¬ v < 100 by omega), if_pos (show v < 1000 by omega)])
    · refine j_iload_n C (D 7 rfl) rfl ?_
      refine j_bipush C (v := nI 10) (D 8 rfl) rfl ?_
      refine j_imul C (D 9 rfl) ?_
      rw [pk_mul]
      refine j_istore_n C (D 10 rfl) rfl ?_
      refine j_goto C 2 (D 11 rfl) (by decide) ?_
      exact F3 (by rw [nlt (by omega) (by omega)] at h7; omega)
  have F1 : 10 ≤ v → J Z (0, 0) 2 [some (.ref (ra G 172)), some (.int (nI v)), some (.int (nI 10))] [] (wd I L R) := by
    intro hlo
    refine j_iload_n C (D 2 rfl) rfl ?_
    refine j_iload_n C (D 3 rfl) rfl ?_
    refine j_idiv C (D 4 rfl) (by decide) ?_
    rw [pk_div (by omega) (by decide) (by decide)]
    refine j_bipush C (v := nI 10) (D 5 rfl) rfl ?_
    refine j_icmp_lt C  18 (D 6 rfl) (by decide) (fun h7 => ?_) (fun h7 => ?_)
    · have hlt : v < 100 := by rw [nlt (by omega) (by omega)] at h7; omega
      exact E2 b0 I (by omega) hT (fun _ _ _ _ => rfl) (by rw [nmB, tdN, if_neg (show ¬ v < 10 by omega), if_pos (show v < 100 by omega)])
    · refine j_iload_n C (D 7 rfl) rfl ?_
      refine j_bipush C (v := nI 10) (D 8 rfl) rfl ?_
      refine j_imul C (D 9 rfl) ?_
      rw [pk_mul]
      refine j_istore_n C (D 10 rfl) rfl ?_
      refine j_goto C 2 (D 11 rfl) (by decide) ?_
      exact F2 (by rw [nlt (by omega) (by omega)] at h7; omega)
  have F0 : True → J Z (0, 0) 2 [some (.ref (ra G 172)), some (.int (nI v)), some (.int (nI 1))] [] (wd I L R) := by
    intro hlo
    refine j_iload_n C (D 2 rfl) rfl ?_
    refine j_iload_n C (D 3 rfl) rfl ?_
    refine j_idiv C (D 4 rfl) (by decide) ?_
    rw [pk_div (by omega) (by decide) (by decide)]
    refine j_bipush C (v := nI 10) (D 5 rfl) rfl ?_
    refine j_icmp_lt C  18 (D 6 rfl) (by decide) (fun h7 => ?_) (fun h7 => ?_)
    · have hlt : v < 10 := by rw [nlt (by omega) (by omega)] at h7; omega
      exact E1 b0 I (by omega) hT (fun _ _ _ _ => rfl) (by rw [nmB, tdN, if_pos (show v < 10 by omega)])
    · refine j_iload_n C (D 7 rfl) rfl ?_
      refine j_bipush C (v := nI 10) (D 8 rfl) rfl ?_
      refine j_imul C (D 9 rfl) ?_
      rw [pk_mul]
      refine j_istore_n C (D 10 rfl) rfl ?_
      refine j_goto C 2 (D 11 rfl) (by decide) ?_
      exact F1 (by rw [nlt (by omega) (by omega)] at h7; omega)
  refine j_iconst C (v := nI 1) (D 0 rfl) rfl ?_
  refine j_istore_n C (D 1 rfl) rfl ?_
  exact F0 trivial
