def oc1 (x : Int32) : Int32 := x.toInt8.toInt32.toInt8.toInt32
/-- the digits of a number, from the place j down -/
def dgJ (v : Nat) : Nat → BT → BT
  | 0, b => put1 b (oc1 (nI (48 + v / 1 % 10)))
  | j + 1, b => dgJ v j (put1 b (oc1 (nI (48 + v / 10 ^ (j + 1) % 10))))
def tdN (v : Nat) : Nat := if v < 10 then 0 else if v < 100 then 1 else if v < 1000 then 2 else if v < 10000 then 3 else 4
def nmB (v : Nat) (b : BT) : BT := dgJ v (tdN v) b
theorem dgJ_1 (v : Nat) : ∀ (j : Nat) (b : BT), (dgJ v j b).1 = b.1 + j + 1
  | 0, b => rfl
  | j + 1, b => by rw [dgJ, dgJ_1 v j]; show b.1 + 1 + j + 1 = _; omega
theorem nmB_1 (v : Nat) (b : BT) : (nmB v b).1 = b.1 + tdN v + 1 := dgJ_1 v _ b
theorem tdN_le (v : Nat) : tdN v ≤ 4 := by
  unfold tdN
  by_cases h1 : v < 10
  · rw [if_pos h1]; omega
  by_cases h2 : v < 100
  · rw [if_neg h1, if_pos h2]; omega
  by_cases h3 : v < 1000
  · rw [if_neg h1, if_neg h2, if_pos h3]; omega
  by_cases h4 : v < 10000
  · rw [if_neg h1, if_neg h2, if_neg h3, if_pos h4]; omega
  · rw [if_neg h1, if_neg h2, if_neg h3, if_neg h4]; omega
set_option maxRecDepth 20000 in
theorem c_pput (l : Launch) (G : GT) {I : Nat → Nat → Int32} {L : Nat → Nat → Int64} {R : Nat → Nat → Option Nat} (hL : Lay R) (b : BT) (hb : b.1 < 64) (hT : TP I 2 1 3 b) (x : Int32) : Mt l G mX3_put (0) 0 0 [.ref (ra G 2), .int x] (wd I L R) (fun r w' => r = none ∧ ∃ I', w' = wd I' L R ∧ TP I' 2 1 3 (put1 b (oc1 x)) ∧ FrT 2 1 3 I I') := by
  refine mt_of (own := RX3) (by decide) rfl rfl (fun Z C P B => ?_)
  have D := @dc_of _ _ dX3_put
  refine j_aload_n C (D 0 rfl) rfl ?_
  refine j_geti C f_X3_13 (lit (kd := 3) (n := 2) rfl) rfl rfl (D 1 rfl) ?_
  rw [hT.1]
  refine j_aload_n C (D 2 rfl) rfl ?_
  refine j_getr C f_X3_7 (lit (kd := 3) (n := 2) rfl) rfl rfl (hL _ _ _ rfl) (D 3 rfl) ?_
  refine j_alen C (kd := 1) (lit (kd := 21) (n := 64) rfl) rfl (D 4 rfl) ?_
  refine j_icmp_ge C  33 (D 5 rfl) (by decide) (fun h9 => absurd h9 (fun z => by rw [nle (by omega) (by omega)] at z; omega)) (fun h9 => ?_)
  refine j_aload_n C (D 6 rfl) rfl ?_
  refine j_getr C f_X3_7 (lit (kd := 3) (n := 2) rfl) rfl rfl (hL _ _ _ rfl) (D 7 rfl) ?_
  refine j_aload_n C (D 8 rfl) rfl ?_
  refine j_geti C f_X3_13 (lit (kd := 3) (n := 2) rfl) rfl rfl (D 9 rfl) ?_
  rw [hT.1]
  refine j_iload_n C (D 10 rfl) rfl ?_
  refine j_i2b C (D 11 rfl) ?_
  refine j_bast C (lit (kd := 21) (n := 64) rfl) (ix_n (by omega) (by decide)) (D 12 rfl) ?_
  refine j_aload_n C (D 13 rfl) rfl ?_
  refine j_dup C (D 14 rfl) rfl ?_
  refine j_geti C f_X3_13 (lit (kd := 3) (n := 2) rfl) rfl rfl (D 15 rfl) ?_
  rw [up2_i (show ¬ ((2 : Nat) = 3 ∧ 1 = b.1) by omega), hT.1]
  refine j_iconst C (v := nI 1) (D 16 rfl) rfl ?_
  refine j_iadd C (D 17 rfl) ?_
  rw [nI_add]
  refine j_puti C f_X3_13 (lit (kd := 3) (n := 2) rfl) rfl rfl (D 18 rfl) ?_
  exact j_vret C P rfl (D 19 rfl) ⟨Nat.le_refl _, Nat.le_refl _⟩ ⟨rfl, _, rfl, TP_put (by decide) hT, FrT.up (fun _ _ _ _ => rfl)⟩
set_option maxRecDepth 20000 in
theorem d_says (l : Launch) (G : GT) {I : Nat → Nat → Int32} {L : Nat → Nat → Int64} {R : Nat → Nat → Option Nat} (hL : Lay R) (b : BT) (hb : b.1 < 200) (hT : TP I 172 47 196 b) (x : Int32) : Mt l G mX12_says (0) 0 0 [.ref (ra G 172), .int x] (wd I L R) (fun r w' => r = none ∧ ∃ I', w' = wd I' L R ∧ TP I' 172 47 196 (put1 b (oc1 x)) ∧ FrT 172 47 196 I I') := by
  refine mt_of (own := RX12) (by decide) rfl rfl (fun Z C P B => ?_)
  have D := @dc_of _ _ dX12_says
  refine j_aload_n C (D 0 rfl) rfl ?_
  refine j_getr C f_X12_86 (lit (kd := 12) (n := 48) rfl) rfl rfl (hL _ _ _ rfl) (D 1 rfl) ?_
  refine j_aload_n C (D 2 rfl) rfl ?_
  refine j_geti C f_X12_314 (lit (kd := 12) (n := 48) rfl) rfl rfl (D 3 rfl) ?_
  rw [hT.1]
  refine j_iload_n C (D 4 rfl) rfl ?_
  refine j_i2b C (D 5 rfl) ?_
  refine j_bast C (lit (kd := 21) (n := 200) rfl) (ix_n (by omega) (by decide)) (D 6 rfl) ?_
  refine j_aload_n C (D 7 rfl) rfl ?_
  refine j_dup C (D 8 rfl) rfl ?_
  refine j_geti C f_X12_314 (lit (kd := 12) (n := 48) rfl) rfl rfl (D 9 rfl) ?_
  rw [up2_i (show ¬ ((172 : Nat) = 196 ∧ 47 = b.1) by omega), hT.1]
  refine j_iconst C (v := nI 1) (D 10 rfl) rfl ?_
  refine j_iadd C (D 11 rfl) ?_
  rw [nI_add]
  refine j_puti C f_X12_314 (lit (kd := 12) (n := 48) rfl) rfl rfl (D 12 rfl) ?_
  exact j_vret C P rfl (D 13 rfl) ⟨Nat.le_refl _, Nat.le_refl _⟩ ⟨rfl, _, rfl, TP_put (by decide) hT, FrT.up (fun _ _ _ _ => rfl)⟩
