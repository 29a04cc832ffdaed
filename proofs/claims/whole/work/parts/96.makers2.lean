/-! makers -/
theorem c_X3i (l : Launch) (G : GT) {I : Nat → Nat → Int32} {L : Nat → Nat → Int64} {R : Nat → Nat → Option Nat} (hI : ∀ k, I 3 k = 0) : Mt l G mX3_init 1 1 64 [.ref (ra G 2)] (3, SH, I, L, R) (fun r w' => r = none ∧ w' = (4, SH, I, L, up2 R 2 0 (some 3))) := by
  refine mt_of (own := RX3) (by decide) rfl rfl (fun Z C P B => ?_)
  have D := @dc_of _ _ dX3_init
  refine j_aload_n C (D 0 rfl) rfl ?_
  refine j_oinit C B (inT_mem (i := 147) (by decide +kernel)) rfl rfl (D 1 rfl) ?_
  refine j_aload_n C (D 2 rfl) rfl ?_
  refine j_bipush (v := 64) C (D 3 rfl) (by decide) ?_
  refine j_newbyte C B (n := 64) rfl (by decide) (by decide) rfl hI rfl (by decide) (D 4 rfl) ?_
  refine j_putFr (N := 4) (sh := SH) C f_X3_7 rfl rfl ⟨TX3, rfl⟩ ⟨by omega, rfl⟩ rfl rfl (D 5 rfl) ?_
  exact j_vret C P rfl (D 6 rfl) (by decide) ⟨rfl, rfl⟩
/-- nothing from cell N on -/
def zI (I : Nat → Nat → Int32) (N : Nat) : Prop := ∀ a k, N ≤ a → I a k = 0
def zL (L : Nat → Nat → Int64) (N : Nat) : Prop := ∀ a k, N ≤ a → L a k = 0
def zR' (R : Nat → Nat → Option Nat) (N : Nat) : Prop := ∀ a k, N ≤ a → R a k = none
theorem zR_up {R : Nat → Nat → Option Nat} {N a k : Nat} {v : Option Nat} (h : zR' R N) (ha : a < N) : zR' (up2 R a k v) N := fun b j hb => by rw [up2_ne R v (by omega)]; exact h b j hb
theorem c_X9i (l : Launch) (G : GT) {I : Nat → Nat → Int32} {L : Nat → Nat → Int64} {R : Nat → Nat → Option Nat} (hI : zI I 6) (hR : zR' R 6) : Mt l G mX9_init 2 4 3645 [.ref (ra G 5)] (6, SH, I, L, R) (fun r w' => r = none ∧ w' = (10, SH, I, L, up2 (vR (up2 (up2 (up2 R 5 0 (some 6)) 5 1 (some 7)) 5 2 (some 8)) 9) 5 4 (some 9))) := by
  refine mt_of (own := RX9) (by decide) rfl rfl (fun Z C P B => ?_)
  have D := @dc_of _ _ dX9_init
  refine j_aload_n C (D 0 rfl) rfl ?_
  refine j_oinit C B (inT_mem (i := 169) (by decide +kernel)) rfl rfl (D 1 rfl) ?_
  refine j_aload_n C (D 2 rfl) rfl ?_
  refine j_sipush (v := 1201) C (D 3 rfl) (by decide) ?_
  refine j_anew C B (kd := 0) (n := 1201) (c := "TenTrials$Sign") rfl C.2.2.2.2.2.2.2.2.1.2.2.2.2.2.2.2.2.2.1 (inT_mem (i := 170) (by decide +kernel)) rfl (by decide) (by decide) rfl (fun k => hR 6 k (by decide)) rfl (by decide) (D 4 rfl) ?_
  refine j_putFr (N := 7) (sh := SH) C f_X9_11 rfl rfl ⟨TX9, rfl⟩ ⟨by omega, rfl⟩ rfl rfl (D 5 rfl) ?_
  refine j_aload_n C (D 6 rfl) rfl ?_
  refine j_sipush (v := 1201) C (D 7 rfl) (by decide) ?_
  refine j_newint C B (n := 1201) rfl (by decide) (by decide) rfl (fun k => hI 7 k (by decide)) rfl (by decide) (D 8 rfl) ?_
  refine j_putFr (N := 8) (sh := SH) C f_X9_17 rfl rfl ⟨TX9, rfl⟩ ⟨by omega, rfl⟩ rfl rfl (D 9 rfl) ?_
  refine j_aload_n C (D 10 rfl) rfl ?_
  refine j_sipush (v := 1201) C (D 11 rfl) (by decide) ?_
  refine j_newint C B (n := 1201) rfl (by decide) (by decide) rfl (fun k => hI 8 k (by decide)) rfl (by decide) (D 12 rfl) ?_
  refine j_putFr (N := 9) (sh := SH) C f_X9_21 rfl rfl ⟨TX9, rfl⟩ ⟨by omega, rfl⟩ rfl rfl (D 13 rfl) ?_
  refine j_aload_n C (D 14 rfl) rfl ?_
  refine j_callS' C B k_X9_24 (c_values _ _ (N := 9) rfl rfl) (As := []) rfl rfl rfl rfl (by decide) (D 15 rfl) ?_
  rintro r w' ⟨rfl, rfl⟩
  refine j_putFr (N := 10) (sh := SH) C f_X9_28 rfl rfl ⟨TX9, rfl⟩ ⟨by omega, rfl⟩ rfl rfl (D 16 rfl) ?_
  exact j_vret C P rfl (D 17 rfl) (by decide) ⟨rfl, rfl⟩
theorem c_X6i (l : Launch) (G : GT) {a : Nat} {I : Nat → Nat → Int32} {L : Nat → Nat → Int64} {R : Nat → Nat → Option Nat} (ha : a = 125 ∨ a = 148) (hI : zI I (a + 1)) : Mt l G mX6_init 1 22 1240 [.ref (ra G a)] (a + 1, SH, I, L, R) (fun r w' => r = none ∧ w' = (a + 23, SH, I, L, up2 (mR (up2 (mR R (a + 1) 10) a 0 (some (a + 1))) (a + 12) 10) a 1 (some (a + 12)))) := by
  have h1 : SH a = (6, 3) ∧ SH (a + 1) = (27, 10) ∧ SH (a + 12) = (27, 10) := by rcases ha with rfl | rfl <;> exact ⟨rfl, rfl, rfl⟩
  have h2 : ∀ j, j < 10 → SH (a + 1 + 1 + j) = (20, 61) ∧ SH (a + 12 + 1 + j) = (20, 61) := by rcases ha with rfl | rfl <;> decide
  have h3 : a < 200 := by omega
  refine mt_of (own := RX6) (by decide) rfl rfl (fun Z C P B => ?_)
  have D := @dc_of _ _ dX6_init
  refine j_aload_n C (D 0 rfl) rfl ?_
  refine j_oinit C B (inT_mem (i := 483) (by decide +kernel)) rfl rfl (D 1 rfl) ?_
  refine j_aload_n C (D 2 rfl) rfl ?_
  refine j_bipush (v := 10) C (D 3 rfl) (by decide) ?_
  refine j_bipush (v := 61) C (D 4 rfl) (by decide) ?_
  refine j_multi C B (n := 10) (k := 61) (inT_mem (i := 484) (by decide +kernel)) (by decide) (by decide) (by decide) (by decide) rfl rfl h1.2.1 (fun j hj => (h2 j hj).1) (fun j i _ => hI _ _ (by omega)) (Nat.ble_eq_true_of_le (by omega)) (by decide) (D 5 rfl) ?_
  refine j_putFr C f_X6_11 rfl rfl ⟨TX6, rfl⟩ ⟨by omega, h1.1⟩ rfl rfl (D 6 rfl) ?_
  refine j_aload_n C (D 7 rfl) rfl ?_
  refine j_bipush (v := 10) C (D 8 rfl) (by decide) ?_
  refine j_bipush (v := 61) C (D 9 rfl) (by decide) ?_
  refine j_multi C B (n := 10) (k := 61) (inT_mem (i := 484) (by decide +kernel)) (by decide) (by decide) (by decide) (by decide) rfl rfl h1.2.2 (fun j hj => (h2 j hj).2) (fun j i _ => hI _ _ (by omega)) (Nat.ble_eq_true_of_le (by omega)) (by decide) (D 10 rfl) ?_
  refine j_putFr C f_X6_16 rfl rfl ⟨TX6, rfl⟩ ⟨by omega, h1.1⟩ rfl rfl (D 11 rfl) ?_
  exact j_vret C P rfl (D 12 rfl) (by decide) ⟨rfl, rfl⟩
theorem c_X10i (l : Launch) (G : GT) {t : Nat} {I : Nat → Nat → Int32} {L : Nat → Nat → Int64} {R : Nat → Nat → Option Nat} (h0 : SH t = (10, 9)) (h1 : SH (t + 1) = (20, 8)) (h2 : SH (t + 2) = (20, 8)) (ht : t < 900) (hI : zI I (t + 1)) : Mt l G mX10_init 1 2 16 [.ref (ra G t)] (t + 1, SH, I, L, R) (fun r w' => r = none ∧ w' = (t + 3, SH, I, L, up2 (up2 R t 7 (some (t + 1))) t 8 (some (t + 2)))) := by
  refine mt_of (own := RX10) (by decide) rfl rfl (fun Z C P B => ?_)
  have D := @dc_of _ _ dX10_init
  refine j_aload_n C (D 0 rfl) rfl ?_
  refine j_oinit C B (inT_mem (i := 251) (by decide +kernel)) rfl rfl (D 1 rfl) ?_
  refine j_aload_n C (D 2 rfl) rfl ?_
  refine j_bipush (v := 8) C (D 3 rfl) (by decide) ?_
  refine j_newint C B (n := 8) rfl (by decide) (by decide) h1 (fun k => hI _ k (by omega)) (Nat.ble_eq_true_of_le (by omega)) (by decide) (D 4 rfl) ?_
  refine j_putFr C f_X10_9 rfl rfl ⟨TX10, rfl⟩ ⟨by omega, h0⟩ rfl rfl (D 5 rfl) ?_
  refine j_aload_n C (D 6 rfl) rfl ?_
  refine j_bipush (v := 8) C (D 7 rfl) (by decide) ?_
  refine j_newint C B (n := 8) rfl (by decide) (by decide) h2 (fun k => hI _ k (by omega)) (Nat.ble_eq_true_of_le (by omega)) (by decide) (D 8 rfl) ?_
  refine j_putFr C f_X10_15 rfl rfl ⟨TX10, rfl⟩ ⟨by omega, h0⟩ rfl rfl (D 9 rfl) ?_
  exact j_vret C P rfl (D 10 rfl) (by decide) ⟨rfl, rfl⟩
theorem c_X0i (l : Launch) (G : GT) {b : Nat} {I : Nat → Nat → Int32} {L : Nat → Nat → Int64} {R : Nat → Nat → Option Nat} (h0 : SH b = (0, 8)) (h1 : SH (b + 1) = (20, 4)) (h2 : SH (b + 2) = (20, 5)) (h3 : SH (b + 3) = (20, 1200)) (h4 : SH (b + 4) = (20, 64)) (hb : b < 900) (hI : zI I (b + 1)) : Mt l G mX0_init 1 4 1273 [.ref (ra G b)] (b + 1, SH, I, L, R) (fun r w' => r = none ∧ w' = (b + 5, SH, I, L, up2 (up2 (up2 (up2 R b 0 (some (b + 1))) b 2 (some (b + 2))) b 3 (some (b + 3))) b 6 (some (b + 4)))) := by
  refine mt_of (own := RX0) (by decide) rfl rfl (fun Z C P B => ?_)
  have D := @dc_of _ _ dX0_init
  refine j_aload_n C (D 0 rfl) rfl ?_
  refine j_oinit C B (inT_mem (i := 218) (by decide +kernel)) rfl rfl (D 1 rfl) ?_
  refine j_aload_n C (D 2 rfl) rfl ?_
  refine j_iconst (v := 4) C (D 3 rfl) (by decide) ?_
  refine j_newint C B (n := 4) rfl (by decide) (by decide) h1 (fun k => hI _ k (by omega)) (Nat.ble_eq_true_of_le (by omega)) (by decide) (D 4 rfl) ?_
  refine j_putFr C f_X0_9 rfl rfl ⟨TX0, rfl⟩ ⟨by omega, h0⟩ rfl rfl (D 5 rfl) ?_
  refine j_aload_n C (D 6 rfl) rfl ?_
  refine j_iconst (v := 5) C (D 7 rfl) (by decide) ?_
  refine j_newint C B (n := 5) rfl (by decide) (by decide) h2 (fun k => hI _ k (by omega)) (Nat.ble_eq_true_of_le (by omega)) (by decide) (D 8 rfl) ?_
  refine j_putFr C f_X0_15 rfl rfl ⟨TX0, rfl⟩ ⟨by omega, h0⟩ rfl rfl (D 9 rfl) ?_
  refine j_aload_n C (D 10 rfl) rfl ?_
  refine j_sipush (v := 1200) C (D 11 rfl) (by decide) ?_
  refine j_newint C B (n := 1200) rfl (by decide) (by decide) h3 (fun k => hI _ k (by omega)) (Nat.ble_eq_true_of_le (by omega)) (by decide) (D 12 rfl) ?_
  refine j_putFr C f_X0_18 rfl rfl ⟨TX0, rfl⟩ ⟨by omega, h0⟩ rfl rfl (D 13 rfl) ?_
  refine j_aload_n C (D 14 rfl) rfl ?_
  refine j_bipush (v := 64) C (D 15 rfl) (by decide) ?_
  refine j_newint C B (n := 64) rfl (by decide) (by decide) h4 (fun k => hI _ k (by omega)) (Nat.ble_eq_true_of_le (by omega)) (by decide) (D 16 rfl) ?_
  refine j_putFr C f_X0_21 rfl rfl ⟨TX0, rfl⟩ ⟨by omega, h0⟩ rfl rfl (D 17 rfl) ?_
  exact j_vret C P rfl (D 18 rfl) (by decide) ⟨rfl, rfl⟩
