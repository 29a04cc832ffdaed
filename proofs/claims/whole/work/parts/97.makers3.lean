/-! makers, over numbered cells -/
theorem zI_m {I : Nat → Nat → Int32} {N M : Nat} (h : zI I N) (hn : N ≤ M) : zI I M := fun a k ha => h a k (Nat.le_trans hn ha)
theorem zL_m {L : Nat → Nat → Int64} {N M : Nat} (h : zL L N) (hn : N ≤ M) : zL L M := fun a k ha => h a k (Nat.le_trans hn ha)
theorem zR_m {R : Nat → Nat → Option Nat} {N M : Nat} (h : zR' R N) (hn : N ≤ M) : zR' R M := fun a k ha => h a k (Nat.le_trans hn ha)
theorem zI_up {I : Nat → Nat → Int32} {N a k : Nat} {v : Int32} (h : zI I N) (ha : a < N) : zI (up2 I a k v) N := fun b j hb => by rw [up2_ne I v (by omega)]; exact h b j hb
theorem zR_v {R : Nat → Nat → Option Nat} {N a : Nat} (h : zR' R N) (ha : a < N) : zR' (vR R a) N := fun b j hb => by unfold vR; rw [if_neg (by omega)]; exact h b j hb
theorem zR_mm {R : Nat → Nat → Option Nat} {N a n : Nat} (h : zR' R N) (ha : a < N) : zR' (mR R a n) N := fun b j hb => by unfold mR; rw [if_neg (by omega)]; exact h b j hb
theorem c_X5i (l : Launch) (G : GT) {t : Nat} {I : Nat → Nat → Int32} {L : Nat → Nat → Int64} {R : Nat → Nat → Option Nat} (h0 : SH t = (5, 9)) (h1 : SH (t + 1) = (20, 10)) (h2 : SH (t + 2) = (22, 10)) (ht : t < 900) (hI : zI I (t + 1)) : Mt l G mX5_init 1 2 20 [.ref (ra G t)] (t + 1, SH, I, L, R) (fun r w' => r = none ∧ w' = (t + 3, SH, I, L, up2 (up2 R t 0 (some (t + 1))) t 1 (some (t + 2)))) := by
  refine mt_of (own := RX5) (by decide) rfl rfl (fun Z C P B => ?_)
  have D := @dc_of _ _ dX5_init
  refine j_aload_n C (D 0 rfl) rfl ?_
  refine j_oinit C B (inT_mem (i := 406) (by decide +kernel)) rfl rfl (D 1 rfl) ?_
  refine j_aload_n C (D 2 rfl) rfl ?_
  refine j_bipush (v := 10) C (D 3 rfl) (by decide) ?_
  refine j_newint C B (n := 10) rfl (by decide) (by decide) h1 (fun k => hI _ k (by omega)) (Nat.ble_eq_true_of_le (by omega)) (by decide) (D 4 rfl) ?_
  refine j_putFr C f_X5_9 rfl rfl ⟨TX5, rfl⟩ ⟨by omega, h0⟩ rfl rfl (D 5 rfl) ?_
  refine j_aload_n C (D 6 rfl) rfl ?_
  refine j_bipush (v := 10) C (D 7 rfl) (by decide) ?_
  refine j_newbool C B (n := 10) rfl (by decide) (by decide) h2 (fun k => hI _ k (by omega)) (Nat.ble_eq_true_of_le (by omega)) (by decide) (D 8 rfl) ?_
  refine j_putFr C f_X5_15 rfl rfl ⟨TX5, rfl⟩ ⟨by omega, h0⟩ rfl rfl (D 9 rfl) ?_
  exact j_vret C P rfl (D 10 rfl) (by decide) ⟨rfl, rfl⟩
def r_ct10 (R : Nat → Nat → Option Nat) : Nat → Nat → Option Nat := (up2 (up2 (up2 (up2 (up2 (up2 (up2 (up2 (up2 (up2 (up2 (up2 (up2 (up2 (up2 (up2 (up2 (up2 (up2 (up2 (up2 (up2 (up2 (up2 (up2 (up2 (up2 (up2 (up2 (up2 (up2 (up2 (up2 (up2 (up2 (up2 (up2 (up2 (up2 R 10 0 (some 11)) 10 1 (some 12)) 10 2 (some 13)) 10 3 (some 14)) 15 0 (some 16)) 15 2 (some 17)) 15 3 (some 18)) 15 6 (some 19)) 10 4 (some 15)) 20 7 (some 21)) 20 8 (some 22)) 11 0 (some 20)) 23 7 (some 24)) 23 8 (some 25)) 11 1 (some 23)) 26 7 (some 27)) 26 8 (some 28)) 11 2 (some 26)) 29 7 (some 30)) 29 8 (some 31)) 11 3 (some 29)) 32 7 (some 33)) 32 8 (some 34)) 11 4 (some 32)) 35 7 (some 36)) 35 8 (some 37)) 11 5 (some 35)) 38 7 (some 39)) 38 8 (some 40)) 11 6 (some 38)) 41 7 (some 42)) 41 8 (some 43)) 11 7 (some 41)) 44 7 (some 45)) 44 8 (some 46)) 11 8 (some 44)) 47 7 (some 48)) 47 8 (some 49)) 11 9 (some 47))
theorem z_r_ct10 {R : Nat → Nat → Option Nat} (hR : zR' R 11) : zR' (r_ct10 R) 50 := (zR_up (zR_up (zR_up (zR_up (zR_up (zR_up (zR_up (zR_up (zR_up (zR_up (zR_up (zR_up (zR_up (zR_up (zR_up (zR_up (zR_up (zR_up (zR_up (zR_up (zR_up (zR_up (zR_up (zR_up (zR_up (zR_up (zR_up (zR_up (zR_up (zR_up (zR_up (zR_up (zR_up (zR_up (zR_up (zR_up (zR_up (zR_up (zR_up (zR_m hR (by decide)) (by decide)) (by decide)) (by decide)) (by decide)) (by decide)) (by decide)) (by decide)) (by decide)) (by decide)) (by decide)) (by decide)) (by decide)) (by decide)) (by decide)) (by decide)) (by decide)) (by decide)) (by decide)) (by decide)) (by decide)) (by decide)) (by decide)) (by decide)) (by decide)) (by decide)) (by decide)) (by decide)) (by decide)) (by decide)) (by decide)) (by decide)) (by decide)) (by decide)) (by decide)) (by decide)) (by decide)) (by decide)) (by decide)) (by decide))
set_option maxRecDepth 20000 in
set_option maxHeartbeats 4000000 in
theorem c_X1i10 (l : Launch) (G : GT) {I : Nat → Nat → Int32} {L : Nat → Nat → Int64} {R : Nat → Nat → Option Nat} (hI : zI I 11) (hL : zL L 11) (hR : zR' R 11) : Mt l G mX1_init 2 39 1781 [.ref (ra G 10)] (11, SH, I, L, R) (fun r w' => r = none ∧ w' = (50, SH, I, L, r_ct10 R)) := by
  refine mt_of (own := RX1) (by decide) rfl rfl (fun Z C P B => ?_)
  have D := @dc_of _ _ dX1_init
  refine j_aload_n C (D 0 rfl) rfl ?_
  refine j_oinit C B (inT_mem (i := 210) (by decide +kernel)) rfl rfl (D 1 rfl) ?_
  refine j_aload_n C (D 2 rfl) rfl ?_
  refine j_bipush (v := nI 10) C (D 3 rfl) (by decide) ?_
  refine j_anew C B (kd := 1) (n := 10) (c := "TenTrials$Trial") rfl C.2.2.2.2.2.2.2.2.1.2.2.2.2.2.2.2.2.2.2.1 (inT_mem (i := 211) (by decide +kernel)) rfl (by decide) (by decide) rfl (fun k => (zR_m hR (by decide)) 11 k (Nat.le_refl _)) rfl (by decide) (D 4 rfl) ?_
  show J Z (1, 10) _ _ _ (12, _)
  refine j_putFr (N := 12) (sh := SH) C f_X1_11 rfl rfl ⟨TX1, rfl⟩ ⟨by decide, rfl⟩ rfl rfl (D 5 rfl) ?_
  refine j_aload_n C (D 6 rfl) rfl ?_
  refine j_bipush (v := nI 80) C (D 7 rfl) (by decide) ?_
  refine j_newint C B (n := 80) rfl (by decide) (by decide) rfl (fun k => (zI_m hI (by decide)) 12 k (Nat.le_refl _)) rfl (by decide) (D 8 rfl) ?_
  show J Z (2, 90) _ _ _ (13, _)
  refine j_putFr (N := 13) (sh := SH) C f_X1_17 rfl rfl ⟨TX1, rfl⟩ ⟨by decide, rfl⟩ rfl rfl (D 9 rfl) ?_
  refine j_aload_n C (D 10 rfl) rfl ?_
  refine j_bipush (v := nI 80) C (D 11 rfl) (by decide) ?_
  refine j_newint C B (n := 80) rfl (by decide) (by decide) rfl (fun k => (zI_m hI (by decide)) 13 k (Nat.le_refl _)) rfl (by decide) (D 12 rfl) ?_
  show J Z (3, 170) _ _ _ (14, _)
  refine j_putFr (N := 14) (sh := SH) C f_X1_21 rfl rfl ⟨TX1, rfl⟩ ⟨by decide, rfl⟩ rfl rfl (D 13 rfl) ?_
  refine j_aload_n C (D 14 rfl) rfl ?_
  refine j_bipush (v := nI 80) C (D 15 rfl) (by decide) ?_
  refine j_newint C B (n := 80) rfl (by decide) (by decide) rfl (fun k => (zI_m hI (by decide)) 14 k (Nat.le_refl _)) rfl (by decide) (D 16 rfl) ?_
  show J Z (4, 250) _ _ _ (15, _)
  refine j_putFr (N := 15) (sh := SH) C f_X1_24 rfl rfl ⟨TX1, rfl⟩ ⟨by decide, rfl⟩ rfl rfl (D 17 rfl) ?_
  refine j_aload_n C (D 18 rfl) rfl ?_
  refine j_new C B (ci := 0) (n := 8) (ty := tyX0) rfl us_X0 tyX0_ok (by decide) rfl (inT_mem (i := 214) (by decide +kernel)) (inT_mem (i := 121) (by decide +kernel)) (inT_mem (i := 213) (by decide +kernel)) rfl (fun k => (zI_m hI (by decide)) 15 k (Nat.le_refl _)) (fun k => (zL_m hL (by decide)) 15 k (Nat.le_refl _)) (fun k => (zR_up (zR_up (zR_up (zR_up (zR_m hR (by decide)) (by decide)) (by decide)) (by decide)) (by decide)) 15 k (Nat.le_refl _)) rfl (by decide) (D 19 rfl) ?_
  show J Z (5, 258) _ _ _ (16, _)
  refine j_dup C (D 20 rfl) rfl ?_
  refine j_callIN' C B k_X1_29 (c_X0i _ _ (b := 15) rfl rfl rfl rfl rfl (by decide) (zI_m hI (by decide))) (As := []) rfl rfl rfl rfl (by decide) (D 21 rfl) ?_
  rintro r w' ⟨rfl, rfl⟩
  show J Z (9, 1531) _ _ _ (20, _)
  refine j_putFr (N := 20) (sh := SH) C f_X1_30 rfl rfl ⟨TX1, rfl⟩ ⟨by decide, rfl⟩ rfl rfl (D 22 rfl) ?_
  refine j_iconst (v := nI 0) C (D 23 rfl) (by decide) ?_
  refine j_istore_n C (D 24 rfl) rfl ?_
  refine j_iload_n C (D 25 rfl) rfl ?_
  refine j_bipush (v := nI 10) C (D 26 rfl) (by decide) ?_
  refine j_icmp_ge C 75 (D 27 rfl) (by decide) (fun h => absurd h (by decide)) (fun _ => ?_)
  refine j_aload_n C (D 28 rfl) rfl ?_
  refine j_getr (N := 20) (sh := SH) C f_X1_11 ⟨by decide, rfl⟩ rfl rfl (r := 11) rfl (D 29 rfl) ?_
  refine j_iload_n C (D 30 rfl) rfl ?_
  refine j_new C B (ci := 10) (n := 9) (ty := tyX10) rfl us_X10 tyX10_ok (by decide) rfl (inT_mem (i := 247) (by decide +kernel)) (inT_mem (i := 122) (by decide +kernel)) (inT_mem (i := 211) (by decide +kernel)) rfl (fun k => (zI_m hI (by decide)) 20 k (Nat.le_refl _)) (fun k => (zL_m hL (by decide)) 20 k (Nat.le_refl _)) (fun k => (zR_up (zR_up (zR_up (zR_up (zR_up (zR_up (zR_up (zR_up (zR_up (zR_m hR (by decide)) (by decide)) (by decide)) (by decide)) (by decide)) (by decide)) (by decide)) (by decide)) (by decide)) (by decide)) 20 k (Nat.le_refl _)) rfl (by decide) (D 31 rfl) ?_
  show J Z (10, 1540) _ _ _ (21, _)
  refine j_dup C (D 32 rfl) rfl ?_
  refine j_callIN' C B k_X1_34 (c_X10i _ _ (t := 20) rfl rfl rfl (by decide) (zI_m hI (by decide))) (As := []) rfl rfl rfl rfl (by decide) (D 33 rfl) ?_
  rintro r w' ⟨rfl, rfl⟩
  show J Z (12, 1556) _ _ _ (23, _)
  refine j_aastO (N := 23) (sh := SH) C (kd := 1) (ci := 10) (nf := 9) ⟨by decide, rfl⟩ (ix_n (by decide) (by decide)) ⟨by decide, rfl⟩ rfl rfl rfl (D 34 rfl) ?_
  refine j_iinc (v := nI 1) C (D 35 rfl) rfl rfl (by decide) ?_
  refine j_goto C 50 (D 36 rfl) (by decide) ?_
  refine j_iload_n C (D 25 rfl) rfl ?_
  refine j_bipush (v := nI 10) C (D 26 rfl) (by decide) ?_
  refine j_icmp_ge C 75 (D 27 rfl) (by decide) (fun h => absurd h (by decide)) (fun _ => ?_)
  refine j_aload_n C (D 28 rfl) rfl ?_
  refine j_getr (N := 23) (sh := SH) C f_X1_11 ⟨by decide, rfl⟩ rfl rfl (r := 11) rfl (D 29 rfl) ?_
  refine j_iload_n C (D 30 rfl) rfl ?_
  refine j_new C B (ci := 10) (n := 9) (ty := tyX10) rfl us_X10 tyX10_ok (by decide) rfl (inT_mem (i := 247) (by decide +kernel)) (inT_mem (i := 122) (by decide +kernel)) (inT_mem (i := 211) (by decide +kernel)) rfl (fun k => (zI_m hI (by decide)) 23 k (Nat.le_refl _)) (fun k => (zL_m hL (by decide)) 23 k (Nat.le_refl _)) (fun k => (zR_up (zR_up (zR_up (zR_up (zR_up (zR_up (zR_up (zR_up (zR_up (zR_up (zR_up (zR_up (zR_m hR (by decide)) (by decide)) (by decide)) (by decide)) (by decide)) (by decide)) (by decide)) (by decide)) (by decide)) (by decide)) (by decide)) (by decide)) (by decide)) 23 k (Nat.le_refl _)) rfl (by decide) (D 31 rfl) ?_
  show J Z (13, 1565) _ _ _ (24, _)
  refine j_dup C (D 32 rfl) rfl ?_
  refine j_callIN' C B k_X1_34 (c_X10i _ _ (t := 23) rfl rfl rfl (by decide) (zI_m hI (by decide))) (As := []) rfl rfl rfl rfl (by decide) (D 33 rfl) ?_
  rintro r w' ⟨rfl, rfl⟩
  show J Z (15, 1581) _ _ _ (26, _)
  refine j_aastO (N := 26) (sh := SH) C (kd := 1) (ci := 10) (nf := 9) ⟨by decide, rfl⟩ (ix_n (by decide) (by decide)) ⟨by decide, rfl⟩ rfl rfl rfl (D 34 rfl) ?_
  refine j_iinc (v := nI 2) C (D 35 rfl) rfl rfl (by decide) ?_
  refine j_goto C 50 (D 36 rfl) (by decide) ?_
  refine j_iload_n C (D 25 rfl) rfl ?_
  refine j_bipush (v := nI 10) C (D 26 rfl) (by decide) ?_
  refine j_icmp_ge C 75 (D 27 rfl) (by decide) (fun h => absurd h (by decide)) (fun _ => ?_)
  refine j_aload_n C (D 28 rfl) rfl ?_
  refine j_getr (N := 26) (sh := SH) C f_X1_11 ⟨by decide, rfl⟩ rfl rfl (r := 11) rfl (D 29 rfl) ?_
  refine j_iload_n C (D 30 rfl) rfl ?_
  refine j_new C B (ci := 10) (n := 9) (ty := tyX10) rfl us_X10 tyX10_ok (by decide) rfl (inT_mem (i := 247) (by decide +kernel)) (inT_mem (i := 122) (by decide +kernel)) (inT_mem (i := 211) (by decide +kernel)) rfl (fun k => (zI_m hI (by decide)) 26 k (Nat.le_refl _)) (fun k => (zL_m hL (by decide)) 26 k (Nat.le_refl _)) (fun k => (zR_up (zR_up (zR_up (zR_up (zR_up (zR_up (zR_up (zR_up (zR_up (zR_up (zR_up (zR_up (zR_up (zR_up (zR_up (zR_m hR (by decide)) (by decide)) (by decide)) (by decide)) (by decide)) (by decide)) (by decide)) (by decide)) (by decide)) (by decide)) (by decide)) (by decide)) (by decide)) (by decide)) (by decide)) (by decide)) 26 k (Nat.le_refl _)) rfl (by decide) (D 31 rfl) ?_
  show J Z (16, 1590) _ _ _ (27, _)
  refine j_dup C (D 32 rfl) rfl ?_
  refine j_callIN' C B k_X1_34 (c_X10i _ _ (t := 26) rfl rfl rfl (by decide) (zI_m hI (by decide))) (As := []) rfl rfl rfl rfl (by decide) (D 33 rfl) ?_
  rintro r w' ⟨rfl, rfl⟩
  show J Z (18, 1606) _ _ _ (29, _)
  refine j_aastO (N := 29) (sh := SH) C (kd := 1) (ci := 10) (nf := 9) ⟨by decide, rfl⟩ (ix_n (by decide) (by decide)) ⟨by decide, rfl⟩ rfl rfl rfl (D 34 rfl) ?_
  refine j_iinc (v := nI 3) C (D 35 rfl) rfl rfl (by decide) ?_
  refine j_goto C 50 (D 36 rfl) (by decide) ?_
  refine j_iload_n C (D 25 rfl) rfl ?_
  refine j_bipush (v := nI 10) C (D 26 rfl) (by decide) ?_
  refine j_icmp_ge C 75 (D 27 rfl) (by decide) (fun h => absurd h (by decide)) (fun _ => ?_)
  refine j_aload_n C (D 28 rfl) rfl ?_
  refine j_getr (N := 29) (sh := SH) C f_X1_11 ⟨by decide, rfl⟩ rfl rfl (r := 11) rfl (D 29 rfl) ?_
  refine j_iload_n C (D 30 rfl) rfl ?_
  refine j_new C B (ci := 10) (n := 9) (ty := tyX10) rfl us_X10 tyX10_ok (by decide) rfl (inT_mem (i := 247) (by decide +kernel)) (inT_mem (i := 122) (by decide +kernel)) (inT_mem (i := 211) (by decide +kernel)) rfl (fun k => (zI_m hI (by decide)) 29 k (Nat.le_refl _)) (fun k => (zL_m hL (by decide)) 29 k (Nat.le_refl _)) (fun k => (zR_up (zR_up (zR_up (zR_up (zR_up (zR_up (zR_up (zR_up (zR_up (zR_up (zR_up (zR_up (zR_up (zR_up (zR_up (zR_up (zR_up (zR_up (zR_m hR (by decide)) (by decide)) (by decide)) (by decide)) (by decide)) (by decide)) (by decide)) (by decide)) (by decide)) (by decide)) (by decide)) (by decide)) (by decide)) (by decide)) (by decide)) (by decide)) (by decide)) (by decide)) (by decide)) 29 k (Nat.le_refl _)) rfl (by decide) (D 31 rfl) ?_
  show J Z (19, 1615) _ _ _ (30, _)
  refine j_dup C (D 32 rfl) rfl ?_
  refine j_callIN' C B k_X1_34 (c_X10i _ _ (t := 29) rfl rfl rfl (by decide) (zI_m hI (by decide))) (As := []) rfl rfl rfl rfl (by decide) (D 33 rfl) ?_
  rintro r w' ⟨rfl, rfl⟩
  show J Z (21, 1631) _ _ _ (32, _)
  refine j_aastO (N := 32) (sh := SH) C (kd := 1) (ci := 10) (nf := 9) ⟨by decide, rfl⟩ (ix_n (by decide) (by decide)) ⟨by decide, rfl⟩ rfl rfl rfl (D 34 rfl) ?_
  refine j_iinc (v := nI 4) C (D 35 rfl) rfl rfl (by decide) ?_
  refine j_goto C 50 (D 36 rfl) (by decide) ?_
  refine j_iload_n C (D 25 rfl) rfl ?_
  refine j_bipush (v := nI 10) C (D 26 rfl) (by decide) ?_
  refine j_icmp_ge C 75 (D 27 rfl) (by decide) (fun h => absurd h (by decide)) (fun _ => ?_)
  refine j_aload_n C (D 28 rfl) rfl ?_
  refine j_getr (N := 32) (sh := SH) C f_X1_11 ⟨by decide, rfl⟩ rfl rfl (r := 11) rfl (D 29 rfl) ?_
  refine j_iload_n C (D 30 rfl) rfl ?_
  refine j_new C B (ci := 10) (n := 9) (ty := tyX10) rfl us_X10 tyX10_ok (by decide) rfl (inT_mem (i := 247) (by decide +kernel)) (inT_mem (i := 122) (by decide +kernel)) (inT_mem (i := 211) (by decide +kernel)) rfl (fun k => (zI_m hI (by decide)) 32 k (Nat.le_refl _)) (fun k => (zL_m hL (by decide)) 32 k (Nat.le_refl _)) (fun k => (zR_up (zR_up (zR_up (zR_up (zR_up (zR_up (zR_up (zR_up (zR_up (zR_up (zR_up (zR_up (zR_up (zR_up (zR_up (zR_up (zR_up (zR_up (zR_up (zR_up (zR_up (zR_m hR (by decide)) (by decide)) (by decide)) (by decide)) (by decide)) (by decide)) (by decide)) (by decide)) (by decide)) (by decide)) (by decide)) (by decide)) (by decide)) (by decide)) (by decide)) (by decide)) (by decide)) (by decide)) (by decide)) (by decide)) (by decide)) (by decide)) 32 k (Nat.le_refl _)) rfl (by decide) (D 31 rfl) ?_
  show J Z (22, 1640) _ _ _ (33, _)
  refine j_dup C (D 32 rfl) rfl ?_
  refine j_callIN' C B k_X1_34 (c_X10i _ _ (t := 32) rfl rfl rfl (by decide) (zI_m hI (by decide))) (As := []) rfl rfl rfl rfl (by decide) (D 33 rfl) ?_
  rintro r w' ⟨rfl, rfl⟩
  show J Z (24, 1656) _ _ _ (35, _)
  refine j_aastO (N := 35) (sh := SH) C (kd := 1) (ci := 10) (nf := 9) ⟨by decide, rfl⟩ (ix_n (by decide) (by decide)) ⟨by decide, rfl⟩ rfl rfl rfl (D 34 rfl) ?_
  refine j_iinc (v := nI 5) C (D 35 rfl) rfl rfl (by decide) ?_
  refine j_goto C 50 (D 36 rfl) (by decide) ?_
  refine j_iload_n C (D 25 rfl) rfl ?_
  refine j_bipush (v := nI 10) C (D 26 rfl) (by decide) ?_
  refine j_icmp_ge C 75 (D 27 rfl) (by decide) (fun h => absurd h (by decide)) (fun _ => ?_)
  refine j_aload_n C (D 28 rfl) rfl ?_
  refine j_getr (N := 35) (sh := SH) C f_X1_11 ⟨by decide, rfl⟩ rfl rfl (r := 11) rfl (D 29 rfl) ?_
  refine j_iload_n C (D 30 rfl) rfl ?_
  refine j_new C B (ci := 10) (n := 9) (ty := tyX10) rfl us_X10 tyX10_ok (by decide) rfl (inT_mem (i := 247) (by decide +kernel)) (inT_mem (i := 122) (by decide +kernel)) (inT_mem (i := 211) (by decide +kernel)) rfl (fun k => (zI_m hI (by decide)) 35 k (Nat.le_refl _)) (fun k => (zL_m hL (by decide)) 35 k (Nat.le_refl _)) (fun k => (zR_up (zR_up (zR_up (zR_up (zR_up (zR_up (zR_up (zR_up (zR_up (zR_up (zR_up (zR_up (zR_up (zR_up (zR_up (zR_up (zR_up (zR_up (zR_up (zR_up (zR_up (zR_up (zR_up (zR_up (zR_m hR (by decide)) (by decide)) (by decide)) (by decide)) (by decide)) (by decide)) (by decide)) (by decide)) (by decide)) (by decide)) (by decide)) (by decide)) (by decide)) (by decide)) (by decide)) (by decide)) (by decide)) (by decide)) (by decide)) (by decide)) (by decide)) (by decide)) (by decide)) (by decide)) (by decide)) 35 k (Nat.le_refl _)) rfl (by decide) (D 31 rfl) ?_
  show J Z (25, 1665) _ _ _ (36, _)
  refine j_dup C (D 32 rfl) rfl ?_
  refine j_callIN' C B k_X1_34 (c_X10i _ _ (t := 35) rfl rfl rfl (by decide) (zI_m hI (by decide))) (As := []) rfl rfl rfl rfl (by decide) (D 33 rfl) ?_
  rintro r w' ⟨rfl, rfl⟩
  show J Z (27, 1681) _ _ _ (38, _)
  refine j_aastO (N := 38) (sh := SH) C (kd := 1) (ci := 10) (nf := 9) ⟨by decide, rfl⟩ (ix_n (by decide) (by decide)) ⟨by decide, rfl⟩ rfl rfl rfl (D 34 rfl) ?_
  refine j_iinc (v := nI 6) C (D 35 rfl) rfl rfl (by decide) ?_
  refine j_goto C 50 (D 36 rfl) (by decide) ?_
  refine j_iload_n C (D 25 rfl) rfl ?_
  refine j_bipush (v := nI 10) C (D 26 rfl) (by decide) ?_
  refine j_icmp_ge C 75 (D 27 rfl) (by decide) (fun h => absurd h (by decide)) (fun _ => ?_)
  refine j_aload_n C (D 28 rfl) rfl ?_
  refine j_getr (N := 38) (sh := SH) C f_X1_11 ⟨by decide, rfl⟩ rfl rfl (r := 11) rfl (D 29 rfl) ?_
  refine j_iload_n C (D 30 rfl) rfl ?_
  refine j_new C B (ci := 10) (n := 9) (ty := tyX10) rfl us_X10 tyX10_ok (by decide) rfl (inT_mem (i := 247) (by decide +kernel)) (inT_mem (i := 122) (by decide +kernel)) (inT_mem (i := 211) (by decide +kernel)) rfl (fun k => (zI_m hI (by decide)) 38 k (Nat.le_refl _)) (fun k => (zL_m hL (by decide)) 38 k (Nat.le_refl _)) (fun k => (zR_up (zR_up (zR_up (zR_up (zR_up (zR_up (zR_up (zR_up (zR_up (zR_up (zR_up (zR_up (zR_up (zR_up (zR_up (zR_up (zR_up (zR_up (zR_up (zR_up (zR_up (zR_up (zR_up (zR_up (zR_up (zR_up (zR_up (zR_m hR (by decide)) (by decide)) (by decide)) (by decide)) (by decide)) (by decide)) (by decide)) (by decide)) (by decide)) (by decide)) (by decide)) (by decide)) (by decide)) (by decide)) (by decide)) (by decide)) (by decide)) (by decide)) (by decide)) (by decide)) (by decide)) (by decide)) (by decide)) (by decide)) (by decide)) (by decide)) (by decide)) (by decide)) 38 k (Nat.le_refl _)) rfl (by decide) (D 31 rfl) ?_
  show J Z (28, 1690) _ _ _ (39, _)
  refine j_dup C (D 32 rfl) rfl ?_
  refine j_callIN' C B k_X1_34 (c_X10i _ _ (t := 38) rfl rfl rfl (by decide) (zI_m hI (by decide))) (As := []) rfl rfl rfl rfl (by decide) (D 33 rfl) ?_
  rintro r w' ⟨rfl, rfl⟩
  show J Z (30, 1706) _ _ _ (41, _)
  refine j_aastO (N := 41) (sh := SH) C (kd := 1) (ci := 10) (nf := 9) ⟨by decide, rfl⟩ (ix_n (by decide) (by decide)) ⟨by decide, rfl⟩ rfl rfl rfl (D 34 rfl) ?_
  refine j_iinc (v := nI 7) C (D 35 rfl) rfl rfl (by decide) ?_
  refine j_goto C 50 (D 36 rfl) (by decide) ?_
  refine j_iload_n C (D 25 rfl) rfl ?_
  refine j_bipush (v := nI 10) C (D 26 rfl) (by decide) ?_
  refine j_icmp_ge C 75 (D 27 rfl) (by decide) (fun h => absurd h (by decide)) (fun _ => ?_)
  refine j_aload_n C (D 28 rfl) rfl ?_
  refine j_getr (N := 41) (sh := SH) C f_X1_11 ⟨by decide, rfl⟩ rfl rfl (r := 11) rfl (D 29 rfl) ?_
  refine j_iload_n C (D 30 rfl) rfl ?_
  refine j_new C B (ci := 10) (n := 9) (ty := tyX10) rfl us_X10 tyX10_ok (by decide) rfl (inT_mem (i := 247) (by decide +kernel)) (inT_mem (i := 122) (by decide +kernel)) (inT_mem (i := 211) (by decide +kernel)) rfl (fun k => (zI_m hI (by decide)) 41 k (Nat.le_refl _)) (fun k => (zL_m hL (by decide)) 41 k (Nat.le_refl _)) (fun k => (zR_up (zR_up (zR_up (zR_up (zR_up (zR_up (zR_up (zR_up (zR_up (zR_up (zR_up (zR_up (zR_up (zR_up (zR_up (zR_up (zR_up (zR_up (zR_up (zR_up (zR_up (zR_up (zR_up (zR_up (zR_up (zR_up (zR_up (zR_up (zR_up (zR_up (zR_m hR (by decide)) (by decide)) (by decide)) (by decide)) (by decide)) (by decide)) (by decide)) (by decide)) (by decide)) (by decide)) (by decide)) (by decide)) (by decide)) (by decide)) (by decide)) (by decide)) (by decide)) (by decide)) (by decide)) (by decide)) (by decide)) (by decide)) (by decide)) (by decide)) (by decide)) (by decide)) (by decide)) (by decide)) (by decide)) (by decide)) (by decide)) 41 k (Nat.le_refl _)) rfl (by decide) (D 31 rfl) ?_
  show J Z (31, 1715) _ _ _ (42, _)
  refine j_dup C (D 32 rfl) rfl ?_
  refine j_callIN' C B k_X1_34 (c_X10i _ _ (t := 41) rfl rfl rfl (by decide) (zI_m hI (by decide))) (As := []) rfl rfl rfl rfl (by decide) (D 33 rfl) ?_
  rintro r w' ⟨rfl, rfl⟩
  show J Z (33, 1731) _ _ _ (44, _)
  refine j_aastO (N := 44) (sh := SH) C (kd := 1) (ci := 10) (nf := 9) ⟨by decide, rfl⟩ (ix_n (by decide) (by decide)) ⟨by decide, rfl⟩ rfl rfl rfl (D 34 rfl) ?_
  refine j_iinc (v := nI 8) C (D 35 rfl) rfl rfl (by decide) ?_
  refine j_goto C 50 (D 36 rfl) (by decide) ?_
  refine j_iload_n C (D 25 rfl) rfl ?_
  refine j_bipush (v := nI 10) C (D 26 rfl) (by decide) ?_
  refine j_icmp_ge C 75 (D 27 rfl) (by decide) (fun h => absurd h (by decide)) (fun _ => ?_)
  refine j_aload_n C (D 28 rfl) rfl ?_
  refine j_getr (N := 44) (sh := SH) C f_X1_11 ⟨by decide, rfl⟩ rfl rfl (r := 11) rfl (D 29 rfl) ?_
  refine j_iload_n C (D 30 rfl) rfl ?_
  refine j_new C B (ci := 10) (n := 9) (ty := tyX10) rfl us_X10 tyX10_ok (by decide) rfl (inT_mem (i := 247) (by decide +kernel)) (inT_mem (i := 122) (by decide +kernel)) (inT_mem (i := 211) (by decide +kernel)) rfl (fun k => (zI_m hI (by decide)) 44 k (Nat.le_refl _)) (fun k => (zL_m hL (by decide)) 44 k (Nat.le_refl _)) (fun k => (zR_up (zR_up (zR_up (zR_up (zR_up (zR_up (zR_up (zR_up (zR_up (zR_up (zR_up (zR_up (zR_up (zR_up (zR_up (zR_up (zR_up (zR_up (zR_up (zR_up (zR_up (zR_up (zR_up (zR_up (zR_up (zR_up (zR_up (zR_up (zR_up (zR_up (zR_up (zR_up (zR_up (zR_m hR (by decide)) (by decide)) (by decide)) (by decide)) (by decide)) (by decide)) (by decide)) (by decide)) (by decide)) (by decide)) (by decide)) (by decide)) (by decide)) (by decide)) (by decide)) (by decide)) (by decide)) (by decide)) (by decide)) (by decide)) (by decide)) (by decide)) (by decide)) (by decide)) (by decide)) (by decide)) (by decide)) (by decide)) (by decide)) (by decide)) (by decide)) (by decide)) (by decide)) (by decide)) 44 k (Nat.le_refl _)) rfl (by decide) (D 31 rfl) ?_
  show J Z (34, 1740) _ _ _ (45, _)
  refine j_dup C (D 32 rfl) rfl ?_
  refine j_callIN' C B k_X1_34 (c_X10i _ _ (t := 44) rfl rfl rfl (by decide) (zI_m hI (by decide))) (As := []) rfl rfl rfl rfl (by decide) (D 33 rfl) ?_
  rintro r w' ⟨rfl, rfl⟩
  show J Z (36, 1756) _ _ _ (47, _)
  refine j_aastO (N := 47) (sh := SH) C (kd := 1) (ci := 10) (nf := 9) ⟨by decide, rfl⟩ (ix_n (by decide) (by decide)) ⟨by decide, rfl⟩ rfl rfl rfl (D 34 rfl) ?_
  refine j_iinc (v := nI 9) C (D 35 rfl) rfl rfl (by decide) ?_
  refine j_goto C 50 (D 36 rfl) (by decide) ?_
  refine j_iload_n C (D 25 rfl) rfl ?_
  refine j_bipush (v := nI 10) C (D 26 rfl) (by decide) ?_
  refine j_icmp_ge C 75 (D 27 rfl) (by decide) (fun h => absurd h (by decide)) (fun _ => ?_)
  refine j_aload_n C (D 28 rfl) rfl ?_
  refine j_getr (N := 47) (sh := SH) C f_X1_11 ⟨by decide, rfl⟩ rfl rfl (r := 11) rfl (D 29 rfl) ?_
  refine j_iload_n C (D 30 rfl) rfl ?_
  refine j_new C B (ci := 10) (n := 9) (ty := tyX10) rfl us_X10 tyX10_ok (by decide) rfl (inT_mem (i := 247) (by decide +kernel)) (inT_mem (i := 122) (by decide +kernel)) (inT_mem (i := 211) (by decide +kernel)) rfl (fun k => (zI_m hI (by decide)) 47 k (Nat.le_refl _)) (fun k => (zL_m hL (by decide)) 47 k (Nat.le_refl _)) (fun k => (zR_up (zR_up (zR_up (zR_up (zR_up (zR_up (zR_up (zR_up (zR_up (zR_up (zR_up (zR_up (zR_up (zR_up (zR_up (zR_up (zR_up (zR_up (zR_up (zR_up (zR_up (zR_up (zR_up (zR_up (zR_up (zR_up (zR_up (zR_up (zR_up (zR_up (zR_up (zR_up (zR_up (zR_up (zR_up (zR_up (zR_m hR (by decide)) (by decide)) (by decide)) (by decide)) (by decide)) (by decide)) (by decide)) (by decide)) (by decide)) (by decide)) (by decide)) (by decide)) (by decide)) (by decide)) (by decide)) (by decide)) (by decide)) (by decide)) (by decide)) (by decide)) (by decide)) (by decide)) (by decide)) (by decide)) (by decide)) (by decide)) (by decide)) (by decide)) (by decide)) (by decide)) (by decide)) (by decide)) (by decide)) (by decide)) (by decide)) (by decide)) (by decide)) 47 k (Nat.le_refl _)) rfl (by decide) (D 31 rfl) ?_
  show J Z (37, 1765) _ _ _ (48, _)
  refine j_dup C (D 32 rfl) rfl ?_
  refine j_callIN' C B k_X1_34 (c_X10i _ _ (t := 47) rfl rfl rfl (by decide) (zI_m hI (by decide))) (As := []) rfl rfl rfl rfl (by decide) (D 33 rfl) ?_
  rintro r w' ⟨rfl, rfl⟩
  show J Z (39, 1781) _ _ _ (50, _)
  refine j_aastO (N := 50) (sh := SH) C (kd := 1) (ci := 10) (nf := 9) ⟨by decide, rfl⟩ (ix_n (by decide) (by decide)) ⟨by decide, rfl⟩ rfl rfl rfl (D 34 rfl) ?_
  refine j_iinc (v := nI 10) C (D 35 rfl) rfl rfl (by decide) ?_
  refine j_goto C 50 (D 36 rfl) (by decide) ?_
  refine j_iload_n C (D 25 rfl) rfl ?_
  refine j_bipush (v := nI 10) C (D 26 rfl) (by decide) ?_
  refine j_icmp_ge C 75 (D 27 rfl) (by decide) (fun _ => ?_) (fun h => absurd (by decide) h)
  exact j_vret C P rfl (D 37 rfl) (by decide) ⟨rfl, rfl⟩
def r_ct55 (R : Nat → Nat → Option Nat) : Nat → Nat → Option Nat := (up2 (up2 (up2 (up2 (up2 (up2 (up2 (up2 (up2 (up2 (up2 (up2 (up2 (up2 (up2 (up2 (up2 (up2 (up2 (up2 (up2 (up2 (up2 (up2 (up2 (up2 (up2 (up2 (up2 (up2 (up2 (up2 (up2 (up2 (up2 (up2 (up2 (up2 (up2 R 55 0 (some 56)) 55 1 (some 57)) 55 2 (some 58)) 55 3 (some 59)) 60 0 (some 61)) 60 2 (some 62)) 60 3 (some 63)) 60 6 (some 64)) 55 4 (some 60)) 65 7 (some 66)) 65 8 (some 67)) 56 0 (some 65)) 68 7 (some 69)) 68 8 (some 70)) 56 1 (some 68)) 71 7 (some 72)) 71 8 (some 73)) 56 2 (some 71)) 74 7 (some 75)) 74 8 (some 76)) 56 3 (some 74)) 77 7 (some 78)) 77 8 (some 79)) 56 4 (some 77)) 80 7 (some 81)) 80 8 (some 82)) 56 5 (some 80)) 83 7 (some 84)) 83 8 (some 85)) 56 6 (some 83)) 86 7 (some 87)) 86 8 (some 88)) 56 7 (some 86)) 89 7 (some 90)) 89 8 (some 91)) 56 8 (some 89)) 92 7 (some 93)) 92 8 (some 94)) 56 9 (some 92))
theorem z_r_ct55 {R : Nat → Nat → Option Nat} (hR : zR' R 56) : zR' (r_ct55 R) 95 := (zR_up (zR_up (zR_up (zR_up (zR_up (zR_up (zR_up (zR_up (zR_up (zR_up (zR_up (zR_up (zR_up (zR_up (zR_up (zR_up (zR_up (zR_up (zR_up (zR_up (zR_up (zR_up (zR_up (zR_up (zR_up (zR_up (zR_up (zR_up (zR_up (zR_up (zR_up (zR_up (zR_up (zR_up (zR_up (zR_up (zR_up (zR_up (zR_up (zR_m hR (by decide)) (by decide)) (by decide)) (by decide)) (by decide)) (by decide)) (by decide)) (by decide)) (by decide)) (by decide)) (by decide)) (by decide)) (by decide)) (by decide)) (by decide)) (by decide)) (by decide)) (by decide)) (by decide)) (by decide)) (by decide)) (by decide)) (by decide)) (by decide)) (by decide)) (by decide)) (by decide)) (by decide)) (by decide)) (by decide)) (by decide)) (by decide)) (by decide)) (by decide)) (by decide)) (by decide)) (by decide)) (by decide)) (by decide)) (by decide))
set_option maxRecDepth 20000 in
set_option maxHeartbeats 4000000 in
theorem c_X1i55 (l : Launch) (G : GT) {I : Nat → Nat → Int32} {L : Nat → Nat → Int64} {R : Nat → Nat → Option Nat} (hI : zI I 56) (hL : zL L 56) (hR : zR' R 56) : Mt l G mX1_init 2 39 1781 [.ref (ra G 55)] (56, SH, I, L, R) (fun r w' => r = none ∧ w' = (95, SH, I, L, r_ct55 R)) := by
  refine mt_of (own := RX1) (by decide) rfl rfl (fun Z C P B => ?_)
  have D := @dc_of _ _ dX1_init
  refine j_aload_n C (D 0 rfl) rfl ?_
  refine j_oinit C B (inT_mem (i := 210) (by decide +kernel)) rfl rfl (D 1 rfl) ?_
  refine j_aload_n C (D 2 rfl) rfl ?_
  refine j_bipush (v := nI 10) C (D 3 rfl) (by decide) ?_
  refine j_anew C B (kd := 1) (n := 10) (c := "TenTrials$Trial") rfl C.2.2.2.2.2.2.2.2.1.2.2.2.2.2.2.2.2.2.2.1 (inT_mem (i := 211) (by decide +kernel)) rfl (by decide) (by decide) rfl (fun k => (zR_m hR (by decide)) 56 k (Nat.le_refl _)) rfl (by decide) (D 4 rfl) ?_
  show J Z (1, 10) _ _ _ (57, _)
  refine j_putFr (N := 57) (sh := SH) C f_X1_11 rfl rfl ⟨TX1, rfl⟩ ⟨by decide, rfl⟩ rfl rfl (D 5 rfl) ?_
  refine j_aload_n C (D 6 rfl) rfl ?_
  refine j_bipush (v := nI 80) C (D 7 rfl) (by decide) ?_
  refine j_newint C B (n := 80) rfl (by decide) (by decide) rfl (fun k => (zI_m hI (by decide)) 57 k (Nat.le_refl _)) rfl (by decide) (D 8 rfl) ?_
  show J Z (2, 90) _ _ _ (58, _)
  refine j_putFr (N := 58) (sh := SH) C f_X1_17 rfl rfl ⟨TX1, rfl⟩ ⟨by decide, rfl⟩ rfl rfl (D 9 rfl) ?_
  refine j_aload_n C (D 10 rfl) rfl ?_
  refine j_bipush (v := nI 80) C (D 11 rfl) (by decide) ?_
  refine j_newint C B (n := 80) rfl (by decide) (by decide) rfl (fun k => (zI_m hI (by decide)) 58 k (Nat.le_refl _)) rfl (by decide) (D 12 rfl) ?_
  show J Z (3, 170) _ _ _ (59, _)
  refine j_putFr (N := 59) (sh := SH) C f_X1_21 rfl rfl ⟨TX1, rfl⟩ ⟨by decide, rfl⟩ rfl rfl (D 13 rfl) ?_
  refine j_aload_n C (D 14 rfl) rfl ?_
  refine j_bipush (v := nI 80) C (D 15 rfl) (by decide) ?_
  refine j_newint C B (n := 80) rfl (by decide) (by decide) rfl (fun k => (zI_m hI (by decide)) 59 k (Nat.le_refl _)) rfl (by decide) (D 16 rfl) ?_
  show J Z (4, 250) _ _ _ (60, _)
  refine j_putFr (N := 60) (sh := SH) C f_X1_24 rfl rfl ⟨TX1, rfl⟩ ⟨by decide, rfl⟩ rfl rfl (D 17 rfl) ?_
  refine j_aload_n C (D 18 rfl) rfl ?_
  refine j_new C B (ci := 0) (n := 8) (ty := tyX0) rfl us_X0 tyX0_ok (by decide) rfl (inT_mem (i := 214) (by decide +kernel)) (inT_mem (i := 121) (by decide +kernel)) (inT_mem (i := 213) (by decide +kernel)) rfl (fun k => (zI_m hI (by decide)) 60 k (Nat.le_refl _)) (fun k => (zL_m hL (by decide)) 60 k (Nat.le_refl _)) (fun k => (zR_up (zR_up (zR_up (zR_up (zR_m hR (by decide)) (by decide)) (by decide)) (by decide)) (by decide)) 60 k (Nat.le_refl _)) rfl (by decide) (D 19 rfl) ?_
  show J Z (5, 258) _ _ _ (61, _)
  refine j_dup C (D 20 rfl) rfl ?_
  refine j_callIN' C B k_X1_29 (c_X0i _ _ (b := 60) rfl rfl rfl rfl rfl (by decide) (zI_m hI (by decide))) (As := []) rfl rfl rfl rfl (by decide) (D 21 rfl) ?_
  rintro r w' ⟨rfl, rfl⟩
  show J Z (9, 1531) _ _ _ (65, _)
  refine j_putFr (N := 65) (sh := SH) C f_X1_30 rfl rfl ⟨TX1, rfl⟩ ⟨by decide, rfl⟩ rfl rfl (D 22 rfl) ?_
  refine j_iconst (v := nI 0) C (D 23 rfl) (by decide) ?_
  refine j_istore_n C (D 24 rfl) rfl ?_
  refine j_iload_n C (D 25 rfl) rfl ?_
  refine j_bipush (v := nI 10) C (D 26 rfl) (by decide) ?_
  refine j_icmp_ge C 75 (D 27 rfl) (by decide) (fun h => absurd h (by decide)) (fun _ => ?_)
  refine j_aload_n C (D 28 rfl) rfl ?_
  refine j_getr (N := 65) (sh := SH) C f_X1_11 ⟨by decide, rfl⟩ rfl rfl (r := 56) rfl (D 29 rfl) ?_
  refine j_iload_n C (D 30 rfl) rfl ?_
  refine j_new C B (ci := 10) (n := 9) (ty := tyX10) rfl us_X10 tyX10_ok (by decide) rfl (inT_mem (i := 247) (by decide +kernel)) (inT_mem (i := 122) (by decide +kernel)) (inT_mem (i := 211) (by decide +kernel)) rfl (fun k => (zI_m hI (by decide)) 65 k (Nat.le_refl _)) (fun k => (zL_m hL (by decide)) 65 k (Nat.le_refl _)) (fun k => (zR_up (zR_up (zR_up (zR_up (zR_up (zR_up (zR_up (zR_up (zR_up (zR_m hR (by decide)) (by decide)) (by decide)) (by decide)) (by decide)) (by decide)) (by decide)) (by decide)) (by decide)) (by decide)) 65 k (Nat.le_refl _)) rfl (by decide) (D 31 rfl) ?_
  show J Z (10, 1540) _ _ _ (66, _)
  refine j_dup C (D 32 rfl) rfl ?_
  refine j_callIN' C B k_X1_34 (c_X10i _ _ (t := 65) rfl rfl rfl (by decide) (zI_m hI (by decide))) (As := []) rfl rfl rfl rfl (by decide) (D 33 rfl) ?_
  rintro r w' ⟨rfl, rfl⟩
  show J Z (12, 1556) _ _ _ (68, _)
  refine j_aastO (N := 68) (sh := SH) C (kd := 1) (ci := 10) (nf := 9) ⟨by decide, rfl⟩ (ix_n (by decide) (by decide)) ⟨by decide, rfl⟩ rfl rfl rfl (D 34 rfl) ?_
  refine j_iinc (v := nI 1) C (D 35 rfl) rfl rfl (by decide) ?_
  refine j_goto C 50 (D 36 rfl) (by decide) ?_
  refine j_iload_n C (D 25 rfl) rfl ?_
  refine j_bipush (v := nI 10) C (D 26 rfl) (by decide) ?_
  refine j_icmp_ge C 75 (D 27 rfl) (by decide) (fun h => absurd h (by decide)) (fun _ => ?_)
  refine j_aload_n C (D 28 rfl) rfl ?_
  refine j_getr (N := 68) (sh := SH) C f_X1_11 ⟨by decide, rfl⟩ rfl rfl (r := 56) rfl (D 29 rfl) ?_
  refine j_iload_n C (D 30 rfl) rfl ?_
  refine j_new C B (ci := 10) (n := 9) (ty := tyX10) rfl us_X10 tyX10_ok (by decide) rfl (inT_mem (i := 247) (by decide +kernel)) (inT_mem (i := 122) (by decide +kernel)) (inT_mem (i := 211) (by decide +kernel)) rfl (fun k => (zI_m hI (by decide)) 68 k (Nat.le_refl _)) (fun k => (zL_m hL (by decide)) 68 k (Nat.le_refl _)) (fun k => (zR_up (zR_up (zR_up (zR_up (zR_up (zR_up (zR_up (zR_up (zR_up (zR_up (zR_up (zR_up (zR_m hR (by decide)) (by decide)) (by decide)) (by decide)) (by decide)) (by decide)) (by decide)) (by decide)) (by decide)) (by decide)) (by decide)) (by decide)) (by decide)) 68 k (Nat.le_refl _)) rfl (by decide) (D 31 rfl) ?_
  show J Z (13, 1565) _ _ _ (69, _)
  refine j_dup C (D 32 rfl) rfl ?_
  refine j_callIN' C B k_X1_34 (c_X10i _ _ (t := 68) rfl rfl rfl (by decide) (zI_m hI (by decide))) (As := []) rfl rfl rfl rfl (by decide) (D 33 rfl) ?_
  rintro r w' ⟨rfl, rfl⟩
  show J Z (15, 1581) _ _ _ (71, _)
  refine j_aastO (N := 71) (sh := SH) C (kd := 1) (ci := 10) (nf := 9) ⟨by decide, rfl⟩ (ix_n (by decide) (by decide)) ⟨by decide, rfl⟩ rfl rfl rfl (D 34 rfl) ?_
  refine j_iinc (v := nI 2) C (D 35 rfl) rfl rfl (by decide) ?_
  refine j_goto C 50 (D 36 rfl) (by decide) ?_
  refine j_iload_n C (D 25 rfl) rfl ?_
  refine j_bipush (v := nI 10) C (D 26 rfl) (by decide) ?_
  refine j_icmp_ge C 75 (D 27 rfl) (by decide) (fun h => absurd h (by decide)) (fun _ => ?_)
  refine j_aload_n C (D 28 rfl) rfl ?_
  refine j_getr (N := 71) (sh := SH) C f_X1_11 ⟨by decide, rfl⟩ rfl rfl (r := 56) rfl (D 29 rfl) ?_
  refine j_iload_n C (D 30 rfl) rfl ?_
  refine j_new C B (ci := 10) (n := 9) (ty := tyX10) rfl us_X10 tyX10_ok (by decide) rfl (inT_mem (i := 247) (by decide +kernel)) (inT_mem (i := 122) (by decide +kernel)) (inT_mem (i := 211) (by decide +kernel)) rfl (fun k => (zI_m hI (by decide)) 71 k (Nat.le_refl _)) (fun k => (zL_m hL (by decide)) 71 k (Nat.le_refl _)) (fun k => (zR_up (zR_up (zR_up (zR_up (zR_up (zR_up (zR_up (zR_up (zR_up (zR_up (zR_up (zR_up (zR_up (zR_up (zR_up (zR_m hR (by decide)) (by decide)) (by decide)) (by decide)) (by decide)) (by decide)) (by decide)) (by decide)) (by decide)) (by decide)) (by decide)) (by decide)) (by decide)) (by decide)) (by decide)) (by decide)) 71 k (Nat.le_refl _)) rfl (by decide) (D 31 rfl) ?_
  show J Z (16, 1590) _ _ _ (72, _)
  refine j_dup C (D 32 rfl) rfl ?_
  refine j_callIN' C B k_X1_34 (c_X10i _ _ (t := 71) rfl rfl rfl (by decide) (zI_m hI (by decide))) (As := []) rfl rfl rfl rfl (by decide) (D 33 rfl) ?_
  rintro r w' ⟨rfl, rfl⟩
  show J Z (18, 1606) _ _ _ (74, _)
  refine j_aastO (N := 74) (sh := SH) C (kd := 1) (ci := 10) (nf := 9) ⟨by decide, rfl⟩ (ix_n (by decide) (by decide)) ⟨by decide, rfl⟩ rfl rfl rfl (D 34 rfl) ?_
  refine j_iinc (v := nI 3) C (D 35 rfl) rfl rfl (by decide) ?_
  refine j_goto C 50 (D 36 rfl) (by decide) ?_
  refine j_iload_n C (D 25 rfl) rfl ?_
  refine j_bipush (v := nI 10) C (D 26 rfl) (by decide) ?_
  refine j_icmp_ge C 75 (D 27 rfl) (by decide) (fun h => absurd h (by decide)) (fun _ => ?_)
  refine j_aload_n C (D 28 rfl) rfl ?_
  refine j_getr (N := 74) (sh := SH) C f_X1_11 ⟨by decide, rfl⟩ rfl rfl (r := 56) rfl (D 29 rfl) ?_
  refine j_iload_n C (D 30 rfl) rfl ?_
  refine j_new C B (ci := 10) (n := 9) (ty := tyX10) rfl us_X10 tyX10_ok (by decide) rfl (inT_mem (i := 247) (by decide +kernel)) (inT_mem (i := 122) (by decide +kernel)) (inT_mem (i := 211) (by decide +kernel)) rfl (fun k => (zI_m hI (by decide)) 74 k (Nat.le_refl _)) (fun k => (zL_m hL (by decide)) 74 k (Nat.le_refl _)) (fun k => (zR_up (zR_up (zR_up (zR_up (zR_up (zR_up (zR_up (zR_up (zR_up (zR_up (zR_up (zR_up (zR_up (zR_up (zR_up (zR_up (zR_up (zR_up (zR_m hR (by decide)) (by decide)) (by decide)) (by decide)) (by decide)) (by decide)) (by decide)) (by decide)) (by decide)) (by decide)) (by decide)) (by decide)) (by decide)) (by decide)) (by decide)) (by decide)) (by decide)) (by decide)) (by decide)) 74 k (Nat.le_refl _)) rfl (by decide) (D 31 rfl) ?_
  show J Z (19, 1615) _ _ _ (75, _)
  refine j_dup C (D 32 rfl) rfl ?_
  refine j_callIN' C B k_X1_34 (c_X10i _ _ (t := 74) rfl rfl rfl (by decide) (zI_m hI (by decide))) (As := []) rfl rfl rfl rfl (by decide) (D 33 rfl) ?_
  rintro r w' ⟨rfl, rfl⟩
  show J Z (21, 1631) _ _ _ (77, _)
  refine j_aastO (N := 77) (sh := SH) C (kd := 1) (ci := 10) (nf := 9) ⟨by decide, rfl⟩ (ix_n (by decide) (by decide)) ⟨by decide, rfl⟩ rfl rfl rfl (D 34 rfl) ?_
  refine j_iinc (v := nI 4) C (D 35 rfl) rfl rfl (by decide) ?_
  refine j_goto C 50 (D 36 rfl) (by decide) ?_
  refine j_iload_n C (D 25 rfl) rfl ?_
  refine j_bipush (v := nI 10) C (D 26 rfl) (by decide) ?_
  refine j_icmp_ge C 75 (D 27 rfl) (by decide) (fun h => absurd h (by decide)) (fun _ => ?_)
  refine j_aload_n C (D 28 rfl) rfl ?_
  refine j_getr (N := 77) (sh := SH) C f_X1_11 ⟨by decide, rfl⟩ rfl rfl (r := 56) rfl (D 29 rfl) ?_
  refine j_iload_n C (D 30 rfl) rfl ?_
  refine j_new C B (ci := 10) (n := 9) (ty := tyX10) rfl us_X10 tyX10_ok (by decide) rfl (inT_mem (i := 247) (by decide +kernel)) (inT_mem (i := 122) (by decide +kernel)) (inT_mem (i := 211) (by decide +kernel)) rfl (fun k => (zI_m hI (by decide)) 77 k (Nat.le_refl _)) (fun k => (zL_m hL (by decide)) 77 k (Nat.le_refl _)) (fun k => (zR_up (zR_up (zR_up (zR_up (zR_up (zR_up (zR_up (zR_up (zR_up (zR_up (zR_up (zR_up (zR_up (zR_up (zR_up (zR_up (zR_up (zR_up (zR_up (zR_up (zR_up (zR_m hR (by decide)) (by decide)) (by decide)) (by decide)) (by decide)) (by decide)) (by decide)) (by decide)) (by decide)) (by decide)) (by decide)) (by decide)) (by decide)) (by decide)) (by decide)) (by decide)) (by decide)) (by decide)) (by decide)) (by decide)) (by decide)) (by decide)) 77 k (Nat.le_refl _)) rfl (by decide) (D 31 rfl) ?_
  show J Z (22, 1640) _ _ _ (78, _)
  refine j_dup C (D 32 rfl) rfl ?_
  refine j_callIN' C B k_X1_34 (c_X10i _ _ (t := 77) rfl rfl rfl (by decide) (zI_m hI (by decide))) (As := []) rfl rfl rfl rfl (by decide) (D 33 rfl) ?_
  rintro r w' ⟨rfl, rfl⟩
  show J Z (24, 1656) _ _ _ (80, _)
  refine j_aastO (N := 80) (sh := SH) C (kd := 1) (ci := 10) (nf := 9) ⟨by decide, rfl⟩ (ix_n (by decide) (by decide)) ⟨by decide, rfl⟩ rfl rfl rfl (D 34 rfl) ?_
  refine j_iinc (v := nI 5) C (D 35 rfl) rfl rfl (by decide) ?_
  refine j_goto C 50 (D 36 rfl) (by decide) ?_
  refine j_iload_n C (D 25 rfl) rfl ?_
  refine j_bipush (v := nI 10) C (D 26 rfl) (by decide) ?_
  refine j_icmp_ge C 75 (D 27 rfl) (by decide) (fun h => absurd h (by decide)) (fun _ => ?_)
  refine j_aload_n C (D 28 rfl) rfl ?_
  refine j_getr (N := 80) (sh := SH) C f_X1_11 ⟨by decide, rfl⟩ rfl rfl (r := 56) rfl (D 29 rfl) ?_
  refine j_iload_n C (D 30 rfl) rfl ?_
  refine j_new C B (ci := 10) (n := 9) (ty := tyX10) rfl us_X10 tyX10_ok (by decide) rfl (inT_mem (i := 247) (by decide +kernel)) (inT_mem (i := 122) (by decide +kernel)) (inT_mem (i := 211) (by decide +kernel)) rfl (fun k => (zI_m hI (by decide)) 80 k (Nat.le_refl _)) (fun k => (zL_m hL (by decide)) 80 k (Nat.le_refl _)) (fun k => (zR_up (zR_up (zR_up (zR_up (zR_up (zR_up (zR_up (zR_up (zR_up (zR_up (zR_up (zR_up (zR_up (zR_up (zR_up (zR_up (zR_up (zR_up (zR_up (zR_up (zR_up (zR_up (zR_up (zR_up (zR_m hR (by decide)) (by decide)) (by decide)) (by decide)) (by decide)) (by decide)) (by decide)) (by decide)) (by decide)) (by decide)) (by decide)) (by decide)) (by decide)) (by decide)) (by decide)) (by decide)) (by decide)) (by decide)) (by decide)) (by decide)) (by decide)) (by decide)) (by decide)) (by decide)) (by decide)) 80 k (Nat.le_refl _)) rfl (by decide) (D 31 rfl) ?_
  show J Z (25, 1665) _ _ _ (81, _)
  refine j_dup C (D 32 rfl) rfl ?_
  refine j_callIN' C B k_X1_34 (c_X10i _ _ (t := 80) rfl rfl rfl (by decide) (zI_m hI (by decide))) (As := []) rfl rfl rfl rfl (by decide) (D 33 rfl) ?_
  rintro r w' ⟨rfl, rfl⟩
  show J Z (27, 1681) _ _ _ (83, _)
  refine j_aastO (N := 83) (sh := SH) C (kd := 1) (ci := 10) (nf := 9) ⟨by decide, rfl⟩ (ix_n (by decide) (by decide)) ⟨by decide, rfl⟩ rfl rfl rfl (D 34 rfl) ?_
  refine j_iinc (v := nI 6) C (D 35 rfl) rfl rfl (by decide) ?_
  refine j_goto C 50 (D 36 rfl) (by decide) ?_
  refine j_iload_n C (D 25 rfl) rfl ?_
  refine j_bipush (v := nI 10) C (D 26 rfl) (by decide) ?_
  refine j_icmp_ge C 75 (D 27 rfl) (by decide) (fun h => absurd h (by decide)) (fun _ => ?_)
  refine j_aload_n C (D 28 rfl) rfl ?_
  refine j_getr (N := 83) (sh := SH) C f_X1_11 ⟨by decide, rfl⟩ rfl rfl (r := 56) rfl (D 29 rfl) ?_
  refine j_iload_n C (D 30 rfl) rfl ?_
  refine j_new C B (ci := 10) (n := 9) (ty := tyX10) rfl us_X10 tyX10_ok (by decide) rfl (inT_mem (i := 247) (by decide +kernel)) (inT_mem (i := 122) (by decide +kernel)) (inT_mem (i := 211) (by decide +kernel)) rfl (fun k => (zI_m hI (by decide)) 83 k (Nat.le_refl _)) (fun k => (zL_m hL (by decide)) 83 k (Nat.le_refl _)) (fun k => (zR_up (zR_up (zR_up (zR_up (zR_up (zR_up (zR_up (zR_up (zR_up (zR_up (zR_up (zR_up (zR_up (zR_up (zR_up (zR_up (zR_up (zR_up (zR_up (zR_up (zR_up (zR_up (zR_up (zR_up (zR_up (zR_up (zR_up (zR_m hR (by decide)) (by decide)) (by decide)) (by decide)) (by decide)) (by decide)) (by decide)) (by decide)) (by decide)) (by decide)) (by decide)) (by decide)) (by decide)) (by decide)) (by decide)) (by decide)) (by decide)) (by decide)) (by decide)) (by decide)) (by decide)) (by decide)) (by decide)) (by decide)) (by decide)) (by decide)) (by decide)) (by decide)) 83 k (Nat.le_refl _)) rfl (by decide) (D 31 rfl) ?_
  show J Z (28, 1690) _ _ _ (84, _)
  refine j_dup C (D 32 rfl) rfl ?_
  refine j_callIN' C B k_X1_34 (c_X10i _ _ (t := 83) rfl rfl rfl (by decide) (zI_m hI (by decide))) (As := []) rfl rfl rfl rfl (by decide) (D 33 rfl) ?_
  rintro r w' ⟨rfl, rfl⟩
  show J Z (30, 1706) _ _ _ (86, _)
  refine j_aastO (N := 86) (sh := SH) C (kd := 1) (ci := 10) (nf := 9) ⟨by decide, rfl⟩ (ix_n (by decide) (by decide)) ⟨by decide, rfl⟩ rfl rfl rfl (D 34 rfl) ?_
  refine j_iinc (v := nI 7) C (D 35 rfl) rfl rfl (by decide) ?_
  refine j_goto C 50 (D 36 rfl) (by decide) ?_
  refine j_iload_n C (D 25 rfl) rfl ?_
  refine j_bipush (v := nI 10) C (D 26 rfl) (by decide) ?_
  refine j_icmp_ge C 75 (D 27 rfl) (by decide) (fun h => absurd h (by decide)) (fun _ => ?_)
  refine j_aload_n C (D 28 rfl) rfl ?_
  refine j_getr (N := 86) (sh := SH) C f_X1_11 ⟨by decide, rfl⟩ rfl rfl (r := 56) rfl (D 29 rfl) ?_
  refine j_iload_n C (D 30 rfl) rfl ?_
  refine j_new C B (ci := 10) (n := 9) (ty := tyX10) rfl us_X10 tyX10_ok (by decide) rfl (inT_mem (i := 247) (by decide +kernel)) (inT_mem (i := 122) (by decide +kernel)) (inT_mem (i := 211) (by decide +kernel)) rfl (fun k => (zI_m hI (by decide)) 86 k (Nat.le_refl _)) (fun k => (zL_m hL (by decide)) 86 k (Nat.le_refl _)) (fun k => (zR_up (zR_up (zR_up (zR_up (zR_up (zR_up (zR_up (zR_up (zR_up (zR_up (zR_up (zR_up (zR_up (zR_up (zR_up (zR_up (zR_up (zR_up (zR_up (zR_up (zR_up (zR_up (zR_up (zR_up (zR_up (zR_up (zR_up (zR_up (zR_up (zR_up (zR_m hR (by decide)) (by decide)) (by decide)) (by decide)) (by decide)) (by decide)) (by decide)) (by decide)) (by decide)) (by decide)) (by decide)) (by decide)) (by decide)) (by decide)) (by decide)) (by decide)) (by decide)) (by decide)) (by decide)) (by decide)) (by decide)) (by decide)) (by decide)) (by decide)) (by decide)) (by decide)) (by decide)) (by decide)) (by decide)) (by decide)) (by decide)) 86 k (Nat.le_refl _)) rfl (by decide) (D 31 rfl) ?_
  show J Z (31, 1715) _ _ _ (87, _)
  refine j_dup C (D 32 rfl) rfl ?_
  refine j_callIN' C B k_X1_34 (c_X10i _ _ (t := 86) rfl rfl rfl (by decide) (zI_m hI (by decide))) (As := []) rfl rfl rfl rfl (by decide) (D 33 rfl) ?_
  rintro r w' ⟨rfl, rfl⟩
  show J Z (33, 1731) _ _ _ (89, _)
  refine j_aastO (N := 89) (sh := SH) C (kd := 1) (ci := 10) (nf := 9) ⟨by decide, rfl⟩ (ix_n (by decide) (by decide)) ⟨by decide, rfl⟩ rfl rfl rfl (D 34 rfl) ?_
  refine j_iinc (v := nI 8) C (D 35 rfl) rfl rfl (by decide) ?_
  refine j_goto C 50 (D 36 rfl) (by decide) ?_
  refine j_iload_n C (D 25 rfl) rfl ?_
  refine j_bipush (v := nI 10) C (D 26 rfl) (by decide) ?_
  refine j_icmp_ge C 75 (D 27 rfl) (by decide) (fun h => absurd h (by decide)) (fun _ => ?_)
  refine j_aload_n C (D 28 rfl) rfl ?_
  refine j_getr (N := 89) (sh := SH) C f_X1_11 ⟨by decide, rfl⟩ rfl rfl (r := 56) rfl (D 29 rfl) ?_
  refine j_iload_n C (D 30 rfl) rfl ?_
  refine j_new C B (ci := 10) (n := 9) (ty := tyX10) rfl us_X10 tyX10_ok (by decide) rfl (inT_mem (i := 247) (by decide +kernel)) (inT_mem (i := 122) (by decide +kernel)) (inT_mem (i := 211) (by decide +kernel)) rfl (fun k => (zI_m hI (by decide)) 89 k (Nat.le_refl _)) (fun k => (zL_m hL (by decide)) 89 k (Nat.le_refl _)) (fun k => (zR_up (zR_up (zR_up (zR_up (zR_up (zR_up (zR_up (zR_up (zR_up (zR_up (zR_up (zR_up (zR_up (zR_up (zR_up (zR_up (zR_up (zR_up (zR_up (zR_up (zR_up (zR_up (zR_up (zR_up (zR_up (zR_up (zR_up (zR_up (zR_up (zR_up (zR_up (zR_up (zR_up (zR_m hR (by decide)) (by decide)) (by decide)) (by decide)) (by decide)) (by decide)) (by decide)) (by decide)) (by decide)) (by decide)) (by decide)) (by decide)) (by decide)) (by decide)) (by decide)) (by decide)) (by decide)) (by decide)) (by decide)) (by decide)) (by decide)) (by decide)) (by decide)) (by decide)) (by decide)) (by decide)) (by decide)) (by decide)) (by decide)) (by decide)) (by decide)) (by decide)) (by decide)) (by decide)) 89 k (Nat.le_refl _)) rfl (by decide) (D 31 rfl) ?_
  show J Z (34, 1740) _ _ _ (90, _)
  refine j_dup C (D 32 rfl) rfl ?_
  refine j_callIN' C B k_X1_34 (c_X10i _ _ (t := 89) rfl rfl rfl (by decide) (zI_m hI (by decide))) (As := []) rfl rfl rfl rfl (by decide) (D 33 rfl) ?_
  rintro r w' ⟨rfl, rfl⟩
  show J Z (36, 1756) _ _ _ (92, _)
  refine j_aastO (N := 92) (sh := SH) C (kd := 1) (ci := 10) (nf := 9) ⟨by decide, rfl⟩ (ix_n (by decide) (by decide)) ⟨by decide, rfl⟩ rfl rfl rfl (D 34 rfl) ?_
  refine j_iinc (v := nI 9) C (D 35 rfl) rfl rfl (by decide) ?_
  refine j_goto C 50 (D 36 rfl) (by decide) ?_
  refine j_iload_n C (D 25 rfl) rfl ?_
  refine j_bipush (v := nI 10) C (D 26 rfl) (by decide) ?_
  refine j_icmp_ge C 75 (D 27 rfl) (by decide) (fun h => absurd h (by decide)) (fun _ => ?_)
  refine j_aload_n C (D 28 rfl) rfl ?_
  refine j_getr (N := 92) (sh := SH) C f_X1_11 ⟨by decide, rfl⟩ rfl rfl (r := 56) rfl (D 29 rfl) ?_
  refine j_iload_n C (D 30 rfl) rfl ?_
  refine j_new C B (ci := 10) (n := 9) (ty := tyX10) rfl us_X10 tyX10_ok (by decide) rfl (inT_mem (i := 247) (by decide +kernel)) (inT_mem (i := 122) (by decide +kernel)) (inT_mem (i := 211) (by decide +kernel)) rfl (fun k => (zI_m hI (by decide)) 92 k (Nat.le_refl _)) (fun k => (zL_m hL (by decide)) 92 k (Nat.le_refl _)) (fun k => (zR_up (zR_up (zR_up (zR_up (zR_up (zR_up (zR_up (zR_up (zR_up (zR_up (zR_up (zR_up (zR_up (zR_up (zR_up (zR_up (zR_up (zR_up (zR_up (zR_up (zR_up (zR_up (zR_up (zR_up (zR_up (zR_up (zR_up (zR_up (zR_up (zR_up (zR_up (zR_up (zR_up (zR_up (zR_up (zR_up (zR_m hR (by decide)) (by decide)) (by decide)) (by decide)) (by decide)) (by decide)) (by decide)) (by decide)) (by decide)) (by decide)) (by decide)) (by decide)) (by decide)) (by decide)) (by decide)) (by decide)) (by decide)) (by decide)) (by decide)) (by decide)) (by decide)) (by decide)) (by decide)) (by decide)) (by decide)) (by decide)) (by decide)) (by decide)) (by decide)) (by decide)) (by decide)) (by decide)) (by decide)) (by decide)) (by decide)) (by decide)) (by decide)) 92 k (Nat.le_refl _)) rfl (by decide) (D 31 rfl) ?_
  show J Z (37, 1765) _ _ _ (93, _)
  refine j_dup C (D 32 rfl) rfl ?_
  refine j_callIN' C B k_X1_34 (c_X10i _ _ (t := 92) rfl rfl rfl (by decide) (zI_m hI (by decide))) (As := []) rfl rfl rfl rfl (by decide) (D 33 rfl) ?_
  rintro r w' ⟨rfl, rfl⟩
  show J Z (39, 1781) _ _ _ (95, _)
  refine j_aastO (N := 95) (sh := SH) C (kd := 1) (ci := 10) (nf := 9) ⟨by decide, rfl⟩ (ix_n (by decide) (by decide)) ⟨by decide, rfl⟩ rfl rfl rfl (D 34 rfl) ?_
  refine j_iinc (v := nI 10) C (D 35 rfl) rfl rfl (by decide) ?_
  refine j_goto C 50 (D 36 rfl) (by decide) ?_
  refine j_iload_n C (D 25 rfl) rfl ?_
  refine j_bipush (v := nI 10) C (D 26 rfl) (by decide) ?_
  refine j_icmp_ge C 75 (D 27 rfl) (by decide) (fun _ => ?_) (fun h => absurd (by decide) h)
  exact j_vret C P rfl (D 37 rfl) (by decide) ⟨rfl, rfl⟩
def r_hist (R : Nat → Nat → Option Nat) : Nat → Nat → Option Nat := (up2 (up2 (up2 (up2 R 50 0 (some 51)) 50 1 (some 52)) 50 2 (some 53)) 50 3 (some 54))
theorem z_r_hist {R : Nat → Nat → Option Nat} (hR : zR' R 51) : zR' (r_hist R) 55 := (zR_up (zR_up (zR_up (zR_up (zR_m hR (by decide)) (by decide)) (by decide)) (by decide)) (by decide))
set_option maxRecDepth 20000 in
set_option maxHeartbeats 4000000 in
theorem c_X2i (l : Launch) (G : GT) {I : Nat → Nat → Int32} {L : Nat → Nat → Int64} {R : Nat → Nat → Option Nat} (hI : zI I 51) (hL : zL L 51) (hR : zR' R 51) : Mt l G mX2_init 1 4 40 [.ref (ra G 50)] (51, SH, I, L, R) (fun r w' => r = none ∧ w' = (55, SH, I, L, r_hist R)) := by
  refine mt_of (own := RX2) (by decide) rfl rfl (fun Z C P B => ?_)
  have D := @dc_of _ _ dX2_init
  refine j_aload_n C (D 0 rfl) rfl ?_
  refine j_oinit C B (inT_mem (i := 381) (by decide +kernel)) rfl rfl (D 1 rfl) ?_
  refine j_aload_n C (D 2 rfl) rfl ?_
  refine j_bipush (v := nI 10) C (D 3 rfl) (by decide) ?_
  refine j_newint C B (n := 10) rfl (by decide) (by decide) rfl (fun k => (zI_m hI (by decide)) 51 k (Nat.le_refl _)) rfl (by decide) (D 4 rfl) ?_
  show J Z (1, 10) _ _ _ (52, _)
  refine j_putFr (N := 52) (sh := SH) C f_X2_9 rfl rfl ⟨TX2, rfl⟩ ⟨by decide, rfl⟩ rfl rfl (D 5 rfl) ?_
  refine j_aload_n C (D 6 rfl) rfl ?_
  refine j_bipush (v := nI 10) C (D 7 rfl) (by decide) ?_
  refine j_newint C B (n := 10) rfl (by decide) (by decide) rfl (fun k => (zI_m hI (by decide)) 52 k (Nat.le_refl _)) rfl (by decide) (D 8 rfl) ?_
  show J Z (2, 20) _ _ _ (53, _)
  refine j_putFr (N := 53) (sh := SH) C f_X2_15 rfl rfl ⟨TX2, rfl⟩ ⟨by decide, rfl⟩ rfl rfl (D 9 rfl) ?_
  refine j_aload_n C (D 10 rfl) rfl ?_
  refine j_bipush (v := nI 10) C (D 11 rfl) (by decide) ?_
  refine j_newint C B (n := 10) rfl (by decide) (by decide) rfl (fun k => (zI_m hI (by decide)) 53 k (Nat.le_refl _)) rfl (by decide) (D 12 rfl) ?_
  show J Z (3, 30) _ _ _ (54, _)
  refine j_putFr (N := 54) (sh := SH) C f_X2_18 rfl rfl ⟨TX2, rfl⟩ ⟨by decide, rfl⟩ rfl rfl (D 13 rfl) ?_
  refine j_aload_n C (D 14 rfl) rfl ?_
  refine j_bipush (v := nI 10) C (D 15 rfl) (by decide) ?_
  refine j_newint C B (n := 10) rfl (by decide) (by decide) rfl (fun k => (zI_m hI (by decide)) 54 k (Nat.le_refl _)) rfl (by decide) (D 16 rfl) ?_
  show J Z (4, 40) _ _ _ (55, _)
  refine j_putFr (N := 55) (sh := SH) C f_X2_21 rfl rfl ⟨TX2, rfl⟩ ⟨by decide, rfl⟩ rfl rfl (D 17 rfl) ?_
  exact j_vret C P rfl (D 18 rfl) (by decide) ⟨rfl, rfl⟩
def r_stand (R : Nat → Nat → Option Nat) : Nat → Nat → Option Nat := (up2 (up2 (up2 (up2 (up2 (up2 (up2 (up2 (up2 (up2 (up2 (up2 (up2 (up2 (up2 (up2 (up2 (up2 (up2 (up2 (up2 (up2 (up2 (up2 (up2 (up2 R 98 0 (some 99)) 98 4 (some 100)) 101 0 (some 102)) 101 1 (some 103)) 99 0 (some 101)) 104 0 (some 105)) 104 1 (some 106)) 99 1 (some 104)) 107 0 (some 108)) 107 1 (some 109)) 99 2 (some 107)) 110 0 (some 111)) 110 1 (some 112)) 99 3 (some 110)) 113 0 (some 114)) 113 1 (some 115)) 99 4 (some 113)) 116 0 (some 117)) 116 1 (some 118)) 99 5 (some 116)) 119 0 (some 120)) 119 1 (some 121)) 99 6 (some 119)) 122 0 (some 123)) 122 1 (some 124)) 99 7 (some 122))
theorem z_r_stand {R : Nat → Nat → Option Nat} (hR : zR' R 99) : zR' (r_stand R) 125 := (zR_up (zR_up (zR_up (zR_up (zR_up (zR_up (zR_up (zR_up (zR_up (zR_up (zR_up (zR_up (zR_up (zR_up (zR_up (zR_up (zR_up (zR_up (zR_up (zR_up (zR_up (zR_up (zR_up (zR_up (zR_up (zR_up (zR_m hR (by decide)) (by decide)) (by decide)) (by decide)) (by decide)) (by decide)) (by decide)) (by decide)) (by decide)) (by decide)) (by decide)) (by decide)) (by decide)) (by decide)) (by decide)) (by decide)) (by decide)) (by decide)) (by decide)) (by decide)) (by decide)) (by decide)) (by decide)) (by decide)) (by decide)) (by decide)) (by decide))
set_option maxRecDepth 20000 in
set_option maxHeartbeats 4000000 in
theorem c_X8i (l : Launch) (G : GT) {I : Nat → Nat → Int32} {L : Nat → Nat → Int64} {R : Nat → Nat → Option Nat} (hI : zI I 99) (hL : zL L 99) (hR : zR' R 99) : Mt l G mX8_init 2 26 320 [.ref (ra G 98)] (99, SH, I, L, R) (fun r w' => r = none ∧ w' = (125, SH, I, L, r_stand R)) := by
  refine mt_of (own := RX8) (by decide) rfl rfl (fun Z C P B => ?_)
  have D := @dc_of _ _ dX8_init
  refine j_aload_n C (D 0 rfl) rfl ?_
  refine j_oinit C B (inT_mem (i := 454) (by decide +kernel)) rfl rfl (D 1 rfl) ?_
  refine j_aload_n C (D 2 rfl) rfl ?_
  refine j_bipush (v := nI 8) C (D 3 rfl) (by decide) ?_
  refine j_anew C B (kd := 2) (n := 8) (c := "TenTrials$Score") rfl C.2.2.2.2.2.2.2.2.1.2.2.2.2.2.2.2.2.2.2.2.1 (inT_mem (i := 455) (by decide +kernel)) rfl (by decide) (by decide) rfl (fun k => (zR_m hR (by decide)) 99 k (Nat.le_refl _)) rfl (by decide) (D 4 rfl) ?_
  show J Z (1, 8) _ _ _ (100, _)
  refine j_putFr (N := 100) (sh := SH) C f_X8_11 rfl rfl ⟨TX8, rfl⟩ ⟨by decide, rfl⟩ rfl rfl (D 5 rfl) ?_
  refine j_aload_n C (D 6 rfl) rfl ?_
  refine j_bipush (v := nI 80) C (D 7 rfl) (by decide) ?_
  refine j_newint C B (n := 80) rfl (by decide) (by decide) rfl (fun k => (zI_m hI (by decide)) 100 k (Nat.le_refl _)) rfl (by decide) (D 8 rfl) ?_
  show J Z (2, 88) _ _ _ (101, _)
  refine j_putFr (N := 101) (sh := SH) C f_X8_17 rfl rfl ⟨TX8, rfl⟩ ⟨by decide, rfl⟩ rfl rfl (D 9 rfl) ?_
  refine j_iconst (v := nI 0) C (D 10 rfl) (by decide) ?_
  refine j_istore_n C (D 11 rfl) rfl ?_
  refine j_iload_n C (D 12 rfl) rfl ?_
  refine j_bipush (v := nI 8) C (D 13 rfl) (by decide) ?_
  refine j_icmp_ge C 48 (D 14 rfl) (by decide) (fun h => absurd h (by decide)) (fun _ => ?_)
  refine j_aload_n C (D 15 rfl) rfl ?_
  refine j_getr (N := 101) (sh := SH) C f_X8_11 ⟨by decide, rfl⟩ rfl rfl (r := 99) rfl (D 16 rfl) ?_
  refine j_iload_n C (D 17 rfl) rfl ?_
  refine j_new C B (ci := 5) (n := 9) (ty := tyX5) rfl us_X5 tyX5_ok (by decide) rfl (inT_mem (i := 402) (by decide +kernel)) (inT_mem (i := 124) (by decide +kernel)) (inT_mem (i := 455) (by decide +kernel)) rfl (fun k => (zI_m hI (by decide)) 101 k (Nat.le_refl _)) (fun k => (zL_m hL (by decide)) 101 k (Nat.le_refl _)) (fun k => (zR_up (zR_up (zR_m hR (by decide)) (by decide)) (by decide)) 101 k (Nat.le_refl _)) rfl (by decide) (D 18 rfl) ?_
  show J Z (3, 97) _ _ _ (102, _)
  refine j_dup C (D 19 rfl) rfl ?_
  refine j_callIN' C B k_X8_21 (c_X5i _ _ (t := 101) rfl rfl rfl (by decide) (zI_m hI (by decide))) (As := []) rfl rfl rfl rfl (by decide) (D 20 rfl) ?_
  rintro r w' ⟨rfl, rfl⟩
  show J Z (5, 117) _ _ _ (104, _)
  refine j_aastO (N := 104) (sh := SH) C (kd := 2) (ci := 5) (nf := 9) ⟨by decide, rfl⟩ (ix_n (by decide) (by decide)) ⟨by decide, rfl⟩ rfl rfl rfl (D 21 rfl) ?_
  refine j_iinc (v := nI 1) C (D 22 rfl) rfl rfl (by decide) ?_
  refine j_goto C 23 (D 23 rfl) (by decide) ?_
  refine j_iload_n C (D 12 rfl) rfl ?_
  refine j_bipush (v := nI 8) C (D 13 rfl) (by decide) ?_
  refine j_icmp_ge C 48 (D 14 rfl) (by decide) (fun h => absurd h (by decide)) (fun _ => ?_)
  refine j_aload_n C (D 15 rfl) rfl ?_
  refine j_getr (N := 104) (sh := SH) C f_X8_11 ⟨by decide, rfl⟩ rfl rfl (r := 99) rfl (D 16 rfl) ?_
  refine j_iload_n C (D 17 rfl) rfl ?_
  refine j_new C B (ci := 5) (n := 9) (ty := tyX5) rfl us_X5 tyX5_ok (by decide) rfl (inT_mem (i := 402) (by decide +kernel)) (inT_mem (i := 124) (by decide +kernel)) (inT_mem (i := 455) (by decide +kernel)) rfl (fun k => (zI_m hI (by decide)) 104 k (Nat.le_refl _)) (fun k => (zL_m hL (by decide)) 104 k (Nat.le_refl _)) (fun k => (zR_up (zR_up (zR_up (zR_up (zR_up (zR_m hR (by decide)) (by decide)) (by decide)) (by decide)) (by decide)) (by decide)) 104 k (Nat.le_refl _)) rfl (by decide) (D 18 rfl) ?_
  show J Z (6, 126) _ _ _ (105, _)
  refine j_dup C (D 19 rfl) rfl ?_
  refine j_callIN' C B k_X8_21 (c_X5i _ _ (t := 104) rfl rfl rfl (by decide) (zI_m hI (by decide))) (As := []) rfl rfl rfl rfl (by decide) (D 20 rfl) ?_
  rintro r w' ⟨rfl, rfl⟩
  show J Z (8, 146) _ _ _ (107, _)
  refine j_aastO (N := 107) (sh := SH) C (kd := 2) (ci := 5) (nf := 9) ⟨by decide, rfl⟩ (ix_n (by decide) (by decide)) ⟨by decide, rfl⟩ rfl rfl rfl (D 21 rfl) ?_
  refine j_iinc (v := nI 2) C (D 22 rfl) rfl rfl (by decide) ?_
  refine j_goto C 23 (D 23 rfl) (by decide) ?_
  refine j_iload_n C (D 12 rfl) rfl ?_
  refine j_bipush (v := nI 8) C (D 13 rfl) (by decide) ?_
  refine j_icmp_ge C 48 (D 14 rfl) (by decide) (fun h => absurd h (by decide)) (fun _ => ?_)
  refine j_aload_n C (D 15 rfl) rfl ?_
  refine j_getr (N := 107) (sh := SH) C f_X8_11 ⟨by decide, rfl⟩ rfl rfl (r := 99) rfl (D 16 rfl) ?_
  refine j_iload_n C (D 17 rfl) rfl ?_
  refine j_new C B (ci := 5) (n := 9) (ty := tyX5) rfl us_X5 tyX5_ok (by decide) rfl (inT_mem (i := 402) (by decide +kernel)) (inT_mem (i := 124) (by decide +kernel)) (inT_mem (i := 455) (by decide +kernel)) rfl (fun k => (zI_m hI (by decide)) 107 k (Nat.le_refl _)) (fun k => (zL_m hL (by decide)) 107 k (Nat.le_refl _)) (fun k => (zR_up (zR_up (zR_up (zR_up (zR_up (zR_up (zR_up (zR_up (zR_m hR (by decide)) (by decide)) (by decide)) (by decide)) (by decide)) (by decide)) (by decide)) (by decide)) (by decide)) 107 k (Nat.le_refl _)) rfl (by decide) (D 18 rfl) ?_
  show J Z (9, 155) _ _ _ (108, _)
  refine j_dup C (D 19 rfl) rfl ?_
  refine j_callIN' C B k_X8_21 (c_X5i _ _ (t := 107) rfl rfl rfl (by decide) (zI_m hI (by decide))) (As := []) rfl rfl rfl rfl (by decide) (D 20 rfl) ?_
  rintro r w' ⟨rfl, rfl⟩
  show J Z (11, 175) _ _ _ (110, _)
  refine j_aastO (N := 110) (sh := SH) C (kd := 2) (ci := 5) (nf := 9) ⟨by decide, rfl⟩ (ix_n (by decide) (by decide)) ⟨by decide, rfl⟩ rfl rfl rfl (D 21 rfl) ?_
  refine j_iinc (v := nI 3) C (D 22 rfl) rfl rfl (by decide) ?_
  refine j_goto C 23 (D 23 rfl) (by decide) ?_
  refine j_iload_n C (D 12 rfl) rfl ?_
  refine j_bipush (v := nI 8) C (D 13 rfl) (by decide) ?_
  refine j_icmp_ge C 48 (D 14 rfl) (by decide) (fun h => absurd h (by decide)) (fun _ => ?_)
  refine j_aload_n C (D 15 rfl) rfl ?_
  refine j_getr (N := 110) (sh := SH) C f_X8_11 ⟨by decide, rfl⟩ rfl rfl (r := 99) rfl (D 16 rfl) ?_
  refine j_iload_n C (D 17 rfl) rfl ?_
  refine j_new C B (ci := 5) (n := 9) (ty := tyX5) rfl us_X5 tyX5_ok (by decide) rfl (inT_mem (i := 402) (by decide +kernel)) (inT_mem (i := 124) (by decide +kernel)) (inT_mem (i := 455) (by decide +kernel)) rfl (fun k => (zI_m hI (by decide)) 110 k (Nat.le_refl _)) (fun k => (zL_m hL (by decide)) 110 k (Nat.le_refl _)) (fun k => (zR_up (zR_up (zR_up (zR_up (zR_up (zR_up (zR_up (zR_up (zR_up (zR_up (zR_up (zR_m hR (by decide)) (by decide)) (by decide)) (by decide)) (by decide)) (by decide)) (by decide)) (by decide)) (by decide)) (by decide)) (by decide)) (by decide)) 110 k (Nat.le_refl _)) rfl (by decide) (D 18 rfl) ?_
  show J Z (12, 184) _ _ _ (111, _)
  refine j_dup C (D 19 rfl) rfl ?_
  refine j_callIN' C B k_X8_21 (c_X5i _ _ (t := 110) rfl rfl rfl (by decide) (zI_m hI (by decide))) (As := []) rfl rfl rfl rfl (by decide) (D 20 rfl) ?_
  rintro r w' ⟨rfl, rfl⟩
  show J Z (14, 204) _ _ _ (113, _)
  refine j_aastO (N := 113) (sh := SH) C (kd := 2) (ci := 5) (nf := 9) ⟨by decide, rfl⟩ (ix_n (by decide) (by decide)) ⟨by decide, rfl⟩ rfl rfl rfl (D 21 rfl) ?_
  refine j_iinc (v := nI 4) C (D 22 rfl) rfl rfl (by decide) ?_
  refine j_goto C 23 (D 23 rfl) (by decide) ?_
  refine j_iload_n C (D 12 rfl) rfl ?_
  refine j_bipush (v := nI 8) C (D 13 rfl) (by decide) ?_
  refine j_icmp_ge C 48 (D 14 rfl) (by decide) (fun h => absurd h (by decide)) (fun _ => ?_)
  refine j_aload_n C (D 15 rfl) rfl ?_
  refine j_getr (N := 113) (sh := SH) C f_X8_11 ⟨by decide, rfl⟩ rfl rfl (r := 99) rfl (D 16 rfl) ?_
  refine j_iload_n C (D 17 rfl) rfl ?_
  refine j_new C B (ci := 5) (n := 9) (ty := tyX5) rfl us_X5 tyX5_ok (by decide) rfl (inT_mem (i := 402) (by decide +kernel)) (inT_mem (i := 124) (by decide +kernel)) (inT_mem (i := 455) (by decide +kernel)) rfl (fun k => (zI_m hI (by decide)) 113 k (Nat.le_refl _)) (fun k => (zL_m hL (by decide)) 113 k (Nat.le_refl _)) (fun k => (zR_up (zR_up (zR_up (zR_up (zR_up (zR_up (zR_up (zR_up (zR_up (zR_up (zR_up (zR_up (zR_up (zR_up (zR_m hR (by decide)) (by decide)) (by decide)) (by decide)) (by decide)) (by decide)) (by decide)) (by decide)) (by decide)) (by decide)) (by decide)) (by decide)) (by decide)) (by decide)) (by decide)) 113 k (Nat.le_refl _)) rfl (by decide) (D 18 rfl) ?_
  show J Z (15, 213) _ _ _ (114, _)
  refine j_dup C (D 19 rfl) rfl ?_
  refine j_callIN' C B k_X8_21 (c_X5i _ _ (t := 113) rfl rfl rfl (by decide) (zI_m hI (by decide))) (As := []) rfl rfl rfl rfl (by decide) (D 20 rfl) ?_
  rintro r w' ⟨rfl, rfl⟩
  show J Z (17, 233) _ _ _ (116, _)
  refine j_aastO (N := 116) (sh := SH) C (kd := 2) (ci := 5) (nf := 9) ⟨by decide, rfl⟩ (ix_n (by decide) (by decide)) ⟨by decide, rfl⟩ rfl rfl rfl (D 21 rfl) ?_
  refine j_iinc (v := nI 5) C (D 22 rfl) rfl rfl (by decide) ?_
  refine j_goto C 23 (D 23 rfl) (by decide) ?_
  refine j_iload_n C (D 12 rfl) rfl ?_
  refine j_bipush (v := nI 8) C (D 13 rfl) (by decide) ?_
  refine j_icmp_ge C 48 (D 14 rfl) (by decide) (fun h => absurd h (by decide)) (fun _ => ?_)
  refine j_aload_n C (D 15 rfl) rfl ?_
  refine j_getr (N := 116) (sh := SH) C f_X8_11 ⟨by decide, rfl⟩ rfl rfl (r := 99) rfl (D 16 rfl) ?_
  refine j_iload_n C (D 17 rfl) rfl ?_
  refine j_new C B (ci := 5) (n := 9) (ty := tyX5) rfl us_X5 tyX5_ok (by decide) rfl (inT_mem (i := 402) (by decide +kernel)) (inT_mem (i := 124) (by decide +kernel)) (inT_mem (i := 455) (by decide +kernel)) rfl (fun k => (zI_m hI (by decide)) 116 k (Nat.le_refl _)) (fun k => (zL_m hL (by decide)) 116 k (Nat.le_refl _)) (fun k => (zR_up (zR_up (zR_up (zR_up (zR_up (zR_up (zR_up (zR_up (zR_up (zR_up (zR_up (zR_up (zR_up (zR_up (zR_up (zR_up (zR_up (zR_m hR (by decide)) (by decide)) (by decide)) (by decide)) (by decide)) (by decide)) (by decide)) (by decide)) (by decide)) (by decide)) (by decide)) (by decide)) (by decide)) (by decide)) (by decide)) (by decide)) (by decide)) (by decide)) 116 k (Nat.le_refl _)) rfl (by decide) (D 18 rfl) ?_
  show J Z (18, 242) _ _ _ (117, _)
  refine j_dup C (D 19 rfl) rfl ?_
  refine j_callIN' C B k_X8_21 (c_X5i _ _ (t := 116) rfl rfl rfl (by decide) (zI_m hI (by decide))) (As := []) rfl rfl rfl rfl (by decide) (D 20 rfl) ?_
  rintro r w' ⟨rfl, rfl⟩
  show J Z (20, 262) _ _ _ (119, _)
  refine j_aastO (N := 119) (sh := SH) C (kd := 2) (ci := 5) (nf := 9) ⟨by decide, rfl⟩ (ix_n (by decide) (by decide)) ⟨by decide, rfl⟩ rfl rfl rfl (D 21 rfl) ?_
  refine j_iinc (v := nI 6) C (D 22 rfl) rfl rfl (by decide) ?_
  refine j_goto C 23 (D 23 rfl) (by decide) ?_
  refine j_iload_n C (D 12 rfl) rfl ?_
  refine j_bipush (v := nI 8) C (D 13 rfl) (by decide) ?_
  refine j_icmp_ge C 48 (D 14 rfl) (by decide) (fun h => absurd h (by decide)) (fun _ => ?_)
  refine j_aload_n C (D 15 rfl) rfl ?_
  refine j_getr (N := 119) (sh := SH) C f_X8_11 ⟨by decide, rfl⟩ rfl rfl (r := 99) rfl (D 16 rfl) ?_
  refine j_iload_n C (D 17 rfl) rfl ?_
  refine j_new C B (ci := 5) (n := 9) (ty := tyX5) rfl us_X5 tyX5_ok (by decide) rfl (inT_mem (i := 402) (by decide +kernel)) (inT_mem (i := 124) (by decide +kernel)) (inT_mem (i := 455) (by decide +kernel)) rfl (fun k => (zI_m hI (by decide)) 119 k (Nat.le_refl _)) (fun k => (zL_m hL (by decide)) 119 k (Nat.le_refl _)) (fun k => (zR_up (zR_up (zR_up (zR_up (zR_up (zR_up (zR_up (zR_up (zR_up (zR_up (zR_up (zR_up (zR_up (zR_up (zR_up (zR_up (zR_up (zR_up (zR_up (zR_up (zR_m hR (by decide)) (by decide)) (by decide)) (by decide)) (by decide)) (by decide)) (by decide)) (by decide)) (by decide)) (by decide)) (by decide)) (by decide)) (by decide)) (by decide)) (by decide)) (by decide)) (by decide)) (by decide)) (by decide)) (by decide)) (by decide)) 119 k (Nat.le_refl _)) rfl (by decide) (D 18 rfl) ?_
  show J Z (21, 271) _ _ _ (120, _)
  refine j_dup C (D 19 rfl) rfl ?_
  refine j_callIN' C B k_X8_21 (c_X5i _ _ (t := 119) rfl rfl rfl (by decide) (zI_m hI (by decide))) (As := []) rfl rfl rfl rfl (by decide) (D 20 rfl) ?_
  rintro r w' ⟨rfl, rfl⟩
  show J Z (23, 291) _ _ _ (122, _)
  refine j_aastO (N := 122) (sh := SH) C (kd := 2) (ci := 5) (nf := 9) ⟨by decide, rfl⟩ (ix_n (by decide) (by decide)) ⟨by decide, rfl⟩ rfl rfl rfl (D 21 rfl) ?_
  refine j_iinc (v := nI 7) C (D 22 rfl) rfl rfl (by decide) ?_
  refine j_goto C 23 (D 23 rfl) (by decide) ?_
  refine j_iload_n C (D 12 rfl) rfl ?_
  refine j_bipush (v := nI 8) C (D 13 rfl) (by decide) ?_
  refine j_icmp_ge C 48 (D 14 rfl) (by decide) (fun h => absurd h (by decide)) (fun _ => ?_)
  refine j_aload_n C (D 15 rfl) rfl ?_
  refine j_getr (N := 122) (sh := SH) C f_X8_11 ⟨by decide, rfl⟩ rfl rfl (r := 99) rfl (D 16 rfl) ?_
  refine j_iload_n C (D 17 rfl) rfl ?_
  refine j_new C B (ci := 5) (n := 9) (ty := tyX5) rfl us_X5 tyX5_ok (by decide) rfl (inT_mem (i := 402) (by decide +kernel)) (inT_mem (i := 124) (by decide +kernel)) (inT_mem (i := 455) (by decide +kernel)) rfl (fun k => (zI_m hI (by decide)) 122 k (Nat.le_refl _)) (fun k => (zL_m hL (by decide)) 122 k (Nat.le_refl _)) (fun k => (zR_up (zR_up (zR_up (zR_up (zR_up (zR_up (zR_up (zR_up (zR_up (zR_up (zR_up (zR_up (zR_up (zR_up (zR_up (zR_up (zR_up (zR_up (zR_up (zR_up (zR_up (zR_up (zR_up (zR_m hR (by decide)) (by decide)) (by decide)) (by decide)) (by decide)) (by decide)) (by decide)) (by decide)) (by decide)) (by decide)) (by decide)) (by decide)) (by decide)) (by decide)) (by decide)) (by decide)) (by decide)) (by decide)) (by decide)) (by decide)) (by decide)) (by decide)) (by decide)) (by decide)) 122 k (Nat.le_refl _)) rfl (by decide) (D 18 rfl) ?_
  show J Z (24, 300) _ _ _ (123, _)
  refine j_dup C (D 19 rfl) rfl ?_
  refine j_callIN' C B k_X8_21 (c_X5i _ _ (t := 122) rfl rfl rfl (by decide) (zI_m hI (by decide))) (As := []) rfl rfl rfl rfl (by decide) (D 20 rfl) ?_
  rintro r w' ⟨rfl, rfl⟩
  show J Z (26, 320) _ _ _ (125, _)
  refine j_aastO (N := 125) (sh := SH) C (kd := 2) (ci := 5) (nf := 9) ⟨by decide, rfl⟩ (ix_n (by decide) (by decide)) ⟨by decide, rfl⟩ rfl rfl rfl (D 21 rfl) ?_
  refine j_iinc (v := nI 8) C (D 22 rfl) rfl rfl (by decide) ?_
  refine j_goto C 23 (D 23 rfl) (by decide) ?_
  refine j_iload_n C (D 12 rfl) rfl ?_
  refine j_bipush (v := nI 8) C (D 13 rfl) (by decide) ?_
  refine j_icmp_ge C 48 (D 14 rfl) (by decide) (fun _ => ?_) (fun h => absurd (by decide) h)
  exact j_vret C P rfl (D 24 rfl) (by decide) ⟨rfl, rfl⟩
def r_read (R : Nat → Nat → Option Nat) : Nat → Nat → Option Nat := (up2 (r_ct10 (up2 (up2 (vR (up2 (up2 (up2 R 5 0 (some 6)) 5 1 (some 7)) 5 2 (some 8)) 9) 5 4 (some 9)) 4 2 (some 5))) 4 3 (some 10))
theorem z_r_read {R : Nat → Nat → Option Nat} (hR : zR' R 5) : zR' (r_read R) 50 := (zR_up (z_r_ct10 (zR_up (zR_up (zR_v (zR_up (zR_up (zR_up (zR_m hR (by decide)) (by decide)) (by decide)) (by decide)) (by decide)) (by decide)) (by decide))) (by decide))
set_option maxRecDepth 20000 in
set_option maxHeartbeats 4000000 in
theorem c_X4i (l : Launch) (G : GT) {I : Nat → Nat → Int32} {L : Nat → Nat → Int64} {R : Nat → Nat → Option Nat} (hI : zI I 5) (hL : zL L 5) (hR : zR' R 5) : Mt l G mX4_init 3 45 5439 [.ref (ra G 4)] (5, SH, I, L, R) (fun r w' => r = none ∧ w' = (50, SH, (up2 I 4 1 (-1)), L, r_read R)) := by
  refine mt_of (own := RX4) (by decide) rfl rfl (fun Z C P B => ?_)
  have D := @dc_of _ _ dX4_init
  refine j_aload_n C (D 0 rfl) rfl ?_
  refine j_oinit C B (inT_mem (i := 163) (by decide +kernel)) rfl rfl (D 1 rfl) ?_
  refine j_aload_n C (D 2 rfl) rfl ?_
  refine j_iconst (v := (-1)) C (D 3 rfl) (by decide) ?_
  refine j_puti (N := 5) (sh := SH) C f_X4_9 ⟨by decide, rfl⟩ rfl rfl (D 4 rfl) ?_
  refine j_aload_n C (D 5 rfl) rfl ?_
  refine j_new C B (ci := 9) (n := 5) (ty := tyX9) rfl us_X9 tyX9_ok (by decide) rfl (inT_mem (i := 165) (by decide +kernel)) (inT_mem (i := 117) (by decide +kernel)) (inT_mem (i := 164) (by decide +kernel)) rfl (fun k => (zI_up (zI_m hI (by decide)) (by decide)) 5 k (Nat.le_refl _)) (fun k => (zL_m hL (by decide)) 5 k (Nat.le_refl _)) (fun k => (zR_m hR (by decide)) 5 k (Nat.le_refl _)) rfl (by decide) (D 6 rfl) ?_
  show J Z (1, 5) _ _ _ (6, _)
  refine j_dup C (D 7 rfl) rfl ?_
  refine j_callIN' C B k_X4_17 (c_X9i _ _ (zI_up (zI_m hI (by decide)) (by decide)) (zR_m hR (by decide))) (As := []) rfl rfl rfl rfl (by decide) (D 8 rfl) ?_
  rintro r w' ⟨rfl, rfl⟩
  show J Z (5, 3650) _ _ _ (10, _)
  refine j_putFr (N := 10) (sh := SH) C f_X4_18 rfl rfl ⟨TX4, rfl⟩ ⟨by decide, rfl⟩ rfl rfl (D 9 rfl) ?_
  refine j_aload_n C (D 10 rfl) rfl ?_
  refine j_new C B (ci := 1) (n := 8) (ty := tyX1) rfl us_X1 tyX1_ok (by decide) rfl (inT_mem (i := 206) (by decide +kernel)) (inT_mem (i := 120) (by decide +kernel)) (inT_mem (i := 205) (by decide +kernel)) rfl (fun k => (zI_up (zI_m hI (by decide)) (by decide)) 10 k (Nat.le_refl _)) (fun k => (zL_m hL (by decide)) 10 k (Nat.le_refl _)) (fun k => (zR_up (zR_up (zR_v (zR_up (zR_up (zR_up (zR_m hR (by decide)) (by decide)) (by decide)) (by decide)) (by decide)) (by decide)) (by decide)) 10 k (Nat.le_refl _)) rfl (by decide) (D 11 rfl) ?_
  show J Z (6, 3658) _ _ _ (11, _)
  refine j_dup C (D 12 rfl) rfl ?_
  refine j_callI' C B k_X4_24 (c_X1i10 _ _ (zI_up (zI_m hI (by decide)) (by decide)) (zL_m hL (by decide)) (zR_up (zR_up (zR_v (zR_up (zR_up (zR_up (zR_m hR (by decide)) (by decide)) (by decide)) (by decide)) (by decide)) (by decide)) (by decide))) (As := []) rfl rfl rfl rfl (by decide) (D 13 rfl) ?_
  rintro r w' ⟨rfl, rfl⟩
  show J Z (45, 5439) _ _ _ (50, _)
  refine j_putr (N := 50) (sh := SH) C f_X4_25 ⟨by decide, rfl⟩ rfl rfl (D 14 rfl) ?_
  exact j_vret C P rfl (D 15 rfl) (by decide) ⟨rfl, rfl⟩
