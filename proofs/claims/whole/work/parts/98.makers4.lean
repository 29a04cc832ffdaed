/-! the makers of the two -/
def r_x (R : Nat → Nat → Option Nat) : Nat → Nat → Option Nat := (up2 (up2 (up2 (mR (up2 (mR (up2 (up2 (mR (up2 (mR (up2 (r_stand (up2 (up2 (up2 (up2 (r_ct55 (up2 (r_hist (up2 (r_read (up2 (up2 (up2 R 0 0 (some 1)) 2 0 (some 3)) 0 2 (some 2))) 0 3 (some 4))) 0 4 (some 50))) 0 5 (some 55)) 95 0 (some 96)) 95 1 (some 97)) 0 7 (some 95))) 0 8 (some 98)) 126 10) 125 0 (some 126)) 137 10) 125 1 (some 137)) 0 9 (some 125)) 149 10) 148 0 (some 149)) 160 10) 148 1 (some 160)) 0 10 (some 148)) 0 11 (some 171))
theorem z_r_x {R : Nat → Nat → Option Nat} (hR : zR' R 1) : zR' (r_x R) 172 := (zR_up (zR_up (zR_up (zR_mm (zR_up (zR_mm (zR_up (zR_up (zR_mm (zR_up (zR_mm (zR_up (zR_m (z_r_stand (zR_up (zR_up (zR_up (zR_up (zR_m (z_r_ct55 (zR_up (zR_m (z_r_hist (zR_up (zR_m (z_r_read (zR_up (zR_up (zR_up (zR_m hR (by decide)) (by decide)) (by decide)) (by decide))) (by decide)) (by decide))) (by decide)) (by decide))) (by decide)) (by decide)) (by decide)) (by decide)) (by decide))) (by decide)) (by decide)) (by decide)) (by decide)) (by decide)) (by decide)) (by decide)) (by decide)) (by decide)) (by decide)) (by decide)) (by decide)) (by decide))
set_option maxRecDepth 20000 in
set_option maxHeartbeats 4000000 in
theorem c_X11i (l : Launch) (G : GT) {I : Nat → Nat → Int32} {L : Nat → Nat → Int64} {R : Nat → Nat → Option Nat} (hI : zI I 1) (hL : zL L 1) (hR : zR' R 1) : Mt l G mX11_init 4 171 11398 [.ref (ra G 0)] (1, SH, I, L, R) (fun r w' => r = none ∧ w' = (172, SH, (up2 I 4 1 (-1)), L, r_x R)) := by
  refine mt_of (own := RX11) (by decide) rfl rfl (fun Z C P B => ?_)
  have D := @dc_of _ _ dX11_init
  refine j_aload_n C (D 0 rfl) rfl ?_
  refine j_oinit C B (inT_mem (i := 139) (by decide +kernel)) rfl rfl (D 1 rfl) ?_
  refine j_aload_n C (D 2 rfl) rfl ?_
  refine j_sipush (v := nI 1200) C (D 3 rfl) (by decide) ?_
  refine j_newbyte C B (n := 1200) rfl (by decide) (by decide) rfl (fun k => (zI_m hI (by decide)) 1 k (Nat.le_refl _)) rfl (by decide) (D 4 rfl) ?_
  show J Z (1, 1200) _ _ _ (2, _)
  refine j_putFr (N := 2) (sh := SH) C f_X11_9 rfl rfl ⟨TX11, rfl⟩ ⟨by decide, rfl⟩ rfl rfl (D 5 rfl) ?_
  refine j_aload_n C (D 6 rfl) rfl ?_
  refine j_new C B (ci := 3) (n := 2) (ty := tyX3) rfl us_X3 tyX3_ok (by decide) rfl (inT_mem (i := 143) (by decide +kernel)) (inT_mem (i := 115) (by decide +kernel)) (inT_mem (i := 142) (by decide +kernel)) rfl (fun k => (zI_m hI (by decide)) 2 k (Nat.le_refl _)) (fun k => (zL_m hL (by decide)) 2 k (Nat.le_refl _)) (fun k => (zR_up (zR_m hR (by decide)) (by decide)) 2 k (Nat.le_refl _)) rfl (by decide) (D 7 rfl) ?_
  show J Z (2, 1202) _ _ _ (3, _)
  refine j_dup C (D 8 rfl) rfl ?_
  refine j_callIN' C B k_X11_15 (c_X3i _ _ (fun k => (zI_m hI (by decide)) 3 k (Nat.le_refl _))) (As := []) rfl rfl rfl rfl (by decide) (D 9 rfl) ?_
  rintro r w' ⟨rfl, rfl⟩
  show J Z (3, 1266) _ _ _ (4, _)
  refine j_putFr (N := 4) (sh := SH) C f_X11_16 rfl rfl ⟨TX11, rfl⟩ ⟨by decide, rfl⟩ rfl rfl (D 10 rfl) ?_
  refine j_aload_n C (D 11 rfl) rfl ?_
  refine j_new C B (ci := 4) (n := 8) (ty := tyX4) rfl us_X4 tyX4_ok (by decide) rfl (inT_mem (i := 159) (by decide +kernel)) (inT_mem (i := 116) (by decide +kernel)) (inT_mem (i := 158) (by decide +kernel)) rfl (fun k => (zI_m hI (by decide)) 4 k (Nat.le_refl _)) (fun k => (zL_m hL (by decide)) 4 k (Nat.le_refl _)) (fun k => (zR_up (zR_up (zR_up (zR_m hR (by decide)) (by decide)) (by decide)) (by decide)) 4 k (Nat.le_refl _)) rfl (by decide) (D 12 rfl) ?_
  show J Z (4, 1274) _ _ _ (5, _)
  refine j_dup C (D 13 rfl) rfl ?_
  refine j_callIN' C B k_X11_22 (c_X4i _ _ (zI_m hI (by decide)) (zL_m hL (by decide)) (zR_up (zR_up (zR_up (zR_m hR (by decide)) (by decide)) (by decide)) (by decide))) (As := []) rfl rfl rfl rfl (by decide) (D 14 rfl) ?_
  rintro r w' ⟨rfl, rfl⟩
  show J Z (49, 6713) _ _ _ (50, _)
  refine j_putFr (N := 50) (sh := SH) C f_X11_23 rfl rfl ⟨TX11, rfl⟩ ⟨by decide, rfl⟩ rfl rfl (D 15 rfl) ?_
  refine j_aload_n C (D 16 rfl) rfl ?_
  refine j_new C B (ci := 2) (n := 5) (ty := tyX2) rfl us_X2 tyX2_ok (by decide) rfl (inT_mem (i := 377) (by decide +kernel)) (inT_mem (i := 123) (by decide +kernel)) (inT_mem (i := 376) (by decide +kernel)) rfl (fun k => (zI_up (zI_m hI (by decide)) (by decide)) 50 k (Nat.le_refl _)) (fun k => (zL_m hL (by decide)) 50 k (Nat.le_refl _)) (fun k => (zR_up (zR_m (z_r_read (zR_up (zR_up (zR_up (zR_m hR (by decide)) (by decide)) (by decide)) (by decide))) (by decide)) (by decide)) 50 k (Nat.le_refl _)) rfl (by decide) (D 17 rfl) ?_
  show J Z (50, 6718) _ _ _ (51, _)
  refine j_dup C (D 18 rfl) rfl ?_
  refine j_callIN' C B k_X11_29 (c_X2i _ _ (zI_up (zI_m hI (by decide)) (by decide)) (zL_m hL (by decide)) (zR_up (zR_m (z_r_read (zR_up (zR_up (zR_up (zR_m hR (by decide)) (by decide)) (by decide)) (by decide))) (by decide)) (by decide))) (As := []) rfl rfl rfl rfl (by decide) (D 19 rfl) ?_
  rintro r w' ⟨rfl, rfl⟩
  show J Z (54, 6758) _ _ _ (55, _)
  refine j_putFr (N := 55) (sh := SH) C f_X11_30 rfl rfl ⟨TX11, rfl⟩ ⟨by decide, rfl⟩ rfl rfl (D 20 rfl) ?_
  refine j_aload_n C (D 21 rfl) rfl ?_
  refine j_new C B (ci := 1) (n := 8) (ty := tyX1) rfl us_X1 tyX1_ok (by decide) rfl (inT_mem (i := 206) (by decide +kernel)) (inT_mem (i := 120) (by decide +kernel)) (inT_mem (i := 399) (by decide +kernel)) rfl (fun k => (zI_up (zI_m hI (by decide)) (by decide)) 55 k (Nat.le_refl _)) (fun k => (zL_m hL (by decide)) 55 k (Nat.le_refl _)) (fun k => (zR_up (zR_m (z_r_hist (zR_up (zR_m (z_r_read (zR_up (zR_up (zR_up (zR_m hR (by decide)) (by decide)) (by decide)) (by decide))) (by decide)) (by decide))) (by decide)) (by decide)) 55 k (Nat.le_refl _)) rfl (by decide) (D 22 rfl) ?_
  show J Z (55, 6766) _ _ _ (56, _)
  refine j_dup C (D 23 rfl) rfl ?_
  refine j_callI' C B k_X11_36 (c_X1i55 _ _ (zI_up (zI_m hI (by decide)) (by decide)) (zL_m hL (by decide)) (zR_up (zR_m (z_r_hist (zR_up (zR_m (z_r_read (zR_up (zR_up (zR_up (zR_m hR (by decide)) (by decide)) (by decide)) (by decide))) (by decide)) (by decide))) (by decide)) (by decide))) (As := []) rfl rfl rfl rfl (by decide) (D 24 rfl) ?_
  rintro r w' ⟨rfl, rfl⟩
  show J Z (94, 8547) _ _ _ (95, _)
  refine j_putr (N := 95) (sh := SH) C f_X11_37 ⟨by decide, rfl⟩ rfl rfl (D 25 rfl) ?_
  refine j_aload_n C (D 26 rfl) rfl ?_
  refine j_new C B (ci := 5) (n := 9) (ty := tyX5) rfl us_X5 tyX5_ok (by decide) rfl (inT_mem (i := 402) (by decide +kernel)) (inT_mem (i := 124) (by decide +kernel)) (inT_mem (i := 401) (by decide +kernel)) rfl (fun k => (zI_up (zI_m hI (by decide)) (by decide)) 95 k (Nat.le_refl _)) (fun k => (zL_m hL (by decide)) 95 k (Nat.le_refl _)) (fun k => (zR_up (zR_m (z_r_ct55 (zR_up (zR_m (z_r_hist (zR_up (zR_m (z_r_read (zR_up (zR_up (zR_up (zR_m hR (by decide)) (by decide)) (by decide)) (by decide))) (by decide)) (by decide))) (by decide)) (by decide))) (by decide)) (by decide)) 95 k (Nat.le_refl _)) rfl (by decide) (D 27 rfl) ?_
  show J Z (95, 8556) _ _ _ (96, _)
  refine j_dup C (D 28 rfl) rfl ?_
  refine j_callIN' C B k_X11_43 (c_X5i _ _ (t := 95) rfl rfl rfl (by decide) (zI_up (zI_m hI (by decide)) (by decide))) (As := []) rfl rfl rfl rfl (by decide) (D 29 rfl) ?_
  rintro r w' ⟨rfl, rfl⟩
  show J Z (97, 8576) _ _ _ (98, _)
  refine j_putFr (N := 98) (sh := SH) C f_X11_44 rfl rfl ⟨TX11, rfl⟩ ⟨by decide, rfl⟩ rfl rfl (D 30 rfl) ?_
  refine j_aload_n C (D 31 rfl) rfl ?_
  refine j_new C B (ci := 8) (n := 6) (ty := tyX8) rfl us_X8 tyX8_ok (by decide) rfl (inT_mem (i := 450) (by decide +kernel)) (inT_mem (i := 125) (by decide +kernel)) (inT_mem (i := 449) (by decide +kernel)) rfl (fun k => (zI_up (zI_m hI (by decide)) (by decide)) 98 k (Nat.le_refl _)) (fun k => (zL_m hL (by decide)) 98 k (Nat.le_refl _)) (fun k => (zR_up (zR_up (zR_up (zR_up (zR_m (z_r_ct55 (zR_up (zR_m (z_r_hist (zR_up (zR_m (z_r_read (zR_up (zR_up (zR_up (zR_m hR (by decide)) (by decide)) (by decide)) (by decide))) (by decide)) (by decide))) (by decide)) (by decide))) (by decide)) (by decide)) (by decide)) (by decide)) (by decide)) 98 k (Nat.le_refl _)) rfl (by decide) (D 32 rfl) ?_
  show J Z (98, 8582) _ _ _ (99, _)
  refine j_dup C (D 33 rfl) rfl ?_
  refine j_callI' C B k_X11_50 (c_X8i _ _ (zI_up (zI_m hI (by decide)) (by decide)) (zL_m hL (by decide)) (zR_up (zR_up (zR_up (zR_up (zR_m (z_r_ct55 (zR_up (zR_m (z_r_hist (zR_up (zR_m (z_r_read (zR_up (zR_up (zR_up (zR_m hR (by decide)) (by decide)) (by decide)) (by decide))) (by decide)) (by decide))) (by decide)) (by decide))) (by decide)) (by decide)) (by decide)) (by decide)) (by decide))) (As := []) rfl rfl rfl rfl (by decide) (D 34 rfl) ?_
  rintro r w' ⟨rfl, rfl⟩
  show J Z (124, 8902) _ _ _ (125, _)
  refine j_putFr (N := 125) (sh := SH) C f_X11_51 rfl rfl ⟨TX11, rfl⟩ ⟨by decide, rfl⟩ rfl rfl (D 35 rfl) ?_
  refine j_aload_n C (D 36 rfl) rfl ?_
  refine j_new C B (ci := 6) (n := 3) (ty := tyX6) rfl us_X6 tyX6_ok (by decide) rfl (inT_mem (i := 479) (by decide +kernel)) (inT_mem (i := 126) (by decide +kernel)) (inT_mem (i := 478) (by decide +kernel)) rfl (fun k => (zI_up (zI_m hI (by decide)) (by decide)) 125 k (Nat.le_refl _)) (fun k => (zL_m hL (by decide)) 125 k (Nat.le_refl _)) (fun k => (zR_up (zR_m (z_r_stand (zR_up (zR_up (zR_up (zR_up (zR_m (z_r_ct55 (zR_up (zR_m (z_r_hist (zR_up (zR_m (z_r_read (zR_up (zR_up (zR_up (zR_m hR (by decide)) (by decide)) (by decide)) (by decide))) (by decide)) (by decide))) (by decide)) (by decide))) (by decide)) (by decide)) (by decide)) (by decide)) (by decide))) (by decide)) (by decide)) 125 k (Nat.le_refl _)) rfl (by decide) (D 37 rfl) ?_
  show J Z (125, 8905) _ _ _ (126, _)
  refine j_dup C (D 38 rfl) rfl ?_
  refine j_callIN' C B k_X11_57 (c_X6i _ _ (a := 125) (by decide) (zI_up (zI_m hI (by decide)) (by decide))) (As := []) rfl rfl rfl rfl (by decide) (D 39 rfl) ?_
  rintro r w' ⟨rfl, rfl⟩
  show J Z (147, 10145) _ _ _ (148, _)
  refine j_putFr (N := 148) (sh := SH) C f_X11_58 rfl rfl ⟨TX11, rfl⟩ ⟨by decide, rfl⟩ rfl rfl (D 40 rfl) ?_
  refine j_aload_n C (D 41 rfl) rfl ?_
  refine j_new C B (ci := 6) (n := 3) (ty := tyX6) rfl us_X6 tyX6_ok (by decide) rfl (inT_mem (i := 479) (by decide +kernel)) (inT_mem (i := 126) (by decide +kernel)) (inT_mem (i := 478) (by decide +kernel)) rfl (fun k => (zI_up (zI_m hI (by decide)) (by decide)) 148 k (Nat.le_refl _)) (fun k => (zL_m hL (by decide)) 148 k (Nat.le_refl _)) (fun k => (zR_up (zR_up (zR_mm (zR_up (zR_mm (zR_up (zR_m (z_r_stand (zR_up (zR_up (zR_up (zR_up (zR_m (z_r_ct55 (zR_up (zR_m (z_r_hist (zR_up (zR_m (z_r_read (zR_up (zR_up (zR_up (zR_m hR (by decide)) (by decide)) (by decide)) (by decide))) (by decide)) (by decide))) (by decide)) (by decide))) (by decide)) (by decide)) (by decide)) (by decide)) (by decide))) (by decide)) (by decide)) (by decide)) (by decide)) (by decide)) (by decide)) (by decide)) 148 k (Nat.le_refl _)) rfl (by decide) (D 42 rfl) ?_
  show J Z (148, 10148) _ _ _ (149, _)
  refine j_dup C (D 43 rfl) rfl ?_
  refine j_callIN' C B k_X11_57 (c_X6i _ _ (a := 148) (by decide) (zI_up (zI_m hI (by decide)) (by decide))) (As := []) rfl rfl rfl rfl (by decide) (D 44 rfl) ?_
  rintro r w' ⟨rfl, rfl⟩
  show J Z (170, 11388) _ _ _ (171, _)
  refine j_putFr (N := 171) (sh := SH) C f_X11_62 rfl rfl ⟨TX11, rfl⟩ ⟨by decide, rfl⟩ rfl rfl (D 45 rfl) ?_
  refine j_aload_n C (D 46 rfl) rfl ?_
  refine j_bipush (v := nI 10) C (D 47 rfl) (by decide) ?_
  refine j_newint C B (n := 10) rfl (by decide) (by decide) rfl (fun k => (zI_up (zI_m hI (by decide)) (by decide)) 171 k (Nat.le_refl _)) rfl (by decide) (D 48 rfl) ?_
  show J Z (171, 11398) _ _ _ (172, _)
  refine j_putFr (N := 172) (sh := SH) C f_X11_65 rfl rfl ⟨TX11, rfl⟩ ⟨by decide, rfl⟩ rfl rfl (D 49 rfl) ?_
  exact j_vret C P rfl (D 50 rfl) (by decide) ⟨rfl, rfl⟩
def r_m (R : Nat → Nat → Option Nat) : Nat → Nat → Option Nat := (up2 (up2 (up2 (up2 (up2 (up2 (up2 (up2 (up2 (up2 (up2 (up2 (up2 (up2 (up2 (up2 (up2 (up2 (up2 (up2 (up2 (up2 (up2 (up2 R 172 6 (some 173)) 172 7 (some 174)) 172 8 (some 175)) 172 9 (some 176)) 172 10 (some 177)) 172 11 (some 178)) 172 12 (some 179)) 172 19 (some 180)) 172 20 (some 181)) 172 21 (some 182)) 172 22 (some 183)) 172 23 (some 184)) 172 24 (some 185)) 172 25 (some 186)) 172 26 (some 187)) 172 36 (some 188)) 172 37 (some 189)) 172 38 (some 190)) 172 39 (some 191)) 172 40 (some 192)) 172 41 (some 193)) 172 42 (some 194)) 172 45 (some 195)) 172 46 (some 196))
theorem z_r_m {R : Nat → Nat → Option Nat} (hR : zR' R 173) : zR' (r_m R) 197 := (zR_up (zR_up (zR_up (zR_up (zR_up (zR_up (zR_up (zR_up (zR_up (zR_up (zR_up (zR_up (zR_up (zR_up (zR_up (zR_up (zR_up (zR_up (zR_up (zR_up (zR_up (zR_up (zR_up (zR_up (zR_m hR (by decide)) (by decide)) (by decide)) (by decide)) (by decide)) (by decide)) (by decide)) (by decide)) (by decide)) (by decide)) (by decide)) (by decide)) (by decide)) (by decide)) (by decide)) (by decide)) (by decide)) (by decide)) (by decide)) (by decide)) (by decide)) (by decide)) (by decide)) (by decide)) (by decide))
set_option maxRecDepth 20000 in
set_option maxHeartbeats 4000000 in
theorem c_X12i (l : Launch) (G : GT) {I : Nat → Nat → Int32} {L : Nat → Nat → Int64} {R : Nat → Nat → Option Nat} (hI : zI I 173) (hL : zL L 173) (hR : zR' R 173) : Mt l G mX12_init 1 24 10606 [.ref (ra G 172)] (173, SH, I, L, R) (fun r w' => r = none ∧ w' = (197, SH, (up2 I 172 35 (-1)), L, r_m R)) := by
  refine mt_of (own := RX12) (by decide) rfl rfl (fun Z C P B => ?_)
  have D := @dc_of _ _ dX12_init
  refine j_aload_n C (D 0 rfl) rfl ?_
  refine j_oinit C B (inT_mem (i := 1337) (by decide +kernel)) rfl rfl (D 1 rfl) ?_
  refine j_aload_n C (D 2 rfl) rfl ?_
  refine j_sipush (v := nI 220) C (D 3 rfl) (by decide) ?_
  refine j_newint C B (n := 220) rfl (by decide) (by decide) rfl (fun k => (zI_m hI (by decide)) 173 k (Nat.le_refl _)) rfl (by decide) (D 4 rfl) ?_
  show J Z (1, 220) _ _ _ (174, _)
  refine j_putFr (N := 174) (sh := SH) C f_X12_9 rfl rfl ⟨TX12, rfl⟩ ⟨by decide, rfl⟩ rfl rfl (D 5 rfl) ?_
  refine j_aload_n C (D 6 rfl) rfl ?_
  refine j_iconst (v := nI 4) C (D 7 rfl) (by decide) ?_
  refine j_newint C B (n := 4) rfl (by decide) (by decide) rfl (fun k => (zI_m hI (by decide)) 174 k (Nat.le_refl _)) rfl (by decide) (D 8 rfl) ?_
  show J Z (2, 224) _ _ _ (175, _)
  refine j_putFr (N := 175) (sh := SH) C f_X12_13 rfl rfl ⟨TX12, rfl⟩ ⟨by decide, rfl⟩ rfl rfl (D 9 rfl) ?_
  refine j_aload_n C (D 10 rfl) rfl ?_
  refine j_iconst (v := nI 5) C (D 11 rfl) (by decide) ?_
  refine j_newint C B (n := 5) rfl (by decide) (by decide) rfl (fun k => (zI_m hI (by decide)) 175 k (Nat.le_refl _)) rfl (by decide) (D 12 rfl) ?_
  show J Z (3, 229) _ _ _ (176, _)
  refine j_putFr (N := 176) (sh := SH) C f_X12_16 rfl rfl ⟨TX12, rfl⟩ ⟨by decide, rfl⟩ rfl rfl (D 13 rfl) ?_
  refine j_aload_n C (D 14 rfl) rfl ?_
  refine j_sipush (v := nI 1300) C (D 15 rfl) (by decide) ?_
  refine j_newint C B (n := 1300) rfl (by decide) (by decide) rfl (fun k => (zI_m hI (by decide)) 176 k (Nat.le_refl _)) rfl (by decide) (D 16 rfl) ?_
  show J Z (4, 1529) _ _ _ (177, _)
  refine j_putFr (N := 177) (sh := SH) C f_X12_19 rfl rfl ⟨TX12, rfl⟩ ⟨by decide, rfl⟩ rfl rfl (D 17 rfl) ?_
  refine j_aload_n C (D 18 rfl) rfl ?_
  refine j_bipush (v := nI 80) C (D 19 rfl) (by decide) ?_
  refine j_newint C B (n := 80) rfl (by decide) (by decide) rfl (fun k => (zI_m hI (by decide)) 177 k (Nat.le_refl _)) rfl (by decide) (D 20 rfl) ?_
  show J Z (5, 1609) _ _ _ (178, _)
  refine j_putFr (N := 178) (sh := SH) C f_X12_22 rfl rfl ⟨TX12, rfl⟩ ⟨by decide, rfl⟩ rfl rfl (D 21 rfl) ?_
  refine j_aload_n C (D 22 rfl) rfl ?_
  refine j_bipush (v := nI 80) C (D 23 rfl) (by decide) ?_
  refine j_newint C B (n := 80) rfl (by decide) (by decide) rfl (fun k => (zI_m hI (by decide)) 178 k (Nat.le_refl _)) rfl (by decide) (D 24 rfl) ?_
  show J Z (6, 1689) _ _ _ (179, _)
  refine j_putFr (N := 179) (sh := SH) C f_X12_25 rfl rfl ⟨TX12, rfl⟩ ⟨by decide, rfl⟩ rfl rfl (D 25 rfl) ?_
  refine j_aload_n C (D 26 rfl) rfl ?_
  refine j_bipush (v := nI 80) C (D 27 rfl) (by decide) ?_
  refine j_newint C B (n := 80) rfl (by decide) (by decide) rfl (fun k => (zI_m hI (by decide)) 179 k (Nat.le_refl _)) rfl (by decide) (D 28 rfl) ?_
  show J Z (7, 1769) _ _ _ (180, _)
  refine j_putFr (N := 180) (sh := SH) C f_X12_28 rfl rfl ⟨TX12, rfl⟩ ⟨by decide, rfl⟩ rfl rfl (D 29 rfl) ?_
  refine j_aload_n C (D 30 rfl) rfl ?_
  refine j_sipush (v := nI 220) C (D 31 rfl) (by decide) ?_
  refine j_newint C B (n := 220) rfl (by decide) (by decide) rfl (fun k => (zI_m hI (by decide)) 180 k (Nat.le_refl _)) rfl (by decide) (D 32 rfl) ?_
  show J Z (8, 1989) _ _ _ (181, _)
  refine j_putFr (N := 181) (sh := SH) C f_X12_31 rfl rfl ⟨TX12, rfl⟩ ⟨by decide, rfl⟩ rfl rfl (D 33 rfl) ?_
  refine j_aload_n C (D 34 rfl) rfl ?_
  refine j_iconst (v := nI 4) C (D 35 rfl) (by decide) ?_
  refine j_newint C B (n := 4) rfl (by decide) (by decide) rfl (fun k => (zI_m hI (by decide)) 181 k (Nat.le_refl _)) rfl (by decide) (D 36 rfl) ?_
  show J Z (9, 1993) _ _ _ (182, _)
  refine j_putFr (N := 182) (sh := SH) C f_X12_34 rfl rfl ⟨TX12, rfl⟩ ⟨by decide, rfl⟩ rfl rfl (D 37 rfl) ?_
  refine j_aload_n C (D 38 rfl) rfl ?_
  refine j_iconst (v := nI 5) C (D 39 rfl) (by decide) ?_
  refine j_newint C B (n := 5) rfl (by decide) (by decide) rfl (fun k => (zI_m hI (by decide)) 182 k (Nat.le_refl _)) rfl (by decide) (D 40 rfl) ?_
  show J Z (10, 1998) _ _ _ (183, _)
  refine j_putFr (N := 183) (sh := SH) C f_X12_37 rfl rfl ⟨TX12, rfl⟩ ⟨by decide, rfl⟩ rfl rfl (D 41 rfl) ?_
  refine j_aload_n C (D 42 rfl) rfl ?_
  refine j_sipush (v := nI 1300) C (D 43 rfl) (by decide) ?_
  refine j_newint C B (n := 1300) rfl (by decide) (by decide) rfl (fun k => (zI_m hI (by decide)) 183 k (Nat.le_refl _)) rfl (by decide) (D 44 rfl) ?_
  show J Z (11, 3298) _ _ _ (184, _)
  refine j_putFr (N := 184) (sh := SH) C f_X12_40 rfl rfl ⟨TX12, rfl⟩ ⟨by decide, rfl⟩ rfl rfl (D 45 rfl) ?_
  refine j_aload_n C (D 46 rfl) rfl ?_
  refine j_bipush (v := nI 80) C (D 47 rfl) (by decide) ?_
  refine j_newint C B (n := 80) rfl (by decide) (by decide) rfl (fun k => (zI_m hI (by decide)) 184 k (Nat.le_refl _)) rfl (by decide) (D 48 rfl) ?_
  show J Z (12, 3378) _ _ _ (185, _)
  refine j_putFr (N := 185) (sh := SH) C f_X12_43 rfl rfl ⟨TX12, rfl⟩ ⟨by decide, rfl⟩ rfl rfl (D 49 rfl) ?_
  refine j_aload_n C (D 50 rfl) rfl ?_
  refine j_bipush (v := nI 80) C (D 51 rfl) (by decide) ?_
  refine j_newint C B (n := 80) rfl (by decide) (by decide) rfl (fun k => (zI_m hI (by decide)) 185 k (Nat.le_refl _)) rfl (by decide) (D 52 rfl) ?_
  show J Z (13, 3458) _ _ _ (186, _)
  refine j_putFr (N := 186) (sh := SH) C f_X12_46 rfl rfl ⟨TX12, rfl⟩ ⟨by decide, rfl⟩ rfl rfl (D 53 rfl) ?_
  refine j_aload_n C (D 54 rfl) rfl ?_
  refine j_bipush (v := nI 80) C (D 55 rfl) (by decide) ?_
  refine j_newint C B (n := 80) rfl (by decide) (by decide) rfl (fun k => (zI_m hI (by decide)) 186 k (Nat.le_refl _)) rfl (by decide) (D 56 rfl) ?_
  show J Z (14, 3538) _ _ _ (187, _)
  refine j_putFr (N := 187) (sh := SH) C f_X12_49 rfl rfl ⟨TX12, rfl⟩ ⟨by decide, rfl⟩ rfl rfl (D 57 rfl) ?_
  refine j_aload_n C (D 58 rfl) rfl ?_
  refine j_sipush (v := nI 1200) C (D 59 rfl) (by decide) ?_
  refine j_newbyte C B (n := 1200) rfl (by decide) (by decide) rfl (fun k => (zI_m hI (by decide)) 187 k (Nat.le_refl _)) rfl (by decide) (D 60 rfl) ?_
  show J Z (15, 4738) _ _ _ (188, _)
  refine j_putFr (N := 188) (sh := SH) C f_X12_52 rfl rfl ⟨TX12, rfl⟩ ⟨by decide, rfl⟩ rfl rfl (D 61 rfl) ?_
  refine j_aload_n C (D 62 rfl) rfl ?_
  refine j_iconst (v := (-1)) C (D 63 rfl) (by decide) ?_
  refine j_puti (N := 188) (sh := SH) C f_X12_56 ⟨by decide, rfl⟩ rfl rfl (D 64 rfl) ?_
  refine j_aload_n C (D 65 rfl) rfl ?_
  refine j_bipush (v := nI 80) C (D 66 rfl) (by decide) ?_
  refine j_newint C B (n := 80) rfl (by decide) (by decide) rfl (fun k => (zI_up (zI_m hI (by decide)) (by decide)) 188 k (Nat.le_refl _)) rfl (by decide) (D 67 rfl) ?_
  show J Z (16, 4818) _ _ _ (189, _)
  refine j_putFr (N := 189) (sh := SH) C f_X12_60 rfl rfl ⟨TX12, rfl⟩ ⟨by decide, rfl⟩ rfl rfl (D 68 rfl) ?_
  refine j_aload_n C (D 69 rfl) rfl ?_
  refine j_bipush (v := nI 80) C (D 70 rfl) (by decide) ?_
  refine j_newbool C B (n := 80) rfl (by decide) (by decide) rfl (fun k => (zI_up (zI_m hI (by decide)) (by decide)) 189 k (Nat.le_refl _)) rfl (by decide) (D 71 rfl) ?_
  show J Z (17, 4898) _ _ _ (190, _)
  refine j_putFr (N := 190) (sh := SH) C f_X12_63 rfl rfl ⟨TX12, rfl⟩ ⟨by decide, rfl⟩ rfl rfl (D 72 rfl) ?_
  refine j_aload_n C (D 73 rfl) rfl ?_
  refine j_sipush (v := nI 1300) C (D 74 rfl) (by decide) ?_
  refine j_newlong C B (n := 1300) rfl (by decide) (by decide) rfl (fun k => (zL_m hL (by decide)) 190 k (Nat.le_refl _)) rfl (by decide) (D 75 rfl) ?_
  show J Z (18, 6198) _ _ _ (191, _)
  refine j_putFr (N := 191) (sh := SH) C f_X12_67 rfl rfl ⟨TX12, rfl⟩ ⟨by decide, rfl⟩ rfl rfl (D 76 rfl) ?_
  refine j_aload_n C (D 77 rfl) rfl ?_
  refine j_sipush (v := nI 671) C (D 78 rfl) (by decide) ?_
  refine j_newint C B (n := 671) rfl (by decide) (by decide) rfl (fun k => (zI_up (zI_m hI (by decide)) (by decide)) 191 k (Nat.le_refl _)) rfl (by decide) (D 79 rfl) ?_
  show J Z (19, 6869) _ _ _ (192, _)
  refine j_putFr (N := 192) (sh := SH) C f_X12_71 rfl rfl ⟨TX12, rfl⟩ ⟨by decide, rfl⟩ rfl rfl (D 80 rfl) ?_
  refine j_aload_n C (D 81 rfl) rfl ?_
  refine j_sipush (v := nI 488) C (D 82 rfl) (by decide) ?_
  refine j_newint C B (n := 488) rfl (by decide) (by decide) rfl (fun k => (zI_up (zI_m hI (by decide)) (by decide)) 192 k (Nat.le_refl _)) rfl (by decide) (D 83 rfl) ?_
  show J Z (20, 7357) _ _ _ (193, _)
  refine j_putFr (N := 193) (sh := SH) C f_X12_74 rfl rfl ⟨TX12, rfl⟩ ⟨by decide, rfl⟩ rfl rfl (D 84 rfl) ?_
  refine j_aload_n C (D 85 rfl) rfl ?_
  refine j_sipush (v := nI 549) C (D 86 rfl) (by decide) ?_
  refine j_newint C B (n := 549) rfl (by decide) (by decide) rfl (fun k => (zI_up (zI_m hI (by decide)) (by decide)) 193 k (Nat.le_refl _)) rfl (by decide) (D 87 rfl) ?_
  show J Z (21, 7906) _ _ _ (194, _)
  refine j_putFr (N := 194) (sh := SH) C f_X12_77 rfl rfl ⟨TX12, rfl⟩ ⟨by decide, rfl⟩ rfl rfl (D 88 rfl) ?_
  refine j_aload_n C (D 89 rfl) rfl ?_
  refine j_bipush (v := nI 80) C (D 90 rfl) (by decide) ?_
  refine j_newint C B (n := 80) rfl (by decide) (by decide) rfl (fun k => (zI_up (zI_m hI (by decide)) (by decide)) 194 k (Nat.le_refl _)) rfl (by decide) (D 91 rfl) ?_
  show J Z (22, 7986) _ _ _ (195, _)
  refine j_putFr (N := 195) (sh := SH) C f_X12_80 rfl rfl ⟨TX12, rfl⟩ ⟨by decide, rfl⟩ rfl rfl (D 92 rfl) ?_
  refine j_aload_n C (D 93 rfl) rfl ?_
  refine j_sipush (v := nI 2420) C (D 94 rfl) (by decide) ?_
  refine j_newint C B (n := 2420) rfl (by decide) (by decide) rfl (fun k => (zI_up (zI_m hI (by decide)) (by decide)) 195 k (Nat.le_refl _)) rfl (by decide) (D 95 rfl) ?_
  show J Z (23, 10406) _ _ _ (196, _)
  refine j_putFr (N := 196) (sh := SH) C f_X12_83 rfl rfl ⟨TX12, rfl⟩ ⟨by decide, rfl⟩ rfl rfl (D 96 rfl) ?_
  refine j_aload_n C (D 97 rfl) rfl ?_
  refine j_sipush (v := nI 200) C (D 98 rfl) (by decide) ?_
  refine j_newbyte C B (n := 200) rfl (by decide) (by decide) rfl (fun k => (zI_up (zI_m hI (by decide)) (by decide)) 196 k (Nat.le_refl _)) rfl (by decide) (D 99 rfl) ?_
  show J Z (24, 10606) _ _ _ (197, _)
  refine j_putFr (N := 197) (sh := SH) C f_X12_86 rfl rfl ⟨TX12, rfl⟩ ⟨by decide, rfl⟩ rfl rfl (D 100 rfl) ?_
  exact j_vret C P rfl (D 101 rfl) (by decide) ⟨rfl, rfl⟩
