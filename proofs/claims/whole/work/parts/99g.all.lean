set_option maxRecDepth 20000 in
set_option maxHeartbeats 4000000 in
theorem law_all {Z : ZT} {G : GT} {b n : Nat} {xs : Nat → Int32} {nm : String} (X : LX Z G b n xs nm) (E : ∀ (ls : LV) (w : Wd), J Z (197, 22064) 1778 ls [.int 1] w) : J Z (0, 0) 0 (args0 [.ref b] 4) [] (0, SH, I_0, L_0, R_0) := by
  have C := X.1
  refine j_new C X.2.1 (ci := 11) (n := 12) (ty := tyX11) rfl us_X11 tyX11_ok (by decide) rfl (inT_mem (i := 135) (by decide +kernel)) (inT_mem (i := 114) (by decide +kernel)) (inT_mem (i := 134) (by decide +kernel)) rfl (fun k => (show zI I_0 0 from fun _ _ _ => rfl) 0 k (Nat.le_refl _)) (fun k => (show zL L_0 0 from fun _ _ _ => rfl) 0 k (Nat.le_refl _)) (fun k => (show zR' R_0 0 from fun _ _ _ => rfl) 0 k (Nat.le_refl _)) rfl (by decide) (@dc_of _ _ dL_law_0 0 _ _ _ rfl) ?_
  show J Z (1, 12) _ _ _ (1, _)
  refine j_dup C (@dc_of _ _ dL_law_0 1 _ _ _ rfl) rfl ?_
  refine j_callI' C X.2.1 k__law_9 (c_X11i _ _ (zI_m (show zI I_0 0 from fun _ _ _ => rfl) (by decide)) (zL_m (show zL L_0 0 from fun _ _ _ => rfl) (by decide)) (zR_m (show zR' R_0 0 from fun _ _ _ => rfl) (by decide))) (As := []) rfl rfl rfl rfl (by decide) (@dc_of _ _ dL_law_0 2 _ _ _ rfl) ?_
  rintro r w' ⟨rfl, rfl⟩
  show J Z (172, 11410) _ _ _ (172, _)
  refine j_astore_n C (@dc_of _ _ dL_law_0 3 _ _ _ rfl) rfl ?_
  refine j_new C X.2.1 (ci := 12) (n := 48) (ty := tyX12) rfl us_X12 tyX12_ok (by decide) rfl (inT_mem (i := 1333) (by decide +kernel)) (inT_mem (i := 127) (by decide +kernel)) (inT_mem (i := 1332) (by decide +kernel)) rfl (fun k => (zI_up (zI_m (show zI I_0 0 from fun _ _ _ => rfl) (by decide)) (by decide)) 172 k (Nat.le_refl _)) (fun k => (zL_m (show zL L_0 0 from fun _ _ _ => rfl) (by decide)) 172 k (Nat.le_refl _)) (fun k => (z_r_x (zR_m (show zR' R_0 0 from fun _ _ _ => rfl) (by decide))) 172 k (Nat.le_refl _)) rfl (by decide) (@dc_of _ _ dL_law_0 4 _ _ _ rfl) ?_
  show J Z (173, 11458) _ _ _ (173, _)
  refine j_dup C (@dc_of _ _ dL_law_0 5 _ _ _ rfl) rfl ?_
  refine j_callI' C X.2.1 k__law_12 (c_X12i _ _ (zI_m (zI_up (N := 172) (zI_m (show zI I_0 0 from fun _ _ _ => rfl) (by decide)) (by decide)) (by decide)) (zL_m (show zL L_0 0 from fun _ _ _ => rfl) (by decide)) (zR_m (z_r_x (zR_m (show zR' R_0 0 from fun _ _ _ => rfl) (by decide))) (by decide))) (As := []) rfl rfl rfl rfl (by decide) (@dc_of _ _ dL_law_0 6 _ _ _ rfl) ?_
  rintro r w' ⟨rfl, rfl⟩
  show J Z (197, 22064) _ _ _ (197, _)
  refine j_astore_n C (@dc_of _ _ dL_law_0 7 _ _ _ rfl) rfl ?_
  refine j_iconst C (v := nI 0) (@dc_of _ _ dL_law_0 8 _ _ _ rfl) rfl ?_
  refine j_istore_n C (@dc_of _ _ dL_law_0 9 _ _ _ rfl) rfl ?_
  exact law_loop X ⟨by decide, by decide⟩ E (n + 1) 0 _ (by omega) (by omega) (Sv_0 L_0)
