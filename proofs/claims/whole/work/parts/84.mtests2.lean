theorem nN (b j : Nat) (h : nP b j) : ¬ b = 183 ∧ ¬ (b = 172 ∧ j = 17) := by unfold nP at h; omega
theorem oN (b j : Nat) (h : oP b j) : ¬ b = 183 ∧ ¬ (b = 172 ∧ j = 17) := by unfold oP at h; omega
def d3 (b j : Nat) : Prop := b = 172 ∧ j = 33
theorem d3F {I : Nat → Nat → Int32} {v : Int32} : Fx d3 I (up2 I 172 33 v) := Fx.up (Fx.rf _ _) ⟨rfl, rfl⟩
theorem d3x (b j : Nat) (h : d3 b j) : xP b j := Or.inl ⟨h.1, Or.inl (by have := h.2; omega)⟩
theorem d3N (b j : Nat) (h : d3 b j) : ¬ b = 183 ∧ ¬ (b = 172 ∧ j = 17) := by unfold d3 at h; omega
theorem MS_d3 {I : Nat → Nat → Int32} {f : Nat → Int32} {n i : Nat} {v : Int32} (h : MS I f n i) : MS (up2 I 172 33 v) f n i := MS_go h (d3F (v := v)) (fun b j z => by unfold d3 at z; omega)
theorem MS_pt {I : Nat → Nat → Int32} {f : Nat → Int32} {n i m : Nat} {v w : Int32} (h : MS I f n i) : MS (up2 (up2 I 183 m v) 172 17 w) f n i := MS_go h put_Fq (fun b j z => by unfold qP at z; omega)
theorem PM_n {I I' : Nat → Nat → Int32} {f : Nat → Int32} {n N nE m d d' i j : Nat} (h : PMx I f n N nE m d i) (hF : Fx oP I I') (hS : MS I' f n j) (hg : I' 172 34 = nI 0) (h33 : I' 172 33 = nI d') (hij : i ≤ j) (hj : j ≤ N) : PMx I' f n N nE m d' j :=
  PM_go (o := []) h (hF.mo oPx) hS hg (CDM_nil h.2.2.1 hF oN) (by have := h.2.2.2.1; simp only [List.length_nil]; omega) hj h33
theorem d_1 {d : Nat} : nI (d + 1) - nI 1 = nI d := by rw [pk_sub (by omega)]; rfl
set_option maxRecDepth 20000 in
theorem d_readTerm_of (l : Launch) (G : GT) {I : Nat → Nat → Int32} {L : Nat → Nat → Int64} {R : Nat → Nat → Option Nat} (hL : Lay R) {f : Nat → Int32} {n N nE m d i : Nat} (hb : BY f n) (hN : TN (tok f n) N) (hE : nE ≤ 10) (hP : PMx I f n N nE m d i) {DD D D2 : Nat} (hd6 : d ≤ 6) (hD : 6 ≤ D) (hD2 : D2 + 1 ≤ D) {tr gs : Nat → RE} (htr : ∀ i, tr i = if (tok f n i).1 = 37 then (if d < 6 then thn (tok f n) 38 (gs (i + 1)) else .inl (fl (tok f n) i 4)) else trm0 (tok f n) nE i) (hok : OKR N nE false DD gs) (hg : d < 6 → ∀ (l : Launch) (I : Nat → Nat → Int32) (m i : Nat), PMx I f n N nE m (d + 1) i → Mt l G mX12_readSum D2 0 0 [.ref (ra G 172)] (wd I L R) (MX I L R xP (mO I f n m (d + 1)) (gs i))) : Mt l G mX12_readTerm (D) 0 0 [.ref (ra G 172)] (wd I L R) (MX I L R xP (mO I f n m d) (tr i)) := by
  refine mt_of (own := RX12) (by decide) rfl rfl (fun Z C P B => ?_)
  have D := @dc_of _ _ dX12_readTerm
  have hn := hb.1
  have hN1 := hN.1
  have hi1 := hP.2.2.2.2.1
  have hm1 := hP.2.2.2.1
  refine j_aload_n C (D 0 rfl) rfl ?_
  refine j_cVp C B k_X12_106 (rc_obj C (lit (kd := 12) (n := 48) rfl) rfl rfl) (d_goodT _ _ hL hP.2.1) rfl rfl (Nat.ble_eq_true_of_le (by omega)) rfl ⟨Nat.le_refl _, Nat.le_refl _⟩ (D 1 rfl) ?_
  refine j_if_ne C  8 (D 2 rfl) (by decide) (fun h4 => ?_) (fun h4 => absurd h4 (by decide))
  refine j_aload_n C (D 4 rfl) rfl ?_
  refine j_geti C f_X12_123 (lit (kd := 12) (n := 48) rfl) rfl rfl (D 5 rfl) ?_
  refine j_iconst C (v := nI 2) (D 6 rfl) rfl ?_
  refine j_icmp_ne C  31 (D 7 rfl) (by decide) (fun h13 => ?_) (fun h13 => ?_)
  · have n39 : ¬ (tok f n i).1 = 39 := fun z => h13 ((MS_2 hP.1).mpr z)
    refine j_aload_n C (D 16 rfl) rfl ?_
    refine j_ldcS C (i := 17) (by decide) rfl (D 17 rfl) ?_
    refine j_callV C B k_X12_165 (rc_obj C (lit (kd := 12) (n := 48) rfl) rfl rfl) (d_eats _ _ hL hb hP.1 hP.2.1 17 (by decide)) rfl rfl (Nat.ble_eq_true_of_le (by omega)) rfl ⟨Nat.le_refl _, Nat.le_refl _⟩ (D 18 rfl) ?_
    rintro r w' ⟨rfl, I2, rfl, hF2, y1, y2⟩
    refine j_if_eq C  59 (D 19 rfl) (by decide) (fun h37 => ?_) (fun h37 => ?_)
    · have hP2 := PM_a hP hF2 (y2 (b2_eq h37)) (Nat.le_refl _) hi1
      refine j_aload_n C (D 31 rfl) rfl ?_
      refine j_bipush C (v := nI 40) (D 32 rfl) rfl ?_
      refine j_cVp C B k_X12_161 (rc_obj C (lit (kd := 12) (n := 48) rfl) rfl rfl) (d_isByte _ _ hL hb hP2.1 hP2.2.1 (s := 37) (v := 40) (by decide) (by decide) (by decide) (by decide)) rfl rfl (Nat.ble_eq_true_of_le (by omega)) rfl ⟨Nat.le_refl _, Nat.le_refl _⟩ (D 33 rfl) ?_
      refine j_if_eq C  95 (D 34 rfl) (by decide) (fun h65 => ?_) (fun h65 => ?_)
      · refine j_aload_n C (D 49 rfl) rfl ?_
        refine j_ldcS C (i := 18) (by decide) rfl (D 50 rfl) ?_
        refine j_cVp C B k_X12_154 (rc_obj C (lit (kd := 12) (n := 48) rfl) rfl rfl) (d_isWord _ _ hL hb hP2.1 hP2.2.1 18 (by decide)) rfl rfl (Nat.ble_eq_true_of_le (by omega)) rfl ⟨Nat.le_refl _, Nat.le_refl _⟩ (D 51 rfl) ?_
        refine j_if_eq C  108 (D 52 rfl) (by decide) (fun h101 => ?_) (fun h101 => ?_)
        · refine j_aload_n C (D 55 rfl) rfl ?_
          refine j_ldcS C (i := 19) (by decide) rfl (D 56 rfl) ?_
          refine j_cVp C B k_X12_154 (rc_obj C (lit (kd := 12) (n := 48) rfl) rfl rfl) (d_isWord _ _ hL hb hP2.1 hP2.2.1 19 (by decide)) rfl rfl (Nat.ble_eq_true_of_le (by omega)) rfl ⟨Nat.le_refl _, Nat.le_refl _⟩ (D 57 rfl) ?_
          refine j_if_eq C  121 (D 58 rfl) (by decide) (fun h114 => ?_) (fun h114 => ?_)
          · refine j_aload_n C (D 61 rfl) rfl ?_
            refine j_ldcS C (i := 12) (by decide) rfl (D 62 rfl) ?_
            refine j_cVp C B k_X12_154 (rc_obj C (lit (kd := 12) (n := 48) rfl) rfl rfl) (d_isWord _ _ hL hb hP2.1 hP2.2.1 12 (by decide)) rfl rfl (Nat.ble_eq_true_of_le (by omega)) rfl ⟨Nat.le_refl _, Nat.le_refl _⟩ (D 63 rfl) ?_
            refine j_if_eq C  134 (D 64 rfl) (by decide) (fun h127 => ?_) (fun h127 => ?_)
            · refine j_aload_n C (D 67 rfl) rfl ?_
              refine j_ldcS C (i := 20) (by decide) rfl (D 68 rfl) ?_
              refine j_cVp C B k_X12_154 (rc_obj C (lit (kd := 12) (n := 48) rfl) rfl rfl) (d_isWord _ _ hL hb hP2.1 hP2.2.1 20 (by decide)) rfl rfl (Nat.ble_eq_true_of_le (by omega)) rfl ⟨Nat.le_refl _, Nat.le_refl _⟩ (D 69 rfl) ?_
              refine j_if_eq C  147 (D 70 rfl) (by decide) (fun h140 => ?_) (fun h140 => ?_)
              · refine j_iconst C (v := (-1)) (D 73 rfl) (by decide) ?_
                have n37 : ¬ (tok f n i).1 = 37 := b2_eq h65
                have n23 : ¬ (tok f n i).1 = 23 := b2_eq h37
                have hw : wop (tok f n i).1 = 99 := by unfold wop; rw [if_neg (show ¬ (tok f n i).1 = 25 from b2_eq h114), if_neg (show ¬ (tok f n i).1 = 12 from b2_eq h127), if_neg (show ¬ (tok f n i).1 = 26 from b2_eq h140), if_neg (show ¬ (tok f n i).1 = 24 from b2_eq h101)]
                refine j_istore_n C (D 74 rfl) rfl ?_
                refine j_iload_n C (D 75 rfl) rfl ?_
                refine j_iconst C (v := (-1)) (D 76 rfl) (by decide) ?_
                refine j_icmp_ne C  163 (D 77 rfl) (by decide) (fun h151 => absurd h151 (fun z => z rfl)) (fun h151 => ?_)
                refine j_aload_n C (D 78 rfl) rfl ?_
                refine j_iconst C (v := nI 1) (D 79 rfl) rfl ?_
                refine j_aload_n C (D 80 rfl) rfl ?_
                refine j_geti C f_X12_120 (lit (kd := 12) (n := 48) rfl) rfl rfl (D 81 rfl) ?_
                rw [hP2.1.2.1]
                refine j_callV C B k_X12_168 (rc_obj C (lit (kd := 12) (n := 48) rfl) rfl rfl) (d_errsT _ _ hL hP2.2.1 _ _) rfl rfl (Nat.ble_eq_true_of_le (by omega)) rfl ⟨Nat.le_refl _, Nat.le_refl _⟩ (D 82 rfl) ?_
                rintro r w' ⟨rfl, rfl⟩
                have hdd : ¬ up2 (up2 I2 172 34 (nI 1)) 172 35 (nI (spo f n i)) 172 34 = 0 := dd_of (k := 1) (by rw [up2_i (by omega), up2_same]) (by omega)
                refine j_aload_n C (D 83 rfl) rfl ?_
                refine j_iload_n C (D 84 rfl) rfl ?_
                refine j_iconst C (v := nI 0) (D 85 rfl) rfl ?_
                refine j_callV C B k_X12_218 (rc_obj C (lit (kd := 12) (n := 48) rfl) rfl rfl) (d_putsF _ _ hL hdd _ _) rfl rfl (Nat.ble_eq_true_of_le (by omega)) rfl ⟨Nat.le_refl _, Nat.le_refl _⟩ (D 86 rfl) ?_
                rintro r w' ⟨rfl, rfl⟩
                refine j_aload_n C (D 87 rfl) rfl ?_
                refine j_cVp C B k_X12_106 (rc_obj C (lit (kd := 12) (n := 48) rfl) rfl rfl) (d_goodF _ _ hL hdd) rfl rfl (Nat.ble_eq_true_of_le (by omega)) rfl ⟨Nat.le_refl _, Nat.le_refl _⟩ (D 88 rfl) ?_
                refine j_if_eq C  180 (D 89 rfl) (by decide) (fun h173 => ?_) (fun h173 => absurd h173 (fun z => z rfl))
                exact j_vret C P rfl (D 92 rfl) ⟨Nat.le_refl _, Nat.le_refl _⟩ (MX_e (e := fl (tok f n) i 1) (by rw [htr, if_neg n37, trm0, if_neg n23, if_neg n39, opW, if_pos hw]) (Fx.up (Fx.up (hF2.mo aPx) (Or.inl ⟨rfl, by omega⟩)) (Or.inl ⟨rfl, by omega⟩)) (by rw [up2_i (by omega), up2_same]; rfl) (by rw [up2_same]; show _ = nI (tok f n i).2.1; rw [tok_2]))
              · refine j_iconst C (v := nI 5) (D 71 rfl) rfl ?_
                refine j_goto C 148 (D 72 rfl) (by decide) ?_
                have n37 : ¬ (tok f n i).1 = 37 := b2_eq h65
                have n23 : ¬ (tok f n i).1 = 23 := b2_eq h37
                have hs : (tok f n i).1 = 26 := b2_ne h140
                have hw : wop (tok f n i).1 = 5 := by rw [hs]; rfl
                have hlt := lt_sg hN hi1 hs (by decide)
                refine j_istore_n C (D 74 rfl) rfl ?_
                refine j_iload_n C (D 75 rfl) rfl ?_
                refine j_iconst C (v := (-1)) (D 76 rfl) (by decide) ?_
                refine j_icmp_ne C  163 (D 77 rfl) (by decide) (fun h151 => ?_) (fun h151 => absurd h151 (by decide))
                refine j_aload_n C (D 83 rfl) rfl ?_
                refine j_iload_n C (D 84 rfl) rfl ?_
                refine j_iconst C (v := nI 0) (D 85 rfl) rfl ?_
                refine j_callV C B k_X12_218 (rc_obj C (lit (kd := 12) (n := 48) rfl) rfl rfl) (d_puts _ _ hL hP2.2.1 hP2.2.2.1 (by omega) (5, 0)) rfl rfl (Nat.ble_eq_true_of_le (by omega)) rfl ⟨Nat.le_refl _, Nat.le_refl _⟩ (D 86 rfl) ?_
                rintro r w' ⟨rfl, rfl⟩
                refine j_aload_n C (D 87 rfl) rfl ?_
                refine j_cVp C B k_X12_106 (rc_obj C (lit (kd := 12) (n := 48) rfl) rfl rfl) (d_goodT _ _ hL (by rw [up2_i (by omega), up2_i (by omega)]; exact hP2.2.1)) rfl rfl (Nat.ble_eq_true_of_le (by omega)) rfl ⟨Nat.le_refl _, Nat.le_refl _⟩ (D 88 rfl) ?_
                refine j_if_eq C  180 (D 89 rfl) (by decide) (fun h173 => absurd h173 (by decide)) (fun h173 => ?_)
                refine j_aload_n C (D 90 rfl) rfl ?_
                refine j_callV C B k_X12_158 (rc_obj C (lit (kd := 12) (n := 48) rfl) rfl rfl) (d_advance _ _ hL hb (MS_pt hP2.1) (tok_lt_n (by rw [hs]; decide))) rfl rfl (Nat.ble_eq_true_of_le (by omega)) rfl ⟨Nat.le_refl _, Nat.le_refl _⟩ (D 91 rfl) ?_
                rintro r w' ⟨rfl, I6, rfl, F6, S6⟩
                exact j_vret C P rfl (D 92 rfl) ⟨Nat.le_refl _, Nat.le_refl _⟩ (MX_o (a := ([(5, 0)], i + 1)) (by rw [htr, if_neg n37, trm0, if_neg n23, if_neg n39, opW, if_neg (by rw [hw]; decide), hw]) (((hF2.mo aPx).tr put_F).tr (F6.mo aPx)) (by rw [F6 _ _ (fun z => by unfold aP at z; omega), up2_i (by omega), up2_i (by omega)]; exact hP2.2.1) (by rw [F6 _ _ (fun z => by unfold aP at z; omega), up2_i (by omega), up2_i (by omega)]; exact hF2 _ _ (fun z => by unfold aP at z; omega)) ⟨S6, CDM_r (CDM_l hF2 aN CDM_put) F6 aN, by rw [F6 _ _ (fun z => by unfold aP at z; omega), up2_i (by omega), up2_i (by omega)]; exact hP2.2.2.2.2.2.1⟩)
            · refine j_iconst C (v := nI 4) (D 65 rfl) rfl ?_
              refine j_goto C 148 (D 66 rfl) (by decide) ?_
              have n37 : ¬ (tok f n i).1 = 37 := b2_eq h65
              have n23 : ¬ (tok f n i).1 = 23 := b2_eq h37
              have hs : (tok f n i).1 = 12 := b2_ne h127
              have hw : wop (tok f n i).1 = 4 := by rw [hs]; rfl
              have hlt := lt_sg hN hi1 hs (by decide)
              refine j_istore_n C (D 74 rfl) rfl ?_
              refine j_iload_n C (D 75 rfl) rfl ?_
              refine j_iconst C (v := (-1)) (D 76 rfl) (by decide) ?_
              refine j_icmp_ne C  163 (D 77 rfl) (by decide) (fun h151 => ?_) (fun h151 => absurd h151 (by decide))
              refine j_aload_n C (D 83 rfl) rfl ?_
              refine j_iload_n C (D 84 rfl) rfl ?_
              refine j_iconst C (v := nI 0) (D 85 rfl) rfl ?_
              refine j_callV C B k_X12_218 (rc_obj C (lit (kd := 12) (n := 48) rfl) rfl rfl) (d_puts _ _ hL hP2.2.1 hP2.2.2.1 (by omega) (4, 0)) rfl rfl (Nat.ble_eq_true_of_le (by omega)) rfl ⟨Nat.le_refl _, Nat.le_refl _⟩ (D 86 rfl) ?_
              rintro r w' ⟨rfl, rfl⟩
              refine j_aload_n C (D 87 rfl) rfl ?_
              refine j_cVp C B k_X12_106 (rc_obj C (lit (kd := 12) (n := 48) rfl) rfl rfl) (d_goodT _ _ hL (by rw [up2_i (by omega), up2_i (by omega)]; exact hP2.2.1)) rfl rfl (Nat.ble_eq_true_of_le (by omega)) rfl ⟨Nat.le_refl _, Nat.le_refl _⟩ (D 88 rfl) ?_
              refine j_if_eq C  180 (D 89 rfl) (by decide) (fun h173 => absurd h173 (by decide)) (fun h173 => ?_)
              refine j_aload_n C (D 90 rfl) rfl ?_
              refine j_callV C B k_X12_158 (rc_obj C (lit (kd := 12) (n := 48) rfl) rfl rfl) (d_advance _ _ hL hb (MS_pt hP2.1) (tok_lt_n (by rw [hs]; decide))) rfl rfl (Nat.ble_eq_true_of_le (by omega)) rfl ⟨Nat.le_refl _, Nat.le_refl _⟩ (D 91 rfl) ?_
              rintro r w' ⟨rfl, I6, rfl, F6, S6⟩
              exact j_vret C P rfl (D 92 rfl) ⟨Nat.le_refl _, Nat.le_refl _⟩ (MX_o (a := ([(4, 0)], i + 1)) (by rw [htr, if_neg n37, trm0, if_neg n23, if_neg n39, opW, if_neg (by rw [hw]; decide), hw]) (((hF2.mo aPx).tr put_F).tr (F6.mo aPx)) (by rw [F6 _ _ (fun z => by unfold aP at z; omega), up2_i (by omega), up2_i (by omega)]; exact hP2.2.1) (by rw [F6 _ _ (fun z => by unfold aP at z; omega), up2_i (by omega), up2_i (by omega)]; exact hF2 _ _ (fun z => by unfold aP at z; omega)) ⟨S6, CDM_r (CDM_l hF2 aN CDM_put) F6 aN, by rw [F6 _ _ (fun z => by unfold aP at z; omega), up2_i (by omega), up2_i (by omega)]; exact hP2.2.2.2.2.2.1⟩)
          · refine j_iconst C (v := nI 3) (D 59 rfl) rfl ?_
            refine j_goto C 148 (D 60 rfl) (by decide) ?_
            have n37 : ¬ (tok f n i).1 = 37 := b2_eq h65
            have n23 : ¬ (tok f n i).1 = 23 := b2_eq h37
            have hs : (tok f n i).1 = 25 := b2_ne h114
            have hw : wop (tok f n i).1 = 3 := by rw [hs]; rfl
            have hlt := lt_sg hN hi1 hs (by decide)
            refine j_istore_n C (D 74 rfl) rfl ?_
            refine j_iload_n C (D 75 rfl) rfl ?_
            refine j_iconst C (v := (-1)) (D 76 rfl) (by decide) ?_
            refine j_icmp_ne C  163 (D 77 rfl) (by decide) (fun h151 => ?_) (fun h151 => absurd h151 (by decide))
            refine j_aload_n C (D 83 rfl) rfl ?_
            refine j_iload_n C (D 84 rfl) rfl ?_
            refine j_iconst C (v := nI 0) (D 85 rfl) rfl ?_
            refine j_callV C B k_X12_218 (rc_obj C (lit (kd := 12) (n := 48) rfl) rfl rfl) (d_puts _ _ hL hP2.2.1 hP2.2.2.1 (by omega) (3, 0)) rfl rfl (Nat.ble_eq_true_of_le (by omega)) rfl ⟨Nat.le_refl _, Nat.le_refl _⟩ (D 86 rfl) ?_
            rintro r w' ⟨rfl, rfl⟩
            refine j_aload_n C (D 87 rfl) rfl ?_
            refine j_cVp C B k_X12_106 (rc_obj C (lit (kd := 12) (n := 48) rfl) rfl rfl) (d_goodT _ _ hL (by rw [up2_i (by omega), up2_i (by omega)]; exact hP2.2.1)) rfl rfl (Nat.ble_eq_true_of_le (by omega)) rfl ⟨Nat.le_refl _, Nat.le_refl _⟩ (D 88 rfl) ?_
            refine j_if_eq C  180 (D 89 rfl) (by decide) (fun h173 => absurd h173 (by decide)) (fun h173 => ?_)
            refine j_aload_n C (D 90 rfl) rfl ?_
            refine j_callV C B k_X12_158 (rc_obj C (lit (kd := 12) (n := 48) rfl) rfl rfl) (d_advance _ _ hL hb (MS_pt hP2.1) (tok_lt_n (by rw [hs]; decide))) rfl rfl (Nat.ble_eq_true_of_le (by omega)) rfl ⟨Nat.le_refl _, Nat.le_refl _⟩ (D 91 rfl) ?_
            rintro r w' ⟨rfl, I6, rfl, F6, S6⟩
            exact j_vret C P rfl (D 92 rfl) ⟨Nat.le_refl _, Nat.le_refl _⟩ (MX_o (a := ([(3, 0)], i + 1)) (by rw [htr, if_neg n37, trm0, if_neg n23, if_neg n39, opW, if_neg (by rw [hw]; decide), hw]) (((hF2.mo aPx).tr put_F).tr (F6.mo aPx)) (by rw [F6 _ _ (fun z => by unfold aP at z; omega), up2_i (by omega), up2_i (by omega)]; exact hP2.2.1) (by rw [F6 _ _ (fun z => by unfold aP at z; omega), up2_i (by omega), up2_i (by omega)]; exact hF2 _ _ (fun z => by unfold aP at z; omega)) ⟨S6, CDM_r (CDM_l hF2 aN CDM_put) F6 aN, by rw [F6 _ _ (fun z => by unfold aP at z; omega), up2_i (by omega), up2_i (by omega)]; exact hP2.2.2.2.2.2.1⟩)
        · refine j_iconst C (v := nI 2) (D 53 rfl) rfl ?_
          refine j_goto C 148 (D 54 rfl) (by decide) ?_
          have n37 : ¬ (tok f n i).1 = 37 := b2_eq h65
          have n23 : ¬ (tok f n i).1 = 23 := b2_eq h37
          have hs : (tok f n i).1 = 24 := b2_ne h101
          have hw : wop (tok f n i).1 = 2 := by rw [hs]; rfl
          have hlt := lt_sg hN hi1 hs (by decide)
          refine j_istore_n C (D 74 rfl) rfl ?_
          refine j_iload_n C (D 75 rfl) rfl ?_
          refine j_iconst C (v := (-1)) (D 76 rfl) (by decide) ?_
          refine j_icmp_ne C  163 (D 77 rfl) (by decide) (fun h151 => ?_) (fun h151 => absurd h151 (by decide))
          refine j_aload_n C (D 83 rfl) rfl ?_
          refine j_iload_n C (D 84 rfl) rfl ?_
          refine j_iconst C (v := nI 0) (D 85 rfl) rfl ?_
          refine j_callV C B k_X12_218 (rc_obj C (lit (kd := 12) (n := 48) rfl) rfl rfl) (d_puts _ _ hL hP2.2.1 hP2.2.2.1 (by omega) (2, 0)) rfl rfl (Nat.ble_eq_true_of_le (by omega)) rfl ⟨Nat.le_refl _, Nat.le_refl _⟩ (D 86 rfl) ?_
          rintro r w' ⟨rfl, rfl⟩
          refine j_aload_n C (D 87 rfl) rfl ?_
          refine j_cVp C B k_X12_106 (rc_obj C (lit (kd := 12) (n := 48) rfl) rfl rfl) (d_goodT _ _ hL (by rw [up2_i (by omega), up2_i (by omega)]; exact hP2.2.1)) rfl rfl (Nat.ble_eq_true_of_le (by omega)) rfl ⟨Nat.le_refl _, Nat.le_refl _⟩ (D 88 rfl) ?_
          refine j_if_eq C  180 (D 89 rfl) (by decide) (fun h173 => absurd h173 (by decide)) (fun h173 => ?_)
          refine j_aload_n C (D 90 rfl) rfl ?_
          refine j_callV C B k_X12_158 (rc_obj C (lit (kd := 12) (n := 48) rfl) rfl rfl) (d_advance _ _ hL hb (MS_pt hP2.1) (tok_lt_n (by rw [hs]; decide))) rfl rfl (Nat.ble_eq_true_of_le (by omega)) rfl ⟨Nat.le_refl _, Nat.le_refl _⟩ (D 91 rfl) ?_
          rintro r w' ⟨rfl, I6, rfl, F6, S6⟩
          exact j_vret C P rfl (D 92 rfl) ⟨Nat.le_refl _, Nat.le_refl _⟩ (MX_o (a := ([(2, 0)], i + 1)) (by rw [htr, if_neg n37, trm0, if_neg n23, if_neg n39, opW, if_neg (by rw [hw]; decide), hw]) (((hF2.mo aPx).tr put_F).tr (F6.mo aPx)) (by rw [F6 _ _ (fun z => by unfold aP at z; omega), up2_i (by omega), up2_i (by omega)]; exact hP2.2.1) (by rw [F6 _ _ (fun z => by unfold aP at z; omega), up2_i (by omega), up2_i (by omega)]; exact hF2 _ _ (fun z => by unfold aP at z; omega)) ⟨S6, CDM_r (CDM_l hF2 aN CDM_put) F6 aN, by rw [F6 _ _ (fun z => by unfold aP at z; omega), up2_i (by omega), up2_i (by omega)]; exact hP2.2.2.2.2.2.1⟩)
      · have h37 : (tok f n i).1 = 37 := b2_ne h65
        have hlt := lt_sg hN hi1 h37 (by decide)
        have hsn : spo f n i < n := tok_lt_n (by rw [h37]; decide)
        refine j_aload_n C (D 35 rfl) rfl ?_
        refine j_callV C B k_X12_223 (rc_obj C (lit (kd := 12) (n := 48) rfl) rfl rfl) (d_opens _ _ hL hb hP2.1 hP2.2.1 hsn hP2.2.2.2.2.2.1 hd6) rfl rfl (Nat.ble_eq_true_of_le (by omega)) rfl ⟨Nat.le_refl _, Nat.le_refl _⟩ (D 36 rfl) ?_
        rintro r w' ⟨rfl, I3, rfl, F3, k0, k1⟩
        obtain ⟨e, hqo⟩ | ⟨j0, hqo⟩ := rs_c (if d < 6 then (.inr (i + 1) : RS Nat) else .inl (fl (tok f n) i 4))
        · have hd6n : ¬ d < 6 := fun z => by rw [if_pos z] at hqo; cases hqo
          rw [if_neg hd6n] at hqo
          obtain ⟨e0, e1⟩ := k0 e (by rw [if_neg hd6n]; exact hqo)
          cases hqo
          have hd : ¬ I3 172 34 = 0 := dd_of e0 ⟨(by show 1 ≤ 4; omega), (by show 4 ≤ 4; omega)⟩
          refine j_aload_n C (D 37 rfl) rfl ?_
          refine j_callV C B k_X12_226 (rc_obj C (lit (kd := 12) (n := 48) rfl) rfl rfl) (d_readSumF _ _ hL hd) rfl rfl (Nat.ble_eq_true_of_le (by omega)) rfl ⟨Nat.le_refl _, Nat.le_refl _⟩ (D 38 rfl) ?_
          rintro r w' ⟨rfl, rfl⟩
          refine j_aload_n C (D 39 rfl) rfl ?_
          refine j_bipush C (v := nI 41) (D 40 rfl) rfl ?_
          refine j_callV C B k_X12_181 (rc_obj C (lit (kd := 12) (n := 48) rfl) rfl rfl) (d_passesByteF _ _ hL hd _) rfl rfl (Nat.ble_eq_true_of_le (by omega)) rfl ⟨Nat.le_refl _, Nat.le_refl _⟩ (D 41 rfl) ?_
          rintro r w' ⟨rfl, rfl⟩
          refine j_aload_n C (D 42 rfl) rfl ?_
          refine j_dup C (D 43 rfl) rfl ?_
          refine j_geti C f_X12_215 (lit (kd := 12) (n := 48) rfl) rfl rfl (D 44 rfl) ?_
          refine j_iconst C (v := nI 1) (D 45 rfl) rfl ?_
          refine j_isub C (D 46 rfl) ?_
          refine j_puti C f_X12_215 (lit (kd := 12) (n := 48) rfl) rfl rfl (D 47 rfl) ?_
          refine j_goto C 180 (D 48 rfl) (by decide) ?_
          exact j_vret C P rfl (D 92 rfl) ⟨Nat.le_refl _, Nat.le_refl _⟩ (MX_e (e := fl (tok f n) i 4) (by rw [htr, if_pos h37, if_neg hd6n]) (((hF2.mo aPx).tr (F3.mo oPx)).tr (d3F.mo d3x)) (by rw [up2_i (by omega)]; exact e0) (by rw [up2_i (by omega)]; exact e1))
        · have hd6n : d < 6 := by
            by_cases z : d < 6
            · exact z
            · rw [if_neg z] at hqo; cases hqo
          obtain ⟨u0, u1, u2, u3⟩ := k1 (i + 1) (by rw [if_pos hd6n])
          have hP3 := PM_n hP2 F3 u2 u0 u3 (by omega) hlt
          refine j_aload_n C (D 37 rfl) rfl ?_
          refine j_callV C B k_X12_226 (rc_obj C (lit (kd := 12) (n := 48) rfl) rfl rfl) (hg hd6n _ _ _ _ hP3) rfl rfl (Nat.ble_eq_true_of_le (by omega)) rfl ⟨Nat.le_refl _, Nat.le_refl _⟩ (D 38 rfl) ?_
          rintro r w' ⟨rfl, I4, rfl, F4, k0, k1⟩
          obtain ⟨e, hq⟩ | ⟨⟨o, i2⟩, hq⟩ := rs_c (gs (i + 1))
          · obtain ⟨e0, e1⟩ := k0 e hq
            have hk := hok (i + 1) (by omega)
            rw [hq] at hk
            have hd : ¬ I4 172 34 = 0 := dd_of e0 hk
            refine j_aload_n C (D 39 rfl) rfl ?_
            refine j_bipush C (v := nI 41) (D 40 rfl) rfl ?_
            refine j_callV C B k_X12_181 (rc_obj C (lit (kd := 12) (n := 48) rfl) rfl rfl) (d_passesByteF _ _ hL hd _) rfl rfl (Nat.ble_eq_true_of_le (by omega)) rfl ⟨Nat.le_refl _, Nat.le_refl _⟩ (D 41 rfl) ?_
            rintro r w' ⟨rfl, rfl⟩
            refine j_aload_n C (D 42 rfl) rfl ?_
            refine j_dup C (D 43 rfl) rfl ?_
            refine j_geti C f_X12_215 (lit (kd := 12) (n := 48) rfl) rfl rfl (D 44 rfl) ?_
            refine j_iconst C (v := nI 1) (D 45 rfl) rfl ?_
            refine j_isub C (D 46 rfl) ?_
            refine j_puti C f_X12_215 (lit (kd := 12) (n := 48) rfl) rfl rfl (D 47 rfl) ?_
            refine j_goto C 180 (D 48 rfl) (by decide) ?_
            exact j_vret C P rfl (D 92 rfl) ⟨Nat.le_refl _, Nat.le_refl _⟩ (MX_e (e := e) (by rw [htr, if_pos h37, if_pos hd6n, hq]; rfl) ((((hF2.mo aPx).tr (F3.mo oPx)).tr F4).tr (d3F.mo d3x)) (by rw [up2_i (by omega)]; exact e0) (by rw [up2_i (by omega)]; exact e1))
          · obtain ⟨g0, g1, g2, g3, g4⟩ := k1 _ hq
            have g2 : MS I4 f n i2 := g2
            have hk := hok (i + 1) (by omega)
            rw [hq] at hk
            obtain ⟨a1, a2, a3, -⟩ := hk
            refine j_aload_n C (D 39 rfl) rfl ?_
            refine j_bipush C (v := nI 41) (D 40 rfl) rfl ?_
            refine j_callV C B k_X12_181 (rc_obj C (lit (kd := 12) (n := 48) rfl) rfl rfl) (d_passesByte _ _ hL hb g2 g0 (s := 38) (v := 41) (by decide) (by decide) (by decide) (by decide)) rfl rfl (Nat.ble_eq_true_of_le (by omega)) rfl ⟨Nat.le_refl _, Nat.le_refl _⟩ (D 41 rfl) ?_
            rintro r w' ⟨rfl, I5, rfl, F5, k2, k3⟩
            obtain ⟨e, hqt⟩ | ⟨j, hqt⟩ := rs_c (pTake (tok f n) i2 38)
            · obtain ⟨e0, e1⟩ := k2 e hqt
              refine j_aload_n C (D 42 rfl) rfl ?_
              refine j_dup C (D 43 rfl) rfl ?_
              refine j_geti C f_X12_215 (lit (kd := 12) (n := 48) rfl) rfl rfl (D 44 rfl) ?_
              refine j_iconst C (v := nI 1) (D 45 rfl) rfl ?_
              refine j_isub C (D 46 rfl) ?_
              refine j_puti C f_X12_215 (lit (kd := 12) (n := 48) rfl) rfl rfl (D 47 rfl) ?_
              refine j_goto C 180 (D 48 rfl) (by decide) ?_
              exact j_vret C P rfl (D 92 rfl) ⟨Nat.le_refl _, Nat.le_refl _⟩ (MX_e (e := e) (by rw [htr, if_pos h37, if_pos hd6n, hq]; exact thn_e hqt) (((((hF2.mo aPx).tr (F3.mo oPx)).tr F4).tr (F5.mo nPx)).tr (d3F.mo d3x)) (by rw [up2_i (by omega)]; exact e0) (by rw [up2_i (by omega)]; exact e1))
            · obtain ⟨t0, t1, t2⟩ := k3 j hqt
              have t2 : MS I5 f n j := t2
              refine j_aload_n C (D 42 rfl) rfl ?_
              refine j_dup C (D 43 rfl) rfl ?_
              refine j_geti C f_X12_215 (lit (kd := 12) (n := 48) rfl) rfl rfl (D 44 rfl) ?_
              rw [F5 _ _ (fun z => by unfold nP at z; omega), g4]
              refine j_iconst C (v := nI 1) (D 45 rfl) rfl ?_
              refine j_isub C (D 46 rfl) ?_
              rw [d_1]
              refine j_puti C f_X12_215 (lit (kd := 12) (n := 48) rfl) rfl rfl (D 47 rfl) ?_
              refine j_goto C 180 (D 48 rfl) (by decide) ?_
              exact j_vret C P rfl (D 92 rfl) ⟨Nat.le_refl _, Nat.le_refl _⟩ (MX_o (a := (o, j)) (by rw [htr, if_pos h37, if_pos hd6n, hq]; exact thn_o hqt) (((((hF2.mo aPx).tr (F3.mo oPx)).tr F4).tr (F5.mo nPx)).tr (d3F.mo d3x)) (by rw [up2_i (by omega)]; exact t0) (by rw [up2_i (by omega), t1, g1, u1]; exact hF2 _ _ (fun z => by unfold aP at z; omega)) ⟨MS_d3 t2, CDM_r (CDM_r (CDM_l (fun b j h => (F3 b j (fun z => h (Or.inr z))).trans (hF2 b j (fun z => h (Or.inl z))) : Fx (fun b j => aP b j ∨ oP b j) I I3) (fun b j h => h.elim (aN b j) (oN b j)) g3) F5 nN) d3F d3N, up2_same _ _ _ _⟩)
    · have h23 : (tok f n i).1 = 23 := b2_ne h37
      have hlt := lt_sg hN hi1 h23 (by decide)
      refine j_aload_n C (D 20 rfl) rfl ?_
      refine j_iconst C (v := nI 1) (D 21 rfl) rfl ?_
      refine j_aload_n C (D 22 rfl) rfl ?_
      refine j_iconst C (v := nI 0) (D 23 rfl) rfl ?_
      refine j_aload_n C (D 24 rfl) rfl ?_
      refine j_geti C f_X12_184 (lit (kd := 12) (n := 48) rfl) rfl rfl (D 25 rfl) ?_
      refine j_iconst C (v := nI 1) (D 26 rfl) rfl ?_
      rw [hF2 _ _ (fun z => by unfold aP at z; omega), hP.2.2.2.2.2.2]
      refine j_isub C (D 27 rfl) ?_
      refine j_callV C B k_X12_178 (rc_obj C (lit (kd := 12) (n := 48) rfl) rfl rfl) (d_number _ _ hL hb (y1 h23) (by rw [hF2 _ _ (fun z => by unfold aP at z; omega)]; exact hP.2.1) (lo := 0) (by omega) (by omega) (evm (by omega))) rfl rfl (Nat.ble_eq_true_of_le (by omega)) rfl ⟨Nat.le_refl _, Nat.le_refl _⟩ (D 28 rfl) ?_
      rintro r w' ⟨I3, v2, rfl, rfl, F3, k0, k1⟩
      obtain ⟨e, hq⟩ | ⟨⟨v, j⟩, hq⟩ := rs_c (pNum (tok f n) (i + 1) 0 nE)
      · obtain ⟨e0, e1⟩ := k0 e hq
        have hd : ¬ I3 172 34 = 0 := dd_of e0 (pNum_er hq)
        refine j_callV C B k_X12_218 (rc_obj C (lit (kd := 12) (n := 48) rfl) rfl rfl) (d_putsF _ _ hL hd _ _) rfl rfl (Nat.ble_eq_true_of_le (by omega)) rfl ⟨Nat.le_refl _, Nat.le_refl _⟩ (D 29 rfl) ?_
        rintro r w' ⟨rfl, rfl⟩
        refine j_goto C 180 (D 30 rfl) (by decide) ?_
        exact j_vret C P rfl (D 92 rfl) ⟨Nat.le_refl _, Nat.le_refl _⟩ (MX_e (e := e) (by rw [htr, if_neg (by rw [h23]; decide), trm0, if_pos h23, hq]; rfl) ((hF2.mo aPx).tr (F3.mo nPx)) e0 e1)
      · obtain ⟨hv, g0, g1, g2⟩ := k1 _ hq
        have hv : v2 = nI v := hv
        subst hv
        have g2 : MS I3 f n j := g2
        obtain ⟨b1, b2, b3, b4⟩ := pNum_go hN (by omega) hq
        refine j_callV C B k_X12_218 (rc_obj C (lit (kd := 12) (n := 48) rfl) rfl rfl) (d_puts _ _ hL g0 (show I3 172 17 = nI m from by rw [F3 _ _ (fun z => by unfold nP at z; omega), hF2 _ _ (fun z => by unfold aP at z; omega)]; exact hP.2.2.1) (by omega) (1, nI v)) rfl rfl (Nat.ble_eq_true_of_le (by omega)) rfl ⟨Nat.le_refl _, Nat.le_refl _⟩ (D 29 rfl) ?_
        rintro r w' ⟨rfl, rfl⟩
        refine j_goto C 180 (D 30 rfl) (by decide) ?_
        exact j_vret C P rfl (D 92 rfl) ⟨Nat.le_refl _, Nat.le_refl _⟩ (MX_o (a := ([(1, nI v)], j)) (by rw [htr, if_neg (by rw [h23]; decide), trm0, if_pos h23, hq]; rfl) (((hF2.mo aPx).tr (F3.mo nPx)).tr put_F) (by rw [up2_i (by omega), up2_i (by omega)]; exact g0) (by rw [up2_i (by omega), up2_i (by omega), g1]; exact hF2 _ _ (fun z => by unfold aP at z; omega)) ⟨MS_pt g2, CDM_l ((hF2.mo aPn).tr F3) nN CDM_put, by rw [up2_i (by omega), up2_i (by omega), F3 _ _ (fun z => by unfold nP at z; omega), hF2 _ _ (fun z => by unfold aP at z; omega)]; exact hP.2.2.2.2.2.1⟩)
  · have h39 : (tok f n i).1 = 39 := (MS_2 hP.1).mp h13
    have hlt := lt_sg hN hi1 h39 (by decide)
    refine j_aload_n C (D 8 rfl) rfl ?_
    refine j_iconst C (v := nI 0) (D 9 rfl) rfl ?_
    refine j_aload_n C (D 10 rfl) rfl ?_
    refine j_iconst C (v := nI 0) (D 11 rfl) rfl ?_
    refine j_ldc C (v := 99999) (D 12 rfl) n_X12_177 ?_
    refine j_callV C B k_X12_178 (rc_obj C (lit (kd := 12) (n := 48) rfl) rfl rfl) (d_number _ _ hL hb hP.1 hP.2.1 (lo := 0) (hx := 100000) (hi := 99999) (by omega) (by omega) (by decide)) rfl rfl (Nat.ble_eq_true_of_le (by omega)) rfl ⟨Nat.le_refl _, Nat.le_refl _⟩ (D 13 rfl) ?_
    rintro r w' ⟨I2, v2, rfl, rfl, F3, k0, k1⟩
    obtain ⟨e, hq⟩ | ⟨⟨v, j⟩, hq⟩ := rs_c (pNum (tok f n) i 0 100000)
    · obtain ⟨e0, e1⟩ := k0 e hq
      have hd : ¬ I2 172 34 = 0 := dd_of e0 (pNum_er hq)
      refine j_callV C B k_X12_218 (rc_obj C (lit (kd := 12) (n := 48) rfl) rfl rfl) (d_putsF _ _ hL hd _ _) rfl rfl (Nat.ble_eq_true_of_le (by omega)) rfl ⟨Nat.le_refl _, Nat.le_refl _⟩ (D 14 rfl) ?_
      rintro r w' ⟨rfl, rfl⟩
      refine j_goto C 180 (D 15 rfl) (by decide) ?_
      exact j_vret C P rfl (D 92 rfl) ⟨Nat.le_refl _, Nat.le_refl _⟩ (MX_e (e := e) (by rw [htr, if_neg (by rw [h39]; decide), trm0, if_neg (by rw [h39]; decide), if_pos h39, hq]; rfl) (F3.mo nPx) e0 e1)
    · obtain ⟨hv, g0, g1, g2⟩ := k1 _ hq
      have hv : v2 = nI v := hv
      subst hv
      have g2 : MS I2 f n j := g2
      obtain ⟨b1, b2, b3, b4⟩ := pNum_go hN (by omega) hq
      refine j_callV C B k_X12_218 (rc_obj C (lit (kd := 12) (n := 48) rfl) rfl rfl) (d_puts _ _ hL g0 (show I2 172 17 = nI m from by rw [F3 _ _ (fun z => by unfold nP at z; omega)]; exact hP.2.2.1) (by omega) (0, nI v)) rfl rfl (Nat.ble_eq_true_of_le (by omega)) rfl ⟨Nat.le_refl _, Nat.le_refl _⟩ (D 14 rfl) ?_
      rintro r w' ⟨rfl, rfl⟩
      refine j_goto C 180 (D 15 rfl) (by decide) ?_
      exact j_vret C P rfl (D 92 rfl) ⟨Nat.le_refl _, Nat.le_refl _⟩ (MX_o (a := ([(0, nI v)], j)) (by rw [htr, if_neg (by rw [h39]; decide), trm0, if_neg (by rw [h39]; decide), if_pos h39, hq]; rfl) ((F3.mo nPx).tr put_F) (by rw [up2_i (by omega), up2_i (by omega)]; exact g0) (by rw [up2_i (by omega), up2_i (by omega)]; exact g1) ⟨MS_pt g2, CDM_l F3 nN CDM_put, by rw [up2_i (by omega), up2_i (by omega), F3 _ _ (fun z => by unfold nP at z; omega)]; exact hP.2.2.2.2.2.1⟩)
