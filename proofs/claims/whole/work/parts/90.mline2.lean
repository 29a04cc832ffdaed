theorem ev_e {T : Nat → TK} {V : VT} {tt : Bool} {i : Nat} {e : Nat × Nat} (h : (if vE V < 10 then pEv T (i + 1) else .inl (fl T i 4)) = .inl e) : (if vE V < 10 then bnd (pEv T (i + 1)) fun x => (.inr ((addEv V x.1, tt), x.2) : RS LST) else .inl (fl T i 4)) = .inl e := by
  by_cases z : vE V < 10
  · rw [if_pos z] at h ⊢
    rw [h, bnd_l]
  · rw [if_neg z] at h ⊢
    cases h
    rfl
theorem pEv_er {T : Nat → TK} {i : Nat} {e : Nat × Nat} (h : pEv T i = .inl e) : 1 ≤ e.1 ∧ e.1 ≤ 4 := by
  unfold pEv at h
  by_cases c : (T i).1 = 2 ∨ (T i).1 = 1
  · rw [if_pos c] at h
    rcases bnd_er h with z | ⟨a, z, h⟩
    · exact pTake_er z
    rcases bnd_er h with z | ⟨b, z, h⟩
    · exact pNum_er z
    rcases bnd_er h with z | ⟨x, z, h⟩
    · unfold pCur at z
      by_cases d : (T b.2).1 = 9
      · rw [if_pos d] at z
        rcases bnd_er z with y | ⟨y, y2, z⟩
        · exact pTab_er y
        · cases z
      · rw [if_neg d] at z
        by_cases d2 : crv (T b.2).1 = 99
        · rw [if_pos d2] at z; cases z; exact ⟨(by show 1 ≤ 1; omega), (by show 1 ≤ 4; omega)⟩
        · rw [if_neg d2] at z
          unfold pFor at z
          rcases bnd_er z with y | ⟨y, y2, z⟩
          · exact pNum_er y
          rcases bnd_er z with y | ⟨y, y2, z⟩
          · exact pTake_er y
          rcases bnd_er z with y | ⟨y, y2, z⟩
          · exact pNum_er y
          · cases z
    rcases bnd_er h with z | ⟨x, z, h⟩
    · unfold pSpr at z
      split at z
      · exact pNum_er z
      · cases z
    · cases h
  · rw [if_neg c] at h; cases h; exact ⟨(by show 1 ≤ 1; omega), (by show 1 ≤ 4; omega)⟩
theorem pBon_er {T : Nat → TK} {N : Nat} {V : VT} {tt : Bool} {i : Nat} {e : Nat × Nat} (hT : TN T N) (hE : vE V ≤ 10) (hi : i < N) (h : pBon T V tt i = .inl e) : 1 ≤ e.1 ∧ e.1 ≤ 4 := by
  unfold pBon at h
  rcases bnd_er h with z | ⟨⟨a, j⟩, z, h⟩
  · exact pNum_er z
  obtain ⟨b1, b2, b3, b4⟩ := pNum_go hT (by omega) z
  rcases bnd_er h with z | ⟨j2, z, h⟩
  · exact pTake_er z
  obtain ⟨c1, c2⟩ := pTake_go hT (by show j ≤ N; omega) (by omega) z
  rcases bnd_er h with z | ⟨x, z, h⟩
  · have hk := tst_ok (nE := vE V) hT.2.1 hE 6 j2 (by have c2 : j2 = j + 1 := c2; omega)
    rw [z] at hk
    exact hk
  · cases h
set_option maxRecDepth 20000 in
theorem d_readLine (l : Launch) (G : GT) {I : Nat → Nat → Int32} {L : Nat → Nat → Int64} {R : Nat → Nat → Option Nat} (hL : Lay R) {f : Nat → Int32} {n N i : Nat} {V : VT} {tt : Bool} (hb : BY f n) (hN : TN (tok f n) N) (hP : LMx I f n N V tt i) : Mt l G mX12_readLine (30) 0 0 [.ref (ra G 172)] (wd I L R) (MX I L R lM (lmO f n) (pLn (tok f n) V tt i)) := by
  refine mt_of (own := RX12) (by decide) rfl rfl (fun Z C P B => ?_)
  have D := @dc_of _ _ dX12_readLine
  have hnn := hb.1
  have hN1 := hN.1
  have hS := hP.1
  have hg := hP.2.1
  have hD := hP.2.2.1
  have htt := hP.2.2.2.1
  have hV := hP.2.2.2.2.1.1
  have hoff := hP.2.2.2.2.1.2
  have hlt := hP.2.2.2.2.2
  have hE10 := hV.1
  have hA8 := hV.2.1
  have hB4 := hV.2.2.1
  have D267 : ∀ (e : Nat × Nat) (I1 : Nat → Nat → Int32) (x1 x2 x3 x4 x5 : Option Value), pLn0 (tok f n) V tt i = .inl e → Fx lM I I1 → I1 172 34 = nI e.1 → I1 172 35 = nI e.2 → ¬ I1 172 34 = 0 → J Z (0, 0) 267 [some (.ref (ra G 172)), x1, x2, x3, x4, x5] [] (wd I1 L R) := by
    intro e I1 x1 x2 x3 x4 x5 hres hF e0 e1 hd
    refine j_aload_n C (D 137 rfl) rfl ?_
    refine j_bipush C (v := nI 59) (D 138 rfl) rfl ?_
    refine j_callV C B k_X12_181 (rc_obj C (lit (kd := 12) (n := 48) rfl) rfl rfl) (d_passesByteF _ _ hL hd _) rfl rfl rfl rfl ⟨Nat.le_refl _, Nat.le_refl _⟩ (D 139 rfl) ?_
    rintro r w' ⟨rfl, rfl⟩
    exact j_vret C P rfl (D 140 rfl) ⟨Nat.le_refl _, Nat.le_refl _⟩ (MX_e (by unfold pLn; rw [hres, bnd_l]) hF e0 e1)
  have G267 : ∀ (V2 : VT) (t2 : Bool) (j : Nat) (I1 : Nat → Nat → Int32) (x1 x2 x3 x4 x5 : Option Value), pLn0 (tok f n) V tt i = .inr ((V2, t2), j) → MS I1 f n j → I1 172 34 = nI 0 → I1 172 35 = I 172 35 → MDr I1 V2 → I1 172 18 = b2 (t2 = true) → Fx lM I I1 → J Z (0, 0) 267 [some (.ref (ra G 172)), x1, x2, x3, x4, x5] [] (wd I1 L R) := by
    intro V2 t2 j I1 x1 x2 x3 x4 x5 hres hS1 hg1 hz35 hD1 h18 hF
    obtain ⟨hLI, -, hj⟩ := pLn0_go hN hlt hP.2.2.2.2.1 hres
    refine j_aload_n C (D 137 rfl) rfl ?_
    refine j_bipush C (v := nI 59) (D 138 rfl) rfl ?_
    refine j_callV C B k_X12_181 (rc_obj C (lit (kd := 12) (n := 48) rfl) rfl rfl) (d_passesByte _ _ hL hb hS1 hg1 (s := 27) (v := 59) (by decide) (by decide) (by decide) (by decide)) rfl rfl rfl rfl ⟨Nat.le_refl _, Nat.le_refl _⟩ (D 139 rfl) ?_
    rintro r w' ⟨rfl, I2, rfl, F2, k0, k1⟩
    obtain ⟨e, hq⟩ | ⟨j2, hq⟩ := rs_c (pTake (tok f n) j 27)
    · obtain ⟨e0, e1⟩ := k0 e hq
      exact j_vret C P rfl (D 140 rfl) ⟨Nat.le_refl _, Nat.le_refl _⟩ (MX_e (e := e) (by unfold pLn; rw [hres, bnd_r, hq, bnd_l]) (hF.tr (F2.mo nPl)) e0 e1)
    · obtain ⟨g0, g1, g2⟩ := k1 j2 hq
      exact j_vret C P rfl (D 140 rfl) ⟨Nat.le_refl _, Nat.le_refl _⟩ (MX_o (a := ((V2, t2), j2)) (by unfold pLn; rw [hres, bnd_r, hq, bnd_r]) (hF.tr (F2.mo nPl)) g0 (by rw [g1]; exact hz35) ⟨g2, MD_r hLI.1 hD1 F2 nPM, by rw [n18 F2]; exact h18⟩)
  refine j_aload_n C (D 0 rfl) rfl ?_
  refine j_ldc_wS C (i := 0) (by decide) rfl (D 1 rfl) ?_
  refine j_cVp C B k_X12_154 (rc_obj C (lit (kd := 12) (n := 48) rfl) rfl rfl) (d_isWord _ _ hL hb hS hg 0 (by decide)) rfl rfl rfl rfl ⟨Nat.le_refl _, Nat.le_refl _⟩ (D 2 rfl) ?_
  refine j_if_eq C  17 (D 3 rfl) (by decide) (fun h7 => ?_) (fun h7 => ?_)
  · refine j_aload_n C (D 7 rfl) rfl ?_
    refine j_ldc_wS C (i := 10) (by decide) rfl (D 8 rfl) ?_
    refine j_cVp C B k_X12_154 (rc_obj C (lit (kd := 12) (n := 48) rfl) rfl rfl) (d_isWord _ _ hL hb hS hg 10 (by decide)) rfl rfl rfl rfl ⟨Nat.le_refl _, Nat.le_refl _⟩ (D 9 rfl) ?_
    refine j_if_eq C  34 (D 10 rfl) (by decide) (fun h24 => ?_) (fun h24 => ?_)
    · refine j_aload_n C (D 14 rfl) rfl ?_
      refine j_ldc_wS C (i := 14) (by decide) rfl (D 15 rfl) ?_
      refine j_cVp C B k_X12_154 (rc_obj C (lit (kd := 12) (n := 48) rfl) rfl rfl) (d_isWord _ _ hL hb hS hg 14 (by decide)) rfl rfl rfl rfl ⟨Nat.le_refl _, Nat.le_refl _⟩ (D 16 rfl) ?_
      refine j_if_eq C  51 (D 17 rfl) (by decide) (fun h41 => ?_) (fun h41 => ?_)
      · refine j_aload_n C (D 21 rfl) rfl ?_
        refine j_ldc_wS C (i := 23) (by decide) rfl (D 22 rfl) ?_
        refine j_cVp C B k_X12_154 (rc_obj C (lit (kd := 12) (n := 48) rfl) rfl rfl) (d_isWord _ _ hL hb hS hg 23 (by decide)) rfl rfl rfl rfl ⟨Nat.le_refl _, Nat.le_refl _⟩ (D 23 rfl) ?_
        refine j_if_eq C  103 (D 24 rfl) (by decide) (fun h58 => ?_) (fun h58 => ?_)
        · refine j_aload_n C (D 46 rfl) rfl ?_
          refine j_ldc_wS C (i := 24) (by decide) rfl (D 47 rfl) ?_
          refine j_cVp C B k_X12_154 (rc_obj C (lit (kd := 12) (n := 48) rfl) rfl rfl) (d_isWord _ _ hL hb hS hg 24 (by decide)) rfl rfl rfl rfl ⟨Nat.le_refl _, Nat.le_refl _⟩ (D 48 rfl) ?_
          refine j_if_ne C  123 (D 49 rfl) (by decide) (fun h110 => ?_) (fun h110 => ?_)
          · have hs : (tok f n i).1 = 17 := b2_ne h110
            have hsn : spo f n i < n := tok_lt_n (by rw [hs]; decide)
            have hl0 : pLn0 (tok f n) V tt i = pMk (tok f n) V tt i := by unfold pLn0; rw [if_neg (show ¬ (tok f n i).1 = 0 from b2_eq h7), if_neg (show ¬ (tok f n i).1 = 10 from b2_eq h24), if_neg (show ¬ (tok f n i).1 = 14 from b2_eq h41), if_neg (show ¬ (tok f n i).1 = 16 from b2_eq h58), if_pos (show (tok f n i).1 = 17 from hs)]
            refine j_aload_n C (D 54 rfl) rfl ?_
            refine j_ldc_wS C (i := 24) (by decide) rfl (D 55 rfl) ?_
            refine j_cVp C B k_X12_154 (rc_obj C (lit (kd := 12) (n := 48) rfl) rfl rfl) (d_isWord _ _ hL hb hS hg 24 (by decide)) rfl rfl rfl rfl ⟨Nat.le_refl _, Nat.le_refl _⟩ (D 56 rfl) ?_
            rw [show b2 ((tok f n i).1 = mws.getD 24 0) = nI 1 from (b2_t (show (tok f n i).1 = mws.getD 24 0 from hs)).symm]
            refine j_istore_n C (D 57 rfl) rfl ?_
            refine j_aload_n C (D 58 rfl) rfl ?_
            refine j_callV C B k_X12_158 (rc_obj C (lit (kd := 12) (n := 48) rfl) rfl rfl) (d_advance _ _ hL hb hS hsn) rfl rfl rfl rfl ⟨Nat.le_refl _, Nat.le_refl _⟩ (D 59 rfl) ?_
            rintro r w' ⟨rfl, I2, rfl, F2, S2⟩
            have hg2 : I2 172 34 = nI 0 := by rw [F2 _ _ (fun z => by unfold aP at z; omega)]; exact hg
            refine j_aload_n C (D 60 rfl) rfl ?_
            refine j_iconst C (v := nI 0) (D 61 rfl) rfl ?_
            refine j_aload_n C (D 62 rfl) rfl ?_
            refine j_geti C f_X12_286 (lit (kd := 12) (n := 48) rfl) rfl rfl (D 63 rfl) ?_
            rw [F2 _ _ (fun z => by unfold aP at z; omega), hD.2.1]
            refine j_iconst C (v := nI 1) (D 64 rfl) rfl ?_
            refine j_isub C (D 65 rfl) ?_
            refine j_callV C B k_X12_178 (rc_obj C (lit (kd := 12) (n := 48) rfl) rfl rfl) (d_number _ _ hL hb S2 hg2 (lo := 0) (by omega) (by omega) (evm (by omega))) rfl rfl rfl rfl ⟨Nat.le_refl _, Nat.le_refl _⟩ (D 66 rfl) ?_
            rintro r w' ⟨I3, v3, rfl, rfl, F3, k0, k1⟩
            obtain ⟨e, hqa⟩ | ⟨⟨a, j⟩, hqa⟩ := rs_c (pNum (tok f n) (i + 1) 0 (vA V))
            · obtain ⟨e0, e1⟩ := k0 e hqa
              have hd : ¬ I3 172 34 = 0 := dd_of e0 (pNum_er hqa)
              refine j_istore_n C (D 67 rfl) rfl ?_
              refine j_aload_n C (D 68 rfl) rfl ?_
              refine j_iconst C (v := nI 0) (D 69 rfl) rfl ?_
              refine j_aload_n C (D 70 rfl) rfl ?_
              refine j_geti C f_X12_184 (lit (kd := 12) (n := 48) rfl) rfl rfl (D 71 rfl) ?_
              refine j_iconst C (v := nI 1) (D 72 rfl) rfl ?_
              refine j_isub C (D 73 rfl) ?_
              refine j_callV C B k_X12_178 (rc_obj C (lit (kd := 12) (n := 48) rfl) rfl rfl) (d_numberF _ _ hL hd _ _) rfl rfl rfl rfl ⟨Nat.le_refl _, Nat.le_refl _⟩ (D 74 rfl) ?_
              rintro r w' ⟨v9, rfl, rfl⟩
              refine j_istore_n C (D 75 rfl) rfl ?_
              refine j_aload_n C (D 76 rfl) rfl ?_
              refine j_iconst C (v := nI 0) (D 77 rfl) rfl ?_
              refine j_ldc C (v := 99999) (D 78 rfl) n_X12_177 ?_
              refine j_callV C B k_X12_178 (rc_obj C (lit (kd := 12) (n := 48) rfl) rfl rfl) (d_numberF _ _ hL hd _ _) rfl rfl rfl rfl ⟨Nat.le_refl _, Nat.le_refl _⟩ (D 79 rfl) ?_
              rintro r w' ⟨v9, rfl, rfl⟩
              refine j_istore C (D 80 rfl) rfl ?_
              refine j_iload_n C (D 81 rfl) rfl ?_
              refine j_if_ne C  179 (D 82 rfl) (by decide) (fun h169 => ?_) (fun h169 => absurd h169 (by decide))
              refine j_iload_n C (D 86 rfl) rfl ?_
              refine j_if_eq C  187 (D 87 rfl) (by decide) (fun h180 => absurd h180 (by decide)) (fun h180 => ?_)
              refine j_iconst C (v := nI 0) (D 88 rfl) rfl ?_
              refine j_goto C 195 (D 89 rfl) (by decide) ?_
              refine j_istore C (D 94 rfl) rfl ?_
              refine j_aload_n C (D 95 rfl) rfl ?_
              refine j_cVp C B k_X12_106 (rc_obj C (lit (kd := 12) (n := 48) rfl) rfl rfl) (d_goodF _ _ hL hd) rfl rfl rfl rfl ⟨Nat.le_refl _, Nat.le_refl _⟩ (D 96 rfl) ?_
              refine j_if_ne C  205 (D 97 rfl) (by decide) (fun h201 => absurd h201 (fun z => z rfl)) (fun h201 => ?_)
              exact j_vret C P rfl (D 98 rfl) ⟨Nat.le_refl _, Nat.le_refl _⟩ (MX_e (e := e) (by unfold pLn; rw [hl0]; unfold pMk pCell; simp only [hqa, bnd_l, bnd_r]) ((F2.mo aPl).tr (F3.mo nPl)) e0 e1)
            · obtain ⟨hv, qa0, qa1, qa2⟩ := k1 _ hqa
              have hv : v3 = nI a := hv
              subst hv
              have qa2 : MS I3 f n j := qa2
              obtain ⟨qab1, qab2, qab3, qab4⟩ := pNum_go hN (by omega) hqa
              refine j_istore_n C (D 67 rfl) rfl ?_
              refine j_aload_n C (D 68 rfl) rfl ?_
              refine j_iconst C (v := nI 0) (D 69 rfl) rfl ?_
              refine j_aload_n C (D 70 rfl) rfl ?_
              refine j_geti C f_X12_184 (lit (kd := 12) (n := 48) rfl) rfl rfl (D 71 rfl) ?_
              rw [F3 _ _ (fun z => by unfold nP at z; omega), F2 _ _ (fun z => by unfold aP at z; omega), hD.1]
              refine j_iconst C (v := nI 1) (D 72 rfl) rfl ?_
              refine j_isub C (D 73 rfl) ?_
              refine j_callV C B k_X12_178 (rc_obj C (lit (kd := 12) (n := 48) rfl) rfl rfl) (d_number _ _ hL hb qa2 qa0 (lo := 0) (by omega) (by omega) (evm (by omega))) rfl rfl rfl rfl ⟨Nat.le_refl _, Nat.le_refl _⟩ (D 74 rfl) ?_
              rintro r w' ⟨I4, v4, rfl, rfl, F4, k0, k1⟩
              obtain ⟨e, hqe⟩ | ⟨⟨e, j2⟩, hqe⟩ := rs_c (pNum (tok f n) j 0 (vE V))
              · obtain ⟨e0, e1⟩ := k0 e hqe
                have hd : ¬ I4 172 34 = 0 := dd_of e0 (pNum_er hqe)
                refine j_istore_n C (D 75 rfl) rfl ?_
                refine j_aload_n C (D 76 rfl) rfl ?_
                refine j_iconst C (v := nI 0) (D 77 rfl) rfl ?_
                refine j_ldc C (v := 99999) (D 78 rfl) n_X12_177 ?_
                refine j_callV C B k_X12_178 (rc_obj C (lit (kd := 12) (n := 48) rfl) rfl rfl) (d_numberF _ _ hL hd _ _) rfl rfl rfl rfl ⟨Nat.le_refl _, Nat.le_refl _⟩ (D 79 rfl) ?_
                rintro r w' ⟨v9, rfl, rfl⟩
                refine j_istore C (D 80 rfl) rfl ?_
                refine j_iload_n C (D 81 rfl) rfl ?_
                refine j_if_ne C  179 (D 82 rfl) (by decide) (fun h169 => ?_) (fun h169 => absurd h169 (by decide))
                refine j_iload_n C (D 86 rfl) rfl ?_
                refine j_if_eq C  187 (D 87 rfl) (by decide) (fun h180 => absurd h180 (by decide)) (fun h180 => ?_)
                refine j_iconst C (v := nI 0) (D 88 rfl) rfl ?_
                refine j_goto C 195 (D 89 rfl) (by decide) ?_
                refine j_istore C (D 94 rfl) rfl ?_
                refine j_aload_n C (D 95 rfl) rfl ?_
                refine j_cVp C B k_X12_106 (rc_obj C (lit (kd := 12) (n := 48) rfl) rfl rfl) (d_goodF _ _ hL hd) rfl rfl rfl rfl ⟨Nat.le_refl _, Nat.le_refl _⟩ (D 96 rfl) ?_
                refine j_if_ne C  205 (D 97 rfl) (by decide) (fun h201 => absurd h201 (fun z => z rfl)) (fun h201 => ?_)
                exact j_vret C P rfl (D 98 rfl) ⟨Nat.le_refl _, Nat.le_refl _⟩ (MX_e (e := e) (by unfold pLn; rw [hl0]; unfold pMk pCell; simp only [hqa, hqe, bnd_l, bnd_r]) (((F2.mo aPl).tr (F3.mo nPl)).tr (F4.mo nPl)) e0 e1)
              · obtain ⟨hv, qe0, qe1, qe2⟩ := k1 _ hqe
                have hv : v4 = nI e := hv
                subst hv
                have qe2 : MS I4 f n j2 := qe2
                obtain ⟨qeb1, qeb2, qeb3, qeb4⟩ := pNum_go hN (by omega) hqe
                refine j_istore_n C (D 75 rfl) rfl ?_
                refine j_aload_n C (D 76 rfl) rfl ?_
                refine j_iconst C (v := nI 0) (D 77 rfl) rfl ?_
                refine j_ldc C (v := 99999) (D 78 rfl) n_X12_177 ?_
                refine j_callV C B k_X12_178 (rc_obj C (lit (kd := 12) (n := 48) rfl) rfl rfl) (d_number _ _ hL hb qe2 qe0 (lo := 0) (hx := 100000) (hi := 99999) (by omega) (by omega) (by decide)) rfl rfl rfl rfl ⟨Nat.le_refl _, Nat.le_refl _⟩ (D 79 rfl) ?_
                rintro r w' ⟨I5, v5, rfl, rfl, F5, k0, k1⟩
                obtain ⟨e, hqv⟩ | ⟨⟨v, j3⟩, hqv⟩ := rs_c (pNum (tok f n) j2 0 100000)
                · obtain ⟨e0, e1⟩ := k0 e hqv
                  have hd : ¬ I5 172 34 = 0 := dd_of e0 (pNum_er hqv)
                  refine j_istore C (D 80 rfl) rfl ?_
                  refine j_iload_n C (D 81 rfl) rfl ?_
                  refine j_if_ne C  179 (D 82 rfl) (by decide) (fun h169 => ?_) (fun h169 => absurd h169 (by decide))
                  refine j_iload_n C (D 86 rfl) rfl ?_
                  refine j_if_eq C  187 (D 87 rfl) (by decide) (fun h180 => absurd h180 (by decide)) (fun h180 => ?_)
                  refine j_iconst C (v := nI 0) (D 88 rfl) rfl ?_
                  refine j_goto C 195 (D 89 rfl) (by decide) ?_
                  refine j_istore C (D 94 rfl) rfl ?_
                  refine j_aload_n C (D 95 rfl) rfl ?_
                  refine j_cVp C B k_X12_106 (rc_obj C (lit (kd := 12) (n := 48) rfl) rfl rfl) (d_goodF _ _ hL hd) rfl rfl rfl rfl ⟨Nat.le_refl _, Nat.le_refl _⟩ (D 96 rfl) ?_
                  refine j_if_ne C  205 (D 97 rfl) (by decide) (fun h201 => absurd h201 (fun z => z rfl)) (fun h201 => ?_)
                  exact j_vret C P rfl (D 98 rfl) ⟨Nat.le_refl _, Nat.le_refl _⟩ (MX_e (e := e) (by unfold pLn; rw [hl0]; unfold pMk pCell; simp only [hqa, hqe, hqv, bnd_l, bnd_r]) ((((F2.mo aPl).tr (F3.mo nPl)).tr (F4.mo nPl)).tr (F5.mo nPl)) e0 e1)
                · obtain ⟨hv, qv0, qv1, qv2⟩ := k1 _ hqv
                  have hv : v5 = nI v := hv
                  subst hv
                  have qv2 : MS I5 f n j3 := qv2
                  obtain ⟨qvb1, qvb2, qvb3, qvb4⟩ := pNum_go hN (by omega) hqv
                  refine j_istore C (D 80 rfl) rfl ?_
                  refine j_iload_n C (D 81 rfl) rfl ?_
                  refine j_if_ne C  179 (D 82 rfl) (by decide) (fun h169 => ?_) (fun h169 => absurd h169 (by decide))
                  refine j_iload_n C (D 86 rfl) rfl ?_
                  refine j_if_eq C  187 (D 87 rfl) (by decide) (fun h180 => absurd h180 (by decide)) (fun h180 => ?_)
                  refine j_iconst C (v := nI 0) (D 88 rfl) rfl ?_
                  refine j_goto C 195 (D 89 rfl) (by decide) ?_
                  refine j_istore C (D 94 rfl) rfl ?_
                  refine j_aload_n C (D 95 rfl) rfl ?_
                  refine j_cVp C B k_X12_106 (rc_obj C (lit (kd := 12) (n := 48) rfl) rfl rfl) (d_goodT _ _ hL qv0) rfl rfl rfl rfl ⟨Nat.le_refl _, Nat.le_refl _⟩ (D 96 rfl) ?_
                  refine j_if_ne C  205 (D 97 rfl) (by decide) (fun h201 => ?_) (fun h201 => absurd h201 (by decide))
                  refine j_iload_n C (D 99 rfl) rfl ?_
                  refine j_if_eq C  225 (D 100 rfl) (by decide) (fun h206 => absurd h206 (by decide)) (fun h206 => ?_)
                  refine j_aload_n C (D 101 rfl) rfl ?_
                  refine j_getr C f_X12_43 (lit (kd := 12) (n := 48) rfl) rfl rfl (hL _ _ _ rfl) (D 102 rfl) ?_
                  refine j_bipush C (v := nI 10) (D 103 rfl) rfl ?_
                  refine j_iload_n C (D 104 rfl) rfl ?_
                  refine j_imul C (D 105 rfl) ?_
                  refine j_iload_n C (D 106 rfl) rfl ?_
                  refine j_iadd C (D 107 rfl) ?_
                  rw [pk_mul, nI_add]
                  refine j_iload C (D 108 rfl) rfl ?_
                  refine j_iast C (lit (kd := 20) (n := 80) rfl) (ix_n (by omega) (by decide)) (D 109 rfl) ?_
                  refine j_goto C 238 (D 110 rfl) (by decide) ?_
                  refine j_iload_n C (D 120 rfl) rfl ?_
                  refine j_if_ne C  255 (D 121 rfl) (by decide) (fun h239 => ?_) (fun h239 => absurd h239 (by decide))
                  refine j_goto C 267 (D 131 rfl) (by decide) ?_
                  exact G267 (mkV V a e (nI v)) tt j3 _ _ _ _ _ _ (by rw [hl0]; unfold pMk pCell; simp only [hqa, hqe, hqv, bnd_r]) (MS_go qv2 (Fx.up (Fx.rf (fun b _ => b = 184) _) rfl) (fun b j z => by omega)) (by rw [up2_i (by omega)]; exact qv0) (by rw [up2_i (by omega), qv1, qe1, qa1, F2 _ _ (fun z => by unfold aP at z; omega)]) (MD_mk hV qab4 (by omega) (MD_r hV hD (Fx.tr (F2.mo aPM) ((F3.mo nPM).tr ((F4.mo nPM).tr (F5.mo nPM)))) (fun b j z => z))) (by rw [up2_i (by omega), F5 _ _ (fun z => by unfold nP at z; omega), F4 _ _ (fun z => by unfold nP at z; omega), F3 _ _ (fun z => by unfold nP at z; omega), F2 _ _ (fun z => by unfold aP at z; omega)]; exact htt) (Fx.up ((((F2.mo aPl).tr (F3.mo nPl)).tr (F4.mo nPl)).tr (F5.mo nPl)) (Or.inr ⟨by omega, by omega, by omega⟩))
          · refine j_aload_n C (D 50 rfl) rfl ?_
            refine j_ldc_wS C (i := 25) (by decide) rfl (D 51 rfl) ?_
            refine j_cVp C B k_X12_154 (rc_obj C (lit (kd := 12) (n := 48) rfl) rfl rfl) (d_isWord _ _ hL hb hS hg 25 (by decide)) rfl rfl rfl rfl ⟨Nat.le_refl _, Nat.le_refl _⟩ (D 52 rfl) ?_
            refine j_if_eq C  258 (D 53 rfl) (by decide) (fun h120 => ?_) (fun h120 => ?_)
            · refine j_aload_n C (D 132 rfl) rfl ?_
              refine j_iconst C (v := nI 1) (D 133 rfl) rfl ?_
              refine j_aload_n C (D 134 rfl) rfl ?_
              refine j_geti C f_X12_120 (lit (kd := 12) (n := 48) rfl) rfl rfl (D 135 rfl) ?_
              rw [hS.2.1]
              refine j_callV C B k_X12_168 (rc_obj C (lit (kd := 12) (n := 48) rfl) rfl rfl) (d_errsT _ _ hL hg _ _) rfl rfl rfl rfl ⟨Nat.le_refl _, Nat.le_refl _⟩ (D 136 rfl) ?_
              rintro r w' ⟨rfl, rfl⟩
              exact D267 (fl (tok f n) i 1) _ _ _ _ _ _ (by unfold pLn0; rw [if_neg (show ¬ (tok f n i).1 = 0 from b2_eq h7), if_neg (show ¬ (tok f n i).1 = 10 from b2_eq h24), if_neg (show ¬ (tok f n i).1 = 14 from b2_eq h41), if_neg (show ¬ (tok f n i).1 = 16 from b2_eq h58), if_neg (show ¬ (tok f n i).1 = 17 from b2_eq h110), if_neg (show ¬ (tok f n i).1 = 18 from b2_eq h120)]) (Fx.up (Fx.up (Fx.rf _ _) (Or.inl ⟨rfl, by omega⟩)) (Or.inl ⟨rfl, by omega⟩)) (by rw [up2_i (by omega), up2_same]; rfl) (by rw [up2_same]; show _ = nI (tok f n i).2.1; rw [tok_2]) (dd_of (k := 1) (by rw [up2_i (by omega), up2_same]) (by omega))
            · have hs : (tok f n i).1 = 18 := b2_ne h120
              have hsn : spo f n i < n := tok_lt_n (by rw [hs]; decide)
              have hl0 : pLn0 (tok f n) V tt i = pGn (tok f n) V tt i := by unfold pLn0; rw [if_neg (show ¬ (tok f n i).1 = 0 from b2_eq h7), if_neg (show ¬ (tok f n i).1 = 10 from b2_eq h24), if_neg (show ¬ (tok f n i).1 = 14 from b2_eq h41), if_neg (show ¬ (tok f n i).1 = 16 from b2_eq h58), if_neg (show ¬ (tok f n i).1 = 17 from b2_eq h110), if_pos (show (tok f n i).1 = 18 from hs)]
              refine j_aload_n C (D 54 rfl) rfl ?_
              refine j_ldc_wS C (i := 24) (by decide) rfl (D 55 rfl) ?_
              refine j_cVp C B k_X12_154 (rc_obj C (lit (kd := 12) (n := 48) rfl) rfl rfl) (d_isWord _ _ hL hb hS hg 24 (by decide)) rfl rfl rfl rfl ⟨Nat.le_refl _, Nat.le_refl _⟩ (D 56 rfl) ?_
              rw [show b2 ((tok f n i).1 = mws.getD 24 0) = nI 0 from (b2_f (b2_eq h110)).symm]
              refine j_istore_n C (D 57 rfl) rfl ?_
              refine j_aload_n C (D 58 rfl) rfl ?_
              refine j_callV C B k_X12_158 (rc_obj C (lit (kd := 12) (n := 48) rfl) rfl rfl) (d_advance _ _ hL hb hS hsn) rfl rfl rfl rfl ⟨Nat.le_refl _, Nat.le_refl _⟩ (D 59 rfl) ?_
              rintro r w' ⟨rfl, I2, rfl, F2, S2⟩
              have hg2 : I2 172 34 = nI 0 := by rw [F2 _ _ (fun z => by unfold aP at z; omega)]; exact hg
              refine j_aload_n C (D 60 rfl) rfl ?_
              refine j_iconst C (v := nI 0) (D 61 rfl) rfl ?_
              refine j_aload_n C (D 62 rfl) rfl ?_
              refine j_geti C f_X12_286 (lit (kd := 12) (n := 48) rfl) rfl rfl (D 63 rfl) ?_
              rw [F2 _ _ (fun z => by unfold aP at z; omega), hD.2.1]
              refine j_iconst C (v := nI 1) (D 64 rfl) rfl ?_
              refine j_isub C (D 65 rfl) ?_
              refine j_callV C B k_X12_178 (rc_obj C (lit (kd := 12) (n := 48) rfl) rfl rfl) (d_number _ _ hL hb S2 hg2 (lo := 0) (by omega) (by omega) (evm (by omega))) rfl rfl rfl rfl ⟨Nat.le_refl _, Nat.le_refl _⟩ (D 66 rfl) ?_
              rintro r w' ⟨I3, v3, rfl, rfl, F3, k0, k1⟩
              obtain ⟨e, hqa⟩ | ⟨⟨a, j⟩, hqa⟩ := rs_c (pNum (tok f n) (i + 1) 0 (vA V))
              · obtain ⟨e0, e1⟩ := k0 e hqa
                have hd : ¬ I3 172 34 = 0 := dd_of e0 (pNum_er hqa)
                refine j_istore_n C (D 67 rfl) rfl ?_
                refine j_aload_n C (D 68 rfl) rfl ?_
                refine j_iconst C (v := nI 0) (D 69 rfl) rfl ?_
                refine j_aload_n C (D 70 rfl) rfl ?_
                refine j_geti C f_X12_184 (lit (kd := 12) (n := 48) rfl) rfl rfl (D 71 rfl) ?_
                refine j_iconst C (v := nI 1) (D 72 rfl) rfl ?_
                refine j_isub C (D 73 rfl) ?_
                refine j_callV C B k_X12_178 (rc_obj C (lit (kd := 12) (n := 48) rfl) rfl rfl) (d_numberF _ _ hL hd _ _) rfl rfl rfl rfl ⟨Nat.le_refl _, Nat.le_refl _⟩ (D 74 rfl) ?_
                rintro r w' ⟨v9, rfl, rfl⟩
                refine j_istore_n C (D 75 rfl) rfl ?_
                refine j_aload_n C (D 76 rfl) rfl ?_
                refine j_iconst C (v := nI 0) (D 77 rfl) rfl ?_
                refine j_ldc C (v := 99999) (D 78 rfl) n_X12_177 ?_
                refine j_callV C B k_X12_178 (rc_obj C (lit (kd := 12) (n := 48) rfl) rfl rfl) (d_numberF _ _ hL hd _ _) rfl rfl rfl rfl ⟨Nat.le_refl _, Nat.le_refl _⟩ (D 79 rfl) ?_
                rintro r w' ⟨v9, rfl, rfl⟩
                refine j_istore C (D 80 rfl) rfl ?_
                refine j_iload_n C (D 81 rfl) rfl ?_
                refine j_if_ne C  179 (D 82 rfl) (by decide) (fun h169 => absurd h169 (fun z => z rfl)) (fun h169 => ?_)
                refine j_aload_n C (D 83 rfl) rfl ?_
                refine j_ldc_wS C (i := 26) (by decide) rfl (D 84 rfl) ?_
                refine j_callV C B k_X12_193 (rc_obj C (lit (kd := 12) (n := 48) rfl) rfl rfl) (d_passesF _ _ hL hd 26 (by decide)) rfl rfl rfl rfl ⟨Nat.le_refl _, Nat.le_refl _⟩ (D 85 rfl) ?_
                rintro r w' ⟨rfl, rfl⟩
                refine j_iload_n C (D 86 rfl) rfl ?_
                refine j_if_eq C  187 (D 87 rfl) (by decide) (fun h180 => ?_) (fun h180 => absurd h180 (fun z => z rfl))
                refine j_aload_n C (D 90 rfl) rfl ?_
                refine j_iconst C (v := nI 1) (D 91 rfl) rfl ?_
                refine j_sipush C (v := nI 999) (D 92 rfl) rfl ?_
                refine j_callV C B k_X12_178 (rc_obj C (lit (kd := 12) (n := 48) rfl) rfl rfl) (d_numberF _ _ hL hd _ _) rfl rfl rfl rfl ⟨Nat.le_refl _, Nat.le_refl _⟩ (D 93 rfl) ?_
                rintro r w' ⟨v9, rfl, rfl⟩
                refine j_istore C (D 94 rfl) rfl ?_
                refine j_aload_n C (D 95 rfl) rfl ?_
                refine j_cVp C B k_X12_106 (rc_obj C (lit (kd := 12) (n := 48) rfl) rfl rfl) (d_goodF _ _ hL hd) rfl rfl rfl rfl ⟨Nat.le_refl _, Nat.le_refl _⟩ (D 96 rfl) ?_
                refine j_if_ne C  205 (D 97 rfl) (by decide) (fun h201 => absurd h201 (fun z => z rfl)) (fun h201 => ?_)
                exact j_vret C P rfl (D 98 rfl) ⟨Nat.le_refl _, Nat.le_refl _⟩ (MX_e (e := e) (by unfold pLn; rw [hl0]; unfold pGn pCell; simp only [hqa, bnd_l, bnd_r]) ((F2.mo aPl).tr (F3.mo nPl)) e0 e1)
              · obtain ⟨hv, qa0, qa1, qa2⟩ := k1 _ hqa
                have hv : v3 = nI a := hv
                subst hv
                have qa2 : MS I3 f n j := qa2
                obtain ⟨qab1, qab2, qab3, qab4⟩ := pNum_go hN (by omega) hqa
                refine j_istore_n C (D 67 rfl) rfl ?_
                refine j_aload_n C (D 68 rfl) rfl ?_
                refine j_iconst C (v := nI 0) (D 69 rfl) rfl ?_
                refine j_aload_n C (D 70 rfl) rfl ?_
                refine j_geti C f_X12_184 (lit (kd := 12) (n := 48) rfl) rfl rfl (D 71 rfl) ?_
                rw [F3 _ _ (fun z => by unfold nP at z; omega), F2 _ _ (fun z => by unfold aP at z; omega), hD.1]
                refine j_iconst C (v := nI 1) (D 72 rfl) rfl ?_
                refine j_isub C (D 73 rfl) ?_
                refine j_callV C B k_X12_178 (rc_obj C (lit (kd := 12) (n := 48) rfl) rfl rfl) (d_number _ _ hL hb qa2 qa0 (lo := 0) (by omega) (by omega) (evm (by omega))) rfl rfl rfl rfl ⟨Nat.le_refl _, Nat.le_refl _⟩ (D 74 rfl) ?_
                rintro r w' ⟨I4, v4, rfl, rfl, F4, k0, k1⟩
                obtain ⟨e, hqe⟩ | ⟨⟨e, j2⟩, hqe⟩ := rs_c (pNum (tok f n) j 0 (vE V))
                · obtain ⟨e0, e1⟩ := k0 e hqe
                  have hd : ¬ I4 172 34 = 0 := dd_of e0 (pNum_er hqe)
                  refine j_istore_n C (D 75 rfl) rfl ?_
                  refine j_aload_n C (D 76 rfl) rfl ?_
                  refine j_iconst C (v := nI 0) (D 77 rfl) rfl ?_
                  refine j_ldc C (v := 99999) (D 78 rfl) n_X12_177 ?_
                  refine j_callV C B k_X12_178 (rc_obj C (lit (kd := 12) (n := 48) rfl) rfl rfl) (d_numberF _ _ hL hd _ _) rfl rfl rfl rfl ⟨Nat.le_refl _, Nat.le_refl _⟩ (D 79 rfl) ?_
                  rintro r w' ⟨v9, rfl, rfl⟩
                  refine j_istore C (D 80 rfl) rfl ?_
                  refine j_iload_n C (D 81 rfl) rfl ?_
                  refine j_if_ne C  179 (D 82 rfl) (by decide) (fun h169 => absurd h169 (fun z => z rfl)) (fun h169 => ?_)
                  refine j_aload_n C (D 83 rfl) rfl ?_
                  refine j_ldc_wS C (i := 26) (by decide) rfl (D 84 rfl) ?_
                  refine j_callV C B k_X12_193 (rc_obj C (lit (kd := 12) (n := 48) rfl) rfl rfl) (d_passesF _ _ hL hd 26 (by decide)) rfl rfl rfl rfl ⟨Nat.le_refl _, Nat.le_refl _⟩ (D 85 rfl) ?_
                  rintro r w' ⟨rfl, rfl⟩
                  refine j_iload_n C (D 86 rfl) rfl ?_
                  refine j_if_eq C  187 (D 87 rfl) (by decide) (fun h180 => ?_) (fun h180 => absurd h180 (fun z => z rfl))
                  refine j_aload_n C (D 90 rfl) rfl ?_
                  refine j_iconst C (v := nI 1) (D 91 rfl) rfl ?_
                  refine j_sipush C (v := nI 999) (D 92 rfl) rfl ?_
                  refine j_callV C B k_X12_178 (rc_obj C (lit (kd := 12) (n := 48) rfl) rfl rfl) (d_numberF _ _ hL hd _ _) rfl rfl rfl rfl ⟨Nat.le_refl _, Nat.le_refl _⟩ (D 93 rfl) ?_
                  rintro r w' ⟨v9, rfl, rfl⟩
                  refine j_istore C (D 94 rfl) rfl ?_
                  refine j_aload_n C (D 95 rfl) rfl ?_
                  refine j_cVp C B k_X12_106 (rc_obj C (lit (kd := 12) (n := 48) rfl) rfl rfl) (d_goodF _ _ hL hd) rfl rfl rfl rfl ⟨Nat.le_refl _, Nat.le_refl _⟩ (D 96 rfl) ?_
                  refine j_if_ne C  205 (D 97 rfl) (by decide) (fun h201 => absurd h201 (fun z => z rfl)) (fun h201 => ?_)
                  exact j_vret C P rfl (D 98 rfl) ⟨Nat.le_refl _, Nat.le_refl _⟩ (MX_e (e := e) (by unfold pLn; rw [hl0]; unfold pGn pCell; simp only [hqa, hqe, bnd_l, bnd_r]) (((F2.mo aPl).tr (F3.mo nPl)).tr (F4.mo nPl)) e0 e1)
                · obtain ⟨hv, qe0, qe1, qe2⟩ := k1 _ hqe
                  have hv : v4 = nI e := hv
                  subst hv
                  have qe2 : MS I4 f n j2 := qe2
                  obtain ⟨qeb1, qeb2, qeb3, qeb4⟩ := pNum_go hN (by omega) hqe
                  refine j_istore_n C (D 75 rfl) rfl ?_
                  refine j_aload_n C (D 76 rfl) rfl ?_
                  refine j_iconst C (v := nI 0) (D 77 rfl) rfl ?_
                  refine j_ldc C (v := 99999) (D 78 rfl) n_X12_177 ?_
                  refine j_callV C B k_X12_178 (rc_obj C (lit (kd := 12) (n := 48) rfl) rfl rfl) (d_number _ _ hL hb qe2 qe0 (lo := 0) (hx := 100000) (hi := 99999) (by omega) (by omega) (by decide)) rfl rfl rfl rfl ⟨Nat.le_refl _, Nat.le_refl _⟩ (D 79 rfl) ?_
                  rintro r w' ⟨I5, v5, rfl, rfl, F5, k0, k1⟩
                  obtain ⟨e, hqv⟩ | ⟨⟨v, j3⟩, hqv⟩ := rs_c (pNum (tok f n) j2 0 100000)
                  · obtain ⟨e0, e1⟩ := k0 e hqv
                    have hd : ¬ I5 172 34 = 0 := dd_of e0 (pNum_er hqv)
                    refine j_istore C (D 80 rfl) rfl ?_
                    refine j_iload_n C (D 81 rfl) rfl ?_
                    refine j_if_ne C  179 (D 82 rfl) (by decide) (fun h169 => absurd h169 (fun z => z rfl)) (fun h169 => ?_)
                    refine j_aload_n C (D 83 rfl) rfl ?_
                    refine j_ldc_wS C (i := 26) (by decide) rfl (D 84 rfl) ?_
                    refine j_callV C B k_X12_193 (rc_obj C (lit (kd := 12) (n := 48) rfl) rfl rfl) (d_passesF _ _ hL hd 26 (by decide)) rfl rfl rfl rfl ⟨Nat.le_refl _, Nat.le_refl _⟩ (D 85 rfl) ?_
                    rintro r w' ⟨rfl, rfl⟩
                    refine j_iload_n C (D 86 rfl) rfl ?_
                    refine j_if_eq C  187 (D 87 rfl) (by decide) (fun h180 => ?_) (fun h180 => absurd h180 (fun z => z rfl))
                    refine j_aload_n C (D 90 rfl) rfl ?_
                    refine j_iconst C (v := nI 1) (D 91 rfl) rfl ?_
                    refine j_sipush C (v := nI 999) (D 92 rfl) rfl ?_
                    refine j_callV C B k_X12_178 (rc_obj C (lit (kd := 12) (n := 48) rfl) rfl rfl) (d_numberF _ _ hL hd _ _) rfl rfl rfl rfl ⟨Nat.le_refl _, Nat.le_refl _⟩ (D 93 rfl) ?_
                    rintro r w' ⟨v9, rfl, rfl⟩
                    refine j_istore C (D 94 rfl) rfl ?_
                    refine j_aload_n C (D 95 rfl) rfl ?_
                    refine j_cVp C B k_X12_106 (rc_obj C (lit (kd := 12) (n := 48) rfl) rfl rfl) (d_goodF _ _ hL hd) rfl rfl rfl rfl ⟨Nat.le_refl _, Nat.le_refl _⟩ (D 96 rfl) ?_
                    refine j_if_ne C  205 (D 97 rfl) (by decide) (fun h201 => absurd h201 (fun z => z rfl)) (fun h201 => ?_)
                    exact j_vret C P rfl (D 98 rfl) ⟨Nat.le_refl _, Nat.le_refl _⟩ (MX_e (e := e) (by unfold pLn; rw [hl0]; unfold pGn pCell; simp only [hqa, hqe, hqv, bnd_l, bnd_r]) ((((F2.mo aPl).tr (F3.mo nPl)).tr (F4.mo nPl)).tr (F5.mo nPl)) e0 e1)
                  · obtain ⟨hv, qv0, qv1, qv2⟩ := k1 _ hqv
                    have hv : v5 = nI v := hv
                    subst hv
                    have qv2 : MS I5 f n j3 := qv2
                    obtain ⟨qvb1, qvb2, qvb3, qvb4⟩ := pNum_go hN (by omega) hqv
                    refine j_istore C (D 80 rfl) rfl ?_
                    refine j_iload_n C (D 81 rfl) rfl ?_
                    refine j_if_ne C  179 (D 82 rfl) (by decide) (fun h169 => absurd h169 (fun z => z rfl)) (fun h169 => ?_)
                    refine j_aload_n C (D 83 rfl) rfl ?_
                    refine j_ldc_wS C (i := 26) (by decide) rfl (D 84 rfl) ?_
                    refine j_callV C B k_X12_193 (rc_obj C (lit (kd := 12) (n := 48) rfl) rfl rfl) (d_passes _ _ hL hb qv2 qv0 26 (by decide)) rfl rfl rfl rfl ⟨Nat.le_refl _, Nat.le_refl _⟩ (D 85 rfl) ?_
                    rintro r w' ⟨rfl, I6, rfl, F6, k0, k1⟩
                    obtain ⟨e, hqi⟩ | ⟨j4, hqi⟩ := rs_c (pTake (tok f n) j3 19)
                    · obtain ⟨e0, e1⟩ := k0 e hqi
                      have hd : ¬ I6 172 34 = 0 := dd_of e0 (pTake_er hqi)
                      refine j_iload_n C (D 86 rfl) rfl ?_
                      refine j_if_eq C  187 (D 87 rfl) (by decide) (fun h180 => ?_) (fun h180 => absurd h180 (fun z => z rfl))
                      refine j_aload_n C (D 90 rfl) rfl ?_
                      refine j_iconst C (v := nI 1) (D 91 rfl) rfl ?_
                      refine j_sipush C (v := nI 999) (D 92 rfl) rfl ?_
                      refine j_callV C B k_X12_178 (rc_obj C (lit (kd := 12) (n := 48) rfl) rfl rfl) (d_numberF _ _ hL hd _ _) rfl rfl rfl rfl ⟨Nat.le_refl _, Nat.le_refl _⟩ (D 93 rfl) ?_
                      rintro r w' ⟨v9, rfl, rfl⟩
                      refine j_istore C (D 94 rfl) rfl ?_
                      refine j_aload_n C (D 95 rfl) rfl ?_
                      refine j_cVp C B k_X12_106 (rc_obj C (lit (kd := 12) (n := 48) rfl) rfl rfl) (d_goodF _ _ hL hd) rfl rfl rfl rfl ⟨Nat.le_refl _, Nat.le_refl _⟩ (D 96 rfl) ?_
                      refine j_if_ne C  205 (D 97 rfl) (by decide) (fun h201 => absurd h201 (fun z => z rfl)) (fun h201 => ?_)
                      exact j_vret C P rfl (D 98 rfl) ⟨Nat.le_refl _, Nat.le_refl _⟩ (MX_e (e := e) (by unfold pLn; rw [hl0]; unfold pGn pCell; simp only [hqa, hqe, hqv, hqi, bnd_l, bnd_r]) (((((F2.mo aPl).tr (F3.mo nPl)).tr (F4.mo nPl)).tr (F5.mo nPl)).tr (F6.mo nPl)) e0 e1)
                    · obtain ⟨qi0, qi1, qi2⟩ := k1 j4 hqi
                      have qi2 : MS I6 f n j4 := qi2
                      obtain ⟨qib1, qib2⟩ := pTake_go hN (by omega) (by omega) hqi
                      refine j_iload_n C (D 86 rfl) rfl ?_
                      refine j_if_eq C  187 (D 87 rfl) (by decide) (fun h180 => ?_) (fun h180 => absurd h180 (fun z => z rfl))
                      refine j_aload_n C (D 90 rfl) rfl ?_
                      refine j_iconst C (v := nI 1) (D 91 rfl) rfl ?_
                      refine j_sipush C (v := nI 999) (D 92 rfl) rfl ?_
                      refine j_callV C B k_X12_178 (rc_obj C (lit (kd := 12) (n := 48) rfl) rfl rfl) (d_number _ _ hL hb qi2 qi0 (lo := 1) (hx := 1000) (hi := nI 999) (by omega) (by omega) (by decide)) rfl rfl rfl rfl ⟨Nat.le_refl _, Nat.le_refl _⟩ (D 93 rfl) ?_
                      rintro r w' ⟨I7, v7, rfl, rfl, F7, k0, k1⟩
                      obtain ⟨e, hqu⟩ | ⟨⟨u, j5⟩, hqu⟩ := rs_c (pNum (tok f n) j4 1 1000)
                      · obtain ⟨e0, e1⟩ := k0 e hqu
                        have hd : ¬ I7 172 34 = 0 := dd_of e0 (pNum_er hqu)
                        refine j_istore C (D 94 rfl) rfl ?_
                        refine j_aload_n C (D 95 rfl) rfl ?_
                        refine j_cVp C B k_X12_106 (rc_obj C (lit (kd := 12) (n := 48) rfl) rfl rfl) (d_goodF _ _ hL hd) rfl rfl rfl rfl ⟨Nat.le_refl _, Nat.le_refl _⟩ (D 96 rfl) ?_
                        refine j_if_ne C  205 (D 97 rfl) (by decide) (fun h201 => absurd h201 (fun z => z rfl)) (fun h201 => ?_)
                        exact j_vret C P rfl (D 98 rfl) ⟨Nat.le_refl _, Nat.le_refl _⟩ (MX_e (e := e) (by unfold pLn; rw [hl0]; unfold pGn pCell; simp only [hqa, hqe, hqv, hqi, hqu, bnd_l, bnd_r]) ((((((F2.mo aPl).tr (F3.mo nPl)).tr (F4.mo nPl)).tr (F5.mo nPl)).tr (F6.mo nPl)).tr (F7.mo nPl)) e0 e1)
                      · obtain ⟨hv, qu0, qu1, qu2⟩ := k1 _ hqu
                        have hv : v7 = nI u := hv
                        subst hv
                        have qu2 : MS I7 f n j5 := qu2
                        obtain ⟨qub1, qub2, qub3, qub4⟩ := pNum_go hN (by omega) hqu
                        refine j_istore C (D 94 rfl) rfl ?_
                        refine j_aload_n C (D 95 rfl) rfl ?_
                        refine j_cVp C B k_X12_106 (rc_obj C (lit (kd := 12) (n := 48) rfl) rfl rfl) (d_goodT _ _ hL qu0) rfl rfl rfl rfl ⟨Nat.le_refl _, Nat.le_refl _⟩ (D 96 rfl) ?_
                        refine j_if_ne C  205 (D 97 rfl) (by decide) (fun h201 => ?_) (fun h201 => absurd h201 (by decide))
                        refine j_iload_n C (D 99 rfl) rfl ?_
                        refine j_if_eq C  225 (D 100 rfl) (by decide) (fun h206 => ?_) (fun h206 => absurd h206 (fun z => z rfl))
                        refine j_aload_n C (D 111 rfl) rfl ?_
                        refine j_getr C f_X12_46 (lit (kd := 12) (n := 48) rfl) rfl rfl (hL _ _ _ rfl) (D 112 rfl) ?_
                        refine j_bipush C (v := nI 10) (D 113 rfl) rfl ?_
                        refine j_iload_n C (D 114 rfl) rfl ?_
                        refine j_imul C (D 115 rfl) ?_
                        refine j_iload_n C (D 116 rfl) rfl ?_
                        refine j_iadd C (D 117 rfl) ?_
                        rw [pk_mul, nI_add]
                        refine j_iload C (D 118 rfl) rfl ?_
                        refine j_iast C (lit (kd := 20) (n := 80) rfl) (ix_n (by omega) (by decide)) (D 119 rfl) ?_
                        refine j_iload_n C (D 120 rfl) rfl ?_
                        refine j_if_ne C  255 (D 121 rfl) (by decide) (fun h239 => absurd h239 (fun z => z rfl)) (fun h239 => ?_)
                        refine j_aload_n C (D 122 rfl) rfl ?_
                        refine j_getr C f_X12_49 (lit (kd := 12) (n := 48) rfl) rfl rfl (hL _ _ _ rfl) (D 123 rfl) ?_
                        refine j_bipush C (v := nI 10) (D 124 rfl) rfl ?_
                        refine j_iload_n C (D 125 rfl) rfl ?_
                        refine j_imul C (D 126 rfl) ?_
                        refine j_iload_n C (D 127 rfl) rfl ?_
                        refine j_iadd C (D 128 rfl) ?_
                        rw [pk_mul, nI_add]
                        refine j_iload C (D 129 rfl) rfl ?_
                        refine j_iast C (lit (kd := 20) (n := 80) rfl) (ix_n (by omega) (by decide)) (D 130 rfl) ?_
                        refine j_goto C 267 (D 131 rfl) (by decide) ?_
                        exact G267 (gnV V a e (nI v) (nI u)) tt j5 _ _ _ _ _ _ (by rw [hl0]; unfold pGn pCell; simp only [hqa, hqe, hqv, hqi, hqu, bnd_r]) (MS_go qu2 (Fx.up (Fx.up (Fx.rf (fun b _ => b = 185 ∨ b = 186) _) (Or.inl rfl)) (Or.inr rfl)) (fun b j z => by omega)) (by rw [up2_i (by omega), up2_i (by omega)]; exact qu0) (by rw [up2_i (by omega), up2_i (by omega), qu1, qi1, qv1, qe1, qa1, F2 _ _ (fun z => by unfold aP at z; omega)]) (MD_gn hV qab4 (by omega) (MD_r hV hD (Fx.tr (F2.mo aPM) ((F3.mo nPM).tr ((F4.mo nPM).tr ((F5.mo nPM).tr ((F6.mo nPM).tr (F7.mo nPM)))))) (fun b j z => z))) (by rw [up2_i (by omega), up2_i (by omega), F7 _ _ (fun z => by unfold nP at z; omega), F6 _ _ (fun z => by unfold nP at z; omega), F5 _ _ (fun z => by unfold nP at z; omega), F4 _ _ (fun z => by unfold nP at z; omega), F3 _ _ (fun z => by unfold nP at z; omega), F2 _ _ (fun z => by unfold aP at z; omega)]; exact htt) (Fx.up (Fx.up ((((((F2.mo aPl).tr (F3.mo nPl)).tr (F4.mo nPl)).tr (F5.mo nPl)).tr (F6.mo nPl)).tr (F7.mo nPl)) (Or.inr ⟨by omega, by omega, by omega⟩)) (Or.inr ⟨by omega, by omega, by omega⟩))
        · have hs : (tok f n i).1 = 16 := b2_ne h58
          have hsn : spo f n i < n := tok_lt_n (by rw [hs]; decide)
          refine j_aload_n C (D 25 rfl) rfl ?_
          refine j_geti C f_X12_286 (lit (kd := 12) (n := 48) rfl) rfl rfl (D 26 rfl) ?_
          rw [hD.2.1]
          refine j_bipush C (v := nI 8) (D 27 rfl) rfl ?_
          refine j_icmp_ne C  79 (D 28 rfl) (by decide) (fun h67 => ?_) (fun h67 => ?_)
          · have hA : vA V < 8 := by
              by_cases z : vA V = 8
              · exact absurd (by rw [z]) h67
              · omega
            refine j_aload_n C (D 34 rfl) rfl ?_
            refine j_cVp C B k_X12_106 (rc_obj C (lit (kd := 12) (n := 48) rfl) rfl rfl) (d_goodT _ _ hL hg) rfl rfl rfl rfl ⟨Nat.le_refl _, Nat.le_refl _⟩ (D 35 rfl) ?_
            refine j_if_eq C  90 (D 36 rfl) (by decide) (fun h83 => absurd h83 (by decide)) (fun h83 => ?_)
            refine j_aload_n C (D 37 rfl) rfl ?_
            refine j_callV C B k_X12_158 (rc_obj C (lit (kd := 12) (n := 48) rfl) rfl rfl) (d_advance _ _ hL hb hS hsn) rfl rfl rfl rfl ⟨Nat.le_refl _, Nat.le_refl _⟩ (D 38 rfl) ?_
            rintro r w' ⟨rfl, I2, rfl, F2, S2⟩
            refine j_aload_n C (D 39 rfl) rfl ?_
            refine j_dup C (D 40 rfl) rfl ?_
            refine j_geti C f_X12_286 (lit (kd := 12) (n := 48) rfl) rfl rfl (D 41 rfl) ?_
            rw [F2 _ _ (fun z => by unfold aP at z; omega), hD.2.1]
            refine j_iconst C (v := nI 1) (D 42 rfl) rfl ?_
            refine j_iadd C (D 43 rfl) ?_
            rw [nI_add]
            refine j_puti C f_X12_286 (lit (kd := 12) (n := 48) rfl) rfl rfl (D 44 rfl) ?_
            refine j_goto C 267 (D 45 rfl) (by decide) ?_
            exact G267 (atV V) tt (i + 1) _ _ _ _ _ _ (by unfold pLn0; rw [if_neg (show ¬ (tok f n i).1 = 0 from b2_eq h7), if_neg (show ¬ (tok f n i).1 = 10 from b2_eq h24), if_neg (show ¬ (tok f n i).1 = 14 from b2_eq h41), if_pos (show (tok f n i).1 = 16 from b2_ne h58), if_pos hA]) (MS_go S2 (Fx.up (Fx.rf (fun b j => b = 172 ∧ j = 14) _) ⟨rfl, rfl⟩) (fun b j z => by omega)) (by rw [up2_i (by omega), F2 _ _ (fun z => by unfold aP at z; omega)]; exact hg) (by rw [up2_i (by omega), F2 _ _ (fun z => by unfold aP at z; omega)]) (MD_at hV (MD_r hV hD F2 aPM)) (by rw [up2_i (by omega), F2 _ _ (fun z => by unfold aP at z; omega)]; exact htt) (Fx.up (F2.mo aPl) (Or.inl ⟨rfl, by omega⟩))
          · have hA : ¬ vA V < 8 := by have := nI_inj (by omega) (by omega) h67; omega
            refine j_aload_n C (D 29 rfl) rfl ?_
            refine j_iconst C (v := nI 4) (D 30 rfl) rfl ?_
            refine j_aload_n C (D 31 rfl) rfl ?_
            refine j_geti C f_X12_120 (lit (kd := 12) (n := 48) rfl) rfl rfl (D 32 rfl) ?_
            rw [hS.2.1]
            refine j_callV C B k_X12_168 (rc_obj C (lit (kd := 12) (n := 48) rfl) rfl rfl) (d_errsT _ _ hL hg _ _) rfl rfl rfl rfl ⟨Nat.le_refl _, Nat.le_refl _⟩ (D 33 rfl) ?_
            rintro r w' ⟨rfl, rfl⟩
            have hdd : ¬ up2 (up2 I 172 34 (nI 4)) 172 35 (nI (spo f n i)) 172 34 = 0 := dd_of (k := 4) (by rw [up2_i (by omega), up2_same]) (by omega)
            refine j_aload_n C (D 34 rfl) rfl ?_
            refine j_cVp C B k_X12_106 (rc_obj C (lit (kd := 12) (n := 48) rfl) rfl rfl) (d_goodF _ _ hL hdd) rfl rfl rfl rfl ⟨Nat.le_refl _, Nat.le_refl _⟩ (D 35 rfl) ?_
            refine j_if_eq C  90 (D 36 rfl) (by decide) (fun h83 => ?_) (fun h83 => absurd h83 (fun z => z rfl))
            refine j_aload_n C (D 39 rfl) rfl ?_
            refine j_dup C (D 40 rfl) rfl ?_
            refine j_geti C f_X12_286 (lit (kd := 12) (n := 48) rfl) rfl rfl (D 41 rfl) ?_
            rw [up2_i (by omega), up2_i (by omega), hD.2.1]
            refine j_iconst C (v := nI 1) (D 42 rfl) rfl ?_
            refine j_iadd C (D 43 rfl) ?_
            rw [nI_add]
            refine j_puti C f_X12_286 (lit (kd := 12) (n := 48) rfl) rfl rfl (D 44 rfl) ?_
            refine j_goto C 267 (D 45 rfl) (by decide) ?_
            exact D267 (fl (tok f n) i 4) _ _ _ _ _ _ (by unfold pLn0; rw [if_neg (show ¬ (tok f n i).1 = 0 from b2_eq h7), if_neg (show ¬ (tok f n i).1 = 10 from b2_eq h24), if_neg (show ¬ (tok f n i).1 = 14 from b2_eq h41), if_pos (show (tok f n i).1 = 16 from b2_ne h58), if_neg hA]) (Fx.up (Fx.up (Fx.up (Fx.rf _ _) (Or.inl ⟨rfl, by omega⟩)) (Or.inl ⟨rfl, by omega⟩)) (Or.inl ⟨rfl, by omega⟩)) (by rw [up2_i (by omega), up2_i (by omega), up2_same]; rfl) (by rw [up2_i (by omega), up2_same]; show _ = nI (tok f n i).2.1; rw [tok_2]) (by rw [up2_i (by omega)]; exact hdd)
      · have hs : (tok f n i).1 = 14 := b2_ne h41
        have hsn : spo f n i < n := tok_lt_n (by rw [hs]; decide)
        refine j_aload_n C (D 18 rfl) rfl ?_
        refine j_callV C B k_X12_281 (rc_obj C (lit (kd := 12) (n := 48) rfl) rfl rfl) (d_readBonus _ _ hL hb hN hP hsn) rfl rfl rfl rfl ⟨Nat.le_refl _, Nat.le_refl _⟩ (D 19 rfl) ?_
        rintro r w' ⟨rfl, I2, rfl, F2, k0, k1⟩
        obtain ⟨e, hq⟩ | ⟨x, hq⟩ := rs_c ((if vB V < 4 then pBon (tok f n) V tt i else .inl (fl (tok f n) i 4)) : RS LST)
        · obtain ⟨e0, e1⟩ := k0 e hq
          have hd : ¬ I2 172 34 = 0 := dd_of e0 (by
            by_cases z : vB V < 4
            · rw [if_pos z] at hq; exact pBon_er hN hE10 hlt hq
            · rw [if_neg z] at hq; cases hq; exact ⟨(by show 1 ≤ 4; omega), (by show 4 ≤ 4; omega)⟩)
          refine j_goto C 267 (D 20 rfl) (by decide) ?_
          exact D267 e I2 _ _ _ _ _ (by unfold pLn0; rw [if_neg (show ¬ (tok f n i).1 = 0 from b2_eq h7), if_neg (show ¬ (tok f n i).1 = 10 from b2_eq h24), if_pos (show (tok f n i).1 = 14 from b2_ne h41)]; exact hq) F2 e0 e1 hd
        · obtain ⟨⟨V2, t2⟩, j⟩ := x
          obtain ⟨g0, g1, g2, g3, g4⟩ := k1 _ hq
          refine j_goto C 267 (D 20 rfl) (by decide) ?_
          exact G267 V2 t2 j I2 _ _ _ _ _ (by unfold pLn0; rw [if_neg (show ¬ (tok f n i).1 = 0 from b2_eq h7), if_neg (show ¬ (tok f n i).1 = 10 from b2_eq h24), if_pos (show (tok f n i).1 = 14 from b2_ne h41)]; exact hq) g2 g0 g1 g3 g4 F2
    · have hs : (tok f n i).1 = 10 := b2_ne h24
      have hsn : spo f n i < n := tok_lt_n (by rw [hs]; decide)
      refine j_aload_n C (D 11 rfl) rfl ?_
      refine j_callV C B k_X12_277 (rc_obj C (lit (kd := 12) (n := 48) rfl) rfl rfl) (d_readTie _ _ hL hb hN hP hsn) rfl rfl rfl rfl ⟨Nat.le_refl _, Nat.le_refl _⟩ (D 12 rfl) ?_
      rintro r w' ⟨rfl, I2, rfl, F2, k0, k1⟩
      obtain ⟨e, hq⟩ | ⟨x, hq⟩ := rs_c ((if tt = true then .inl (fl (tok f n) i 3) else pTie (tok f n) V i) : RS LST)
      · obtain ⟨e0, e1⟩ := k0 e hq
        have hd : ¬ I2 172 34 = 0 := dd_of e0 (by
          by_cases z : tt = true
          · rw [if_pos z] at hq; cases hq; exact ⟨(by show 1 ≤ 3; omega), (by show 3 ≤ 4; omega)⟩
          · rw [if_neg z] at hq; unfold pTie at hq; split at hq
            · cases hq; exact ⟨(by show 1 ≤ 1; omega), (by show 1 ≤ 4; omega)⟩
            · cases hq)
        refine j_goto C 267 (D 13 rfl) (by decide) ?_
        exact D267 e I2 _ _ _ _ _ (by unfold pLn0; rw [if_neg (show ¬ (tok f n i).1 = 0 from b2_eq h7), if_pos (show (tok f n i).1 = 10 from b2_ne h24)]; exact hq) F2 e0 e1 hd
      · obtain ⟨⟨V2, t2⟩, j⟩ := x
        obtain ⟨g0, g1, g2, g3, g4⟩ := k1 _ hq
        refine j_goto C 267 (D 13 rfl) (by decide) ?_
        exact G267 V2 t2 j I2 _ _ _ _ _ (by unfold pLn0; rw [if_neg (show ¬ (tok f n i).1 = 0 from b2_eq h7), if_pos (show (tok f n i).1 = 10 from b2_ne h24)]; exact hq) g2 g0 g1 g3 g4 F2
  · have hs : (tok f n i).1 = 0 := b2_ne h7
    have hsn : spo f n i < n := tok_lt_n (by rw [hs]; decide)
    refine j_aload_n C (D 4 rfl) rfl ?_
    refine j_callV C B k_X12_272 (rc_obj C (lit (kd := 12) (n := 48) rfl) rfl rfl) (d_readEvent _ _ hL hb hN hlt hsn hS hg hD.1 hE10) rfl rfl rfl rfl ⟨Nat.le_refl _, Nat.le_refl _⟩ (D 5 rfl) ?_
    rintro r w' ⟨rfl, I2, rfl, F2, k0, k1⟩
    obtain ⟨e, hq⟩ | ⟨x, hq⟩ := rs_c ((if vE V < 10 then pEv (tok f n) (i + 1) else .inl (fl (tok f n) i 4)) : RS ((Nat → Int32) × Nat))
    · obtain ⟨e0, e1⟩ := k0 e hq
      have hd : ¬ I2 172 34 = 0 := dd_of e0 (by
        by_cases z : vE V < 10
        · rw [if_pos z] at hq; exact pEv_er hq
        · rw [if_neg z] at hq; cases hq; exact ⟨(by show 1 ≤ 4; omega), (by show 4 ≤ 4; omega)⟩)
      refine j_goto C 267 (D 6 rfl) (by decide) ?_
      exact D267 e I2 _ _ _ _ _ (by unfold pLn0; rw [if_pos (show (tok f n i).1 = 0 from b2_ne h7)]; exact ev_e hq) (F2.mo (fun b j z => evPl z)) e0 e1 hd
    · obtain ⟨E, j⟩ := x
      obtain ⟨g0, g1, g2, g3, g4⟩ := k1 _ hq
      have hE : vE V < 10 := by
        by_cases z : vE V < 10
        · exact z
        · rw [if_neg z] at hq; cases hq
      rw [if_pos hE] at hq
      refine j_goto C 267 (D 6 rfl) (by decide) ?_
      exact G267 (addEv V E) tt j I2 _ _ _ _ _ (by unfold pLn0; rw [if_pos (show (tok f n i).1 = 0 from b2_ne h7), if_pos hE, hq, bnd_r]) g2 g0 g1 (MD_ev hV hD F2 g3 g4) (by rw [F2 _ _ (fun z => by unfold evP nP at z; omega)]; exact htt) (F2.mo (fun b j z => evPl z))
