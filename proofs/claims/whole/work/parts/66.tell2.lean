def scM (a k : Nat) : Prop := 188 ≤ a ∧ a ≤ 194
theorem MT_T {I I' : Nat → Nat → Int32} {V : VT} (h : MT I V) (hf : FrT 172 47 196 I I') : MT I' V := by
  obtain ⟨a0, a1, a2, a3, a4, a5, a6, a7, a8⟩ := h
  refine ⟨by rw [hf _ _ (by omega) (by omega)]; exact a0, by rw [hf _ _ (by omega) (by omega)]; exact a1, by rw [hf _ _ (by omega) (by omega)]; exact a2, by rw [hf _ _ (by omega) (by omega)]; exact a3, fun e he => ?_, fun a e ha he => by rw [hf _ _ (by omega) (by omega), hf _ _ (by omega) (by omega), hf _ _ (by omega) (by omega)]; exact a5 a e ha he, fun k hk => by rw [hf _ _ (by omega) (by omega)]; exact a6 k hk, fun k hk => by rw [hf _ _ (by omega) (by omega)]; exact a7 k hk, fun k hk i q hq => by rw [hf _ _ (by omega) (by omega)]; exact a8 k hk i q hq⟩
  have : mE I' e = mE I e := by funext k; exact hf 173 _ (by omega) (by omega)
  rw [this]; exact a4 e he
set_option maxRecDepth 20000 in
theorem d_tellQ (l : Launch) (G : GT) {I : Nat → Nat → Int32} {L : Nat → Nat → Int64} {R : Nat → Nat → Option Nat} (hL : Lay R) {V : VT} (hV : WV V) (hM : MT I V) (ld : Bool) (hld : I 172 1 = b2 (ld = true)) (b : BT) (hTP : TP I 172 47 196 b) : Mt l G mX12_tell (9) 0 0 [.ref (ra G 172)] (wd I L R) (fun r w' => r = some (.int (a_tell V ld)) ∧ ∃ I' L', w' = wd I' L' R ∧ TP I' 172 47 196 (s_tell V ld b) ∧ FrO 172 47 196 scM I I') := by
  refine mt_of (own := RX12) (by decide) rfl rfl (fun Z C P B => ?_)
  have D := @dc_of _ _ dX12_tell
  have hE10 := hV.1
  have hA8 := hV.2.1
  refine j_aload_n C (D 0 rfl) rfl ?_
  refine j_geti C f_X12_297 (lit (kd := 12) (n := 48) rfl) rfl rfl (D 1 rfl) ?_
  rw [hld]
  refine j_if_ne C  10 (D 2 rfl) (by decide) (fun h4 => ?_) (fun h4 => ?_)
  · refine j_aload_n C (D 5 rfl) rfl ?_
    refine j_aload_n C (D 6 rfl) rfl ?_
    refine j_getr C f_X12_22 (lit (kd := 12) (n := 48) rfl) rfl rfl (hL _ _ _ rfl) (D 7 rfl) ?_
    refine j_callV C B k_X12_410 (rc_obj C (lit (kd := 12) (n := 48) rfl) rfl rfl) (d_lays _ _ hL hV hM 177 (vmk V) (lit (kd := 20) (n := 80) rfl) (Or.inl rfl) (fun b e hb he => ⟨(hM.2.2.2.2.2.1 b e hb (by omega)).1, (hV.2.2.2.2.2.1 b e hb (by omega)).1⟩)) rfl rfl rfl rfl ⟨Nat.le_refl _, Nat.le_refl _⟩ (D 8 rfl) ?_
    rintro r w' ⟨rfl, I2, rfl, hF2, hl⟩
    have hM2 := MT_fr hM hF2.M
    have hz := pza_M hV (vmk V)
    refine j_aload_n C (D 9 rfl) rfl ?_
    refine j_iconst C (v := nI 0) (D 10 rfl) rfl ?_
    refine j_puti C f_X12_314 (lit (kd := 12) (n := 48) rfl) rfl rfl (D 11 rfl) ?_
    refine j_iconst C (v := nI 0) (D 12 rfl) rfl ?_
    refine j_istore_n C (D 13 rfl) rfl ?_
    have Lp : ∀ (m k : Nat) (x2 : Option Value) (I1 : Nat → Nat → Int32) (L1 : Nat → Nat → Int64), k + m = vA V → FrT 172 47 196 I2 I1 → TP I1 172 47 196 (tlN V k bt0) → J Z (0, 0) 25 [some (.ref (ra G 172)), some (.int (nI k)), x2] [] (wd I1 L1 R) := by
      intro m
      induction m with
      | zero =>
        intro k x2 I1 L1 hk hF hTP
        have hM1 := MT_T hM2 hF
        have hl1 := ML_fr hl (I' := I1) (fun j => ⟨hF _ _ (by omega) (by omega), hF _ _ (by omega) (by omega)⟩)
        refine j_iload_n C (D 14 rfl) rfl ?_
        refine j_aload_n C (D 15 rfl) rfl ?_
        refine j_geti C f_X12_303 (lit (kd := 12) (n := 48) rfl) rfl rfl (D 16 rfl) ?_
        rw [hM1.2.1]
        refine j_icmp_ge C  71 (D 17 rfl) (by decide) (fun h30 => ?_) (fun h30 => absurd h30 (fun z => z ((nle (by omega) (by omega)).mpr (by omega))))
        refine j_aload_n C (D 38 rfl) rfl ?_
        refine j_geti C f_X12_314 (lit (kd := 12) (n := 48) rfl) rfl rfl (D 39 rfl) ?_
        rw [hTP.1]
        exact j_iret C P rfl (D 40 rfl) ⟨Nat.le_refl _, Nat.le_refl _⟩ ⟨by rw [a_tell_t (b2_ne h4), show vA V = k by omega], I1, L1, rfl, by rw [s_tell, if_pos (b2_ne h4), show vA V = k by omega]; exact hTP, fun b j q1 q2 q3 => by rw [hF b j q2 q3]; exact hF2.M b j q1⟩
      | succ m ih =>
        intro k x2 I1 L1 hk hF hTP
        have hM1 := MT_T hM2 hF
        have hl1 := ML_fr hl (I' := I1) (fun j => ⟨hF _ _ (by omega) (by omega), hF _ _ (by omega) (by omega)⟩)
        obtain ⟨a, ha, hae⟩ := pl_ex (V := V) (P := (ptM V (vmk V))) (g := (gM (vmk V))) hA8 (show k < vA V by omega)
        have hlk := tlN_1 (V := V) hA8 (k := k) (by omega)
        refine j_iload_n C (D 14 rfl) rfl ?_
        refine j_aload_n C (D 15 rfl) rfl ?_
        refine j_geti C f_X12_303 (lit (kd := 12) (n := 48) rfl) rfl rfl (D 16 rfl) ?_
        rw [hM1.2.1]
        refine j_icmp_ge C  71 (D 17 rfl) (by decide) (fun h30 => absurd h30 (fun z => by rw [nle (by omega) (by omega)] at z; omega)) (fun h30 => ?_)
        refine j_aload_n C (D 18 rfl) rfl ?_
        refine j_iload_n C (D 19 rfl) rfl ?_
        refine j_callV C B k_X12_414 (rc_obj C (lit (kd := 12) (n := 48) rfl) rfl rfl) (d_placed _ _ hL hV hM1 hz hl1 (nI k)) rfl rfl rfl rfl ⟨Nat.le_refl _, Nat.le_refl _⟩ (D 20 rfl) ?_
        rintro r w' ⟨rfl, L3, rfl⟩
        rw [hae]
        obtain ⟨tt, _, htt, htv⟩ := i_nat (tot_rng hV hz ha).1
        have htl : tt ≤ 22000 := by have := (tot_rng hV hz ha).2; omega
        refine j_istore_n C (D 21 rfl) rfl ?_
        refine j_aload_n C (D 22 rfl) rfl ?_
        refine j_iload_n C (D 23 rfl) rfl ?_
        refine j_callV C B k_X12_491 (rc_obj C (lit (kd := 12) (n := 48) rfl) rfl rfl) (d_saysNumber _ _ hL (tlN V k bt0) a (by omega) (by omega) hTP) rfl rfl rfl rfl ⟨Nat.le_refl _, Nat.le_refl _⟩ (D 24 rfl) ?_
        rintro r w' ⟨rfl, I3, rfl, hTP3, hF3⟩
        refine j_aload_n C (D 25 rfl) rfl ?_
        refine j_bipush C (v := nI 32) (D 26 rfl) rfl ?_
        refine j_callV C B k_X12_488 (rc_obj C (lit (kd := 12) (n := 48) rfl) rfl rfl) (d_says _ _ hL (nmB a (tlN V k bt0)) (by rw [nmB_1, tdN_0 (by omega)]; omega) hTP3 (nI 32)) rfl rfl rfl rfl ⟨Nat.le_refl _, Nat.le_refl _⟩ (D 27 rfl) ?_
        rintro r w' ⟨rfl, I4, rfl, hTP4, hF4⟩
        have hM4 := MT_T hM1 (hF3.tr hF4)
        have hl4 := ML_fr hl1 (I' := I4) (fun j => ⟨(hF3.tr hF4) _ _ (by omega) (by omega), (hF3.tr hF4) _ _ (by omega) (by omega)⟩)
        have hl2 : (put1 (nmB a (tlN V k bt0)) (oc1 (nI 32))).1 = (tlN V k bt0).1 + 2 := by show (nmB a _).1 + 1 = _; rw [nmB_1, tdN_0 (by omega)]
        refine j_aload_n C (D 28 rfl) rfl ?_
        refine j_aload_n C (D 29 rfl) rfl ?_
        refine j_iload_n C (D 30 rfl) rfl ?_
        refine j_callV C B k_X12_395 (rc_obj C (lit (kd := 12) (n := 48) rfl) rfl rfl) (d_totalOf _ _ hL hV hM4 hz hl4 a ha) rfl rfl rfl rfl ⟨Nat.le_refl _, Nat.le_refl _⟩ (D 31 rfl) ?_
        rintro r w' ⟨rfl, L5, rfl⟩
        rw [htt]
        refine j_callV C B k_X12_491 (rc_obj C (lit (kd := 12) (n := 48) rfl) rfl rfl) (d_saysNumber _ _ hL (put1 (nmB a (tlN V k bt0)) (oc1 (nI 32))) tt htl (by omega) hTP4) rfl rfl rfl rfl ⟨Nat.le_refl _, Nat.le_refl _⟩ (D 32 rfl) ?_
        rintro r w' ⟨rfl, I5, rfl, hTP5, hF5⟩
        refine j_aload_n C (D 33 rfl) rfl ?_
        refine j_bipush C (v := nI 10) (D 34 rfl) rfl ?_
        refine j_callV C B k_X12_488 (rc_obj C (lit (kd := 12) (n := 48) rfl) rfl rfl) (d_says _ _ hL (nmB tt (put1 (nmB a (tlN V k bt0)) (oc1 (nI 32)))) (by rw [nmB_1, hl2]; have := tdN_le tt; omega) hTP5 (nI 10)) rfl rfl rfl rfl ⟨Nat.le_refl _, Nat.le_refl _⟩ (D 35 rfl) ?_
        rintro r w' ⟨rfl, I6, rfl, hTP6, hF6⟩
        first | refine j_iinc1 C (D 36 rfl) rfl rfl ?_ | refine j_iinc C (D 36 rfl) rfl rfl rfl ?_
        refine j_goto C 25 (D 37 rfl) (by decide) ?_
        exact ih (k + 1) _ I6 _ (by omega) (hF.tr (hF3.tr (hF4.tr (hF5.tr hF6)))) (by rw [tlN, tlR, hae, tn_n (by omega), htt, tn_n (by omega)]; exact hTP6)
    exact Lp (vA V) 0 _ _ _ (by omega) (fun b j _ q => up2_i q) ⟨by rw [up2_same]; rfl, fun i hi => absurd hi (Nat.not_lt_zero _)⟩
  · refine j_bipush C (v := (-2)) (D 3 rfl) rfl ?_
    exact j_iret C P rfl (D 4 rfl) ⟨Nat.le_refl _, Nat.le_refl _⟩ ⟨by rw [a_tell_f (fun z => b2_eq h4 z)], I, L, rfl, by rw [s_tell, if_neg (fun z => b2_eq h4 z)]; exact hTP, fun _ _ _ _ _ => rfl⟩
