def cd1 (e : Nat) (b : BT) : BT := if e = 0 then b else put1 b (oc1 (nI 32))
def cdR (V : VT) (a e : Nat) (b : BT) : BT := if vmk V a e = -1 then put1 (cd1 e b) (oc1 (nI 45)) else nmB (tn (pts (vev V e) (vmk V a e))) (cd1 e b)
def cdN (V : VT) (a : Nat) : Nat → BT → BT
  | 0, b => b
  | e + 1, b => cdR V a e (cdN V a e b)
theorem cd1_le (e : Nat) (b : BT) : (cd1 e b).1 ≤ b.1 + 1 := by
  unfold cd1
  by_cases h : e = 0
  · rw [if_pos h]; omega
  · rw [if_neg h]; exact Nat.le_refl _
theorem cdN_1 {V : VT} (a : Nat) : ∀ (e : Nat), (cdN V a e bt0).1 ≤ 6 * e
  | 0 => Nat.le_refl _
  | e + 1 => by
    have ih := cdN_1 (V := V) a e
    have h1 := cd1_le e (cdN V a e bt0)
    rw [cdN, cdR]
    by_cases c : vmk V a e = -1
    · rw [if_pos c]; show (cd1 _ _).1 + 1 ≤ _; omega
    · rw [if_neg c, nmB_1]; have := tdN_le (tn (pts (vev V e) (vmk V a e))); omega
theorem cdN_2 {V : VT} (hV : WV V) {a : Nat} : ∀ {e : Nat}, e ≤ vE V → (cdN V a e bt0).1 ≤ 5 * e
  | 0, _ => Nat.le_refl _
  | e + 1, h => by
    have ih := cdN_2 hV (a := a) (e := e) (by omega)
    have h1 := cd1_le e (cdN V a e bt0)
    rw [cdN, cdR]
    by_cases c : vmk V a e = -1
    · rw [if_pos c]; show (cd1 _ _).1 + 1 ≤ _; omega
    · rw [if_neg c, nmB_1]
      have hp := pts_rng (hV.2.2.2.2.1 e (by omega)) (vmk V a e)
      have ht : tdN (tn (pts (vev V e) (vmk V a e))) ≤ 3 := by
        have hv : tn (pts (vev V e) (vmk V a e)) < 10000 := by unfold tn; omega
        unfold tdN
        by_cases h1 : tn (pts (vev V e) (vmk V a e)) < 10
        · rw [if_pos h1]; omega
        by_cases h2 : tn (pts (vev V e) (vmk V a e)) < 100
        · rw [if_neg h1, if_pos h2]; omega
        by_cases h3 : tn (pts (vev V e) (vmk V a e)) < 1000
        · rw [if_neg h1, if_neg h2, if_pos h3]; omega
        · rw [if_neg h1, if_neg h2, if_neg h3, if_pos hv]; omega
      omega
def a_card (V : VT) (ld : Bool) (a : Int32) : Int32 := if inR (vA V) a then nI (cdN V (tn a) (vE V) bt0).1 else -2
theorem a_card_t {V : VT} {ld : Bool} {a : Int32} (hX : inR (vA V) a) : a_card V ld a = nI (cdN V (tn a) (vE V) bt0).1 := if_pos hX
theorem a_card_f {V : VT} {ld : Bool} {a : Int32} (hX : ¬ (inR (vA V) a)) : a_card V ld a = -2 := if_neg hX
def s_card (V : VT) (ld : Bool) (b : BT) (a : Int32) : BT := if inR (vA V) a then cdN V (tn a) (vE V) bt0 else b
set_option maxRecDepth 20000 in
theorem c_cardQ (l : Launch) (G : GT) {c : Nat} (hc : isC c) {I : Nat → Nat → Int32} {L : Nat → Nat → Int64} {R : Nat → Nat → Option Nat} (hL : Lay R) (hr5 : R 0 5 = some c) {V : VT} (hV : WV V) (hT : CT I c V) (ld : Bool) (hld : I 0 6 = b2 (ld = true)) (b : BT) (hTP : TP I 2 1 3 b) (a : Int32) : Mt l G mX11_card (6) 0 0 [.ref (ra G 0), .int a] (wd I L R) (fun r w' => r = some (.int (a_card V ld a)) ∧ ∃ I' L', w' = wd I' L' R ∧ TP I' 2 1 3 (s_card V ld b a) ∧ FrO 2 1 3 scr I I') := by
  refine mt_of (own := RX11) (by decide) rfl rfl (fun Z C P B => ?_)
  have D := @dc_of _ _ dX11_card
  have hE10 := hV.1
  have hA8 := hV.2.1
  refine j_aload_n C (D 0 rfl) rfl ?_
  refine j_iload_n C (D 1 rfl) rfl ?_
  refine j_cVp C B k_X11_184 (rc_obj C (lit (kd := 11) (n := 12) rfl) rfl rfl) (c_hasAthlete _ _ hc hL hr5 hV hT ld hld _) rfl rfl rfl rfl ⟨Nat.le_refl _, Nat.le_refl _⟩ (D 2 rfl) ?_
  refine j_if_ne C  11 (D 3 rfl) (by decide) (fun h5 => ?_) (fun h5 => ?_)
  · obtain ⟨a, ha, rfl⟩ := inR_n (b2_ne h5)
    have ha8 : a < 8 := by omega
    refine j_aload_n C (D 6 rfl) rfl ?_
    refine j_getr C f_X11_16 (lit (kd := 11) (n := 12) rfl) rfl rfl (hL _ _ _ rfl) (D 7 rfl) ?_
    refine j_callV C B k_X11_302 (rc_obj C (lit (kd := 3) (n := 2) rfl) rfl rfl) (c_pclear _ _ hL) rfl rfl rfl rfl ⟨Nat.le_refl _, Nat.le_refl _⟩ (D 8 rfl) ?_
    rintro r w' ⟨rfl, I3, rfl, hTP3, hF3⟩
    refine j_iconst C (v := nI 0) (D 9 rfl) rfl ?_
    refine j_istore_n C (D 10 rfl) rfl ?_
    have Lp : ∀ (m e : Nat) (I1 : Nat → Nat → Int32), e + m = vE V → FrT 2 1 3 I I1 → TP I1 2 1 3 (cdN V a e bt0) → J Z (0, 0) 20 [some (.ref (ra G 0)), some (.int (nI a)), some (.int (nI e))] [] (wd I1 L R) := by
      intro m
      induction m with
      | zero =>
        intro e I1 he hF hTP
        have hT1 : CT I1 c V := CT_of hT (fun j k9 q1 q2 q3 => hF _ _ (by rcases hc with rfl | rfl <;> omega) (by rcases hc with rfl | rfl <;> omega)) hE10
        refine j_iload_n C (D 11 rfl) rfl ?_
        refine j_aload_n C (D 12 rfl) rfl ?_
        refine j_getr C f_X11_37 (lit (kd := 11) (n := 12) rfl) rfl rfl hr5 (D 13 rfl) ?_
        refine j_geti C f_X11_98 (sC0 hc) rfl rfl (D 14 rfl) ?_
        rw [hT1.1]
        refine j_icmp_ge C  91 (D 15 rfl) (by decide) (fun h28 => ?_) (fun h28 => absurd h28 (fun z => z ((nle (by omega) (by omega)).mpr (by omega))))
        refine j_aload_n C (D 44 rfl) rfl ?_
        refine j_getr C f_X11_16 (lit (kd := 11) (n := 12) rfl) rfl rfl (hL _ _ _ rfl) (D 45 rfl) ?_
        refine j_geti C f_X11_117 (lit (kd := 3) (n := 2) rfl) rfl rfl (D 46 rfl) ?_
        rw [hTP.1]
        exact j_iret C P rfl (D 47 rfl) ⟨Nat.le_refl _, Nat.le_refl _⟩ ⟨by rw [a_card_t (b2_ne h5), tn_n (by omega), show vE V = e by omega], I1, L, rfl, by rw [s_card, if_pos (b2_ne h5), tn_n (by omega), show vE V = e by omega]; exact hTP, fun b j q1 q2 q3 => hF b j q2 q3⟩
      | succ m ih =>
        intro e I1 he hF hTP
        have hT1 : CT I1 c V := CT_of hT (fun j k9 q1 q2 q3 => hF _ _ (by rcases hc with rfl | rfl <;> omega) (by rcases hc with rfl | rfl <;> omega)) hE10
        have hl := cdN_2 hV (a := a) (e := e) (by omega)
        have hl1 := cd1_le e (cdN V a e bt0)
        have Lm : ∀ (I3 : Nat → Nat → Int32), TP I3 2 1 3 (cd1 e (cdN V a e bt0)) → FrT 2 1 3 I I3 → J Z (0, 0) 44 [some (.ref (ra G 0)), some (.int (nI a)), some (.int (nI e))] [] (wd I3 L R) := by
            intro I3 hTP3 hF3
            have hT3 : CT I3 c V := CT_of hT (fun j k9 q1 q2 q3 => hF3 _ _ (by rcases hc with rfl | rfl <;> omega) (by rcases hc with rfl | rfl <;> omega)) hE10
            refine j_aload_n C (D 22 rfl) rfl ?_
            refine j_getr C f_X11_37 (lit (kd := 11) (n := 12) rfl) rfl rfl hr5 (D 23 rfl) ?_
            refine j_iload_n C (D 24 rfl) rfl ?_
            refine j_iload_n C (D 25 rfl) rfl ?_
            refine j_cVp C B k_X11_178 (rc_obj C (sC0 hc) rfl rfl) (c_markOf _ _ hc hL hV hT3 a e ha (by omega)) rfl rfl rfl rfl ⟨Nat.le_refl _, Nat.le_refl _⟩ (D 26 rfl) ?_
            refine j_iconst C (v := (-1)) (D 27 rfl) rfl ?_
            refine j_icmp_ne C  69 (D 28 rfl) (by decide) (fun h54 => ?_) (fun h54 => ?_)
            · obtain ⟨pp, _, hpe, hpz⟩ := i_nat (pts_rng (hV.2.2.2.2.1 e (by omega)) (vmk V a e)).1
              have hpl : pp ≤ 22000 := by have := (pts_rng (hV.2.2.2.2.1 e (by omega)) (vmk V a e)).2; omega
              refine j_aload_n C (D 34 rfl) rfl ?_
              refine j_getr C f_X11_16 (lit (kd := 11) (n := 12) rfl) rfl rfl (hL _ _ _ rfl) (D 35 rfl) ?_
              refine j_aload_n C (D 36 rfl) rfl ?_
              refine j_getr C f_X11_37 (lit (kd := 11) (n := 12) rfl) rfl rfl hr5 (D 37 rfl) ?_
              refine j_iload_n C (D 38 rfl) rfl ?_
              refine j_iload_n C (D 39 rfl) rfl ?_
              refine j_cVp C B k_X11_182 (rc_obj C (sC0 hc) rfl rfl) (c_cvalueOf _ _ hc hL hV hT3 a e ha (by omega)) rfl rfl rfl rfl ⟨Nat.le_refl _, Nat.le_refl _⟩ (D 40 rfl) ?_
              rw [hpe]
              refine j_callV C B k_X11_303 (rc_obj C (lit (kd := 3) (n := 2) rfl) rfl rfl) (c_putNumber _ _ hL (cd1 e (cdN V a e bt0)) pp hpl (by omega) hTP3) rfl rfl rfl rfl ⟨Nat.le_refl _, Nat.le_refl _⟩ (D 41 rfl) ?_
              rintro r w' ⟨rfl, I4, rfl, hTP4, hF4⟩
              first | refine j_iinc1 C (D 42 rfl) rfl rfl ?_ | refine j_iinc C (D 42 rfl) rfl rfl rfl ?_
              refine j_goto C 20 (D 43 rfl) (by decide) ?_
              exact ih (e + 1) I4 (by omega) (hF3.tr hF4) (by rw [cdN, cdR, if_neg h54, hpe, tn_n (by omega)]; exact hTP4)
            · refine j_aload_n C (D 29 rfl) rfl ?_
              refine j_getr C f_X11_16 (lit (kd := 11) (n := 12) rfl) rfl rfl (hL _ _ _ rfl) (D 30 rfl) ?_
              refine j_bipush C (v := nI 45) (D 31 rfl) rfl ?_
              refine j_callV C B k_X11_306 (rc_obj C (lit (kd := 3) (n := 2) rfl) rfl rfl) (c_pput _ _ hL (cd1 e (cdN V a e bt0)) (by omega) hTP3 (nI 45)) rfl rfl rfl rfl ⟨Nat.le_refl _, Nat.le_refl _⟩ (D 32 rfl) ?_
              rintro r w' ⟨rfl, I4, rfl, hTP4, hF4⟩
              refine j_goto C 85 (D 33 rfl) (by decide) ?_
              first | refine j_iinc1 C (D 42 rfl) rfl rfl ?_ | refine j_iinc C (D 42 rfl) rfl rfl rfl ?_
              refine j_goto C 20 (D 43 rfl) (by decide) ?_
              exact ih (e + 1) I4 (by omega) (hF3.tr hF4) (by rw [cdN, cdR, if_pos h54]; exact hTP4)
        refine j_iload_n C (D 11 rfl) rfl ?_
        refine j_aload_n C (D 12 rfl) rfl ?_
        refine j_getr C f_X11_37 (lit (kd := 11) (n := 12) rfl) rfl rfl hr5 (D 13 rfl) ?_
        refine j_geti C f_X11_98 (sC0 hc) rfl rfl (D 14 rfl) ?_
        rw [hT1.1]
        refine j_icmp_ge C  91 (D 15 rfl) (by decide) (fun h28 => absurd h28 (fun z => by rw [nle (by omega) (by omega)] at z; omega)) (fun h28 => ?_)
        refine j_iload_n C (D 16 rfl) rfl ?_
        refine j_if_le C  44 (D 17 rfl) (by decide) (fun h32 => ?_) (fun h32 => ?_)
        · exact Lm I1 (by rw [cd1, if_pos (by rw [i_le, nI_int (by omega), i0] at h32; omega)]; exact hTP) hF
        · refine j_aload_n C (D 18 rfl) rfl ?_
          refine j_getr C f_X11_16 (lit (kd := 11) (n := 12) rfl) rfl rfl (hL _ _ _ rfl) (D 19 rfl) ?_
          refine j_bipush C (v := nI 32) (D 20 rfl) rfl ?_
          refine j_callV C B k_X11_306 (rc_obj C (lit (kd := 3) (n := 2) rfl) rfl rfl) (c_pput _ _ hL (cdN V a e bt0) (by omega) hTP (nI 32)) rfl rfl rfl rfl ⟨Nat.le_refl _, Nat.le_refl _⟩ (D 21 rfl) ?_
          rintro r w' ⟨rfl, I2, rfl, hTP2, hF2⟩
          exact Lm I2 (by rw [cd1, if_neg (by rw [i_le, nI_int (by omega), i0] at h32; omega)]; exact hTP2) (hF.tr hF2)
    exact Lp (vE V) 0 I3 (by omega) hF3 hTP3
  · refine j_bipush C (v := (-2)) (D 4 rfl) rfl ?_
    exact j_iret C P rfl (D 5 rfl) ⟨Nat.le_refl _, Nat.le_refl _⟩ ⟨by rw [a_card_f (fun z => b2_eq h5 z)], I, L, rfl, by rw [s_card, if_neg (fun z => b2_eq h5 z)]; exact hTP, fun _ _ _ _ _ => rfl⟩
set_option maxRecDepth 20000 in
theorem d_cardQ (l : Launch) (G : GT) {I : Nat → Nat → Int32} {L : Nat → Nat → Int64} {R : Nat → Nat → Option Nat} (hL : Lay R) {V : VT} (hV : WV V) (hM : MT I V) (ld : Bool) (hld : I 172 1 = b2 (ld = true)) (b : BT) (hTP : TP I 172 47 196 b) (a : Int32) : Mt l G mX12_card (6) 0 0 [.ref (ra G 172), .int a] (wd I L R) (fun r w' => r = some (.int (a_card V ld a)) ∧ ∃ I' L', w' = wd I' L' R ∧ TP I' 172 47 196 (s_card V ld b a) ∧ FrO 172 47 196 scM I I') := by
  refine mt_of (own := RX12) (by decide) rfl rfl (fun Z C P B => ?_)
  have D := @dc_of _ _ dX12_card
  have hE10 := hV.1
  have hA8 := hV.2.1
  refine j_aload_n C (D 0 rfl) rfl ?_
  refine j_iload_n C (D 1 rfl) rfl ?_
  refine j_cVp C B k_X12_317 (rc_obj C (lit (kd := 12) (n := 48) rfl) rfl rfl) (d_isOne _ _ hL (vA V) hM.2.1 (by omega) _) rfl rfl rfl rfl ⟨Nat.le_refl _, Nat.le_refl _⟩ (D 2 rfl) ?_
  refine j_if_ne C  11 (D 3 rfl) (by decide) (fun h5 => ?_) (fun h5 => ?_)
  · obtain ⟨a, ha, rfl⟩ := inR_n (b2_ne h5)
    have ha8 : a < 8 := by omega
    refine j_aload_n C (D 6 rfl) rfl ?_
    refine j_iconst C (v := nI 0) (D 7 rfl) rfl ?_
    refine j_puti C f_X12_314 (lit (kd := 12) (n := 48) rfl) rfl rfl (D 8 rfl) ?_
    refine j_iconst C (v := nI 0) (D 9 rfl) rfl ?_
    refine j_istore_n C (D 10 rfl) rfl ?_
    have Lp : ∀ (m e : Nat) (x3 : Option Value) (I1 : Nat → Nat → Int32), e + m = vE V → FrT 172 47 196 I I1 → TP I1 172 47 196 (cdN V a e bt0) → J Z (0, 0) 18 [some (.ref (ra G 172)), some (.int (nI a)), some (.int (nI e)), x3] [] (wd I1 L R) := by
      intro m
      induction m with
      | zero =>
        intro e x3 I1 he hF hTP
        have hM1 := MT_T hM hF
        refine j_iload_n C (D 11 rfl) rfl ?_
        refine j_aload_n C (D 12 rfl) rfl ?_
        refine j_geti C f_X12_300 (lit (kd := 12) (n := 48) rfl) rfl rfl (D 13 rfl) ?_
        rw [hM1.1]
        refine j_icmp_ge C  78 (D 14 rfl) (by decide) (fun h23 => ?_) (fun h23 => absurd h23 (fun z => z ((nle (by omega) (by omega)).mpr (by omega))))
        refine j_aload_n C (D 44 rfl) rfl ?_
        refine j_geti C f_X12_314 (lit (kd := 12) (n := 48) rfl) rfl rfl (D 45 rfl) ?_
        rw [hTP.1]
        exact j_iret C P rfl (D 46 rfl) ⟨Nat.le_refl _, Nat.le_refl _⟩ ⟨by rw [a_card_t (b2_ne h5), tn_n (by omega), show vE V = e by omega], I1, L, rfl, by rw [s_card, if_pos (b2_ne h5), tn_n (by omega), show vE V = e by omega]; exact hTP, fun b j q1 q2 q3 => hF b j q2 q3⟩
      | succ m ih =>
        intro e x3 I1 he hF hTP
        have hM1 := MT_T hM hF
        have hl := cdN_2 hV (a := a) (e := e) (by omega)
        have hl1 := cd1_le e (cdN V a e bt0)
        have Lm : ∀ (I3 : Nat → Nat → Int32) (x3 : Option Value), TP I3 172 47 196 (cd1 e (cdN V a e bt0)) → FrT 172 47 196 I I3 → J Z (0, 0) 36 [some (.ref (ra G 172)), some (.int (nI a)), some (.int (nI e)), x3] [] (wd I3 L R) := by
            intro I3 x3 hTP3 hF3
            have hM3 := MT_T hM hF3
            have hme3 : mE I3 e = vev V e := hM3.2.2.2.2.1 e (by omega)
            have hWE3 : WE (mE I3 e) := by rw [hme3]; exact hV.2.2.2.2.1 e (by omega)
            refine j_aload_n C (D 20 rfl) rfl ?_
            refine j_getr C f_X12_22 (lit (kd := 12) (n := 48) rfl) rfl rfl (hL _ _ _ rfl) (D 21 rfl) ?_
            refine j_bipush C (v := nI 10) (D 22 rfl) rfl ?_
            refine j_iload_n C (D 23 rfl) rfl ?_
            refine j_imul C (D 24 rfl) ?_
            refine j_iload_n C (D 25 rfl) rfl ?_
            refine j_iadd C (D 26 rfl) ?_
            refine j_iald C (lit (kd := 20) (n := 80) rfl) (ix_cell' ha8 (by omega)) (D 27 rfl) ?_
            rw [(hM3.2.2.2.2.2.1 a e ha (by omega)).1]
            refine j_istore_n C (D 28 rfl) rfl ?_
            refine j_iload_n C (D 29 rfl) rfl ?_
            refine j_iconst C (v := (-1)) (D 30 rfl) rfl ?_
            refine j_icmp_ne C  62 (D 31 rfl) (by decide) (fun h50 => ?_) (fun h50 => ?_)
            · obtain ⟨pp, _, hpe, hpz⟩ := i_nat (pts_rng (hV.2.2.2.2.1 e (by omega)) (vmk V a e)).1
              have hpl : pp ≤ 22000 := by have := (pts_rng (hV.2.2.2.2.1 e (by omega)) (vmk V a e)).2; omega
              refine j_aload_n C (D 36 rfl) rfl ?_
              refine j_aload_n C (D 37 rfl) rfl ?_
              refine j_iload_n C (D 38 rfl) rfl ?_
              refine j_iload_n C (D 39 rfl) rfl ?_
              refine j_cVp C B k_X12_350 (rc_obj C (lit (kd := 12) (n := 48) rfl) rfl rfl) (d_pointsOf _ _ hL e (by omega) hWE3 _ (hV.2.2.2.2.2.1 a e ha (by omega)).1) rfl rfl rfl rfl ⟨Nat.le_refl _, Nat.le_refl _⟩ (D 40 rfl) ?_
              rw [hme3, hpe]
              refine j_callV C B k_X12_491 (rc_obj C (lit (kd := 12) (n := 48) rfl) rfl rfl) (d_saysNumber _ _ hL (cd1 e (cdN V a e bt0)) pp hpl (by omega) hTP3) rfl rfl rfl rfl ⟨Nat.le_refl _, Nat.le_refl _⟩ (D 41 rfl) ?_
              rintro r w' ⟨rfl, I4, rfl, hTP4, hF4⟩
              first | refine j_iinc1 C (D 42 rfl) rfl rfl ?_ | refine j_iinc C (D 42 rfl) rfl rfl rfl ?_
              refine j_goto C 18 (D 43 rfl) (by decide) ?_
              exact ih (e + 1) _ I4 (by omega) (hF3.tr hF4) (by rw [cdN, cdR, if_neg h50, hpe, tn_n (by omega)]; exact hTP4)
            · refine j_aload_n C (D 32 rfl) rfl ?_
              refine j_bipush C (v := nI 45) (D 33 rfl) rfl ?_
              refine j_callV C B k_X12_488 (rc_obj C (lit (kd := 12) (n := 48) rfl) rfl rfl) (d_says _ _ hL (cd1 e (cdN V a e bt0)) (by omega) hTP3 (nI 45)) rfl rfl rfl rfl ⟨Nat.le_refl _, Nat.le_refl _⟩ (D 34 rfl) ?_
              rintro r w' ⟨rfl, I4, rfl, hTP4, hF4⟩
              refine j_goto C 72 (D 35 rfl) (by decide) ?_
              first | refine j_iinc1 C (D 42 rfl) rfl rfl ?_ | refine j_iinc C (D 42 rfl) rfl rfl rfl ?_
              refine j_goto C 18 (D 43 rfl) (by decide) ?_
              exact ih (e + 1) _ I4 (by omega) (hF3.tr hF4) (by rw [cdN, cdR, if_pos h50]; exact hTP4)
        refine j_iload_n C (D 11 rfl) rfl ?_
        refine j_aload_n C (D 12 rfl) rfl ?_
        refine j_geti C f_X12_300 (lit (kd := 12) (n := 48) rfl) rfl rfl (D 13 rfl) ?_
        rw [hM1.1]
        refine j_icmp_ge C  78 (D 14 rfl) (by decide) (fun h23 => absurd h23 (fun z => by rw [nle (by omega) (by omega)] at z; omega)) (fun h23 => ?_)
        refine j_iload_n C (D 15 rfl) rfl ?_
        refine j_if_le C  36 (D 16 rfl) (by decide) (fun h27 => ?_) (fun h27 => ?_)
        · exact Lm I1 _ (by rw [cd1, if_pos (by rw [i_le, nI_int (by omega), i0] at h27; omega)]; exact hTP) hF
        · refine j_aload_n C (D 17 rfl) rfl ?_
          refine j_bipush C (v := nI 32) (D 18 rfl) rfl ?_
          refine j_callV C B k_X12_488 (rc_obj C (lit (kd := 12) (n := 48) rfl) rfl rfl) (d_says _ _ hL (cdN V a e bt0) (by omega) hTP (nI 32)) rfl rfl rfl rfl ⟨Nat.le_refl _, Nat.le_refl _⟩ (D 19 rfl) ?_
          rintro r w' ⟨rfl, I2, rfl, hTP2, hF2⟩
          exact Lm I2 _ (by rw [cd1, if_neg (by rw [i_le, nI_int (by omega), i0] at h27; omega)]; exact hTP2) (hF.tr hF2)
    exact Lp (vE V) 0 _ _ (by omega) (fun b j _ q => up2_i q) ⟨by rw [up2_same]; rfl, fun i hi => absurd hi (Nat.not_lt_zero _)⟩
  · refine j_bipush C (v := (-2)) (D 4 rfl) rfl ?_
    exact j_iret C P rfl (D 5 rfl) ⟨Nat.le_refl _, Nat.le_refl _⟩ ⟨by rw [a_card_f (fun z => b2_eq h5 z)], I, L, rfl, by rw [s_card, if_neg (fun z => b2_eq h5 z)]; exact hTP, fun _ _ _ _ _ => rfl⟩
