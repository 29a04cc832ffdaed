set_option maxRecDepth 20000 in
theorem c_stNow (l : Launch) (G : GT) {c : Nat} (hc : isC c) {I : Nat → Nat → Int32} {L : Nat → Nat → Int64} {R : Nat → Nat → Option Nat} (hL : Lay R) (hr5 : R 0 5 = some c) {V : VT} (hV : WV V) (hT : CT I c V) : Mt l G mX11_standingsNow (5) 0 0 [.ref (ra G 0)] (wd I L R) (fun r w' => r = some (.ref (ra G 98)) ∧ ∃ I', w' = wd I' L R ∧ FrN c I I' ∧ S0 I' V (ptM V (vmk V)) (gM (vmk V)) ∧ SP I' V (ptM V (vmk V)) (gM (vmk V)) ∧ SF I' V (ptM V (vmk V))) := by
  refine mt_of (own := RX11) (by decide) rfl rfl (fun Z C P B => ?_)
  have D := @dc_of _ _ dX11_standingsNow
  have hE10 := hV.1
  refine j_aload_n C (D 0 rfl) rfl ?_
  refine j_getr C f_X11_51 (lit (kd := 11) (n := 12) rfl) rfl rfl (hL _ _ _ rfl) (D 1 rfl) ?_
  refine j_aload_n C (D 2 rfl) rfl ?_
  refine j_getr C f_X11_37 (lit (kd := 11) (n := 12) rfl) rfl rfl hr5 (D 3 rfl) ?_
  refine j_aload_n C (D 4 rfl) rfl ?_
  refine j_getr C f_X11_37 (lit (kd := 11) (n := 12) rfl) rfl rfl hr5 (D 5 rfl) ?_
  refine j_getr C f_X11_334 (sC0 hc) rfl rfl (hL _ _ _ (rC1 hc)) (D 6 rfl) ?_
  refine j_callV C B k_X11_341 (rc_obj C (lit (kd := 8) (n := 6) rfl) rfl rfl) (c_sread _ _ hc hL hV hT (c + 2) (vmk V) (sC2 hc) (Or.inl rfl) (fun b e hb he => ⟨(hT.2.2.2.2.2.1 b e hb (by omega)).1, (hV.2.2.2.2.2.1 b e hb (by omega)).1⟩)) rfl rfl rfl rfl ⟨Nat.le_refl _, Nat.le_refl _⟩ (D 7 rfl) ?_
  rintro r w' ⟨rfl, I2, rfl, hF2, k0, kP, kF⟩
  refine j_aload_n C (D 8 rfl) rfl ?_
  refine j_getr C f_X11_51 (lit (kd := 11) (n := 12) rfl) rfl rfl (hL _ _ _ rfl) (D 9 rfl) ?_
  exact j_aret C P rfl (Or.inl ⟨_, rfl⟩) (D 10 rfl) ⟨Nat.le_refl _, Nat.le_refl _⟩ ⟨rfl, I2, rfl, hF2, k0, kP, kF⟩
set_option maxRecDepth 20000 in
theorem c_stBy (l : Launch) (G : GT) {c : Nat} (hc : isC c) {I : Nat → Nat → Int32} {L : Nat → Nat → Int64} {R : Nat → Nat → Option Nat} (hL : Lay R) (hr5 : R 0 5 = some c) {V : VT} (hV : WV V) (hT : CT I c V) (s : Nat) (hs : s < 2147483648) : Mt l G mX11_standingsBy (6) 0 0 [.ref (ra G 0), .int (nI s)] (wd I L R) (fun r w' => r = some (.ref (ra G 98)) ∧ ∃ I' L', w' = wd I' L' R ∧ FrS I I' ∧ S0 I' V (ptM V (drS V s)) (gM (drS V s)) ∧ SP I' V (ptM V (drS V s)) (gM (drS V s)) ∧ SF I' V (ptM V (drS V s))) := by
  refine mt_of (own := RX11) (by decide) rfl rfl (fun Z C P B => ?_)
  have D := @dc_of _ _ dX11_standingsBy
  refine j_aload_n C (D 0 rfl) rfl ?_
  refine j_getr C f_X11_51 (lit (kd := 11) (n := 12) rfl) rfl rfl (hL _ _ _ rfl) (D 1 rfl) ?_
  refine j_aload_n C (D 2 rfl) rfl ?_
  refine j_getr C f_X11_37 (lit (kd := 11) (n := 12) rfl) rfl rfl hr5 (D 3 rfl) ?_
  refine j_iload_n C (D 4 rfl) rfl ?_
  refine j_callV C B k_X11_344 (rc_obj C (lit (kd := 8) (n := 6) rfl) rfl rfl) (c_readDrawn _ _ hc hL hV hT s hs) rfl rfl rfl rfl ⟨Nat.le_refl _, Nat.le_refl _⟩ (D 5 rfl) ?_
  rintro r w' ⟨rfl, I2, L2, rfl, hF2, k0, kP, kF⟩
  refine j_aload_n C (D 6 rfl) rfl ?_
  refine j_getr C f_X11_51 (lit (kd := 11) (n := 12) rfl) rfl rfl (hL _ _ _ rfl) (D 7 rfl) ?_
  exact j_aret C P rfl (Or.inl ⟨_, rfl⟩) (D 8 rfl) ⟨Nat.le_refl _, Nat.le_refl _⟩ ⟨rfl, I2, L2, rfl, hF2, k0, kP, kF⟩
set_option maxRecDepth 20000 in
theorem c_scNow (l : Launch) (G : GT) {c : Nat} (hc : isC c) {I : Nat → Nat → Int32} {L : Nat → Nat → Int64} {R : Nat → Nat → Option Nat} (hL : Lay R) (hr5 : R 0 5 = some c) {V : VT} (hV : WV V) (hT : CT I c V) (a : Nat) (ha : a < vA V) : Mt l G mX11_scoreNow (4) 0 0 [.ref (ra G 0), .int (nI a)] (wd I L R) (fun r w' => r = some (.ref (ra G 95)) ∧ ∃ I', w' = wd I' L R ∧ FrQ 95 I I' ∧ SC I' 95 (ptM V (vmk V) a) (gM (vmk V) a) (vE V) ∧ SK I' 95 (ptM V (vmk V) a) (gM (vmk V) a) (vE V)) := by
  refine mt_of (own := RX11) (by decide) rfl rfl (fun Z C P B => ?_)
  have D := @dc_of _ _ dX11_scoreNow
  have hE10 := hV.1
  have hA8 := hV.2.1
  refine j_aload_n C (D 0 rfl) rfl ?_
  refine j_getr C f_X11_44 (lit (kd := 11) (n := 12) rfl) rfl rfl (hL _ _ _ rfl) (D 1 rfl) ?_
  refine j_aload_n C (D 2 rfl) rfl ?_
  refine j_getr C f_X11_37 (lit (kd := 11) (n := 12) rfl) rfl rfl hr5 (D 3 rfl) ?_
  refine j_aload_n C (D 4 rfl) rfl ?_
  refine j_getr C f_X11_37 (lit (kd := 11) (n := 12) rfl) rfl rfl hr5 (D 5 rfl) ?_
  refine j_getr C f_X11_334 (sC0 hc) rfl rfl (hL _ _ _ (rC1 hc)) (D 6 rfl) ?_
  refine j_iload_n C (D 7 rfl) rfl ?_
  refine j_callV C B k_X11_337 (rc_obj C (lit (kd := 5) (n := 9) rfl) rfl rfl) (c_read _ _ (Or.inl rfl) hc hL hV hT (c + 2) a (vmk V a) (sC2 hc) (by rcases hc with rfl | rfl <;> decide) (by omega) (fun e he => ⟨(hT.2.2.2.2.2.1 a e ha (by omega)).1, (hV.2.2.2.2.2.1 a e ha (by omega)).1⟩)) rfl rfl rfl rfl ⟨Nat.le_refl _, Nat.le_refl _⟩ (D 8 rfl) ?_
  rintro r w' ⟨rfl, I2, rfl, hF2, k0, kP⟩
  refine j_aload_n C (D 9 rfl) rfl ?_
  refine j_getr C f_X11_44 (lit (kd := 11) (n := 12) rfl) rfl rfl (hL _ _ _ rfl) (D 10 rfl) ?_
  exact j_aret C P rfl (Or.inl ⟨_, rfl⟩) (D 11 rfl) ⟨Nat.le_refl _, Nat.le_refl _⟩ ⟨rfl, I2, rfl, hF2, k0, kP⟩
def ofS (V : VT) (P : Nat → Nat → Int32) (g : Nat → Nat → Bool) (a : Nat) : Nat → Int32
  | 0 => totS V P g a
  | 1 => sumN (P a) (vE V)
  | 2 => paidS V (P a) (g a)
  | 3 => nI (cnt (g a) (vE V))
  | 4 => bestN (P a) (g a) (vE V)
  | 5 => leastN (P a) (g a) (vE V)
  | _ => nI (winsS P (vA V) (vE V) a)
def a_of (V : VT) (ld : Bool) (a w : Int32) : Int32 := if inR (vA V) a ∧ wi 0 6 w then ofS V (ptM V (vmk V)) (gM (vmk V)) (tn a) (tn w) else -2
theorem a_of_t {V : VT} {ld : Bool} {a w : Int32} (hX : inR (vA V) a ∧ wi 0 6 w) : a_of V ld a w = ofS V (ptM V (vmk V)) (gM (vmk V)) (tn a) (tn w) := if_pos hX
theorem a_of_f {V : VT} {ld : Bool} {a w : Int32} (hX : ¬ (inR (vA V) a ∧ wi 0 6 w)) : a_of V ld a w = -2 := if_neg hX
set_option maxRecDepth 20000 in
theorem c_ofQ (l : Launch) (G : GT) {c : Nat} (hc : isC c) {I : Nat → Nat → Int32} {L : Nat → Nat → Int64} {R : Nat → Nat → Option Nat} (hL : Lay R) (hr5 : R 0 5 = some c) {V : VT} (hV : WV V) (hT : CT I c V) (ld : Bool) (hld : I 0 6 = b2 (ld = true)) (a w : Int32) : Mt l G mX11_of (6) 0 0 [.ref (ra G 0), .int a, .int w] (wd I L R) (qC (a_of V ld a w) I R) := by
  refine mt_of (own := RX11) (by decide) rfl rfl (fun Z C P B => ?_)
  have D := @dc_of _ _ dX11_of
  have hE10 := hV.1
  have hA8 := hV.2.1
  refine j_aload_n C (D 0 rfl) rfl ?_
  refine j_iload_n C (D 1 rfl) rfl ?_
  refine j_cVp C B k_X11_184 (rc_obj C (lit (kd := 11) (n := 12) rfl) rfl rfl) (c_hasAthlete _ _ hc hL hr5 hV hT ld hld _) rfl rfl rfl rfl ⟨Nat.le_refl _, Nat.le_refl _⟩ (D 2 rfl) ?_
  refine j_if_ne C  11 (D 3 rfl) (by decide) (fun h5 => ?_) (fun h5 => ?_)
  · obtain ⟨a, ha, rfl⟩ := inR_n (b2_ne h5)
    have ha8 : a < 8 := by omega
    refine j_aload_n C (D 6 rfl) rfl ?_
    refine j_callV C B k_X11_187 (rc_obj C (lit (kd := 11) (n := 12) rfl) rfl rfl) (c_stNow _ _ hc hL hr5 hV hT) rfl rfl rfl rfl ⟨Nat.le_refl _, Nat.le_refl _⟩ (D 7 rfl) ?_
    rintro r w' ⟨rfl, I2, rfl, hF2, k0, kP, kF⟩
    have hT2 := CT_fr hc hT (hF2.S hc) hV.1
    have hz := pza_M hV (vmk V)
    refine j_getr C f_X11_191 (lit (kd := 8) (n := 6) rfl) rfl rfl (hL _ _ _ rfl) (D 8 rfl) ?_
    refine j_iload_n C (D 9 rfl) rfl ?_
    refine j_aald C (kd := 2) (lit (kd := 26) (n := 8) rfl) rfl (ix_n ha8 (by decide)) (hL _ _ _ (rSS ha8)) (D 10 rfl) ?_
    refine j_astore_n C (D 11 rfl) rfl ?_
    refine j_iload_n C (D 12 rfl) rfl ?_
    rcases sw_n 6 w with ⟨k9, hk9, rfl⟩ | hout
    · rcases (show k9 = 0 ∨ k9 = 1 ∨ k9 = 2 ∨ k9 = 3 ∨ k9 = 4 ∨ k9 = 5 ∨ k9 = 6 by omega) with rfl | rfl | rfl | rfl | rfl | rfl | rfl
      · refine j_tableIn C 64 (D 13 rfl) (by decide) (by decide) rfl (by decide) ?_
        refine j_aload_n C (D 14 rfl) rfl ?_
        refine j_geti C f_X11_195 (sS0 (isS_of ha8)) rfl rfl (D 15 rfl) ?_
        refine j_aload_n C (D 16 rfl) rfl ?_
        rw [(k0.2.2.2 a ha).2.1]
        refine j_geti C f_X11_198 (sS0 (isS_of ha8)) rfl rfl (D 17 rfl) ?_
        rw [kP a ha]
        refine j_iadd C (D 18 rfl) ?_
        exact j_iret C P rfl (D 19 rfl) ⟨Nat.le_refl _, Nat.le_refl _⟩ (qc1 (hF2.S hc) (by rw [a_of_t ⟨b2_ne h5, by decide, by decide⟩, tn_n (by omega), tn_n (by omega)]; rfl))
      · refine j_tableIn C 74 (D 13 rfl) (by decide) (by decide) rfl (by decide) ?_
        refine j_aload_n C (D 20 rfl) rfl ?_
        refine j_geti C f_X11_195 (sS0 (isS_of ha8)) rfl rfl (D 21 rfl) ?_
        rw [(k0.2.2.2 a ha).2.1]
        exact j_iret C P rfl (D 22 rfl) ⟨Nat.le_refl _, Nat.le_refl _⟩ (qc1 (hF2.S hc) (by rw [a_of_t ⟨b2_ne h5, by decide, by decide⟩, tn_n (by omega), tn_n (by omega)]; rfl))
      · refine j_tableIn C 79 (D 13 rfl) (by decide) (by decide) rfl (by decide) ?_
        refine j_aload_n C (D 23 rfl) rfl ?_
        refine j_geti C f_X11_198 (sS0 (isS_of ha8)) rfl rfl (D 24 rfl) ?_
        rw [kP a ha]
        exact j_iret C P rfl (D 25 rfl) ⟨Nat.le_refl _, Nat.le_refl _⟩ (qc1 (hF2.S hc) (by rw [a_of_t ⟨b2_ne h5, by decide, by decide⟩, tn_n (by omega), tn_n (by omega)]; rfl))
      · refine j_tableIn C 84 (D 13 rfl) (by decide) (by decide) rfl (by decide) ?_
        refine j_aload_n C (D 26 rfl) rfl ?_
        refine j_geti C f_X11_201 (sS0 (isS_of ha8)) rfl rfl (D 27 rfl) ?_
        rw [(k0.2.2.2 a ha).2.2.1]
        exact j_iret C P rfl (D 28 rfl) ⟨Nat.le_refl _, Nat.le_refl _⟩ (qc1 (hF2.S hc) (by rw [a_of_t ⟨b2_ne h5, by decide, by decide⟩, tn_n (by omega), tn_n (by omega)]; rfl))
      · refine j_tableIn C 89 (D 13 rfl) (by decide) (by decide) rfl (by decide) ?_
        refine j_aload_n C (D 29 rfl) rfl ?_
        refine j_geti C f_X11_204 (sS0 (isS_of ha8)) rfl rfl (D 30 rfl) ?_
        rw [(k0.2.2.2 a ha).2.2.2.1]
        exact j_iret C P rfl (D 31 rfl) ⟨Nat.le_refl _, Nat.le_refl _⟩ (qc1 (hF2.S hc) (by rw [a_of_t ⟨b2_ne h5, by decide, by decide⟩, tn_n (by omega), tn_n (by omega)]; rfl))
      · refine j_tableIn C 94 (D 13 rfl) (by decide) (by decide) rfl (by decide) ?_
        refine j_aload_n C (D 32 rfl) rfl ?_
        refine j_geti C f_X11_207 (sS0 (isS_of ha8)) rfl rfl (D 33 rfl) ?_
        rw [(k0.2.2.2 a ha).2.2.2.2]
        exact j_iret C P rfl (D 34 rfl) ⟨Nat.le_refl _, Nat.le_refl _⟩ (qc1 (hF2.S hc) (by rw [a_of_t ⟨b2_ne h5, by decide, by decide⟩, tn_n (by omega), tn_n (by omega)]; rfl))
      · refine j_tableIn C 99 (D 13 rfl) (by decide) (by decide) rfl (by decide) ?_
        refine j_aload_n C (D 35 rfl) rfl ?_
        refine j_geti C f_X11_210 (sS0 (isS_of ha8)) rfl rfl (D 36 rfl) ?_
        rw [kF a ha]
        exact j_iret C P rfl (D 37 rfl) ⟨Nat.le_refl _, Nat.le_refl _⟩ (qc1 (hF2.S hc) (by rw [a_of_t ⟨b2_ne h5, by decide, by decide⟩, tn_n (by omega), tn_n (by omega)]; rfl))
    · refine j_tableOut C 104 (D 13 rfl) hout (by decide) ?_
      refine j_bipush C (v := (-2)) (D 38 rfl) rfl ?_
      exact j_iret C P rfl (D 39 rfl) ⟨Nat.le_refl _, Nat.le_refl _⟩ (qc1 (hF2.S hc) (a_of_f (fun z => by have := z.2.1; have := z.2.2; omega)).symm)
  · refine j_bipush C (v := (-2)) (D 4 rfl) rfl ?_
    exact j_iret C P rfl (D 5 rfl) ⟨Nat.le_refl _, Nat.le_refl _⟩ (qc0 (a_of_f (fun z => b2_eq h5 z.1)).symm)
set_option maxRecDepth 20000 in
theorem d_ofQ (l : Launch) (G : GT) {I : Nat → Nat → Int32} {L : Nat → Nat → Int64} {R : Nat → Nat → Option Nat} (hL : Lay R) {V : VT} (hV : WV V) (hM : MT I V) (ld : Bool) (hld : I 172 1 = b2 (ld = true)) (a w : Int32) : Mt l G mX12_of (9) 0 0 [.ref (ra G 172), .int a, .int w] (wd I L R) (qM (a_of V ld a w) I R) := by
  refine mt_of (own := RX12) (by decide) rfl rfl (fun Z C P B => ?_)
  have D := @dc_of _ _ dX12_of
  have hE10 := hV.1
  have hA8 := hV.2.1
  refine j_aload_n C (D 0 rfl) rfl ?_
  refine j_iload_n C (D 1 rfl) rfl ?_
  refine j_cVp C B k_X12_317 (rc_obj C (lit (kd := 12) (n := 48) rfl) rfl rfl) (d_isOne _ _ hL (vA V) hM.2.1 (by omega) _) rfl rfl rfl rfl ⟨Nat.le_refl _, Nat.le_refl _⟩ (D 2 rfl) ?_
  refine j_if_ne C  11 (D 3 rfl) (by decide) (fun h5 => ?_) (fun h5 => ?_)
  · obtain ⟨a, ha, rfl⟩ := inR_n (b2_ne h5)
    have ha8 : a < 8 := by omega
    refine j_aload_n C (D 6 rfl) rfl ?_
    refine j_aload_n C (D 7 rfl) rfl ?_
    refine j_getr C f_X12_22 (lit (kd := 12) (n := 48) rfl) rfl rfl (hL _ _ _ rfl) (D 8 rfl) ?_
    refine j_callV C B k_X12_410 (rc_obj C (lit (kd := 12) (n := 48) rfl) rfl rfl) (d_lays _ _ hL hV hM 177 (vmk V) (lit (kd := 20) (n := 80) rfl) (Or.inl rfl) (fun b e hb he => ⟨(hM.2.2.2.2.2.1 b e hb (by omega)).1, (hV.2.2.2.2.2.1 b e hb (by omega)).1⟩)) rfl rfl rfl rfl ⟨Nat.le_refl _, Nat.le_refl _⟩ (D 9 rfl) ?_
    rintro r w' ⟨rfl, I2, rfl, hF2, hl⟩
    have hM2 := MT_fr hM hF2.M
    have hz := pza_M hV (vmk V)
    refine j_iload_n C (D 10 rfl) rfl ?_
    rcases sw_n 6 w with ⟨k9, hk9, rfl⟩ | hout
    · rcases (show k9 = 0 ∨ k9 = 1 ∨ k9 = 2 ∨ k9 = 3 ∨ k9 = 4 ∨ k9 = 5 ∨ k9 = 6 by omega) with rfl | rfl | rfl | rfl | rfl | rfl | rfl
      · refine j_tableIn C 64 (D 11 rfl) (by decide) (by decide) rfl (by decide) ?_
        refine j_aload_n C (D 12 rfl) rfl ?_
        refine j_iload_n C (D 13 rfl) rfl ?_
        refine j_callV C B k_X12_395 (rc_obj C (lit (kd := 12) (n := 48) rfl) rfl rfl) (d_totalOf _ _ hL hV hM2 hz hl a ha) rfl rfl rfl rfl ⟨Nat.le_refl _, Nat.le_refl _⟩ (D 14 rfl) ?_
        rintro r w' ⟨rfl, L3, rfl⟩
        exact j_iret C P rfl (D 15 rfl) ⟨Nat.le_refl _, Nat.le_refl _⟩ (qm1 hF2.M (by rw [a_of_t ⟨b2_ne h5, by decide, by decide⟩, tn_n (by omega), tn_n (by omega)]; rfl))
      · refine j_tableIn C 70 (D 11 rfl) (by decide) (by decide) rfl (by decide) ?_
        refine j_aload_n C (D 16 rfl) rfl ?_
        refine j_iload_n C (D 17 rfl) rfl ?_
        refine j_cVp C B k_X12_368 (rc_obj C (lit (kd := 12) (n := 48) rfl) rfl rfl) (d_sumOf _ _ hL hV hM2 hz hl a ha) rfl rfl rfl rfl ⟨Nat.le_refl _, Nat.le_refl _⟩ (D 18 rfl) ?_
        exact j_iret C P rfl (D 19 rfl) ⟨Nat.le_refl _, Nat.le_refl _⟩ (qm1 hF2.M (by rw [a_of_t ⟨b2_ne h5, by decide, by decide⟩, tn_n (by omega), tn_n (by omega)]; rfl))
      · refine j_tableIn C 76 (D 11 rfl) (by decide) (by decide) rfl (by decide) ?_
        refine j_aload_n C (D 20 rfl) rfl ?_
        refine j_iload_n C (D 21 rfl) rfl ?_
        refine j_callV C B k_X12_392 (rc_obj C (lit (kd := 12) (n := 48) rfl) rfl rfl) (d_paidOf _ _ hL hV hM2 hz hl a ha) rfl rfl rfl rfl ⟨Nat.le_refl _, Nat.le_refl _⟩ (D 22 rfl) ?_
        rintro r w' ⟨rfl, L3, rfl⟩
        exact j_iret C P rfl (D 23 rfl) ⟨Nat.le_refl _, Nat.le_refl _⟩ (qm1 hF2.M (by rw [a_of_t ⟨b2_ne h5, by decide, by decide⟩, tn_n (by omega), tn_n (by omega)]; rfl))
      · refine j_tableIn C 82 (D 11 rfl) (by decide) (by decide) rfl (by decide) ?_
        refine j_aload_n C (D 24 rfl) rfl ?_
        refine j_iload_n C (D 25 rfl) rfl ?_
        refine j_cVp C B k_X12_371 (rc_obj C (lit (kd := 12) (n := 48) rfl) rfl rfl) (d_doneOf _ _ hL hV hM2 hz hl a ha) rfl rfl rfl rfl ⟨Nat.le_refl _, Nat.le_refl _⟩ (D 26 rfl) ?_
        exact j_iret C P rfl (D 27 rfl) ⟨Nat.le_refl _, Nat.le_refl _⟩ (qm1 hF2.M (by rw [a_of_t ⟨b2_ne h5, by decide, by decide⟩, tn_n (by omega), tn_n (by omega)]; rfl))
      · refine j_tableIn C 88 (D 11 rfl) (by decide) (by decide) rfl (by decide) ?_
        refine j_aload_n C (D 28 rfl) rfl ?_
        refine j_iload_n C (D 29 rfl) rfl ?_
        refine j_cVp C B k_X12_374 (rc_obj C (lit (kd := 12) (n := 48) rfl) rfl rfl) (d_bestOf _ _ hL hV hM2 hz hl a ha) rfl rfl rfl rfl ⟨Nat.le_refl _, Nat.le_refl _⟩ (D 30 rfl) ?_
        exact j_iret C P rfl (D 31 rfl) ⟨Nat.le_refl _, Nat.le_refl _⟩ (qm1 hF2.M (by rw [a_of_t ⟨b2_ne h5, by decide, by decide⟩, tn_n (by omega), tn_n (by omega)]; rfl))
      · refine j_tableIn C 94 (D 11 rfl) (by decide) (by decide) rfl (by decide) ?_
        refine j_aload_n C (D 32 rfl) rfl ?_
        refine j_iload_n C (D 33 rfl) rfl ?_
        refine j_cVp C B k_X12_377 (rc_obj C (lit (kd := 12) (n := 48) rfl) rfl rfl) (d_leastOf _ _ hL hV hM2 hz hl a ha) rfl rfl rfl rfl ⟨Nat.le_refl _, Nat.le_refl _⟩ (D 34 rfl) ?_
        exact j_iret C P rfl (D 35 rfl) ⟨Nat.le_refl _, Nat.le_refl _⟩ (qm1 hF2.M (by rw [a_of_t ⟨b2_ne h5, by decide, by decide⟩, tn_n (by omega), tn_n (by omega)]; rfl))
      · refine j_tableIn C 100 (D 11 rfl) (by decide) (by decide) rfl (by decide) ?_
        refine j_aload_n C (D 36 rfl) rfl ?_
        refine j_iload_n C (D 37 rfl) rfl ?_
        refine j_cVp C B k_X12_398 (rc_obj C (lit (kd := 12) (n := 48) rfl) rfl rfl) (d_winsOf _ _ hL hV hM2 hz hl a ha) rfl rfl rfl rfl ⟨Nat.le_refl _, Nat.le_refl _⟩ (D 38 rfl) ?_
        exact j_iret C P rfl (D 39 rfl) ⟨Nat.le_refl _, Nat.le_refl _⟩ (qm1 hF2.M (by rw [a_of_t ⟨b2_ne h5, by decide, by decide⟩, tn_n (by omega), tn_n (by omega)]; rfl))
    · refine j_tableOut C 106 (D 11 rfl) hout (by decide) ?_
      refine j_bipush C (v := (-2)) (D 40 rfl) rfl ?_
      exact j_iret C P rfl (D 41 rfl) ⟨Nat.le_refl _, Nat.le_refl _⟩ (qm1 hF2.M (a_of_f (fun z => by have := z.2.1; have := z.2.2; omega)).symm)
  · refine j_bipush C (v := (-2)) (D 4 rfl) rfl ?_
    exact j_iret C P rfl (D 5 rfl) ⟨Nat.le_refl _, Nat.le_refl _⟩ (qm0 (a_of_f (fun z => b2_eq h5 z.1)).symm)
def a_holds (V : VT) (ld : Bool) (k a : Int32) : Int32 := if inR (vB V) k ∧ inR (vA V) a then b2 (tstS (envZ (ptM V (vmk V) (tn a)) (gM (vmk V) (tn a)) (vE V)) (vts V (tn k)) = true) else -2
theorem a_holds_t {V : VT} {ld : Bool} {k a : Int32} (hX : inR (vB V) k ∧ inR (vA V) a) : a_holds V ld k a = b2 (tstS (envZ (ptM V (vmk V) (tn a)) (gM (vmk V) (tn a)) (vE V)) (vts V (tn k)) = true) := if_pos hX
theorem a_holds_f {V : VT} {ld : Bool} {k a : Int32} (hX : ¬ (inR (vB V) k ∧ inR (vA V) a)) : a_holds V ld k a = -2 := if_neg hX
set_option maxRecDepth 20000 in
theorem c_holdsQ (l : Launch) (G : GT) {c : Nat} (hc : isC c) {I : Nat → Nat → Int32} {L : Nat → Nat → Int64} {R : Nat → Nat → Option Nat} (hL : Lay R) (hr5 : R 0 5 = some c) {V : VT} (hV : WV V) (hT : CT I c V) (ld : Bool) (hld : I 0 6 = b2 (ld = true)) (k a : Int32) : Mt l G mX11_holds (5) 0 0 [.ref (ra G 0), .int k, .int a] (wd I L R) (qC (a_holds V ld k a) I R) := by
  refine mt_of (own := RX11) (by decide) rfl rfl (fun Z C P B => ?_)
  have D := @dc_of _ _ dX11_holds
  have hE10 := hV.1
  have hA8 := hV.2.1
  refine j_aload_n C (D 0 rfl) rfl ?_
  refine j_iload_n C (D 1 rfl) rfl ?_
  refine j_cVp C B k_X11_213 (rc_obj C (lit (kd := 11) (n := 12) rfl) rfl rfl) (c_hasBonus _ _ hc hL hr5 hV hT ld hld _) rfl rfl rfl rfl ⟨Nat.le_refl _, Nat.le_refl _⟩ (D 2 rfl) ?_
  refine j_if_eq C  16 (D 3 rfl) (by decide) (fun h5 => ?_) (fun h5 => ?_)
  · refine j_bipush C (v := (-2)) (D 8 rfl) rfl ?_
    exact j_iret C P rfl (D 9 rfl) ⟨Nat.le_refl _, Nat.le_refl _⟩ (qc0 (a_holds_f (fun z => b2_eq h5 z.1)).symm)
  · refine j_aload_n C (D 4 rfl) rfl ?_
    refine j_iload_n C (D 5 rfl) rfl ?_
    refine j_cVp C B k_X11_184 (rc_obj C (lit (kd := 11) (n := 12) rfl) rfl rfl) (c_hasAthlete _ _ hc hL hr5 hV hT ld hld _) rfl rfl rfl rfl ⟨Nat.le_refl _, Nat.le_refl _⟩ (D 6 rfl) ?_
    refine j_if_ne C  19 (D 7 rfl) (by decide) (fun h13 => ?_) (fun h13 => ?_)
    · have hB4 := hV.2.2.1
      obtain ⟨k, hk, rfl⟩ := inR_n (b2_ne h5)
      obtain ⟨a, ha, rfl⟩ := inR_n (b2_ne h13)
      have ha8 : a < 8 := by omega
      refine j_aload_n C (D 10 rfl) rfl ?_
      refine j_getr C f_X11_37 (lit (kd := 11) (n := 12) rfl) rfl rfl hr5 (D 11 rfl) ?_
      refine j_getr C f_X11_104 (sC0 hc) rfl rfl (hL _ _ _ (rC4 hc)) (D 12 rfl) ?_
      refine j_iload_n C (D 13 rfl) rfl ?_
      refine j_aload_n C (D 14 rfl) rfl ?_
      refine j_iload_n C (D 15 rfl) rfl ?_
      refine j_callV C B k_X11_216 (rc_obj C (lit (kd := 11) (n := 12) rfl) rfl rfl) (c_scNow _ _ hc hL hr5 hV hT a ha) rfl rfl rfl rfl ⟨Nat.le_refl _, Nat.le_refl _⟩ (D 16 rfl) ?_
      rintro r w' ⟨rfl, I2, rfl, hF2, kS, kK⟩
      have hT2 := CT_fr hc hT (hF2.S (Or.inl rfl)) hV.1
      refine j_callV C B k_X11_220 (rc_obj C (sC5 hc) rfl rfl) (c_isSo _ _ hc (Or.inl rfl) hL hV hT2 (pza_M hV (vmk V) a ha) kS kK k hk) rfl rfl rfl rfl ⟨Nat.le_refl _, Nat.le_refl _⟩ (D 17 rfl) ?_
      rintro r w' ⟨rfl, I3, rfl, hF3⟩
      refine j_if_eq C  42 (D 18 rfl) (by decide) (fun h35 => ?_) (fun h35 => ?_)
      · refine j_iconst C (v := nI 0) (D 21 rfl) rfl ?_
        exact j_iret C P rfl (D 22 rfl) ⟨Nat.le_refl _, Nat.le_refl _⟩ (qc1 ((hF2.S (Or.inl rfl)).tr (hF3.S hc)) (by rw [a_holds_t ⟨(b2_ne h5), (b2_ne h13)⟩, tn_n (by omega), tn_n (by omega)]; exact b2_f (b2_eq h35)))
      · refine j_iconst C (v := nI 1) (D 19 rfl) rfl ?_
        refine j_goto C 43 (D 20 rfl) (by decide) ?_
        exact j_iret C P rfl (D 22 rfl) ⟨Nat.le_refl _, Nat.le_refl _⟩ (qc1 ((hF2.S (Or.inl rfl)).tr (hF3.S hc)) (by rw [a_holds_t ⟨(b2_ne h5), (b2_ne h13)⟩, tn_n (by omega), tn_n (by omega)]; exact b2_t (b2_ne h35)))
    · refine j_bipush C (v := (-2)) (D 8 rfl) rfl ?_
      exact j_iret C P rfl (D 9 rfl) ⟨Nat.le_refl _, Nat.le_refl _⟩ (qc0 (a_holds_f (fun z => b2_eq h13 z.2)).symm)
set_option maxRecDepth 20000 in
theorem d_holdsQ (l : Launch) (G : GT) {I : Nat → Nat → Int32} {L : Nat → Nat → Int64} {R : Nat → Nat → Option Nat} (hL : Lay R) {V : VT} (hV : WV V) (hM : MT I V) (ld : Bool) (hld : I 172 1 = b2 (ld = true)) (k a : Int32) : Mt l G mX12_holds (5) 0 0 [.ref (ra G 172), .int k, .int a] (wd I L R) (qM (a_holds V ld k a) I R) := by
  refine mt_of (own := RX12) (by decide) rfl rfl (fun Z C P B => ?_)
  have D := @dc_of _ _ dX12_holds
  have hE10 := hV.1
  have hA8 := hV.2.1
  refine j_iload_n C (D 0 rfl) rfl ?_
  refine j_i2l C (D 1 rfl) ?_
  refine j_lconst C (v := 0) (D 2 rfl) rfl ?_
  refine j_aload_n C (D 3 rfl) rfl ?_
  refine j_geti C f_X12_306 (lit (kd := 12) (n := 48) rfl) rfl rfl (D 4 rfl) ?_
  refine j_iconst C (v := nI 1) (D 5 rfl) rfl ?_
  refine j_isub C (D 6 rfl) ?_
  refine j_i2l C (D 7 rfl) ?_
  rw [hM.2.2.2.1]
  refine j_cSp C B k_X12_99 (d_in _ _ _ _ _ _) rfl rfl rfl rfl ⟨Nat.le_refl _, Nat.le_refl _⟩ (D 8 rfl) ?_
  refine j_if_eq C  24 (D 9 rfl) (by decide) (fun h13 => ?_) (fun h13 => ?_)
  · refine j_bipush C (v := (-2)) (D 14 rfl) rfl ?_
    exact j_iret C P rfl (D 15 rfl) ⟨Nat.le_refl _, Nat.le_refl _⟩ (qm0 (a_holds_f (fun z => b2_eq h13 ((prL (by have := hV.2.2.1; omega) (by decide)).mpr z.1))).symm)
  · refine j_aload_n C (D 10 rfl) rfl ?_
    refine j_iload_n C (D 11 rfl) rfl ?_
    refine j_cVp C B k_X12_317 (rc_obj C (lit (kd := 12) (n := 48) rfl) rfl rfl) (d_isOne _ _ hL (vA V) hM.2.1 (by omega) _) rfl rfl rfl rfl ⟨Nat.le_refl _, Nat.le_refl _⟩ (D 12 rfl) ?_
    refine j_if_ne C  27 (D 13 rfl) (by decide) (fun h21 => ?_) (fun h21 => ?_)
    · have hB4 := hV.2.2.1
      obtain ⟨k, hk, rfl⟩ := inR_n ((prL (by have := hV.2.2.1; omega) (by decide)).mp (b2_ne h13))
      obtain ⟨a, ha, rfl⟩ := inR_n (b2_ne h21)
      have ha8 : a < 8 := by omega
      refine j_aload_n C (D 16 rfl) rfl ?_
      refine j_aload_n C (D 17 rfl) rfl ?_
      refine j_getr C f_X12_22 (lit (kd := 12) (n := 48) rfl) rfl rfl (hL _ _ _ rfl) (D 18 rfl) ?_
      refine j_callV C B k_X12_410 (rc_obj C (lit (kd := 12) (n := 48) rfl) rfl rfl) (d_lays _ _ hL hV hM 177 (vmk V) (lit (kd := 20) (n := 80) rfl) (Or.inl rfl) (fun b e hb he => ⟨(hM.2.2.2.2.2.1 b e hb (by omega)).1, (hV.2.2.2.2.2.1 b e hb (by omega)).1⟩)) rfl rfl rfl rfl ⟨Nat.le_refl _, Nat.le_refl _⟩ (D 19 rfl) ?_
      rintro r w' ⟨rfl, I2, rfl, hF2, hl⟩
      have hM2 := MT_fr hM hF2.M
      have hz := pza_M hV (vmk V)
      refine j_aload_n C (D 20 rfl) rfl ?_
      refine j_iload_n C (D 21 rfl) rfl ?_
      refine j_iload_n C (D 22 rfl) rfl ?_
      refine j_callV C B k_X12_388 (rc_obj C (lit (kd := 12) (n := 48) rfl) rfl rfl) (d_isSo _ _ hL hV hM2 hz hl k a hk ha) rfl rfl rfl rfl ⟨Nat.le_refl _, Nat.le_refl _⟩ (D 23 rfl) ?_
      rintro r w' ⟨rfl, L3, rfl⟩
      refine j_if_eq C  48 (D 24 rfl) (by decide) (fun h41 => ?_) (fun h41 => ?_)
      · refine j_iconst C (v := nI 0) (D 27 rfl) rfl ?_
        exact j_iret C P rfl (D 28 rfl) ⟨Nat.le_refl _, Nat.le_refl _⟩ (qm1 hF2.M (by rw [a_holds_t ⟨((prL (by have := hV.2.2.1; omega) (by decide)).mp (b2_ne h13)), (b2_ne h21)⟩, tn_n (by omega), tn_n (by omega)]; exact b2_f (b2_eq h41)))
      · refine j_iconst C (v := nI 1) (D 25 rfl) rfl ?_
        refine j_goto C 49 (D 26 rfl) (by decide) ?_
        exact j_iret C P rfl (D 28 rfl) ⟨Nat.le_refl _, Nat.le_refl _⟩ (qm1 hF2.M (by rw [a_holds_t ⟨((prL (by have := hV.2.2.1; omega) (by decide)).mp (b2_ne h13)), (b2_ne h21)⟩, tn_n (by omega), tn_n (by omega)]; exact b2_t (b2_ne h41)))
    · refine j_bipush C (v := (-2)) (D 14 rfl) rfl ?_
      exact j_iret C P rfl (D 15 rfl) ⟨Nat.le_refl _, Nat.le_refl _⟩ (qm0 (a_holds_f (fun z => b2_eq h21 z.2)).symm)
def a_place (V : VT) (ld : Bool) (k : Int32) : Int32 := if ld = true ∧ 0 ≤ k.toInt then plS V (ptM V (vmk V)) (gM (vmk V)) k else -2
theorem a_place_t {V : VT} {ld : Bool} {k : Int32} (hX : ld = true ∧ 0 ≤ k.toInt) : a_place V ld k = plS V (ptM V (vmk V)) (gM (vmk V)) k := if_pos hX
theorem a_place_f {V : VT} {ld : Bool} {k : Int32} (hX : ¬ (ld = true ∧ 0 ≤ k.toInt)) : a_place V ld k = -2 := if_neg hX
set_option maxRecDepth 20000 in
theorem c_placeQ (l : Launch) (G : GT) {c : Nat} (hc : isC c) {I : Nat → Nat → Int32} {L : Nat → Nat → Int64} {R : Nat → Nat → Option Nat} (hL : Lay R) (hr5 : R 0 5 = some c) {V : VT} (hV : WV V) (hT : CT I c V) (ld : Bool) (hld : I 0 6 = b2 (ld = true)) (k : Int32) : Mt l G mX11_place (6) 0 0 [.ref (ra G 0), .int k] (wd I L R) (qC (a_place V ld k) I R) := by
  refine mt_of (own := RX11) (by decide) rfl rfl (fun Z C P B => ?_)
  have D := @dc_of _ _ dX11_place
  have hE10 := hV.1
  have hA8 := hV.2.1
  refine j_aload_n C (D 0 rfl) rfl ?_
  refine j_geti C f_X11_85 (lit (kd := 11) (n := 12) rfl) rfl rfl (D 1 rfl) ?_
  rw [hld]
  refine j_if_eq C  11 (D 2 rfl) (by decide) (fun h4 => ?_) (fun h4 => ?_)
  · refine j_bipush C (v := (-2)) (D 5 rfl) rfl ?_
    exact j_iret C P rfl (D 6 rfl) ⟨Nat.le_refl _, Nat.le_refl _⟩ (qc0 (a_place_f (fun z => b2_eq h4 z.1)).symm)
  · refine j_iload_n C (D 3 rfl) rfl ?_
    refine j_if_ge C  14 (D 4 rfl) (by decide) (fun h8 => ?_) (fun h8 => ?_)
    · refine j_aload_n C (D 7 rfl) rfl ?_
      refine j_callV C B k_X11_187 (rc_obj C (lit (kd := 11) (n := 12) rfl) rfl rfl) (c_stNow _ _ hc hL hr5 hV hT) rfl rfl rfl rfl ⟨Nat.le_refl _, Nat.le_refl _⟩ (D 8 rfl) ?_
      rintro r w' ⟨rfl, I2, rfl, hF2, k0, kP, kF⟩
      have hT2 := CT_fr hc hT (hF2.S hc) hV.1
      have hz := pza_M hV (vmk V)
      refine j_iload_n C (D 9 rfl) rfl ?_
      refine j_cVp C B k_X11_227 (rc_obj C (lit (kd := 8) (n := 6) rfl) rfl rfl) (c_athleteAt _ _ hL hV hz k0 kP kF _) rfl rfl rfl rfl ⟨Nat.le_refl _, Nat.le_refl _⟩ (D 10 rfl) ?_
      exact j_iret C P rfl (D 11 rfl) ⟨Nat.le_refl _, Nat.le_refl _⟩ (qc1 (hF2.S hc) (by rw [a_place_t ⟨(b2_ne h4), (by rw [i_le, i0] at h8; exact h8)⟩]))
    · refine j_bipush C (v := (-2)) (D 5 rfl) rfl ?_
      exact j_iret C P rfl (D 6 rfl) ⟨Nat.le_refl _, Nat.le_refl _⟩ (qc0 (a_place_f (fun z => h8 (i_le.mpr (by rw [i0]; exact z.2)))).symm)
set_option maxRecDepth 20000 in
theorem d_placeQ (l : Launch) (G : GT) {I : Nat → Nat → Int32} {L : Nat → Nat → Int64} {R : Nat → Nat → Option Nat} (hL : Lay R) {V : VT} (hV : WV V) (hM : MT I V) (ld : Bool) (hld : I 172 1 = b2 (ld = true)) (k : Int32) : Mt l G mX12_place (9) 0 0 [.ref (ra G 172), .int k] (wd I L R) (qM (a_place V ld k) I R) := by
  refine mt_of (own := RX12) (by decide) rfl rfl (fun Z C P B => ?_)
  have D := @dc_of _ _ dX12_place
  have hE10 := hV.1
  have hA8 := hV.2.1
  refine j_aload_n C (D 0 rfl) rfl ?_
  refine j_geti C f_X12_297 (lit (kd := 12) (n := 48) rfl) rfl rfl (D 1 rfl) ?_
  rw [hld]
  refine j_if_eq C  11 (D 2 rfl) (by decide) (fun h4 => ?_) (fun h4 => ?_)
  · refine j_bipush C (v := (-2)) (D 5 rfl) rfl ?_
    exact j_iret C P rfl (D 6 rfl) ⟨Nat.le_refl _, Nat.le_refl _⟩ (qm0 (a_place_f (fun z => b2_eq h4 z.1)).symm)
  · refine j_iload_n C (D 3 rfl) rfl ?_
    refine j_if_ge C  14 (D 4 rfl) (by decide) (fun h8 => ?_) (fun h8 => ?_)
    · refine j_aload_n C (D 7 rfl) rfl ?_
      refine j_aload_n C (D 8 rfl) rfl ?_
      refine j_getr C f_X12_22 (lit (kd := 12) (n := 48) rfl) rfl rfl (hL _ _ _ rfl) (D 9 rfl) ?_
      refine j_callV C B k_X12_410 (rc_obj C (lit (kd := 12) (n := 48) rfl) rfl rfl) (d_lays _ _ hL hV hM 177 (vmk V) (lit (kd := 20) (n := 80) rfl) (Or.inl rfl) (fun b e hb he => ⟨(hM.2.2.2.2.2.1 b e hb (by omega)).1, (hV.2.2.2.2.2.1 b e hb (by omega)).1⟩)) rfl rfl rfl rfl ⟨Nat.le_refl _, Nat.le_refl _⟩ (D 10 rfl) ?_
      rintro r w' ⟨rfl, I2, rfl, hF2, hl⟩
      have hM2 := MT_fr hM hF2.M
      have hz := pza_M hV (vmk V)
      refine j_aload_n C (D 11 rfl) rfl ?_
      refine j_iload_n C (D 12 rfl) rfl ?_
      refine j_callV C B k_X12_414 (rc_obj C (lit (kd := 12) (n := 48) rfl) rfl rfl) (d_placed _ _ hL hV hM2 hz hl _) rfl rfl rfl rfl ⟨Nat.le_refl _, Nat.le_refl _⟩ (D 13 rfl) ?_
      rintro r w' ⟨rfl, L3, rfl⟩
      exact j_iret C P rfl (D 14 rfl) ⟨Nat.le_refl _, Nat.le_refl _⟩ (qm1 hF2.M (by rw [a_place_t ⟨(b2_ne h4), (by rw [i_le, i0] at h8; exact h8)⟩]))
    · refine j_bipush C (v := (-2)) (D 5 rfl) rfl ?_
      exact j_iret C P rfl (D 6 rfl) ⟨Nat.le_refl _, Nat.le_refl _⟩ (qm0 (a_place_f (fun z => h8 (i_le.mpr (by rw [i0]; exact z.2)))).symm)
def a_rank (V : VT) (ld : Bool) (a : Int32) : Int32 := if inR (vA V) a then nI (rkS V (ptM V (vmk V)) (gM (vmk V)) (tn a)) else -2
theorem a_rank_t {V : VT} {ld : Bool} {a : Int32} (hX : inR (vA V) a) : a_rank V ld a = nI (rkS V (ptM V (vmk V)) (gM (vmk V)) (tn a)) := if_pos hX
theorem a_rank_f {V : VT} {ld : Bool} {a : Int32} (hX : ¬ (inR (vA V) a)) : a_rank V ld a = -2 := if_neg hX
set_option maxRecDepth 20000 in
theorem c_rankQ (l : Launch) (G : GT) {c : Nat} (hc : isC c) {I : Nat → Nat → Int32} {L : Nat → Nat → Int64} {R : Nat → Nat → Option Nat} (hL : Lay R) (hr5 : R 0 5 = some c) {V : VT} (hV : WV V) (hT : CT I c V) (ld : Bool) (hld : I 0 6 = b2 (ld = true)) (a : Int32) : Mt l G mX11_rank (6) 0 0 [.ref (ra G 0), .int a] (wd I L R) (qC (a_rank V ld a) I R) := by
  refine mt_of (own := RX11) (by decide) rfl rfl (fun Z C P B => ?_)
  have D := @dc_of _ _ dX11_rank
  have hE10 := hV.1
  have hA8 := hV.2.1
  refine j_aload_n C (D 0 rfl) rfl ?_
  refine j_iload_n C (D 1 rfl) rfl ?_
  refine j_cVp C B k_X11_184 (rc_obj C (lit (kd := 11) (n := 12) rfl) rfl rfl) (c_hasAthlete _ _ hc hL hr5 hV hT ld hld _) rfl rfl rfl rfl ⟨Nat.le_refl _, Nat.le_refl _⟩ (D 2 rfl) ?_
  refine j_if_eq C  19 (D 3 rfl) (by decide) (fun h5 => ?_) (fun h5 => ?_)
  · refine j_bipush C (v := (-2)) (D 9 rfl) rfl ?_
    exact j_iret C P rfl (D 10 rfl) ⟨Nat.le_refl _, Nat.le_refl _⟩ (qc0 (a_rank_f (fun z => b2_eq h5 z)).symm)
  · obtain ⟨a, ha, rfl⟩ := inR_n (b2_ne h5)
    have ha8 : a < 8 := by omega
    refine j_aload_n C (D 4 rfl) rfl ?_
    refine j_callV C B k_X11_187 (rc_obj C (lit (kd := 11) (n := 12) rfl) rfl rfl) (c_stNow _ _ hc hL hr5 hV hT) rfl rfl rfl rfl ⟨Nat.le_refl _, Nat.le_refl _⟩ (D 5 rfl) ?_
    rintro r w' ⟨rfl, I2, rfl, hF2, k0, kP, kF⟩
    have hT2 := CT_fr hc hT (hF2.S hc) hV.1
    have hz := pza_M hV (vmk V)
    refine j_iload_n C (D 6 rfl) rfl ?_
    refine j_cVp C B k_X11_230 (rc_obj C (lit (kd := 8) (n := 6) rfl) rfl rfl) (c_placeOf _ _ hL hV hz k0 kP kF a ha) rfl rfl rfl rfl ⟨Nat.le_refl _, Nat.le_refl _⟩ (D 7 rfl) ?_
    refine j_goto C 21 (D 8 rfl) (by decide) ?_
    exact j_iret C P rfl (D 10 rfl) ⟨Nat.le_refl _, Nat.le_refl _⟩ (qc1 (hF2.S hc) (by rw [a_rank_t (b2_ne h5), tn_n (by omega)]))
set_option maxRecDepth 20000 in
theorem d_rankQ (l : Launch) (G : GT) {I : Nat → Nat → Int32} {L : Nat → Nat → Int64} {R : Nat → Nat → Option Nat} (hL : Lay R) {V : VT} (hV : WV V) (hM : MT I V) (ld : Bool) (hld : I 172 1 = b2 (ld = true)) (a : Int32) : Mt l G mX12_rank (9) 0 0 [.ref (ra G 172), .int a] (wd I L R) (qM (a_rank V ld a) I R) := by
  refine mt_of (own := RX12) (by decide) rfl rfl (fun Z C P B => ?_)
  have D := @dc_of _ _ dX12_rank
  have hE10 := hV.1
  have hA8 := hV.2.1
  refine j_aload_n C (D 0 rfl) rfl ?_
  refine j_iload_n C (D 1 rfl) rfl ?_
  refine j_cVp C B k_X12_317 (rc_obj C (lit (kd := 12) (n := 48) rfl) rfl rfl) (d_isOne _ _ hL (vA V) hM.2.1 (by omega) _) rfl rfl rfl rfl ⟨Nat.le_refl _, Nat.le_refl _⟩ (D 2 rfl) ?_
  refine j_if_ne C  11 (D 3 rfl) (by decide) (fun h5 => ?_) (fun h5 => ?_)
  · obtain ⟨a, ha, rfl⟩ := inR_n (b2_ne h5)
    have ha8 : a < 8 := by omega
    refine j_aload_n C (D 6 rfl) rfl ?_
    refine j_aload_n C (D 7 rfl) rfl ?_
    refine j_getr C f_X12_22 (lit (kd := 12) (n := 48) rfl) rfl rfl (hL _ _ _ rfl) (D 8 rfl) ?_
    refine j_callV C B k_X12_410 (rc_obj C (lit (kd := 12) (n := 48) rfl) rfl rfl) (d_lays _ _ hL hV hM 177 (vmk V) (lit (kd := 20) (n := 80) rfl) (Or.inl rfl) (fun b e hb he => ⟨(hM.2.2.2.2.2.1 b e hb (by omega)).1, (hV.2.2.2.2.2.1 b e hb (by omega)).1⟩)) rfl rfl rfl rfl ⟨Nat.le_refl _, Nat.le_refl _⟩ (D 9 rfl) ?_
    rintro r w' ⟨rfl, I2, rfl, hF2, hl⟩
    have hM2 := MT_fr hM hF2.M
    have hz := pza_M hV (vmk V)
    refine j_aload_n C (D 10 rfl) rfl ?_
    refine j_iload_n C (D 11 rfl) rfl ?_
    refine j_callV C B k_X12_404 (rc_obj C (lit (kd := 12) (n := 48) rfl) rfl rfl) (d_rankOf _ _ hL hV hM2 hz hl a ha) rfl rfl rfl rfl ⟨Nat.le_refl _, Nat.le_refl _⟩ (D 12 rfl) ?_
    rintro r w' ⟨rfl, L3, rfl⟩
    exact j_iret C P rfl (D 13 rfl) ⟨Nat.le_refl _, Nat.le_refl _⟩ (qm1 hF2.M (by rw [a_rank_t (b2_ne h5), tn_n (by omega)]))
  · refine j_bipush C (v := (-2)) (D 4 rfl) rfl ?_
    exact j_iret C P rfl (D 5 rfl) ⟨Nat.le_refl _, Nat.le_refl _⟩ (qm0 (a_rank_f (fun z => b2_eq h5 z)).symm)
def a_met (V : VT) (ld : Bool) (s a : Int32) : Int32 := if 0 ≤ s.toInt ∧ inR (vA V) a then totS V (ptM V (drS V (tn s))) (gM (drS V (tn s))) (tn a) else -2
theorem a_met_t {V : VT} {ld : Bool} {s a : Int32} (hX : 0 ≤ s.toInt ∧ inR (vA V) a) : a_met V ld s a = totS V (ptM V (drS V (tn s))) (gM (drS V (tn s))) (tn a) := if_pos hX
theorem a_met_f {V : VT} {ld : Bool} {s a : Int32} (hX : ¬ (0 ≤ s.toInt ∧ inR (vA V) a)) : a_met V ld s a = -2 := if_neg hX
set_option maxRecDepth 20000 in
theorem c_metQ (l : Launch) (G : GT) {c : Nat} (hc : isC c) {I : Nat → Nat → Int32} {L : Nat → Nat → Int64} {R : Nat → Nat → Option Nat} (hL : Lay R) (hr5 : R 0 5 = some c) {V : VT} (hV : WV V) (hT : CT I c V) (ld : Bool) (hld : I 0 6 = b2 (ld = true)) (s a : Int32) : Mt l G mX11_met (7) 0 0 [.ref (ra G 0), .int s, .int a] (wd I L R) (qC (a_met V ld s a) I R) := by
  refine mt_of (own := RX11) (by decide) rfl rfl (fun Z C P B => ?_)
  have D := @dc_of _ _ dX11_met
  have hE10 := hV.1
  have hA8 := hV.2.1
  refine j_aload_n C (D 0 rfl) rfl ?_
  refine j_iload_n C (D 1 rfl) rfl ?_
  refine j_cVp C B k_X11_184 (rc_obj C (lit (kd := 11) (n := 12) rfl) rfl rfl) (c_hasAthlete _ _ hc hL hr5 hV hT ld hld _) rfl rfl rfl rfl ⟨Nat.le_refl _, Nat.le_refl _⟩ (D 2 rfl) ?_
  refine j_if_eq C  12 (D 3 rfl) (by decide) (fun h5 => ?_) (fun h5 => ?_)
  · refine j_bipush C (v := (-2)) (D 6 rfl) rfl ?_
    exact j_iret C P rfl (D 7 rfl) ⟨Nat.le_refl _, Nat.le_refl _⟩ (qc0 (a_met_f (fun z => b2_eq h5 z.2)).symm)
  · refine j_iload_n C (D 4 rfl) rfl ?_
    refine j_if_ge C  15 (D 5 rfl) (by decide) (fun h9 => ?_) (fun h9 => ?_)
    · obtain ⟨a, ha, rfl⟩ := inR_n (b2_ne h5)
      have ha8 : a < 8 := by omega
      obtain ⟨s, hs9, rfl, _⟩ := i_nat (a := s) (by rw [i_le, i0] at h9; exact h9)
      refine j_aload_n C (D 8 rfl) rfl ?_
      refine j_iload_n C (D 9 rfl) rfl ?_
      refine j_callV C B k_X11_283 (rc_obj C (lit (kd := 11) (n := 12) rfl) rfl rfl) (c_stBy _ _ hc hL hr5 hV hT s hs9) rfl rfl rfl rfl ⟨Nat.le_refl _, Nat.le_refl _⟩ (D 10 rfl) ?_
      rintro r w' ⟨rfl, I2, L2, rfl, hF2, k0, kP, kF⟩
      have hz := pza_M hV (drS V s)
      refine j_iload_n C (D 11 rfl) rfl ?_
      refine j_cVp C B k_X11_252 (rc_obj C (lit (kd := 8) (n := 6) rfl) rfl rfl) (c_totalOf _ _ hL hV hz k0 kP a ha) rfl rfl rfl rfl ⟨Nat.le_refl _, Nat.le_refl _⟩ (D 12 rfl) ?_
      exact j_iret C P rfl (D 13 rfl) ⟨Nat.le_refl _, Nat.le_refl _⟩ (qc1 hF2 (by rw [a_met_t ⟨(by rw [i_le, i0] at h9; exact h9), (b2_ne h5)⟩, tn_n (by omega), tn_n (by omega)]))
    · refine j_bipush C (v := (-2)) (D 6 rfl) rfl ?_
      exact j_iret C P rfl (D 7 rfl) ⟨Nat.le_refl _, Nat.le_refl _⟩ (qc0 (a_met_f (fun z => h9 (i_le.mpr (by rw [i0]; exact z.1)))).symm)
set_option maxRecDepth 20000 in
theorem d_metQ (l : Launch) (G : GT) {I : Nat → Nat → Int32} {L : Nat → Nat → Int64} {R : Nat → Nat → Option Nat} (hL : Lay R) {V : VT} (hV : WV V) (hM : MT I V) (ld : Bool) (hld : I 172 1 = b2 (ld = true)) (s a : Int32) : Mt l G mX12_met (9) 0 0 [.ref (ra G 172), .int s, .int a] (wd I L R) (qM (a_met V ld s a) I R) := by
  refine mt_of (own := RX12) (by decide) rfl rfl (fun Z C P B => ?_)
  have D := @dc_of _ _ dX12_met
  have hE10 := hV.1
  have hA8 := hV.2.1
  refine j_iload_n C (D 0 rfl) rfl ?_
  refine j_if_lt C  12 (D 1 rfl) (by decide) (fun h1 => ?_) (fun h1 => ?_)
  · refine j_bipush C (v := (-2)) (D 6 rfl) rfl ?_
    exact j_iret C P rfl (D 7 rfl) ⟨Nat.le_refl _, Nat.le_refl _⟩ (qm0 (a_met_f (fun z => absurd (i_lt.mp h1) (by rw [i0]; have := z.1; omega))).symm)
  · refine j_aload_n C (D 2 rfl) rfl ?_
    refine j_iload_n C (D 3 rfl) rfl ?_
    refine j_cVp C B k_X12_317 (rc_obj C (lit (kd := 12) (n := 48) rfl) rfl rfl) (d_isOne _ _ hL (vA V) hM.2.1 (by omega) _) rfl rfl rfl rfl ⟨Nat.le_refl _, Nat.le_refl _⟩ (D 4 rfl) ?_
    refine j_if_ne C  15 (D 5 rfl) (by decide) (fun h9 => ?_) (fun h9 => ?_)
    · obtain ⟨a, ha, rfl⟩ := inR_n (b2_ne h9)
      have ha8 : a < 8 := by omega
      obtain ⟨s, hs9, rfl, _⟩ := i_nat (a := s) (by rw [i_lt, i0] at h1; omega)
      refine j_aload_n C (D 8 rfl) rfl ?_
      refine j_iload_n C (D 9 rfl) rfl ?_
      refine j_i2l C (D 10 rfl) ?_
      rw [nI_toL hs9]
      refine j_callV C B k_X12_477 (rc_obj C (lit (kd := 12) (n := 48) rfl) rfl rfl) (d_meets _ _ hL hV hM s hs9) rfl rfl rfl rfl ⟨Nat.le_refl _, Nat.le_refl _⟩ (D 11 rfl) ?_
      rintro r w' ⟨rfl, I2, L2, rfl, hF2, hl⟩
      have hM2 := MT_fr hM hF2
      have hz := pza_M hV (drS V s)
      refine j_aload_n C (D 12 rfl) rfl ?_
      refine j_iload_n C (D 13 rfl) rfl ?_
      refine j_callV C B k_X12_395 (rc_obj C (lit (kd := 12) (n := 48) rfl) rfl rfl) (d_totalOf _ _ hL hV hM2 hz hl a ha) rfl rfl rfl rfl ⟨Nat.le_refl _, Nat.le_refl _⟩ (D 14 rfl) ?_
      rintro r w' ⟨rfl, L3, rfl⟩
      exact j_iret C P rfl (D 15 rfl) ⟨Nat.le_refl _, Nat.le_refl _⟩ (qm1 hF2 (by rw [a_met_t ⟨(by rw [i_lt, i0] at h1; omega), (b2_ne h9)⟩, tn_n (by omega), tn_n (by omega)]))
    · refine j_bipush C (v := (-2)) (D 6 rfl) rfl ?_
      exact j_iret C P rfl (D 7 rfl) ⟨Nat.le_refl _, Nat.le_refl _⟩ (qm0 (a_met_f (fun z => b2_eq h9 z.2)).symm)
def a_meet (V : VT) (ld : Bool) (s k : Int32) : Int32 := if ld = true ∧ 0 ≤ s.toInt ∧ 0 ≤ k.toInt then plS V (ptM V (drS V (tn s))) (gM (drS V (tn s))) k else -2
theorem a_meet_t {V : VT} {ld : Bool} {s k : Int32} (hX : ld = true ∧ 0 ≤ s.toInt ∧ 0 ≤ k.toInt) : a_meet V ld s k = plS V (ptM V (drS V (tn s))) (gM (drS V (tn s))) k := if_pos hX
theorem a_meet_f {V : VT} {ld : Bool} {s k : Int32} (hX : ¬ (ld = true ∧ 0 ≤ s.toInt ∧ 0 ≤ k.toInt)) : a_meet V ld s k = -2 := if_neg hX
set_option maxRecDepth 20000 in
theorem c_meetQ (l : Launch) (G : GT) {c : Nat} (hc : isC c) {I : Nat → Nat → Int32} {L : Nat → Nat → Int64} {R : Nat → Nat → Option Nat} (hL : Lay R) (hr5 : R 0 5 = some c) {V : VT} (hV : WV V) (hT : CT I c V) (ld : Bool) (hld : I 0 6 = b2 (ld = true)) (s k : Int32) : Mt l G mX11_meet (7) 0 0 [.ref (ra G 0), .int s, .int k] (wd I L R) (qC (a_meet V ld s k) I R) := by
  refine mt_of (own := RX11) (by decide) rfl rfl (fun Z C P B => ?_)
  have D := @dc_of _ _ dX11_meet
  have hE10 := hV.1
  have hA8 := hV.2.1
  refine j_aload_n C (D 0 rfl) rfl ?_
  refine j_geti C f_X11_85 (lit (kd := 11) (n := 12) rfl) rfl rfl (D 1 rfl) ?_
  rw [hld]
  refine j_if_eq C  15 (D 2 rfl) (by decide) (fun h4 => ?_) (fun h4 => ?_)
  · refine j_bipush C (v := (-2)) (D 7 rfl) rfl ?_
    exact j_iret C P rfl (D 8 rfl) ⟨Nat.le_refl _, Nat.le_refl _⟩ (qc0 (a_meet_f (fun z => b2_eq h4 z.1)).symm)
  · refine j_iload_n C (D 3 rfl) rfl ?_
    refine j_if_lt C  15 (D 4 rfl) (by decide) (fun h8 => ?_) (fun h8 => ?_)
    · refine j_bipush C (v := (-2)) (D 7 rfl) rfl ?_
      exact j_iret C P rfl (D 8 rfl) ⟨Nat.le_refl _, Nat.le_refl _⟩ (qc0 (a_meet_f (fun z => absurd (i_lt.mp h8) (by rw [i0]; have := z.2.1; omega))).symm)
    · refine j_iload_n C (D 5 rfl) rfl ?_
      refine j_if_ge C  18 (D 6 rfl) (by decide) (fun h12 => ?_) (fun h12 => ?_)
      · obtain ⟨s, hs9, rfl, _⟩ := i_nat (a := s) (by rw [i_lt, i0] at h8; omega)
        refine j_aload_n C (D 9 rfl) rfl ?_
        refine j_iload_n C (D 10 rfl) rfl ?_
        refine j_callV C B k_X11_283 (rc_obj C (lit (kd := 11) (n := 12) rfl) rfl rfl) (c_stBy _ _ hc hL hr5 hV hT s hs9) rfl rfl rfl rfl ⟨Nat.le_refl _, Nat.le_refl _⟩ (D 11 rfl) ?_
        rintro r w' ⟨rfl, I2, L2, rfl, hF2, k0, kP, kF⟩
        have hz := pza_M hV (drS V s)
        refine j_iload_n C (D 12 rfl) rfl ?_
        refine j_cVp C B k_X11_227 (rc_obj C (lit (kd := 8) (n := 6) rfl) rfl rfl) (c_athleteAt _ _ hL hV hz k0 kP kF _) rfl rfl rfl rfl ⟨Nat.le_refl _, Nat.le_refl _⟩ (D 13 rfl) ?_
        exact j_iret C P rfl (D 14 rfl) ⟨Nat.le_refl _, Nat.le_refl _⟩ (qc1 hF2 (by rw [a_meet_t ⟨(b2_ne h4), (by rw [i_lt, i0] at h8; omega), (by rw [i_le, i0] at h12; exact h12)⟩, tn_n (by omega)]))
      · refine j_bipush C (v := (-2)) (D 7 rfl) rfl ?_
        exact j_iret C P rfl (D 8 rfl) ⟨Nat.le_refl _, Nat.le_refl _⟩ (qc0 (a_meet_f (fun z => h12 (i_le.mpr (by rw [i0]; exact z.2.2)))).symm)
set_option maxRecDepth 20000 in
theorem d_meetQ (l : Launch) (G : GT) {I : Nat → Nat → Int32} {L : Nat → Nat → Int64} {R : Nat → Nat → Option Nat} (hL : Lay R) {V : VT} (hV : WV V) (hM : MT I V) (ld : Bool) (hld : I 172 1 = b2 (ld = true)) (s k : Int32) : Mt l G mX12_meet (9) 0 0 [.ref (ra G 172), .int s, .int k] (wd I L R) (qM (a_meet V ld s k) I R) := by
  refine mt_of (own := RX12) (by decide) rfl rfl (fun Z C P B => ?_)
  have D := @dc_of _ _ dX12_meet
  have hE10 := hV.1
  have hA8 := hV.2.1
  refine j_aload_n C (D 0 rfl) rfl ?_
  refine j_geti C f_X12_297 (lit (kd := 12) (n := 48) rfl) rfl rfl (D 1 rfl) ?_
  rw [hld]
  refine j_if_eq C  15 (D 2 rfl) (by decide) (fun h4 => ?_) (fun h4 => ?_)
  · refine j_bipush C (v := (-2)) (D 7 rfl) rfl ?_
    exact j_iret C P rfl (D 8 rfl) ⟨Nat.le_refl _, Nat.le_refl _⟩ (qm0 (a_meet_f (fun z => b2_eq h4 z.1)).symm)
  · refine j_iload_n C (D 3 rfl) rfl ?_
    refine j_if_lt C  15 (D 4 rfl) (by decide) (fun h8 => ?_) (fun h8 => ?_)
    · refine j_bipush C (v := (-2)) (D 7 rfl) rfl ?_
      exact j_iret C P rfl (D 8 rfl) ⟨Nat.le_refl _, Nat.le_refl _⟩ (qm0 (a_meet_f (fun z => absurd (i_lt.mp h8) (by rw [i0]; have := z.2.1; omega))).symm)
    · refine j_iload_n C (D 5 rfl) rfl ?_
      refine j_if_ge C  18 (D 6 rfl) (by decide) (fun h12 => ?_) (fun h12 => ?_)
      · obtain ⟨s, hs9, rfl, _⟩ := i_nat (a := s) (by rw [i_lt, i0] at h8; omega)
        refine j_aload_n C (D 9 rfl) rfl ?_
        refine j_iload_n C (D 10 rfl) rfl ?_
        refine j_i2l C (D 11 rfl) ?_
        rw [nI_toL hs9]
        refine j_callV C B k_X12_477 (rc_obj C (lit (kd := 12) (n := 48) rfl) rfl rfl) (d_meets _ _ hL hV hM s hs9) rfl rfl rfl rfl ⟨Nat.le_refl _, Nat.le_refl _⟩ (D 12 rfl) ?_
        rintro r w' ⟨rfl, I2, L2, rfl, hF2, hl⟩
        have hM2 := MT_fr hM hF2
        have hz := pza_M hV (drS V s)
        refine j_aload_n C (D 13 rfl) rfl ?_
        refine j_iload_n C (D 14 rfl) rfl ?_
        refine j_callV C B k_X12_414 (rc_obj C (lit (kd := 12) (n := 48) rfl) rfl rfl) (d_placed _ _ hL hV hM2 hz hl _) rfl rfl rfl rfl ⟨Nat.le_refl _, Nat.le_refl _⟩ (D 15 rfl) ?_
        rintro r w' ⟨rfl, L3, rfl⟩
        exact j_iret C P rfl (D 16 rfl) ⟨Nat.le_refl _, Nat.le_refl _⟩ (qm1 hF2 (by rw [a_meet_t ⟨(b2_ne h4), (by rw [i_lt, i0] at h8; omega), (by rw [i_le, i0] at h12; exact h12)⟩, tn_n (by omega)]))
      · refine j_bipush C (v := (-2)) (D 7 rfl) rfl ?_
        exact j_iret C P rfl (D 8 rfl) ⟨Nat.le_refl _, Nat.le_refl _⟩ (qm0 (a_meet_f (fun z => h12 (i_le.mpr (by rw [i0]; exact z.2.2)))).symm)
