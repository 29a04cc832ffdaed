theorem top_n {V : VT} (hV : WV V) {e : Nat} (he : e < vE V) : ∃ t, t ≤ 2000 ∧ topS (vev V e) = nI t := by
  have h := pts_rng (hV.2.2.2.2.1 e he) (mkBy (vev V e) 99999)
  obtain ⟨t, _, h2, h3⟩ := i_nat h.1
  exact ⟨t, by have := h.2; omega, h2⟩
theorem kr {k : Nat} (h : k ≤ 2000) {b : Bool} (hb : b = true) : (0 ≤ (nI k).toInt ∧ (nI k).toInt ≤ 2000) ∧ (b = false → nI k = 0) := ⟨by rw [nI_int (by omega)]; omega, fun z => by rw [z] at hb; exact absurd hb (by decide)⟩
def niF (V : VT) (a e : Nat) (n : Int32) (k : Nat) : Bool := decide (n ≤ totS V (tw (ptM V (vmk V)) a e (nI k)) (tw (gM (vmk V)) a e true) a)
theorem ni_i {V : VT} {a e : Nat} {n : Int32} {k : Nat} : niF V a e n k = true ↔ n ≤ sumN (va_up (ptM V (vmk V) a) e (nI k)) (vE V) + paidS V (va_up (ptM V (vmk V) a) e (nI k)) (va_up (gM (vmk V) a) e true) := by
  unfold niF; rw [decide_eq_true_eq, totS, tw_a, tw_a]
def paF (V : VT) (a e o : Nat) (k : Nat) : Bool := ahS V (tw (ptM V (vmk V)) a e (nI k)) (tw (gM (vmk V)) a e true) a o
theorem ah_tot {V : VT} {P : Nat → Nat → Int32} {g : Nat → Nat → Bool} {a b : Nat} (h : ahS V P g a b = true) : totS V P g b ≤ totS V P g a := by
  unfold ahS at h
  rw [i_le]
  by_cases c : totS V P g a = totS V P g b
  · rw [c]; exact Int.le_refl _
  · rw [if_pos c, decide_eq_true_eq, i_lt] at h; omega
def a_needIn (V : VT) (ld : Bool) (a e n : Int32) : Int32 := if (inR (vA V) a ∧ inR (vE V) e) ∧ wi 0 99999 n then fst1 (niF V (tn a) (tn e) n) (tn (topS (vev V (tn e))) + 1) 0 else -2
theorem a_needIn_t {V : VT} {ld : Bool} {a e n : Int32} (hX : (inR (vA V) a ∧ inR (vE V) e) ∧ wi 0 99999 n) : a_needIn V ld a e n = fst1 (niF V (tn a) (tn e) n) (tn (topS (vev V (tn e))) + 1) 0 := if_pos hX
theorem a_needIn_f {V : VT} {ld : Bool} {a e n : Int32} (hX : ¬ ((inR (vA V) a ∧ inR (vE V) e) ∧ wi 0 99999 n)) : a_needIn V ld a e n = -2 := if_neg hX
set_option maxRecDepth 20000 in
theorem c_needInQ (l : Launch) (G : GT) {c : Nat} (hc : isC c) {I : Nat → Nat → Int32} {L : Nat → Nat → Int64} {R : Nat → Nat → Option Nat} (hL : Lay R) (hr5 : R 0 5 = some c) {V : VT} (hV : WV V) (hT : CT I c V) (ld : Bool) (hld : I 0 6 = b2 (ld = true)) (a e n : Int32) : Mt l G mX11_needIn (5) 0 0 [.ref (ra G 0), .int a, .int e, .int n] (wd I L R) (qC (a_needIn V ld a e n) I R) := by
  refine mt_of (own := RX11) (by decide) rfl rfl (fun Z C P B => ?_)
  have D := @dc_of _ _ dX11_needIn
  have hE10 := hV.1
  have hA8 := hV.2.1
  refine j_aload_n C (D 0 rfl) rfl ?_
  refine j_iload_n C (D 1 rfl) rfl ?_
  refine j_iload_n C (D 2 rfl) rfl ?_
  refine j_cVp C B k_X11_174 (rc_obj C (lit (kd := 11) (n := 12) rfl) rfl rfl) (c_hasCell _ _ hc hL hr5 hV hT ld hld _ _) rfl rfl rfl rfl ⟨Nat.le_refl _, Nat.le_refl _⟩ (D 3 rfl) ?_
  refine j_if_eq C  19 (D 4 rfl) (by decide) (fun h6 => ?_) (fun h6 => ?_)
  · refine j_bipush C (v := (-2)) (D 10 rfl) rfl ?_
    exact j_iret C P rfl (D 11 rfl) ⟨Nat.le_refl _, Nat.le_refl _⟩ (qc0 (a_needIn_f (fun z => b2_eq h6 z.1)).symm)
  · refine j_iload_n C (D 5 rfl) rfl ?_
    refine j_iconst C (v := nI 0) (D 6 rfl) rfl ?_
    refine j_ldc C (v := 99999) (D 7 rfl) n_X11_236 ?_
    refine j_cSp C B k_X11_158 (c_isWithin _ _ _ _ _ _) rfl rfl rfl rfl ⟨Nat.le_refl _, Nat.le_refl _⟩ (D 8 rfl) ?_
    refine j_if_ne C  22 (D 9 rfl) (by decide) (fun h16 => ?_) (fun h16 => ?_)
    · obtain ⟨⟨a, ha, rfl⟩, ⟨e, he, rfl⟩⟩ := And.intro (inR_n (b2_ne h6).1) (inR_n (b2_ne h6).2)
      have he10 : e < 10 := by omega
      have ha8 : a < 8 := by omega
      obtain ⟨t, ht, hte⟩ := top_n hV he
      have hz := pza_M hV (vmk V)
      refine j_aload_n C (D 12 rfl) rfl ?_
      refine j_iload_n C (D 13 rfl) rfl ?_
      refine j_callV C B k_X11_216 (rc_obj C (lit (kd := 11) (n := 12) rfl) rfl rfl) (c_scNow _ _ hc hL hr5 hV hT a ha) rfl rfl rfl rfl ⟨Nat.le_refl _, Nat.le_refl _⟩ (D 14 rfl) ?_
      rintro r w' ⟨rfl, I2, rfl, hF2, kS, kK⟩
      have hT2 := CT_fr hc hT (hF2.S (Or.inl rfl)) hV.1
      refine j_astore C (D 15 rfl) rfl ?_
      refine j_aload_n C (D 16 rfl) rfl ?_
      refine j_getr C f_X11_37 (lit (kd := 11) (n := 12) rfl) rfl rfl hr5 (D 17 rfl) ?_
      refine j_getr C f_X11_124 (sC0 hc) rfl rfl (hL _ _ _ (rC0 hc)) (D 18 rfl) ?_
      refine j_iload_n C (D 19 rfl) rfl ?_
      refine j_aald C (kd := 1) (sC1 hc) rfl (ix_n he10 (by decide)) (hL _ _ _ (rCT hc he10)) (D 20 rfl) ?_
      refine j_cVp C B k_X11_165 (rc_obj C (sT0 (isT_of hc he10)) rfl rfl) (c_mostValue _ _ (isT_of hc he10) hL (hV.2.2.2.2.1 e he) (hT2.2.2.2.2.1 e he)) rfl rfl rfl rfl ⟨Nat.le_refl _, Nat.le_refl _⟩ (D 21 rfl) ?_
      rw [hte]
      refine j_istore C (D 22 rfl) rfl ?_
      refine j_iconst C (v := nI 0) (D 23 rfl) rfl ?_
      refine j_istore C (D 24 rfl) rfl ?_
      have Lp : ∀ (m k : Nat) (I1 : Nat → Nat → Int32) (pc : Nat → Int32) (gc : Nat → Bool), k + m = t + 1 → FrS I I1 → SC I1 95 pc gc (vE V) → pz pc gc (vE V) → (∀ v, va_up pc e v = va_up (ptM V (vmk V) a) e v) → (∀ v, va_up gc e v = va_up (gM (vmk V) a) e v) → fst1 (niF V a e n) (t + 1) 0 = fst1 (niF V a e n) m k → J Z (0, 0) 46 [some (.ref (ra G 0)), some (.int (nI a)), some (.int (nI e)), some (.int n), some (.ref (ra G 95)), some (.int (nI t)), some (.int (nI k))] [] (wd I1 L R) := by
        intro m
        induction m with
        | zero =>
          intro k I1 pc gc hk hF hS hp hv hw hf
          refine j_iload C (D 25 rfl) rfl ?_
          refine j_iload C (D 26 rfl) rfl ?_
          refine j_icmp_gt C  86 (D 27 rfl) (by decide) (fun h50 => ?_) (fun h50 => absurd h50 (fun z => z ((nlt (by omega) (by omega)).mpr (by omega))))
          refine j_iconst C (v := (-1)) (D 43 rfl) rfl ?_
          exact j_iret C P rfl (D 44 rfl) ⟨Nat.le_refl _, Nat.le_refl _⟩ (qc1 hF (by rw [a_needIn_t ⟨(b2_ne h6), ((wC (by decide) (by decide)).mp (b2_ne h16))⟩, tn_n (by omega), tn_n (by omega), hte, tn_n (by omega), hf]; rfl))
        | succ m ih =>
          intro k I1 pc gc hk hF hS hp hv hw hf
          refine j_iload C (D 25 rfl) rfl ?_
          refine j_iload C (D 26 rfl) rfl ?_
          refine j_icmp_gt C  86 (D 27 rfl) (by decide) (fun h50 => absurd h50 (fun z => by rw [nlt (by omega) (by omega)] at z; omega)) (fun h50 => ?_)
          refine j_aload C (D 28 rfl) rfl ?_
          refine j_iload_n C (D 29 rfl) rfl ?_
          refine j_iload C (D 30 rfl) rfl ?_
          refine j_callV C B k_X11_248 (rc_obj C (lit (kd := 5) (n := 9) rfl) rfl rfl) (c_put _ _ (Or.inl rfl) hL hE10 hp hS e (nI k) he (kr (by omega) rfl).1) rfl rfl rfl rfl ⟨Nat.le_refl _, Nat.le_refl _⟩ (D 31 rfl) ?_
          rintro r w' ⟨rfl, I2, rfl, hF2, kS, kK⟩
          rw [hv, hw] at kS kK
          have hT2 := CT_fr hc hT (hF.tr (hF2.S (Or.inl rfl))) hV.1
          have hp2 : pz (va_up (ptM V (vmk V) a) e (nI k)) (va_up (gM (vmk V) a) e true) (vE V) := pz_up (hz a ha) (kr (by omega) rfl)
          refine j_aload_n C (D 32 rfl) rfl ?_
          refine j_getr C f_X11_37 (lit (kd := 11) (n := 12) rfl) rfl rfl hr5 (D 33 rfl) ?_
          refine j_getr C f_X11_104 (sC0 hc) rfl rfl (hL _ _ _ (rC4 hc)) (D 34 rfl) ?_
          refine j_aload C (D 35 rfl) rfl ?_
          refine j_iload_n C (D 36 rfl) rfl ?_
          refine j_callV C B k_X11_244 (rc_obj C (sC5 hc) rfl rfl) (c_comesTo _ _ hc (Or.inl rfl) hL hV hT2 hp2 kS kK n) rfl rfl rfl rfl ⟨Nat.le_refl _, Nat.le_refl _⟩ (D 37 rfl) ?_
          rintro r w' ⟨rfl, I3, rfl, hF3⟩
          refine j_if_eq C  80 (D 38 rfl) (by decide) (fun h74 => ?_) (fun h74 => ?_)
          · first | refine j_iinc1 C (D 41 rfl) rfl rfl ?_ | refine j_iinc C (D 41 rfl) rfl rfl rfl ?_
            refine j_goto C 46 (D 42 rfl) (by decide) ?_
            exact ih (k + 1) I3 _ _ (by omega) (hF.tr ((hF2.S (Or.inl rfl)).tr (hF3.S hc (Or.inl rfl)))) (SC_Bo hc (Or.inl rfl) hF3 kS) hp2 (fun v => vu_vu _ _ _ _) (fun v => vu_vu _ _ _ _) (by rw [hf, fst1, if_neg (fun z => b2_eq h74 (ni_i.mp z))])
          · refine j_iload C (D 39 rfl) rfl ?_
            exact j_iret C P rfl (D 40 rfl) ⟨Nat.le_refl _, Nat.le_refl _⟩ (qc1 (hF.tr ((hF2.S (Or.inl rfl)).tr (hF3.S hc (Or.inl rfl)))) (by rw [a_needIn_t ⟨(b2_ne h6), ((wC (by decide) (by decide)).mp (b2_ne h16))⟩, tn_n (by omega), tn_n (by omega), hte, tn_n (by omega), hf, fst1, if_pos (ni_i.mpr (b2_ne h74))]))
      exact Lp (t + 1) 0 _ _ _ (by omega) (hF2.S (Or.inl rfl)) kS (hz a ha) (fun _ => rfl) (fun _ => rfl) rfl
    · refine j_bipush C (v := (-2)) (D 10 rfl) rfl ?_
      exact j_iret C P rfl (D 11 rfl) ⟨Nat.le_refl _, Nat.le_refl _⟩ (qc0 (a_needIn_f (fun z => b2_eq h16 ((wC (by decide) (by decide)).mpr z.2))).symm)
set_option maxRecDepth 20000 in
theorem d_needInQ (l : Launch) (G : GT) {I : Nat → Nat → Int32} {L : Nat → Nat → Int64} {R : Nat → Nat → Option Nat} (hL : Lay R) {V : VT} (hV : WV V) (hM : MT I V) (ld : Bool) (hld : I 172 1 = b2 (ld = true)) (a e n : Int32) : Mt l G mX12_needIn (9) 0 0 [.ref (ra G 172), .int a, .int e, .int n] (wd I L R) (qM (a_needIn V ld a e n) I R) := by
  refine mt_of (own := RX12) (by decide) rfl rfl (fun Z C P B => ?_)
  have D := @dc_of _ _ dX12_needIn
  have hE10 := hV.1
  have hA8 := hV.2.1
  refine j_aload_n C (D 0 rfl) rfl ?_
  refine j_iload_n C (D 1 rfl) rfl ?_
  refine j_iload_n C (D 2 rfl) rfl ?_
  refine j_cVp C B k_X12_407 (rc_obj C (lit (kd := 12) (n := 48) rfl) rfl rfl) (d_isBoth _ _ hL (vA V) (vE V) hM.2.1 (by omega) hM.1 (by omega) _ _) rfl rfl rfl rfl ⟨Nat.le_refl _, Nat.le_refl _⟩ (D 3 rfl) ?_
  refine j_if_eq C  21 (D 4 rfl) (by decide) (fun h6 => ?_) (fun h6 => ?_)
  · refine j_bipush C (v := (-2)) (D 11 rfl) rfl ?_
    exact j_iret C P rfl (D 12 rfl) ⟨Nat.le_refl _, Nat.le_refl _⟩ (qm0 (a_needIn_f (fun z => b2_eq h6 z.1)).symm)
  · refine j_iload_n C (D 5 rfl) rfl ?_
    refine j_i2l C (D 6 rfl) ?_
    refine j_lconst C (v := 0) (D 7 rfl) rfl ?_
    refine j_ldc2_w C (v := 99999) (D 8 rfl) n_X12_175 ?_
    refine j_cSp C B k_X12_99 (d_in _ _ _ _ _ _) rfl rfl rfl rfl ⟨Nat.le_refl _, Nat.le_refl _⟩ (D 9 rfl) ?_
    refine j_if_ne C  24 (D 10 rfl) (by decide) (fun h18 => ?_) (fun h18 => ?_)
    · obtain ⟨⟨a, ha, rfl⟩, ⟨e, he, rfl⟩⟩ := And.intro (inR_n (b2_ne h6).1) (inR_n (b2_ne h6).2)
      have he10 : e < 10 := by omega
      have ha8 : a < 8 := by omega
      obtain ⟨t, ht, hte⟩ := top_n hV he
      refine j_aload_n C (D 13 rfl) rfl ?_
      refine j_aload_n C (D 14 rfl) rfl ?_
      refine j_getr C f_X12_22 (lit (kd := 12) (n := 48) rfl) rfl rfl (hL _ _ _ rfl) (D 15 rfl) ?_
      refine j_callV C B k_X12_410 (rc_obj C (lit (kd := 12) (n := 48) rfl) rfl rfl) (d_lays _ _ hL hV hM 177 (vmk V) (lit (kd := 20) (n := 80) rfl) (Or.inl rfl) (fun b e hb he => ⟨(hM.2.2.2.2.2.1 b e hb (by omega)).1, (hV.2.2.2.2.2.1 b e hb (by omega)).1⟩)) rfl rfl rfl rfl ⟨Nat.le_refl _, Nat.le_refl _⟩ (D 16 rfl) ?_
      rintro r w' ⟨rfl, I2, rfl, hF2, hl⟩
      have hM2 := MT_fr hM hF2.M
      have hz := pza_M hV (vmk V)
      have hme2 : mE I2 e = vev V e := hM2.2.2.2.2.1 e he
      have hWE2 : WE (mE I2 e) := by rw [hme2]; exact hV.2.2.2.2.1 e he
      refine j_aload_n C (D 17 rfl) rfl ?_
      refine j_iload_n C (D 18 rfl) rfl ?_
      refine j_cVp C B k_X12_356 (rc_obj C (lit (kd := 12) (n := 48) rfl) rfl rfl) (d_topOf _ _ hL e he10 hWE2) rfl rfl rfl rfl ⟨Nat.le_refl _, Nat.le_refl _⟩ (D 19 rfl) ?_
      rw [hme2, hte]
      refine j_istore C (D 20 rfl) rfl ?_
      refine j_iconst C (v := nI 0) (D 21 rfl) rfl ?_
      refine j_istore C (D 22 rfl) rfl ?_
      have Lp : ∀ (m k : Nat) (I1 : Nat → Nat → Int32) (L1 : Nat → Nat → Int64) (Pc : Nat → Nat → Int32) (gc : Nat → Nat → Bool), k + m = t + 1 → FrM I I1 → ML I1 V Pc gc → (∀ v, tw Pc a e v = tw (ptM V (vmk V)) a e v) → (∀ v, tw gc a e v = tw (gM (vmk V)) a e v) → fst1 (niF V a e n) (t + 1) 0 = fst1 (niF V a e n) m k → J Z (0, 0) 42 [some (.ref (ra G 172)), some (.int (nI a)), some (.int (nI e)), some (.int n), some (.int (nI t)), some (.int (nI k))] [] (wd I1 L1 R) := by
        intro m
        induction m with
        | zero =>
          intro k I1 L1 Pc gc hk hF hl1 hv hw hf
          refine j_iload C (D 23 rfl) rfl ?_
          refine j_iload C (D 24 rfl) rfl ?_
          refine j_icmp_gt C  75 (D 25 rfl) (by decide) (fun h46 => ?_) (fun h46 => absurd h46 (fun z => z ((nlt (by omega) (by omega)).mpr (by omega))))
          refine j_iconst C (v := (-1)) (D 40 rfl) rfl ?_
          exact j_iret C P rfl (D 41 rfl) ⟨Nat.le_refl _, Nat.le_refl _⟩ (qm1 hF (by rw [a_needIn_t ⟨(b2_ne h6), ((wL (by decide) (by decide)).mp (b2_ne h18))⟩, tn_n (by omega), tn_n (by omega), hte, tn_n (by omega), hf]; rfl))
        | succ m ih =>
          intro k I1 L1 Pc gc hk hF hl1 hv hw hf
          refine j_iload C (D 23 rfl) rfl ?_
          refine j_iload C (D 24 rfl) rfl ?_
          refine j_icmp_gt C  75 (D 25 rfl) (by decide) (fun h46 => absurd h46 (fun z => by rw [nlt (by omega) (by omega)] at z; omega)) (fun h46 => ?_)
          refine j_aload_n C (D 26 rfl) rfl ?_
          refine j_iload_n C (D 27 rfl) rfl ?_
          refine j_iload_n C (D 28 rfl) rfl ?_
          refine j_iload C (D 29 rfl) rfl ?_
          refine j_callV C B k_X12_424 (rc_obj C (lit (kd := 12) (n := 48) rfl) rfl rfl) (d_puts0 _ _ hL a e (nI k) ha8 he10) rfl rfl rfl rfl ⟨Nat.le_refl _, Nat.le_refl _⟩ (D 30 rfl) ?_
          rintro r w' ⟨rfl, rfl⟩
          have hF2 := (hF.put (a := 188) (k := 10 * a + e) (v := nI k) (by decide)).put (a := 189) (k := 10 * a + e) (v := nI 1) (by decide)
          have hM3 := MT_fr hM hF2
          have hl2 := ML_set (a := a) (e := e) (v := nI k) (b := true) hE10 he10 hl1 (b2_t rfl)
          rw [hv, hw] at hl2
          have hz2 : pza V (tw (ptM V (vmk V)) a e (nI k)) (tw (gM (vmk V)) a e true) := pza_tw hz (kr (by omega) rfl)
          refine j_aload_n C (D 31 rfl) rfl ?_
          refine j_iload_n C (D 32 rfl) rfl ?_
          refine j_callV C B k_X12_395 (rc_obj C (lit (kd := 12) (n := 48) rfl) rfl rfl) (d_totalOf _ _ hL hV hM3 hz2 hl2 a ha) rfl rfl rfl rfl ⟨Nat.le_refl _, Nat.le_refl _⟩ (D 33 rfl) ?_
          rintro r w' ⟨rfl, L3, rfl⟩
          refine j_iload_n C (D 34 rfl) rfl ?_
          refine j_icmp_lt C  69 (D 35 rfl) (by decide) (fun h63 => ?_) (fun h63 => ?_)
          · first | refine j_iinc1 C (D 38 rfl) rfl rfl ?_ | refine j_iinc C (D 38 rfl) rfl rfl rfl ?_
            refine j_goto C 42 (D 39 rfl) (by decide) ?_
            exact ih (k + 1) _ _ _ _ (by omega) hF2 hl2 (fun v => tw_tw _ _ _ _ _) (fun v => tw_tw _ _ _ _ _) (by rw [hf, fst1, if_neg (fun z => by have z := of_decide_eq_true z; rw [i_lt] at h63; rw [i_le] at z; omega)])
          · refine j_iload C (D 36 rfl) rfl ?_
            exact j_iret C P rfl (D 37 rfl) ⟨Nat.le_refl _, Nat.le_refl _⟩ (qm1 hF2 (by rw [a_needIn_t ⟨(b2_ne h6), ((wL (by decide) (by decide)).mp (b2_ne h18))⟩, tn_n (by omega), tn_n (by omega), hte, tn_n (by omega), hf, fst1, if_pos (show niF V a e n k = true from decide_eq_true (by rw [i_lt] at h63; rw [i_le]; omega))]))
      exact Lp (t + 1) 0 _ _ _ _ (by omega) hF2.M hl (fun _ => rfl) (fun _ => rfl) rfl
    · refine j_bipush C (v := (-2)) (D 11 rfl) rfl ?_
      exact j_iret C P rfl (D 12 rfl) ⟨Nat.le_refl _, Nat.le_refl _⟩ (qm0 (a_needIn_f (fun z => b2_eq h18 ((wL (by decide) (by decide)).mpr z.2))).symm)
theorem S0_row {I I' : Nat → Nat → Int32} {V : VT} {P : Nat → Nat → Int32} {g : Nat → Nat → Bool} {a e : Nat} {v : Int32} {b : Bool} (hA : vA V ≤ 8) (ha : a < vA V) (h : FrQ (101 + 3 * a) I I') (h0 : S0 I V P g) (kS : SC I' (101 + 3 * a) (va_up (P a) e v) (va_up (g a) e b) (vE V)) (kK : SK I' (101 + 3 * a) (va_up (P a) e v) (va_up (g a) e b) (vE V)) : S0 I' V (tw P a e v) (tw g a e b) := by
  refine ⟨by rw [h _ _ (by omega) (by omega) (by omega)]; exact h0.1, by rw [h _ _ (by omega) (by omega) (by omega)]; exact h0.2.1, by rw [h _ _ (by omega) (by omega) (by omega)]; exact h0.2.2.1, fun d hd => ?_⟩
  by_cases q : d = a
  · subst q; rw [tw_a, tw_a]; exact ⟨kS, kK⟩
  · rw [tw_b _ _ _ q, tw_b _ _ _ q]
    obtain ⟨⟨s1, s2⟩, k1, k2, k3, k4⟩ := h0.2.2.2 d hd
    refine ⟨⟨by rw [h _ _ (by omega) (by omega) (by omega)]; exact s1, fun j hj => by rw [h _ _ (by omega) (by omega) (by omega), h _ _ (by omega) (by omega) (by omega)]; exact s2 j hj⟩, by rw [h _ _ (by omega) (by omega) (by omega)]; exact k1, by rw [h _ _ (by omega) (by omega) (by omega)]; exact k2, by rw [h _ _ (by omega) (by omega) (by omega)]; exact k3, by rw [h _ _ (by omega) (by omega) (by omega)]; exact k4⟩
theorem S0_Bo {c o : Nat} {I I' : Nat → Nat → Int32} {V : VT} {P : Nat → Nat → Int32} {g : Nat → Nat → Bool} (hc : isC c) (hA : vA V ≤ 8) (h : FrBo c o I I') (h0 : S0 I V P g) (ho : isS o) : S0 I' V P g := by
  have hr := isS_rng ho
  have hf : ∀ b j, 98 ≤ b → b ≤ 124 → ¬ j = 7 → I' b j = I b j := fun b j q1 q2 q3 => h b j (by omega) (by rcases hc with rfl | rfl <;> omega) (by omega)
  have hf2 : ∀ b j, 98 ≤ b → b ≤ 124 → ¬ b = o → I' b j = I b j := fun b j q1 q2 q3 => h b j (by rcases hc with rfl | rfl <;> omega) (by rcases hc with rfl | rfl <;> omega) (by omega)
  refine ⟨by rw [hf _ _ (by omega) (by omega) (by omega)]; exact h0.1, by rw [hf _ _ (by omega) (by omega) (by omega)]; exact h0.2.1, by rw [hf _ _ (by omega) (by omega) (by omega)]; exact h0.2.2.1, fun d hd => ?_⟩
  obtain ⟨⟨s1, s2⟩, k1, k2, k3, k4⟩ := h0.2.2.2 d hd
  refine ⟨⟨by rw [hf _ _ (by omega) (by omega) (by omega)]; exact s1, fun j hj => by rw [hf2 (101 + 3 * d + 1) _ (by omega) (by omega) (by rcases ho with rfl | ⟨x, hx, rfl⟩ <;> omega), hf2 (101 + 3 * d + 2) _ (by omega) (by omega) (by rcases ho with rfl | ⟨x, hx, rfl⟩ <;> omega)]; exact s2 j hj⟩, by rw [hf _ _ (by omega) (by omega) (by omega)]; exact k1, by rw [hf _ _ (by omega) (by omega) (by omega)]; exact k2, by rw [hf _ _ (by omega) (by omega) (by omega)]; exact k3, by rw [hf _ _ (by omega) (by omega) (by omega)]; exact k4⟩
def SPx (I : Nat → Nat → Int32) (V : VT) (P : Nat → Nat → Int32) (g : Nat → Nat → Bool) (a : Nat) : Prop := ∀ b, b < vA V → ¬ b = a → I (101 + 3 * b) 7 = paidS V (P b) (g b)
theorem SPx_Bo {c a : Nat} {I I' : Nat → Nat → Int32} {V : VT} {P : Nat → Nat → Int32} {g : Nat → Nat → Bool} (hc : isC c) (hA : vA V ≤ 8) (h : FrBo c (101 + 3 * a) I I') (hx : SPx I V P g a) : SPx I' V P g a := fun b hb hn => by
  rw [h _ _ (by rcases hc with rfl | rfl <;> omega) (by rcases hc with rfl | rfl <;> omega) (by omega)]; exact hx b hb hn
set_option maxRecDepth 20000 in
theorem c_isAheadNow (l : Launch) (G : GT) {c : Nat} (hc : isC c) {I : Nat → Nat → Int32} {L : Nat → Nat → Int64} {R : Nat → Nat → Option Nat} (hL : Lay R) (hr5 : R 0 5 = some c) {V : VT} (hV : WV V) (hT : CT I c V) {Pt : Nat → Nat → Int32} {g : Nat → Nat → Bool} (hz : pza V Pt g) (h0 : S0 I V Pt g) (a o : Nat) (ha : a < vA V) (ho : o < vA V) (hx : SPx I V Pt g a) : Mt l G mX11_isAheadNow (3) 0 0 [.ref (ra G 0), .int (nI a), .int (nI o)] (wd I L R) (fun r w' => r = some (.int (b2 (ahS V Pt g a o = true))) ∧ ∃ I', w' = wd I' L R ∧ FrS I I' ∧ S0 I' V Pt g ∧ SPx I' V Pt g a) := by
  refine mt_of (own := RX11) (by decide) rfl rfl (fun Z C P B => ?_)
  have D := @dc_of _ _ dX11_isAheadNow
  have hE10 := hV.1
  have hA8 := hV.2.1
  have ha8 : a < 8 := by omega
  refine j_aload_n C (D 0 rfl) rfl ?_
  refine j_getr C f_X11_37 (lit (kd := 11) (n := 12) rfl) rfl rfl hr5 (D 1 rfl) ?_
  refine j_getr C f_X11_104 (sC0 hc) rfl rfl (hL _ _ _ (rC4 hc)) (D 2 rfl) ?_
  refine j_aload_n C (D 3 rfl) rfl ?_
  refine j_getr C f_X11_51 (lit (kd := 11) (n := 12) rfl) rfl rfl (hL _ _ _ rfl) (D 4 rfl) ?_
  refine j_getr C f_X11_191 (lit (kd := 8) (n := 6) rfl) rfl rfl (hL _ _ _ rfl) (D 5 rfl) ?_
  refine j_iload_n C (D 6 rfl) rfl ?_
  refine j_aald C (kd := 2) (lit (kd := 26) (n := 8) rfl) rfl (ix_n ha8 (by decide)) (hL _ _ _ (rSS ha8)) (D 7 rfl) ?_
  refine j_callV C B k_X11_327 (rc_obj C (sC5 hc) rfl rfl) (c_pay _ _ hc (isS_of ha8) hL hV hT (hz a ha) (h0.2.2.2 a ha).1 (h0.2.2.2 a ha).2) rfl rfl rfl rfl ⟨Nat.le_refl _, Nat.le_refl _⟩ (D 8 rfl) ?_
  rintro r w' ⟨rfl, I2, rfl, hF2, hp2⟩
  have k0 := S0_Bo hc hA8 hF2 h0 (isS_of ha8)
  have kx := SPx_Bo hc hA8 hF2 hx
  refine j_aload_n C (D 9 rfl) rfl ?_
  refine j_getr C f_X11_51 (lit (kd := 11) (n := 12) rfl) rfl rfl (hL _ _ _ rfl) (D 10 rfl) ?_
  refine j_callV C B k_X11_348 (rc_obj C (lit (kd := 8) (n := 6) rfl) rfl rfl) (c_countFirsts _ _ hL hV hz k0) rfl rfl rfl rfl ⟨Nat.le_refl _, Nat.le_refl _⟩ (D 11 rfl) ?_
  rintro r w' ⟨rfl, I3, rfl, hF3, kF⟩
  have k03 := S0_F hF3 hE10 k0
  have kx3 : SPx I3 V Pt g a := fun b hb hn => by rw [hF3 _ _ (by omega)]; exact kx b hb hn
  have kP3 : SP I3 V Pt g := fun b hb => by
    by_cases q : b = a
    · rw [q, hF3 _ _ (by omega)]; exact hp2
    · exact kx3 b hb q
  refine j_aload_n C (D 12 rfl) rfl ?_
  refine j_getr C f_X11_51 (lit (kd := 11) (n := 12) rfl) rfl rfl (hL _ _ _ rfl) (D 13 rfl) ?_
  refine j_iload_n C (D 14 rfl) rfl ?_
  refine j_iload_n C (D 15 rfl) rfl ?_
  refine j_cVp C B k_X11_351 (rc_obj C (lit (kd := 8) (n := 6) rfl) rfl rfl) (c_isAhead _ _ hL hV hz k03 kP3 kF a o ha ho) rfl rfl rfl rfl ⟨Nat.le_refl _, Nat.le_refl _⟩ (D 16 rfl) ?_
  exact j_zret C P rfl (isB_b2 _) (D 17 rfl) ⟨Nat.le_refl _, Nat.le_refl _⟩ ⟨rfl, I3, rfl, (hF2.S hc (isS_of ha8)).tr hF3.S, k03, kx3⟩
theorem SPx_tw {I : Nat → Nat → Int32} {V : VT} {P : Nat → Nat → Int32} {g : Nat → Nat → Bool} {a e : Nat} {v : Int32} {b : Bool} : SPx I V (tw P a e v) (tw g a e b) a ↔ SPx I V P g a :=
  ⟨fun h d hd hn => by have := h d hd hn; rw [tw_b _ _ _ hn, tw_b _ _ _ hn] at this; exact this, fun h d hd hn => by rw [tw_b _ _ _ hn, tw_b _ _ _ hn]; exact h d hd hn⟩
theorem tot_o {V : VT} {P : Nat → Nat → Int32} {g : Nat → Nat → Bool} {a o e : Nat} {v : Int32} {b : Bool} (h : ¬ o = a) : totS V (tw P a e v) (tw g a e b) o = totS V P g o := by rw [totS, tw_b _ _ _ h, tw_b _ _ _ h]; rfl
def a_pass (V : VT) (ld : Bool) (a e o : Int32) : Int32 := if (inR (vA V) a ∧ inR (vE V) e) ∧ inR (vA V) o ∧ ¬ a = o then fst1 (paF V (tn a) (tn e) (tn o)) (tn (topS (vev V (tn e))) + 1) 0 else -2
theorem a_pass_t {V : VT} {ld : Bool} {a e o : Int32} (hX : (inR (vA V) a ∧ inR (vE V) e) ∧ inR (vA V) o ∧ ¬ a = o) : a_pass V ld a e o = fst1 (paF V (tn a) (tn e) (tn o)) (tn (topS (vev V (tn e))) + 1) 0 := if_pos hX
theorem a_pass_f {V : VT} {ld : Bool} {a e o : Int32} (hX : ¬ ((inR (vA V) a ∧ inR (vE V) e) ∧ inR (vA V) o ∧ ¬ a = o)) : a_pass V ld a e o = -2 := if_neg hX
set_option maxRecDepth 20000 in
theorem c_passQ (l : Launch) (G : GT) {c : Nat} (hc : isC c) {I : Nat → Nat → Int32} {L : Nat → Nat → Int64} {R : Nat → Nat → Option Nat} (hL : Lay R) (hr5 : R 0 5 = some c) {V : VT} (hV : WV V) (hT : CT I c V) (ld : Bool) (hld : I 0 6 = b2 (ld = true)) (a e o : Int32) : Mt l G mX11_pass (6) 0 0 [.ref (ra G 0), .int a, .int e, .int o] (wd I L R) (qC (a_pass V ld a e o) I R) := by
  refine mt_of (own := RX11) (by decide) rfl rfl (fun Z C P B => ?_)
  have D := @dc_of _ _ dX11_pass
  have hE10 := hV.1
  have hA8 := hV.2.1
  refine j_aload_n C (D 0 rfl) rfl ?_
  refine j_iload_n C (D 1 rfl) rfl ?_
  refine j_iload_n C (D 2 rfl) rfl ?_
  refine j_cVp C B k_X11_174 (rc_obj C (lit (kd := 11) (n := 12) rfl) rfl rfl) (c_hasCell _ _ hc hL hr5 hV hT ld hld _ _) rfl rfl rfl rfl ⟨Nat.le_refl _, Nat.le_refl _⟩ (D 3 rfl) ?_
  refine j_if_eq C  22 (D 4 rfl) (by decide) (fun h6 => ?_) (fun h6 => ?_)
  · refine j_bipush C (v := (-2)) (D 12 rfl) rfl ?_
    exact j_iret C P rfl (D 13 rfl) ⟨Nat.le_refl _, Nat.le_refl _⟩ (qc0 (a_pass_f (fun z => b2_eq h6 z.1)).symm)
  · refine j_aload_n C (D 5 rfl) rfl ?_
    refine j_iload_n C (D 6 rfl) rfl ?_
    refine j_cVp C B k_X11_184 (rc_obj C (lit (kd := 11) (n := 12) rfl) rfl rfl) (c_hasAthlete _ _ hc hL hr5 hV hT ld hld _) rfl rfl rfl rfl ⟨Nat.le_refl _, Nat.le_refl _⟩ (D 7 rfl) ?_
    refine j_if_eq C  22 (D 8 rfl) (by decide) (fun h14 => ?_) (fun h14 => ?_)
    · refine j_bipush C (v := (-2)) (D 12 rfl) rfl ?_
      exact j_iret C P rfl (D 13 rfl) ⟨Nat.le_refl _, Nat.le_refl _⟩ (qc0 (a_pass_f (fun z => b2_eq h14 z.2.1)).symm)
    · refine j_iload_n C (D 9 rfl) rfl ?_
      refine j_iload_n C (D 10 rfl) rfl ?_
      refine j_icmp_ne C  25 (D 11 rfl) (by decide) (fun h19 => ?_) (fun h19 => ?_)
      · obtain ⟨⟨a, ha, rfl⟩, ⟨e, he, rfl⟩⟩ := And.intro (inR_n (b2_ne h6).1) (inR_n (b2_ne h6).2)
        have he10 : e < 10 := by omega
        have ha8 : a < 8 := by omega
        obtain ⟨o, ho, rfl⟩ := inR_n (b2_ne h14)
        have hoa : ¬ o = a := fun z => h19 (by rw [z])
        obtain ⟨t, ht, hte⟩ := top_n hV he
        have hzm := pza_M hV (vmk V)
        refine j_aload_n C (D 14 rfl) rfl ?_
        refine j_callV C B k_X11_187 (rc_obj C (lit (kd := 11) (n := 12) rfl) rfl rfl) (c_stNow _ _ hc hL hr5 hV hT) rfl rfl rfl rfl ⟨Nat.le_refl _, Nat.le_refl _⟩ (D 15 rfl) ?_
        rintro r w' ⟨rfl, I2, rfl, hF2, k0, kP, kF⟩
        have hT2 := CT_fr hc hT (hF2.S hc) hV.1
        have hz := pza_M hV (vmk V)
        refine j_astore C (D 16 rfl) rfl ?_
        refine j_aload C (D 17 rfl) rfl ?_
        refine j_iload_n C (D 18 rfl) rfl ?_
        refine j_cVp C B k_X11_252 (rc_obj C (lit (kd := 8) (n := 6) rfl) rfl rfl) (c_totalOf _ _ hL hV hz k0 kP o ho) rfl rfl rfl rfl ⟨Nat.le_refl _, Nat.le_refl _⟩ (D 19 rfl) ?_
        refine j_istore C (D 20 rfl) rfl ?_
        refine j_aload_n C (D 21 rfl) rfl ?_
        refine j_getr C f_X11_37 (lit (kd := 11) (n := 12) rfl) rfl rfl hr5 (D 22 rfl) ?_
        refine j_getr C f_X11_124 (sC0 hc) rfl rfl (hL _ _ _ (rC0 hc)) (D 23 rfl) ?_
        refine j_iload_n C (D 24 rfl) rfl ?_
        refine j_aald C (kd := 1) (sC1 hc) rfl (ix_n he10 (by decide)) (hL _ _ _ (rCT hc he10)) (D 25 rfl) ?_
        refine j_cVp C B k_X11_165 (rc_obj C (sT0 (isT_of hc he10)) rfl rfl) (c_mostValue _ _ (isT_of hc he10) hL (hV.2.2.2.2.1 e he) (hT2.2.2.2.2.1 e he)) rfl rfl rfl rfl ⟨Nat.le_refl _, Nat.le_refl _⟩ (D 26 rfl) ?_
        rw [hte]
        refine j_istore C (D 27 rfl) rfl ?_
        refine j_iconst C (v := nI 0) (D 28 rfl) rfl ?_
        refine j_istore C (D 29 rfl) rfl ?_
        have Lp : ∀ (m k : Nat) (I1 : Nat → Nat → Int32) (Pc : Nat → Nat → Int32) (gc : Nat → Nat → Bool), k + m = t + 1 → FrS I I1 → S0 I1 V Pc gc → pza V Pc gc → SPx I1 V (ptM V (vmk V)) (gM (vmk V)) a → (∀ v, tw Pc a e v = tw (ptM V (vmk V)) a e v) → (∀ v, tw gc a e v = tw (gM (vmk V)) a e v) → fst1 (paF V a e o) (t + 1) 0 = fst1 (paF V a e o) m k → J Z (0, 0) 56 [some (.ref (ra G 0)), some (.int (nI a)), some (.int (nI e)), some (.int (nI o)), some (.ref (ra G 98)), some (.int (totS V (ptM V (vmk V)) (gM (vmk V)) o)), some (.int (nI t)), some (.int (nI k))] [] (wd I1 L R) := by
          intro m
          induction m with
          | zero =>
            intro k I1 Pc gc hk hF h0 hz hx hv hw hf
            refine j_iload C (D 30 rfl) rfl ?_
            refine j_iload C (D 31 rfl) rfl ?_
            refine j_icmp_gt C  116 (D 32 rfl) (by decide) (fun h60 => ?_) (fun h60 => absurd h60 (fun z => z ((nlt (by omega) (by omega)).mpr (by omega))))
            refine j_iconst C (v := (-1)) (D 59 rfl) rfl ?_
            exact j_iret C P rfl (D 60 rfl) ⟨Nat.le_refl _, Nat.le_refl _⟩ (qc1 hF (by rw [a_pass_t ⟨(b2_ne h6), (b2_ne h14), h19⟩, tn_n (by omega), tn_n (by omega), tn_n (by omega), hte, tn_n (by omega), hf]; rfl))
          | succ m ih =>
            intro k I1 Pc gc hk hF h0 hz hx hv hw hf
            refine j_iload C (D 30 rfl) rfl ?_
            refine j_iload C (D 31 rfl) rfl ?_
            refine j_icmp_gt C  116 (D 32 rfl) (by decide) (fun h60 => absurd h60 (fun z => by rw [nlt (by omega) (by omega)] at z; omega)) (fun h60 => ?_)
            refine j_aload C (D 33 rfl) rfl ?_
            refine j_getr C f_X11_191 (lit (kd := 8) (n := 6) rfl) rfl rfl (hL _ _ _ rfl) (D 34 rfl) ?_
            refine j_iload_n C (D 35 rfl) rfl ?_
            refine j_aald C (kd := 2) (lit (kd := 26) (n := 8) rfl) rfl (ix_n ha8 (by decide)) (hL _ _ _ (rSS ha8)) (D 36 rfl) ?_
            refine j_iload_n C (D 37 rfl) rfl ?_
            refine j_iload C (D 38 rfl) rfl ?_
            refine j_callV C B k_X11_248 (rc_obj C (sS0 (isS_of ha8)) rfl rfl) (c_put _ _ (isS_of ha8) hL hE10 (hz a ha) (h0.2.2.2 a ha).1 e (nI k) he (kr (by omega) rfl).1) rfl rfl rfl rfl ⟨Nat.le_refl _, Nat.le_refl _⟩ (D 39 rfl) ?_
            rintro r w' ⟨rfl, I2, rfl, hF2, kS, kK⟩
            have k02 := S0_row hA8 ha hF2 h0 kS kK
            rw [hv, hw] at k02
            have hT2 := CT_fr hc hT (hF.tr (hF2.S (isS_of ha8))) hV.1
            have hz2 : pza V (tw (ptM V (vmk V)) a e (nI k)) (tw (gM (vmk V)) a e true) := pza_tw hzm (kr (by omega) rfl)
            have kx2 : SPx I2 V (ptM V (vmk V)) (gM (vmk V)) a := fun b hb hn => by rw [hF2 _ _ (by omega) (by omega) (by omega)]; exact hx b hb hn
            refine j_aload_n C (D 40 rfl) rfl ?_
            refine j_getr C f_X11_37 (lit (kd := 11) (n := 12) rfl) rfl rfl hr5 (D 41 rfl) ?_
            refine j_getr C f_X11_104 (sC0 hc) rfl rfl (hL _ _ _ (rC4 hc)) (D 42 rfl) ?_
            refine j_aload C (D 43 rfl) rfl ?_
            refine j_getr C f_X11_191 (lit (kd := 8) (n := 6) rfl) rfl rfl (hL _ _ _ rfl) (D 44 rfl) ?_
            refine j_iload_n C (D 45 rfl) rfl ?_
            refine j_aald C (kd := 2) (lit (kd := 26) (n := 8) rfl) rfl (ix_n ha8 (by decide)) (hL _ _ _ (rSS ha8)) (D 46 rfl) ?_
            refine j_iload C (D 47 rfl) rfl ?_
            refine j_callV C B k_X11_244 (rc_obj C (sC5 hc) rfl rfl) (c_comesTo _ _ hc (isS_of ha8) hL hV hT2 (hz2 a ha) (k02.2.2.2 a ha).1 (k02.2.2.2 a ha).2 _) rfl rfl rfl rfl ⟨Nat.le_refl _, Nat.le_refl _⟩ (D 48 rfl) ?_
            rintro r w' ⟨rfl, I3, rfl, hF3⟩
            have k03 := S0_Bo hc hA8 hF3 k02 (isS_of ha8)
            have kx3 := SPx_Bo hc hA8 hF3 kx2
            have hT3 := CT_fr hc hT2 (hF3.S hc (isS_of ha8)) hV.1
            refine j_if_eq C  110 (D 49 rfl) (by decide) (fun h95 => ?_) (fun h95 => ?_)
            · first | refine j_iinc1 C (D 57 rfl) rfl rfl ?_ | refine j_iinc C (D 57 rfl) rfl rfl rfl ?_
              refine j_goto C 56 (D 58 rfl) (by decide) ?_
              exact ih (k + 1) I3 _ _ (by omega) (hF.tr ((hF2.S (isS_of ha8)).tr (hF3.S hc (isS_of ha8)))) k03 hz2 kx3 (fun v => tw_tw _ _ _ _ _) (fun v => tw_tw _ _ _ _ _) (by rw [hf, fst1, if_neg (fun z => b2_eq h95 (by have z2 := ah_tot (show ahS V _ _ a o = true from z); rw [tot_o hoa] at z2; exact z2))])
            · refine j_aload_n C (D 50 rfl) rfl ?_
              refine j_iload_n C (D 51 rfl) rfl ?_
              refine j_iload_n C (D 52 rfl) rfl ?_
              refine j_callV C B k_X11_255 (rc_obj C (lit (kd := 11) (n := 12) rfl) rfl rfl) (c_isAheadNow _ _ hc hL hr5 hV hT3 hz2 k03 a o ha ho (SPx_tw.mpr kx3)) rfl rfl rfl rfl ⟨Nat.le_refl _, Nat.le_refl _⟩ (D 53 rfl) ?_
              rintro r w' ⟨rfl, I4, rfl, hF4, k04, kx4⟩
              refine j_if_eq C  110 (D 54 rfl) (by decide) (fun h104 => ?_) (fun h104 => ?_)
              · first | refine j_iinc1 C (D 57 rfl) rfl rfl ?_ | refine j_iinc C (D 57 rfl) rfl rfl rfl ?_
                refine j_goto C 56 (D 58 rfl) (by decide) ?_
                exact ih (k + 1) I4 _ _ (by omega) ((hF.tr ((hF2.S (isS_of ha8)).tr (hF3.S hc (isS_of ha8)))).tr hF4) k04 hz2 (SPx_tw.mp kx4) (fun v => tw_tw _ _ _ _ _) (fun v => tw_tw _ _ _ _ _) (by rw [hf, fst1, if_neg (fun (z : paF V a e o k = true) => b2_eq h104 z)])
              · refine j_iload C (D 55 rfl) rfl ?_
                exact j_iret C P rfl (D 56 rfl) ⟨Nat.le_refl _, Nat.le_refl _⟩ (qc1 ((hF.tr ((hF2.S (isS_of ha8)).tr (hF3.S hc (isS_of ha8)))).tr hF4) (by rw [a_pass_t ⟨(b2_ne h6), (b2_ne h14), h19⟩, tn_n (by omega), tn_n (by omega), tn_n (by omega), hte, tn_n (by omega), hf, fst1, if_pos (show paF V a e o k = true from b2_ne h104)]))
        exact Lp (t + 1) 0 _ _ _ (by omega) (hF2.S hc) k0 hz (fun b hb _ => kP b hb) (fun _ => rfl) (fun _ => rfl) rfl
      · refine j_bipush C (v := (-2)) (D 12 rfl) rfl ?_
        exact j_iret C P rfl (D 13 rfl) ⟨Nat.le_refl _, Nat.le_refl _⟩ (qc0 (a_pass_f (fun z => z.2.2 h19)).symm)
set_option maxRecDepth 20000 in
theorem d_passQ (l : Launch) (G : GT) {I : Nat → Nat → Int32} {L : Nat → Nat → Int64} {R : Nat → Nat → Option Nat} (hL : Lay R) {V : VT} (hV : WV V) (hM : MT I V) (ld : Bool) (hld : I 172 1 = b2 (ld = true)) (a e o : Int32) : Mt l G mX12_pass (9) 0 0 [.ref (ra G 172), .int a, .int e, .int o] (wd I L R) (qM (a_pass V ld a e o) I R) := by
  refine mt_of (own := RX12) (by decide) rfl rfl (fun Z C P B => ?_)
  have D := @dc_of _ _ dX12_pass
  have hE10 := hV.1
  have hA8 := hV.2.1
  refine j_aload_n C (D 0 rfl) rfl ?_
  refine j_iload_n C (D 1 rfl) rfl ?_
  refine j_iload_n C (D 2 rfl) rfl ?_
  refine j_cVp C B k_X12_407 (rc_obj C (lit (kd := 12) (n := 48) rfl) rfl rfl) (d_isBoth _ _ hL (vA V) (vE V) hM.2.1 (by omega) hM.1 (by omega) _ _) rfl rfl rfl rfl ⟨Nat.le_refl _, Nat.le_refl _⟩ (D 3 rfl) ?_
  refine j_if_eq C  22 (D 4 rfl) (by decide) (fun h6 => ?_) (fun h6 => ?_)
  · refine j_bipush C (v := (-2)) (D 12 rfl) rfl ?_
    exact j_iret C P rfl (D 13 rfl) ⟨Nat.le_refl _, Nat.le_refl _⟩ (qm0 (a_pass_f (fun z => b2_eq h6 z.1)).symm)
  · refine j_aload_n C (D 5 rfl) rfl ?_
    refine j_iload_n C (D 6 rfl) rfl ?_
    refine j_cVp C B k_X12_317 (rc_obj C (lit (kd := 12) (n := 48) rfl) rfl rfl) (d_isOne _ _ hL (vA V) hM.2.1 (by omega) _) rfl rfl rfl rfl ⟨Nat.le_refl _, Nat.le_refl _⟩ (D 7 rfl) ?_
    refine j_if_eq C  22 (D 8 rfl) (by decide) (fun h14 => ?_) (fun h14 => ?_)
    · refine j_bipush C (v := (-2)) (D 12 rfl) rfl ?_
      exact j_iret C P rfl (D 13 rfl) ⟨Nat.le_refl _, Nat.le_refl _⟩ (qm0 (a_pass_f (fun z => b2_eq h14 z.2.1)).symm)
    · refine j_iload_n C (D 9 rfl) rfl ?_
      refine j_iload_n C (D 10 rfl) rfl ?_
      refine j_icmp_ne C  25 (D 11 rfl) (by decide) (fun h19 => ?_) (fun h19 => ?_)
      · obtain ⟨⟨a, ha, rfl⟩, ⟨e, he, rfl⟩⟩ := And.intro (inR_n (b2_ne h6).1) (inR_n (b2_ne h6).2)
        have he10 : e < 10 := by omega
        have ha8 : a < 8 := by omega
        obtain ⟨o, ho, rfl⟩ := inR_n (b2_ne h14)
        have hoa : ¬ o = a := fun z => h19 (by rw [z])
        obtain ⟨t, ht, hte⟩ := top_n hV he
        refine j_aload_n C (D 14 rfl) rfl ?_
        refine j_aload_n C (D 15 rfl) rfl ?_
        refine j_getr C f_X12_22 (lit (kd := 12) (n := 48) rfl) rfl rfl (hL _ _ _ rfl) (D 16 rfl) ?_
        refine j_callV C B k_X12_410 (rc_obj C (lit (kd := 12) (n := 48) rfl) rfl rfl) (d_lays _ _ hL hV hM 177 (vmk V) (lit (kd := 20) (n := 80) rfl) (Or.inl rfl) (fun b e hb he => ⟨(hM.2.2.2.2.2.1 b e hb (by omega)).1, (hV.2.2.2.2.2.1 b e hb (by omega)).1⟩)) rfl rfl rfl rfl ⟨Nat.le_refl _, Nat.le_refl _⟩ (D 17 rfl) ?_
        rintro r w' ⟨rfl, I2, rfl, hF2, hl⟩
        have hM2 := MT_fr hM hF2.M
        have hz := pza_M hV (vmk V)
        have hme2 : mE I2 e = vev V e := hM2.2.2.2.2.1 e he
        have hWE2 : WE (mE I2 e) := by rw [hme2]; exact hV.2.2.2.2.1 e he
        refine j_aload_n C (D 18 rfl) rfl ?_
        refine j_iload_n C (D 19 rfl) rfl ?_
        refine j_cVp C B k_X12_356 (rc_obj C (lit (kd := 12) (n := 48) rfl) rfl rfl) (d_topOf _ _ hL e he10 hWE2) rfl rfl rfl rfl ⟨Nat.le_refl _, Nat.le_refl _⟩ (D 20 rfl) ?_
        rw [hme2, hte]
        refine j_istore C (D 21 rfl) rfl ?_
        refine j_iconst C (v := nI 0) (D 22 rfl) rfl ?_
        refine j_istore C (D 23 rfl) rfl ?_
        have Lp : ∀ (m k : Nat) (I1 : Nat → Nat → Int32) (L1 : Nat → Nat → Int64) (Pc : Nat → Nat → Int32) (gc : Nat → Nat → Bool), k + m = t + 1 → FrM I I1 → ML I1 V Pc gc → (∀ v, tw Pc a e v = tw (ptM V (vmk V)) a e v) → (∀ v, tw gc a e v = tw (gM (vmk V)) a e v) → fst1 (paF V a e o) (t + 1) 0 = fst1 (paF V a e o) m k → J Z (0, 0) 43 [some (.ref (ra G 172)), some (.int (nI a)), some (.int (nI e)), some (.int (nI o)), some (.int (nI t)), some (.int (nI k))] [] (wd I1 L1 R) := by
          intro m
          induction m with
          | zero =>
            intro k I1 L1 Pc gc hk hF hl1 hv hw hf
            refine j_iload C (D 24 rfl) rfl ?_
            refine j_iload C (D 25 rfl) rfl ?_
            refine j_icmp_gt C  76 (D 26 rfl) (by decide) (fun h47 => ?_) (fun h47 => absurd h47 (fun z => z ((nlt (by omega) (by omega)).mpr (by omega))))
            refine j_iconst C (v := (-1)) (D 41 rfl) rfl ?_
            exact j_iret C P rfl (D 42 rfl) ⟨Nat.le_refl _, Nat.le_refl _⟩ (qm1 hF (by rw [a_pass_t ⟨(b2_ne h6), (b2_ne h14), h19⟩, tn_n (by omega), tn_n (by omega), tn_n (by omega), hte, tn_n (by omega), hf]; rfl))
          | succ m ih =>
            intro k I1 L1 Pc gc hk hF hl1 hv hw hf
            refine j_iload C (D 24 rfl) rfl ?_
            refine j_iload C (D 25 rfl) rfl ?_
            refine j_icmp_gt C  76 (D 26 rfl) (by decide) (fun h47 => absurd h47 (fun z => by rw [nlt (by omega) (by omega)] at z; omega)) (fun h47 => ?_)
            refine j_aload_n C (D 27 rfl) rfl ?_
            refine j_iload_n C (D 28 rfl) rfl ?_
            refine j_iload_n C (D 29 rfl) rfl ?_
            refine j_iload C (D 30 rfl) rfl ?_
            refine j_callV C B k_X12_424 (rc_obj C (lit (kd := 12) (n := 48) rfl) rfl rfl) (d_puts0 _ _ hL a e (nI k) ha8 he10) rfl rfl rfl rfl ⟨Nat.le_refl _, Nat.le_refl _⟩ (D 31 rfl) ?_
            rintro r w' ⟨rfl, rfl⟩
            have hF2 := (hF.put (a := 188) (k := 10 * a + e) (v := nI k) (by decide)).put (a := 189) (k := 10 * a + e) (v := nI 1) (by decide)
            have hM3 := MT_fr hM hF2
            have hl2 := ML_set (a := a) (e := e) (v := nI k) (b := true) hE10 he10 hl1 (b2_t rfl)
            rw [hv, hw] at hl2
            have hz2 : pza V (tw (ptM V (vmk V)) a e (nI k)) (tw (gM (vmk V)) a e true) := pza_tw hz (kr (by omega) rfl)
            refine j_aload_n C (D 32 rfl) rfl ?_
            refine j_iload_n C (D 33 rfl) rfl ?_
            refine j_iload_n C (D 34 rfl) rfl ?_
            refine j_callV C B k_X12_401 (rc_obj C (lit (kd := 12) (n := 48) rfl) rfl rfl) (d_isAhead _ _ hL hV hM3 hz2 hl2 a o ha ho) rfl rfl rfl rfl ⟨Nat.le_refl _, Nat.le_refl _⟩ (D 35 rfl) ?_
            rintro r w' ⟨rfl, L3, rfl⟩
            refine j_if_eq C  70 (D 36 rfl) (by decide) (fun h64 => ?_) (fun h64 => ?_)
            · first | refine j_iinc1 C (D 39 rfl) rfl rfl ?_ | refine j_iinc C (D 39 rfl) rfl rfl rfl ?_
              refine j_goto C 43 (D 40 rfl) (by decide) ?_
              exact ih (k + 1) _ _ _ _ (by omega) hF2 hl2 (fun v => tw_tw _ _ _ _ _) (fun v => tw_tw _ _ _ _ _) (by rw [hf, fst1, if_neg (fun (z : paF V a e o k = true) => b2_eq h64 z)])
            · refine j_iload C (D 37 rfl) rfl ?_
              exact j_iret C P rfl (D 38 rfl) ⟨Nat.le_refl _, Nat.le_refl _⟩ (qm1 hF2 (by rw [a_pass_t ⟨(b2_ne h6), (b2_ne h14), h19⟩, tn_n (by omega), tn_n (by omega), tn_n (by omega), hte, tn_n (by omega), hf, fst1, if_pos (show paF V a e o k = true from b2_ne h64)]))
        exact Lp (t + 1) 0 _ _ _ _ (by omega) hF2.M hl (fun _ => rfl) (fun _ => rfl) rfl
      · refine j_bipush C (v := (-2)) (D 12 rfl) rfl ?_
        exact j_iret C P rfl (D 13 rfl) ⟨Nat.le_refl _, Nat.le_refl _⟩ (qm0 (a_pass_f (fun z => z.2.2 h19)).symm)
