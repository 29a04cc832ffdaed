def a_behind (V : VT) (ld : Bool) (a : Int32) : Int32 := if inR (vA V) a then (gtP (bhS V (tn a)) (vE V)).1 else -2
theorem a_behind_t {V : VT} {ld : Bool} {a : Int32} (hX : inR (vA V) a) : a_behind V ld a = (gtP (bhS V (tn a)) (vE V)).1 := if_pos hX
theorem a_behind_f {V : VT} {ld : Bool} {a : Int32} (hX : ¬ (inR (vA V) a)) : a_behind V ld a = -2 := if_neg hX
set_option maxRecDepth 20000 in
theorem c_behindQ (l : Launch) (G : GT) {c : Nat} (hc : isC c) {I : Nat → Nat → Int32} {L : Nat → Nat → Int64} {R : Nat → Nat → Option Nat} (hL : Lay R) (hr5 : R 0 5 = some c) {V : VT} (hV : WV V) (hT : CT I c V) (ld : Bool) (hld : I 0 6 = b2 (ld = true)) (a : Int32) : Mt l G mX11_behind (6) 0 0 [.ref (ra G 0), .int a] (wd I L R) (qC (a_behind V ld a) I R) := by
  refine mt_of (own := RX11) (by decide) rfl rfl (fun Z C P B => ?_)
  have D := @dc_of _ _ dX11_behind
  have hE10 := hV.1
  have hA8 := hV.2.1
  refine j_aload_n C (D 0 rfl) rfl ?_
  refine j_iload_n C (D 1 rfl) rfl ?_
  refine j_cVp C B k_X11_184 (rc_obj C (lit (kd := 11) (n := 12) rfl) rfl rfl) (c_hasAthlete _ _ hc hL hr5 hV hT ld hld _) rfl rfl rfl rfl ⟨Nat.le_refl _, Nat.le_refl _⟩ (D 2 rfl) ?_
  refine j_if_ne C  11 (D 3 rfl) (by decide) (fun h5 => ?_) (fun h5 => ?_)
  · obtain ⟨a, ha, rfl⟩ := inR_n (b2_ne h5)
    have ha8 : a < 8 := by omega
    refine j_aload_n C (D 6 rfl) rfl ?_
    refine j_callV C B k_X11_187 (rc_obj C (lit (kd := 11) (n := 12) rfl) rfl rfl) (c_stNow _ _ hc hL hr5 hV hT) rfl rfl rfl rfl ⟨Nat.le_refl _, Nat.le_refl _⟩ (D 7 rfl) ?_
    rintro r w' ⟨rfl, I2, rfl, hF2, k0, kP, kF⟩
    have hT2 := CT_fr hc hT (hF2.S hc) hV.1
    have hz := pza_M hV (vmk V)
    refine j_astore_n C (D 8 rfl) rfl ?_
    refine j_iconst C (v := (-1)) (D 9 rfl) rfl ?_
    refine j_istore_n C (D 10 rfl) rfl ?_
    refine j_iconst C (v := nI 0) (D 11 rfl) rfl ?_
    refine j_istore C (D 12 rfl) rfl ?_
    refine j_iconst C (v := nI 0) (D 13 rfl) rfl ?_
    refine j_istore C (D 14 rfl) rfl ?_
    have Lp : ∀ (m e : Nat) (x6 : Option Value), e + m = vE V → J Z (0, 0) 24 [some (.ref (ra G 0)), some (.int (nI a)), some (.ref (ra G 98)), some (.int (gtP (bhS V a) e).1), some (.int (gtP (bhS V a) e).2), some (.int (nI e)), x6] [] (wd I2 L R) := by
      intro m
      induction m with
      | zero =>
        intro e x6 he
        refine j_iload C (D 15 rfl) rfl ?_
        refine j_aload_n C (D 16 rfl) rfl ?_
        refine j_getr C f_X11_37 (lit (kd := 11) (n := 12) rfl) rfl rfl hr5 (D 17 rfl) ?_
        refine j_geti C f_X11_98 (sC0 hc) rfl rfl (D 18 rfl) ?_
        rw [hT2.1]
        refine j_icmp_ge C  77 (D 19 rfl) (by decide) (fun h33 => ?_) (fun h33 => absurd h33 (fun z => z ((nle (by omega) (by omega)).mpr (by omega))))
        refine j_iload_n C (D 41 rfl) rfl ?_
        exact j_iret C P rfl (D 42 rfl) ⟨Nat.le_refl _, Nat.le_refl _⟩ (qc1 (hF2.S hc) (by rw [a_behind_t (b2_ne h5), tn_n (by omega), show vE V = e by omega]))
      | succ m ih =>
        intro e x6 he
        refine j_iload C (D 15 rfl) rfl ?_
        refine j_aload_n C (D 16 rfl) rfl ?_
        refine j_getr C f_X11_37 (lit (kd := 11) (n := 12) rfl) rfl rfl hr5 (D 17 rfl) ?_
        refine j_geti C f_X11_98 (sC0 hc) rfl rfl (D 18 rfl) ?_
        rw [hT2.1]
        refine j_icmp_ge C  77 (D 19 rfl) (by decide) (fun h33 => absurd h33 (fun z => by rw [nle (by omega) (by omega)] at z; omega)) (fun h33 => ?_)
        refine j_aload_n C (D 20 rfl) rfl ?_
        refine j_iload C (D 21 rfl) rfl ?_
        refine j_cVp C B k_X11_311 (rc_obj C (lit (kd := 8) (n := 6) rfl) rfl rfl) (c_mostIn _ _ hL hV hz k0 e (by omega)) rfl rfl rfl rfl ⟨Nat.le_refl _, Nat.le_refl _⟩ (D 22 rfl) ?_
        refine j_aload_n C (D 23 rfl) rfl ?_
        refine j_getr C f_X11_191 (lit (kd := 8) (n := 6) rfl) rfl rfl (hL _ _ _ rfl) (D 24 rfl) ?_
        refine j_iload_n C (D 25 rfl) rfl ?_
        refine j_aald C (kd := 2) (lit (kd := 26) (n := 8) rfl) rfl (ix_n ha8 (by decide)) (hL _ _ _ (rSS ha8)) (D 26 rfl) ?_
        refine j_getr C f_X11_314 (sS0 (isS_of ha8)) rfl rfl (hL _ _ _ (rS0 (isS_of ha8))) (D 27 rfl) ?_
        refine j_iload C (D 28 rfl) rfl ?_
        refine j_iald C (sS1 (isS_of ha8)) (ix_n (by omega) (by decide)) (D 29 rfl) ?_
        rw [((k0.2.2.2 a ha).1.2 e (by omega)).1]
        refine j_isub C (D 30 rfl) ?_
        rw [show mxN (ptM V (vmk V)) e (vA V) - ptM V (vmk V) a e = bhS V a e from rfl]
        refine j_istore C (D 31 rfl) rfl ?_
        refine j_iload C (D 32 rfl) rfl ?_
        refine j_iload C (D 33 rfl) rfl ?_
        refine j_icmp_le C  71 (D 34 rfl) (by decide) (fun h61 => ?_) (fun h61 => ?_)
        · first | refine j_iinc1 C (D 39 rfl) rfl rfl ?_ | refine j_iinc C (D 39 rfl) rfl rfl rfl ?_
          refine j_goto C 24 (D 40 rfl) (by decide) ?_
          have hq := ih (e + 1) (some (.int (bhS V a e))) (by omega)
          rw [gtP_0 h61] at hq
          exact hq
        · refine j_iload C (D 35 rfl) rfl ?_
          refine j_istore C (D 36 rfl) rfl ?_
          refine j_iload C (D 37 rfl) rfl ?_
          refine j_istore_n C (D 38 rfl) rfl ?_
          first | refine j_iinc1 C (D 39 rfl) rfl rfl ?_ | refine j_iinc C (D 39 rfl) rfl rfl rfl ?_
          refine j_goto C 24 (D 40 rfl) (by decide) ?_
          have hq := ih (e + 1) (some (.int (bhS V a e))) (by omega)
          rw [gtP_1 h61] at hq
          exact hq
    exact Lp (vE V) 0 _ (by omega)
  · refine j_bipush C (v := (-2)) (D 4 rfl) rfl ?_
    exact j_iret C P rfl (D 5 rfl) ⟨Nat.le_refl _, Nat.le_refl _⟩ (qc0 (a_behind_f (fun z => b2_eq h5 z)).symm)
set_option maxRecDepth 20000 in
theorem d_behindQ (l : Launch) (G : GT) {I : Nat → Nat → Int32} {L : Nat → Nat → Int64} {R : Nat → Nat → Option Nat} (hL : Lay R) {V : VT} (hV : WV V) (hM : MT I V) (ld : Bool) (hld : I 172 1 = b2 (ld = true)) (a : Int32) : Mt l G mX12_behind (6) 0 0 [.ref (ra G 172), .int a] (wd I L R) (qM (a_behind V ld a) I R) := by
  refine mt_of (own := RX12) (by decide) rfl rfl (fun Z C P B => ?_)
  have D := @dc_of _ _ dX12_behind
  have hE10 := hV.1
  have hA8 := hV.2.1
  refine j_aload_n C (D 0 rfl) rfl ?_
  refine j_iload_n C (D 1 rfl) rfl ?_
  refine j_cVp C B k_X12_317 (rc_obj C (lit (kd := 12) (n := 48) rfl) rfl rfl) (d_isOne _ _ hL (vA V) hM.2.1 (by omega) _) rfl rfl rfl rfl ⟨Nat.le_refl _, Nat.le_refl _⟩ (D 2 rfl) ?_
  refine j_if_ne C  11 (D 3 rfl) (by decide) (fun h5 => ?_) (fun h5 => ?_)
  · obtain ⟨a, ha, rfl⟩ := inR_n (b2_ne h5)
    have ha8 : a < 8 := by omega
    refine j_aload_n C (D 6 rfl) rfl ?_
    refine j_aload_n C (D 7 rfl) rfl ?_
    refine j_getr C f_X12_22 (lit (kd := 12) (n := 48) rfl) rfl rfl (hL _ _ _ rfl) (D 8 rfl) ?_
    refine j_callV C B k_X12_410 (rc_obj C (lit (kd := 12) (n := 48) rfl) rfl rfl) (d_lays _ _ hL hV hM 177 (vmk V) (lit (kd := 20) (n := 80) rfl) (Or.inl rfl) (fun b e hb he => ⟨(hM.2.2.2.2.2.1 b e hb (by omega)).1, (hV.2.2.2.2.2.1 b e hb (by omega)).1⟩)) rfl rfl rfl rfl ⟨Nat.le_refl _, Nat.le_refl _⟩ (D 9 rfl) ?_
    rintro r w' ⟨rfl, I2, rfl, hF2, hl⟩
    have hM2 := MT_fr hM hF2.M
    have hz := pza_M hV (vmk V)
    refine j_iconst C (v := (-1)) (D 10 rfl) rfl ?_
    refine j_istore_n C (D 11 rfl) rfl ?_
    refine j_iconst C (v := nI 0) (D 12 rfl) rfl ?_
    refine j_istore_n C (D 13 rfl) rfl ?_
    refine j_iconst C (v := nI 0) (D 14 rfl) rfl ?_
    refine j_istore C (D 15 rfl) rfl ?_
    have Lp : ∀ (m e : Nat) (x5 x6 : Option Value), e + m = vE V → J Z (0, 0) 26 [some (.ref (ra G 172)), some (.int (nI a)), some (.int (gtP (bhS V a) e).1), some (.int (gtP (bhS V a) e).2), some (.int (nI e)), x5, x6] [] (wd I2 L R) := by
      intro m
      induction m with
      | zero =>
        intro e x5 x6 he
        refine j_iload C (D 16 rfl) rfl ?_
        refine j_aload_n C (D 17 rfl) rfl ?_
        refine j_geti C f_X12_300 (lit (kd := 12) (n := 48) rfl) rfl rfl (D 18 rfl) ?_
        rw [hM2.1]
        refine j_icmp_ge C  114 (D 19 rfl) (by decide) (fun h32 => ?_) (fun h32 => absurd h32 (fun z => z ((nle (by omega) (by omega)).mpr (by omega))))
        refine j_iload_n C (D 62 rfl) rfl ?_
        exact j_iret C P rfl (D 63 rfl) ⟨Nat.le_refl _, Nat.le_refl _⟩ (qm1 hF2.M (by rw [a_behind_t (b2_ne h5), tn_n (by omega), show vE V = e by omega]))
      | succ m ih =>
        intro e x5 x6 he
        refine j_iload C (D 16 rfl) rfl ?_
        refine j_aload_n C (D 17 rfl) rfl ?_
        refine j_geti C f_X12_300 (lit (kd := 12) (n := 48) rfl) rfl rfl (D 18 rfl) ?_
        rw [hM2.1]
        refine j_icmp_ge C  114 (D 19 rfl) (by decide) (fun h32 => absurd h32 (fun z => by rw [nle (by omega) (by omega)] at z; omega)) (fun h32 => ?_)
        refine j_iconst C (v := nI 0) (D 20 rfl) rfl ?_
        refine j_istore C (D 21 rfl) rfl ?_
        refine j_iconst C (v := nI 0) (D 22 rfl) rfl ?_
        refine j_istore C (D 23 rfl) rfl ?_
        have Lb : ∀ (m b : Nat), b + m = vA V → J Z (0, 0) 41 [some (.ref (ra G 172)), some (.int (nI a)), some (.int (gtP (bhS V a) e).1), some (.int (gtP (bhS V a) e).2), some (.int (nI e)), some (.int (mxN (ptM V (vmk V)) e b)), some (.int (nI b))] [] (wd I2 L R) := by
          intro m
          induction m with
          | zero =>
            intro b hb
            refine j_iload C (D 24 rfl) rfl ?_
            refine j_aload_n C (D 25 rfl) rfl ?_
            refine j_geti C f_X12_303 (lit (kd := 12) (n := 48) rfl) rfl rfl (D 26 rfl) ?_
            rw [hM2.2.1]
            refine j_icmp_ge C  76 (D 27 rfl) (by decide) (fun h47 => ?_) (fun h47 => absurd h47 (fun z => z ((nle (by omega) (by omega)).mpr (by omega))))
            refine j_iload C (D 41 rfl) rfl ?_
            refine j_aload_n C (D 42 rfl) rfl ?_
            refine j_getr C f_X12_60 (lit (kd := 12) (n := 48) rfl) rfl rfl (hL _ _ _ rfl) (D 43 rfl) ?_
            refine j_bipush C (v := nI 10) (D 44 rfl) rfl ?_
            refine j_iload_n C (D 45 rfl) rfl ?_
            refine j_imul C (D 46 rfl) ?_
            refine j_iload C (D 47 rfl) rfl ?_
            refine j_iadd C (D 48 rfl) ?_
            refine j_iald C (lit (kd := 20) (n := 80) rfl) (ix_cell' ha8 (by omega)) (D 49 rfl) ?_
            rw [(hl a e ha (by omega)).1]
            refine j_isub C (D 50 rfl) ?_
            rw [show b = vA V by omega, show mxN (ptM V (vmk V)) e (vA V) - ptM V (vmk V) a e = bhS V a e from rfl]
            refine j_istore C (D 51 rfl) rfl ?_
            refine j_iload C (D 52 rfl) rfl ?_
            refine j_iload_n C (D 53 rfl) rfl ?_
            refine j_icmp_gt C  102 (D 54 rfl) (by decide) (fun h96 => ?_) (fun h96 => ?_)
            · refine j_iload C (D 56 rfl) rfl ?_
              refine j_istore_n C (D 57 rfl) rfl ?_
              refine j_iload C (D 58 rfl) rfl ?_
              refine j_istore_n C (D 59 rfl) rfl ?_
              first | refine j_iinc1 C (D 60 rfl) rfl rfl ?_ | refine j_iinc C (D 60 rfl) rfl rfl rfl ?_
              refine j_goto C 26 (D 61 rfl) (by decide) ?_
              have hq := ih (e + 1) (some (.int (mxN (ptM V (vmk V)) e (vA V)))) (some (.int (bhS V a e))) (by omega)
              rw [gtP_1 (fun z => by rw [i_le] at z; rw [i_lt] at h96; omega)] at hq
              exact hq
            · refine j_goto C 108 (D 55 rfl) (by decide) ?_
              first | refine j_iinc1 C (D 60 rfl) rfl rfl ?_ | refine j_iinc C (D 60 rfl) rfl rfl rfl ?_
              refine j_goto C 26 (D 61 rfl) (by decide) ?_
              have hq := ih (e + 1) (some (.int (mxN (ptM V (vmk V)) e (vA V)))) (some (.int (bhS V a e))) (by omega)
              rw [gtP_0 (by rw [i_lt] at h96; rw [i_le]; omega)] at hq
              exact hq
          | succ m ihb =>
            intro b hb
            refine j_iload C (D 24 rfl) rfl ?_
            refine j_aload_n C (D 25 rfl) rfl ?_
            refine j_geti C f_X12_303 (lit (kd := 12) (n := 48) rfl) rfl rfl (D 26 rfl) ?_
            rw [hM2.2.1]
            refine j_icmp_ge C  76 (D 27 rfl) (by decide) (fun h47 => absurd h47 (fun z => by rw [nle (by omega) (by omega)] at z; omega)) (fun h47 => ?_)
            refine j_iload C (D 28 rfl) rfl ?_
            refine j_aload_n C (D 29 rfl) rfl ?_
            refine j_getr C f_X12_60 (lit (kd := 12) (n := 48) rfl) rfl rfl (hL _ _ _ rfl) (D 30 rfl) ?_
            refine j_bipush C (v := nI 10) (D 31 rfl) rfl ?_
            refine j_iload C (D 32 rfl) rfl ?_
            refine j_imul C (D 33 rfl) ?_
            refine j_iload C (D 34 rfl) rfl ?_
            refine j_iadd C (D 35 rfl) ?_
            refine j_iald C (lit (kd := 20) (n := 80) rfl) (ix_cell' (by omega) (by omega)) (D 36 rfl) ?_
            rw [(hl b e (by omega) (by omega)).1]
            refine j_mmax C B k_X12_365 rfl rfl ⟨Nat.le_refl _, Nat.le_refl _⟩ (D 37 rfl) ?_
            rw [show (if mxN (ptM V (vmk V)) e b < ptM V (vmk V) b e then ptM V (vmk V) b e else mxN (ptM V (vmk V)) e b) = mxN (ptM V (vmk V)) e (b + 1) from rfl]
            refine j_istore C (D 38 rfl) rfl ?_
            first | refine j_iinc1 C (D 39 rfl) rfl rfl ?_ | refine j_iinc C (D 39 rfl) rfl rfl rfl ?_
            refine j_goto C 41 (D 40 rfl) (by decide) ?_
            exact ihb (b + 1) (by omega)
        exact Lb (vA V) 0 (by omega)
    exact Lp (vE V) 0 _ _ (by omega)
  · refine j_bipush C (v := (-2)) (D 4 rfl) rfl ?_
    exact j_iret C P rfl (D 5 rfl) ⟨Nat.le_refl _, Nat.le_refl _⟩ (qm0 (a_behind_f (fun z => b2_eq h5 z)).symm)
def a_close (V : VT) (ld : Bool)  : Int32 := if ld = true then (clA (apS V) (vA V) (vA V) 0 (-1, 0)).1 else -2
theorem a_close_t {V : VT} {ld : Bool}  (hX : ld = true) : a_close V ld  = (clA (apS V) (vA V) (vA V) 0 (-1, 0)).1 := if_pos hX
theorem a_close_f {V : VT} {ld : Bool}  (hX : ¬ (ld = true)) : a_close V ld  = -2 := if_neg hX
set_option maxRecDepth 20000 in
theorem c_closeQ (l : Launch) (G : GT) {c : Nat} (hc : isC c) {I : Nat → Nat → Int32} {L : Nat → Nat → Int64} {R : Nat → Nat → Option Nat} (hL : Lay R) (hr5 : R 0 5 = some c) {V : VT} (hV : WV V) (hT : CT I c V) (ld : Bool) (hld : I 0 6 = b2 (ld = true)) : Mt l G mX11_close (6) 0 0 [.ref (ra G 0)] (wd I L R) (qC (a_close V ld ) I R) := by
  refine mt_of (own := RX11) (by decide) rfl rfl (fun Z C P B => ?_)
  have D := @dc_of _ _ dX11_close
  have hE10 := hV.1
  have hA8 := hV.2.1
  refine j_aload_n C (D 0 rfl) rfl ?_
  refine j_geti C f_X11_85 (lit (kd := 11) (n := 12) rfl) rfl rfl (D 1 rfl) ?_
  rw [hld]
  refine j_if_ne C  10 (D 2 rfl) (by decide) (fun h4 => ?_) (fun h4 => ?_)
  · refine j_aload_n C (D 5 rfl) rfl ?_
    refine j_callV C B k_X11_187 (rc_obj C (lit (kd := 11) (n := 12) rfl) rfl rfl) (c_stNow _ _ hc hL hr5 hV hT) rfl rfl rfl rfl ⟨Nat.le_refl _, Nat.le_refl _⟩ (D 6 rfl) ?_
    rintro r w' ⟨rfl, I2, rfl, hF2, k0, kP, kF⟩
    have hT2 := CT_fr hc hT (hF2.S hc) hV.1
    have hz := pza_M hV (vmk V)
    refine j_astore_n C (D 7 rfl) rfl ?_
    refine j_iconst C (v := (-1)) (D 8 rfl) rfl ?_
    refine j_istore_n C (D 9 rfl) rfl ?_
    refine j_iconst C (v := nI 0) (D 10 rfl) rfl ?_
    refine j_istore_n C (D 11 rfl) rfl ?_
    refine j_iconst C (v := nI 0) (D 12 rfl) rfl ?_
    refine j_istore C (D 13 rfl) rfl ?_
    have Lp : ∀ (m a : Nat) (x y : Int32) (x5 x6 : Option Value), a + m = vA V → (clA (apS V) (vA V) (vA V) 0 (-1, 0)).1 = (clA (apS V) (vA V) m a (x, y)).1 → J Z (0, 0) 22 [some (.ref (ra G 0)), some (.ref (ra G 98)), some (.int x), some (.int y), some (.int (nI a)), x5, x6] [] (wd I2 L R) := by
      intro m
      induction m with
      | zero =>
        intro a x y x5 x6 ha hx
        refine j_iload C (D 14 rfl) rfl ?_
        refine j_aload_n C (D 15 rfl) rfl ?_
        refine j_getr C f_X11_37 (lit (kd := 11) (n := 12) rfl) rfl rfl hr5 (D 16 rfl) ?_
        refine j_geti C f_X11_101 (sC0 hc) rfl rfl (D 17 rfl) ?_
        rw [hT2.2.1]
        refine j_icmp_ge C  105 (D 18 rfl) (by decide) (fun h31 => ?_) (fun h31 => absurd h31 (fun z => z ((nle (by omega) (by omega)).mpr (by omega))))
        refine j_iload_n C (D 55 rfl) rfl ?_
        exact j_iret C P rfl (D 56 rfl) ⟨Nat.le_refl _, Nat.le_refl _⟩ (qc1 (hF2.S hc) (by rw [a_close_t (b2_ne h4), hx]; rfl))
      | succ m9 ih =>
        intro a x y x5 x6 ha hx
        refine j_iload C (D 14 rfl) rfl ?_
        refine j_aload_n C (D 15 rfl) rfl ?_
        refine j_getr C f_X11_37 (lit (kd := 11) (n := 12) rfl) rfl rfl hr5 (D 16 rfl) ?_
        refine j_geti C f_X11_101 (sC0 hc) rfl rfl (D 17 rfl) ?_
        rw [hT2.2.1]
        refine j_icmp_ge C  105 (D 18 rfl) (by decide) (fun h31 => absurd h31 (fun z => by rw [nle (by omega) (by omega)] at z; omega)) (fun h31 => ?_)
        refine j_iload C (D 19 rfl) rfl ?_
        refine j_iconst C (v := nI 1) (D 20 rfl) rfl ?_
        refine j_iadd C (D 21 rfl) ?_
        rw [nI_add]
        refine j_istore C (D 22 rfl) rfl ?_
        have Lb : ∀ (m b : Nat) (x y : Int32) (x6 : Option Value), b + m = vA V → (clA (apS V) (vA V) (vA V) 0 (-1, 0)).1 = (clA (apS V) (vA V) m9 (a + 1) (clB (apS V) a m b (x, y))).1 → J Z (0, 0) 40 [some (.ref (ra G 0)), some (.ref (ra G 98)), some (.int x), some (.int y), some (.int (nI a)), some (.int (nI b)), x6] [] (wd I2 L R) := by
          intro m
          induction m with
          | zero =>
            intro b x y x6 hb hx
            refine j_iload C (D 23 rfl) rfl ?_
            refine j_aload_n C (D 24 rfl) rfl ?_
            refine j_getr C f_X11_37 (lit (kd := 11) (n := 12) rfl) rfl rfl hr5 (D 25 rfl) ?_
            refine j_geti C f_X11_101 (sC0 hc) rfl rfl (D 26 rfl) ?_
            rw [hT2.2.1]
            refine j_icmp_ge C  99 (D 27 rfl) (by decide) (fun h49 => ?_) (fun h49 => absurd h49 (fun z => z ((nle (by omega) (by omega)).mpr (by omega))))
            first | refine j_iinc1 C (D 53 rfl) rfl rfl ?_ | refine j_iinc C (D 53 rfl) rfl rfl rfl ?_
            refine j_goto C 22 (D 54 rfl) (by decide) ?_
            exact ih (a + 1) _ _ _ _ (by omega) hx
          | succ m ihb =>
            intro b x y x6 hb hx
            refine j_iload C (D 23 rfl) rfl ?_
            refine j_aload_n C (D 24 rfl) rfl ?_
            refine j_getr C f_X11_37 (lit (kd := 11) (n := 12) rfl) rfl rfl hr5 (D 25 rfl) ?_
            refine j_geti C f_X11_101 (sC0 hc) rfl rfl (D 26 rfl) ?_
            rw [hT2.2.1]
            refine j_icmp_ge C  99 (D 27 rfl) (by decide) (fun h49 => absurd h49 (fun z => by rw [nle (by omega) (by omega)] at z; omega)) (fun h49 => ?_)
            refine j_aload_n C (D 28 rfl) rfl ?_
            refine j_iload C (D 29 rfl) rfl ?_
            refine j_cVp C B k_X11_252 (rc_obj C (lit (kd := 8) (n := 6) rfl) rfl rfl) (c_totalOf _ _ hL hV hz k0 kP a (by omega)) rfl rfl rfl rfl ⟨Nat.le_refl _, Nat.le_refl _⟩ (D 30 rfl) ?_
            refine j_aload_n C (D 31 rfl) rfl ?_
            refine j_iload C (D 32 rfl) rfl ?_
            refine j_cVp C B k_X11_252 (rc_obj C (lit (kd := 8) (n := 6) rfl) rfl rfl) (c_totalOf _ _ hL hV hz k0 kP b (by omega)) rfl rfl rfl rfl ⟨Nat.le_refl _, Nat.le_refl _⟩ (D 33 rfl) ?_
            refine j_isub C (D 34 rfl) ?_
            refine j_mabs C B k_X11_169 rfl rfl ⟨Nat.le_refl _, Nat.le_refl _⟩ (D 35 rfl) ?_
            rw [show (if 0 ≤ totS V (ptM V (vmk V)) (gM (vmk V)) a - totS V (ptM V (vmk V)) (gM (vmk V)) b then totS V (ptM V (vmk V)) (gM (vmk V)) a - totS V (ptM V (vmk V)) (gM (vmk V)) b else 0 - (totS V (ptM V (vmk V)) (gM (vmk V)) a - totS V (ptM V (vmk V)) (gM (vmk V)) b)) = apS V a b from rfl]
            refine j_istore C (D 36 rfl) rfl ?_
            refine j_iload_n C (D 37 rfl) rfl ?_
            refine j_iconst C (v := (-1)) (D 38 rfl) rfl ?_
            refine j_icmp_eq C  81 (D 39 rfl) (by decide) (fun h72 => ?_) (fun h72 => ?_)
            · refine j_iload C (D 43 rfl) rfl ?_
              refine j_istore_n C (D 44 rfl) rfl ?_
              refine j_bipush C (v := nI 10) (D 45 rfl) rfl ?_
              refine j_iload C (D 46 rfl) rfl ?_
              refine j_imul C (D 47 rfl) ?_
              refine j_iload C (D 48 rfl) rfl ?_
              refine j_iadd C (D 49 rfl) ?_
              refine j_istore_n C (D 50 rfl) rfl ?_
              first | refine j_iinc1 C (D 51 rfl) rfl rfl ?_ | refine j_iinc C (D 51 rfl) rfl rfl rfl ?_
              refine j_goto C 40 (D 52 rfl) (by decide) ?_
              exact ihb (b + 1) _ _ _ (by omega) (by rw [hx, clB, czS_t (Or.inl h72)])
            · refine j_iload C (D 40 rfl) rfl ?_
              refine j_iload_n C (D 41 rfl) rfl ?_
              refine j_icmp_ge C  93 (D 42 rfl) (by decide) (fun h78 => ?_) (fun h78 => ?_)
              · first | refine j_iinc1 C (D 51 rfl) rfl rfl ?_ | refine j_iinc C (D 51 rfl) rfl rfl rfl ?_
                refine j_goto C 40 (D 52 rfl) (by decide) ?_
                exact ihb (b + 1) _ _ _ (by omega) (by rw [hx, clB, czS_f (fun z => z.elim h72 (fun z => by rw [i_lt] at z; rw [i_le] at h78; omega))])
              · refine j_iload C (D 43 rfl) rfl ?_
                refine j_istore_n C (D 44 rfl) rfl ?_
                refine j_bipush C (v := nI 10) (D 45 rfl) rfl ?_
                refine j_iload C (D 46 rfl) rfl ?_
                refine j_imul C (D 47 rfl) ?_
                refine j_iload C (D 48 rfl) rfl ?_
                refine j_iadd C (D 49 rfl) ?_
                refine j_istore_n C (D 50 rfl) rfl ?_
                first | refine j_iinc1 C (D 51 rfl) rfl rfl ?_ | refine j_iinc C (D 51 rfl) rfl rfl rfl ?_
                refine j_goto C 40 (D 52 rfl) (by decide) ?_
                exact ihb (b + 1) _ _ _ (by omega) (by rw [hx, clB, czS_t (Or.inr (by rw [i_lt]; rw [i_le] at h78; omega))])
        exact Lb (vA V - (a + 1)) (a + 1) _ _ _ (by omega) hx
    exact Lp (vA V) 0 _ _ _ _ (by omega) rfl
  · refine j_bipush C (v := (-2)) (D 3 rfl) rfl ?_
    exact j_iret C P rfl (D 4 rfl) ⟨Nat.le_refl _, Nat.le_refl _⟩ (qc0 (a_close_f (fun z => b2_eq h4 z)).symm)
set_option maxRecDepth 20000 in
theorem d_closeQ (l : Launch) (G : GT) {I : Nat → Nat → Int32} {L : Nat → Nat → Int64} {R : Nat → Nat → Option Nat} (hL : Lay R) {V : VT} (hV : WV V) (hM : MT I V) (ld : Bool) (hld : I 172 1 = b2 (ld = true)) : Mt l G mX12_close (9) 0 0 [.ref (ra G 172)] (wd I L R) (qM (a_close V ld ) I R) := by
  refine mt_of (own := RX12) (by decide) rfl rfl (fun Z C P B => ?_)
  have D := @dc_of _ _ dX12_close
  have hE10 := hV.1
  have hA8 := hV.2.1
  refine j_aload_n C (D 0 rfl) rfl ?_
  refine j_geti C f_X12_297 (lit (kd := 12) (n := 48) rfl) rfl rfl (D 1 rfl) ?_
  rw [hld]
  refine j_if_ne C  10 (D 2 rfl) (by decide) (fun h4 => ?_) (fun h4 => ?_)
  · refine j_aload_n C (D 5 rfl) rfl ?_
    refine j_aload_n C (D 6 rfl) rfl ?_
    refine j_getr C f_X12_22 (lit (kd := 12) (n := 48) rfl) rfl rfl (hL _ _ _ rfl) (D 7 rfl) ?_
    refine j_callV C B k_X12_410 (rc_obj C (lit (kd := 12) (n := 48) rfl) rfl rfl) (d_lays _ _ hL hV hM 177 (vmk V) (lit (kd := 20) (n := 80) rfl) (Or.inl rfl) (fun b e hb he => ⟨(hM.2.2.2.2.2.1 b e hb (by omega)).1, (hV.2.2.2.2.2.1 b e hb (by omega)).1⟩)) rfl rfl rfl rfl ⟨Nat.le_refl _, Nat.le_refl _⟩ (D 8 rfl) ?_
    rintro r w' ⟨rfl, I2, rfl, hF2, hl⟩
    have hM2 := MT_fr hM hF2.M
    have hz := pza_M hV (vmk V)
    refine j_iconst C (v := (-1)) (D 9 rfl) rfl ?_
    refine j_istore_n C (D 10 rfl) rfl ?_
    refine j_iconst C (v := nI 0) (D 11 rfl) rfl ?_
    refine j_istore_n C (D 12 rfl) rfl ?_
    refine j_iconst C (v := nI 0) (D 13 rfl) rfl ?_
    refine j_istore_n C (D 14 rfl) rfl ?_
    have Lp : ∀ (m a : Nat) (x y : Int32) (x5 x6 : Option Value) (L1 : Nat → Nat → Int64), a + m = vA V → (clA (apS V) (vA V) (vA V) 0 (-1, 0)).1 = (clA (apS V) (vA V) m a (x, y)).1 → J Z (0, 0) 24 [some (.ref (ra G 172)), some (.int x), some (.int y), some (.int (nI a)), x5, x6] [] (wd I2 L1 R) := by
      intro m
      induction m with
      | zero =>
        intro a x y x5 x6 L1 ha hx
        refine j_iload_n C (D 15 rfl) rfl ?_
        refine j_aload_n C (D 16 rfl) rfl ?_
        refine j_geti C f_X12_303 (lit (kd := 12) (n := 48) rfl) rfl rfl (D 17 rfl) ?_
        rw [hM2.2.1]
        refine j_icmp_ge C  100 (D 18 rfl) (by decide) (fun h29 => ?_) (fun h29 => absurd h29 (fun z => z ((nle (by omega) (by omega)).mpr (by omega))))
        refine j_iload_n C (D 55 rfl) rfl ?_
        exact j_iret C P rfl (D 56 rfl) ⟨Nat.le_refl _, Nat.le_refl _⟩ (qm1 hF2.M (by rw [a_close_t (b2_ne h4), hx]; rfl))
      | succ m9 ih =>
        intro a x y x5 x6 L1 ha hx
        refine j_iload_n C (D 15 rfl) rfl ?_
        refine j_aload_n C (D 16 rfl) rfl ?_
        refine j_geti C f_X12_303 (lit (kd := 12) (n := 48) rfl) rfl rfl (D 17 rfl) ?_
        rw [hM2.2.1]
        refine j_icmp_ge C  100 (D 18 rfl) (by decide) (fun h29 => absurd h29 (fun z => by rw [nle (by omega) (by omega)] at z; omega)) (fun h29 => ?_)
        refine j_iload_n C (D 19 rfl) rfl ?_
        refine j_iconst C (v := nI 1) (D 20 rfl) rfl ?_
        refine j_iadd C (D 21 rfl) ?_
        rw [nI_add]
        refine j_istore C (D 22 rfl) rfl ?_
        have Lb : ∀ (m b : Nat) (x y : Int32) (x6 : Option Value) (L1 : Nat → Nat → Int64), b + m = vA V → (clA (apS V) (vA V) (vA V) 0 (-1, 0)).1 = (clA (apS V) (vA V) m9 (a + 1) (clB (apS V) a m b (x, y))).1 → J Z (0, 0) 37 [some (.ref (ra G 172)), some (.int x), some (.int y), some (.int (nI a)), some (.int (nI b)), x6] [] (wd I2 L1 R) := by
          intro m
          induction m with
          | zero =>
            intro b x y x6 L1 hb hx
            refine j_iload C (D 23 rfl) rfl ?_
            refine j_aload_n C (D 24 rfl) rfl ?_
            refine j_geti C f_X12_303 (lit (kd := 12) (n := 48) rfl) rfl rfl (D 25 rfl) ?_
            rw [hM2.2.1]
            refine j_icmp_ge C  94 (D 26 rfl) (by decide) (fun h43 => ?_) (fun h43 => absurd h43 (fun z => z ((nle (by omega) (by omega)).mpr (by omega))))
            first | refine j_iinc1 C (D 53 rfl) rfl rfl ?_ | refine j_iinc C (D 53 rfl) rfl rfl rfl ?_
            refine j_goto C 24 (D 54 rfl) (by decide) ?_
            exact ih (a + 1) _ _ _ _ _ (by omega) hx
          | succ m ihb =>
            intro b x y x6 L1 hb hx
            refine j_iload C (D 23 rfl) rfl ?_
            refine j_aload_n C (D 24 rfl) rfl ?_
            refine j_geti C f_X12_303 (lit (kd := 12) (n := 48) rfl) rfl rfl (D 25 rfl) ?_
            rw [hM2.2.1]
            refine j_icmp_ge C  94 (D 26 rfl) (by decide) (fun h43 => absurd h43 (fun z => by rw [nle (by omega) (by omega)] at z; omega)) (fun h43 => ?_)
            refine j_aload_n C (D 27 rfl) rfl ?_
            refine j_iload_n C (D 28 rfl) rfl ?_
            refine j_callV C B k_X12_395 (rc_obj C (lit (kd := 12) (n := 48) rfl) rfl rfl) (d_totalOf _ _ hL hV hM2 hz hl a (by omega)) rfl rfl rfl rfl ⟨Nat.le_refl _, Nat.le_refl _⟩ (D 29 rfl) ?_
            rintro r w' ⟨rfl, L3, rfl⟩
            refine j_aload_n C (D 30 rfl) rfl ?_
            refine j_iload C (D 31 rfl) rfl ?_
            refine j_callV C B k_X12_395 (rc_obj C (lit (kd := 12) (n := 48) rfl) rfl rfl) (d_totalOf _ _ hL hV hM2 hz hl b (by omega)) rfl rfl rfl rfl ⟨Nat.le_refl _, Nat.le_refl _⟩ (D 32 rfl) ?_
            rintro r w' ⟨rfl, L4, rfl⟩
            refine j_isub C (D 33 rfl) ?_
            refine j_mabs C B k_X12_362 rfl rfl ⟨Nat.le_refl _, Nat.le_refl _⟩ (D 34 rfl) ?_
            rw [show (if 0 ≤ totS V (ptM V (vmk V)) (gM (vmk V)) a - totS V (ptM V (vmk V)) (gM (vmk V)) b then totS V (ptM V (vmk V)) (gM (vmk V)) a - totS V (ptM V (vmk V)) (gM (vmk V)) b else 0 - (totS V (ptM V (vmk V)) (gM (vmk V)) a - totS V (ptM V (vmk V)) (gM (vmk V)) b)) = apS V a b from rfl]
            refine j_istore C (D 35 rfl) rfl ?_
            refine j_iload_n C (D 36 rfl) rfl ?_
            refine j_iconst C (v := (-1)) (D 37 rfl) rfl ?_
            refine j_icmp_eq C  77 (D 38 rfl) (by decide) (fun h65 => ?_) (fun h65 => ?_)
            · refine j_bipush C (v := nI 10) (D 43 rfl) rfl ?_
              refine j_iload_n C (D 44 rfl) rfl ?_
              refine j_imul C (D 45 rfl) ?_
              refine j_iload C (D 46 rfl) rfl ?_
              refine j_iadd C (D 47 rfl) ?_
              refine j_istore_n C (D 48 rfl) rfl ?_
              refine j_iload C (D 49 rfl) rfl ?_
              refine j_istore_n C (D 50 rfl) rfl ?_
              first | refine j_iinc1 C (D 51 rfl) rfl rfl ?_ | refine j_iinc C (D 51 rfl) rfl rfl rfl ?_
              refine j_goto C 37 (D 52 rfl) (by decide) ?_
              exact ihb (b + 1) _ _ _ _ (by omega) (by rw [hx, clB, czS_t (Or.inl h65)])
            · refine j_iload C (D 39 rfl) rfl ?_
              refine j_iload_n C (D 40 rfl) rfl ?_
              refine j_icmp_lt C  77 (D 41 rfl) (by decide) (fun h71 => ?_) (fun h71 => ?_)
              · refine j_bipush C (v := nI 10) (D 43 rfl) rfl ?_
                refine j_iload_n C (D 44 rfl) rfl ?_
                refine j_imul C (D 45 rfl) ?_
                refine j_iload C (D 46 rfl) rfl ?_
                refine j_iadd C (D 47 rfl) ?_
                refine j_istore_n C (D 48 rfl) rfl ?_
                refine j_iload C (D 49 rfl) rfl ?_
                refine j_istore_n C (D 50 rfl) rfl ?_
                first | refine j_iinc1 C (D 51 rfl) rfl rfl ?_ | refine j_iinc C (D 51 rfl) rfl rfl rfl ?_
                refine j_goto C 37 (D 52 rfl) (by decide) ?_
                exact ihb (b + 1) _ _ _ _ (by omega) (by rw [hx, clB, czS_t (Or.inr h71)])
              · refine j_goto C 88 (D 42 rfl) (by decide) ?_
                first | refine j_iinc1 C (D 51 rfl) rfl rfl ?_ | refine j_iinc C (D 51 rfl) rfl rfl rfl ?_
                refine j_goto C 37 (D 52 rfl) (by decide) ?_
                exact ihb (b + 1) _ _ _ _ (by omega) (by rw [hx, clB, czS_f (fun z => z.elim h65 h71)])
        exact Lb (vA V - (a + 1)) (a + 1) _ _ _ _ (by omega) hx
    exact Lp (vA V) 0 _ _ _ _ _ (by omega) rfl
  · refine j_bipush C (v := (-2)) (D 3 rfl) rfl ?_
    exact j_iret C P rfl (D 4 rfl) ⟨Nat.le_refl _, Nat.le_refl _⟩ (qm0 (a_close_f (fun z => b2_eq h4 z)).symm)
