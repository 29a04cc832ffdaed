theorem drm_0 {V : VT} {e : Nat} (h : kthS V e 0 = -1) : drmS V e = nI 0 := if_pos h
theorem drm_b {V : VT} {e b : Nat} (h : ¬ kthS V e 0 = -1) (hb : kthS V e 0 = nI b) (h8 : b < 8) : drmS V e = pts (vev V e) (vmk V b e) := by
  unfold drmS; rw [if_neg h, hb, tn_n (by omega)]
theorem sub_add {a b : Nat} (h : a ≤ b) : b - a + a = b := Nat.sub_add_cancel h
def a_kinds (V : VT) (ld : Bool) (e m u : Int32) : Int32 := if inR (vE V) e ∧ wi 0 99999 m ∧ wi 0 99999 u ∧ (0 ≤ u.toInt - m.toInt ∧ u.toInt - m.toInt ≤ 2000) then knS (vev V (tn e)) (tn m) (tn u - tn m) else -2
theorem a_kinds_t {V : VT} {ld : Bool} {e m u : Int32} (hX : inR (vE V) e ∧ wi 0 99999 m ∧ wi 0 99999 u ∧ (0 ≤ u.toInt - m.toInt ∧ u.toInt - m.toInt ≤ 2000)) : a_kinds V ld e m u = knS (vev V (tn e)) (tn m) (tn u - tn m) := if_pos hX
theorem a_kinds_f {V : VT} {ld : Bool} {e m u : Int32} (hX : ¬ (inR (vE V) e ∧ wi 0 99999 m ∧ wi 0 99999 u ∧ (0 ≤ u.toInt - m.toInt ∧ u.toInt - m.toInt ≤ 2000))) : a_kinds V ld e m u = -2 := if_neg hX
set_option maxRecDepth 20000 in
theorem c_kindsQ (l : Launch) (G : GT) {c : Nat} (hc : isC c) {I : Nat → Nat → Int32} {L : Nat → Nat → Int64} {R : Nat → Nat → Option Nat} (hL : Lay R) (hr5 : R 0 5 = some c) {V : VT} (hV : WV V) (hT : CT I c V) (ld : Bool) (hld : I 0 6 = b2 (ld = true)) (e m u : Int32) : Mt l G mX11_kinds (4) 0 0 [.ref (ra G 0), .int e, .int m, .int u] (wd I L R) (qC (a_kinds V ld e m u) I R) := by
  refine mt_of (own := RX11) (by decide) rfl rfl (fun Z C P B => ?_)
  have D := @dc_of _ _ dX11_kinds
  have hE10 := hV.1
  have hA8 := hV.2.1
  refine j_aload_n C (D 0 rfl) rfl ?_
  refine j_iload_n C (D 1 rfl) rfl ?_
  refine j_cVp C B k_X11_120 (rc_obj C (lit (kd := 11) (n := 12) rfl) rfl rfl) (c_hasEvent _ _ hc hL hr5 hV hT ld hld _) rfl rfl rfl rfl ⟨Nat.le_refl _, Nat.le_refl _⟩ (D 2 rfl) ?_
  refine j_if_eq C  35 (D 3 rfl) (by decide) (fun h5 => ?_) (fun h5 => ?_)
  · refine j_bipush C (v := (-2)) (D 17 rfl) rfl ?_
    exact j_iret C P rfl (D 18 rfl) ⟨Nat.le_refl _, Nat.le_refl _⟩ (qc0 (a_kinds_f (fun z => b2_eq h5 z.1)).symm)
  · refine j_iload_n C (D 4 rfl) rfl ?_
    refine j_cSp C B k_X11_151 (c_isMark _ _ _ _) rfl rfl rfl rfl ⟨Nat.le_refl _, Nat.le_refl _⟩ (D 5 rfl) ?_
    refine j_if_eq C  35 (D 6 rfl) (by decide) (fun h12 => ?_) (fun h12 => ?_)
    · refine j_bipush C (v := (-2)) (D 17 rfl) rfl ?_
      exact j_iret C P rfl (D 18 rfl) ⟨Nat.le_refl _, Nat.le_refl _⟩ (qc0 (a_kinds_f (fun z => b2_eq h12 ((wC (by decide) (by decide)).mpr z.2.1))).symm)
    · refine j_iload_n C (D 7 rfl) rfl ?_
      refine j_cSp C B k_X11_151 (c_isMark _ _ _ _) rfl rfl rfl rfl ⟨Nat.le_refl _, Nat.le_refl _⟩ (D 8 rfl) ?_
      refine j_if_eq C  35 (D 9 rfl) (by decide) (fun h19 => ?_) (fun h19 => ?_)
      · refine j_bipush C (v := (-2)) (D 17 rfl) rfl ?_
        exact j_iret C P rfl (D 18 rfl) ⟨Nat.le_refl _, Nat.le_refl _⟩ (qc0 (a_kinds_f (fun z => b2_eq h19 ((wC (by decide) (by decide)).mpr z.2.2.1))).symm)
      · refine j_iload_n C (D 10 rfl) rfl ?_
        refine j_iload_n C (D 11 rfl) rfl ?_
        refine j_isub C (D 12 rfl) ?_
        refine j_iconst C (v := nI 0) (D 13 rfl) rfl ?_
        refine j_sipush C (v := nI 2000) (D 14 rfl) rfl ?_
        refine j_cSp C B k_X11_158 (c_isWithin _ _ _ _ _ _) rfl rfl rfl rfl ⟨Nat.le_refl _, Nat.le_refl _⟩ (D 15 rfl) ?_
        refine j_if_ne C  38 (D 16 rfl) (by decide) (fun h32 => ?_) (fun h32 => ?_)
        · have hmo : wi 0 99999 m := ((wC (by decide) (by decide)).mp (b2_ne h12))
          have huo : wi 0 99999 u := ((wC (by decide) (by decide)).mp (b2_ne h19))
          have hko := (kdC ((wC (by decide) (by decide)).mp (b2_ne h12)) ((wC (by decide) (by decide)).mp (b2_ne h19)) (by decide) (by decide)).mp (b2_ne h32)
          obtain ⟨e, hk, rfl⟩ := inR_n (b2_ne h5)
          have he10 : e < 10 := by omega
          obtain ⟨f, _, hf5, rfl⟩ := wi_n (a := 0) (b := 99999) hmo
          obtain ⟨t, _, ht5, rfl⟩ := wi_n (a := 0) (b := 99999) huo
          rw [nI_int (by omega), nI_int (by omega)] at hko
          refine j_aload_n C (D 19 rfl) rfl ?_
          refine j_getr C f_X11_37 (lit (kd := 11) (n := 12) rfl) rfl rfl hr5 (D 20 rfl) ?_
          refine j_getr C f_X11_124 (sC0 hc) rfl rfl (hL _ _ _ (rC0 hc)) (D 21 rfl) ?_
          refine j_iload_n C (D 22 rfl) rfl ?_
          refine j_aald C (kd := 1) (sC1 hc) rfl (ix_n he10 (by decide)) (hL _ _ _ (rCT hc he10)) (D 23 rfl) ?_
          refine j_astore C (D 24 rfl) rfl ?_
          refine j_iconst C (v := nI 1) (D 25 rfl) rfl ?_
          refine j_istore C (D 26 rfl) rfl ?_
          refine j_aload C (D 27 rfl) rfl ?_
          refine j_iload_n C (D 28 rfl) rfl ?_
          refine j_cVp C B k_X11_154 (rc_obj C (sT0 (isT_of hc he10)) rfl rfl) (c_valueOf _ _ (isT_of hc he10) hL (hV.2.2.2.2.1 e hk) (hT.2.2.2.2.1 e hk) _ (Or.inr ⟨by rw [nI_int (by omega)]; omega, by rw [nI_int (by omega)]; omega⟩)) rfl rfl rfl rfl ⟨Nat.le_refl _, Nat.le_refl _⟩ (D 29 rfl) ?_
          refine j_istore C (D 30 rfl) rfl ?_
          refine j_iload_n C (D 31 rfl) rfl ?_
          refine j_iconst C (v := nI 1) (D 32 rfl) rfl ?_
          refine j_iadd C (D 33 rfl) ?_
          refine j_istore C (D 34 rfl) rfl ?_
          have Lp : ∀ (m n : Nat) (x8 : Option Value), n + m = t - f → J Z (0, 0) 65 [some (.ref (ra G 0)), some (.int (nI e)), some (.int (nI f)), some (.int (nI t)), some (.ref (ra G (c + 10 + 3 * e))), some (.int (knS (vev V e) f n)), some (.int (pts (vev V e) (nI (f + n)))), some (.int (nI (f + n + 1))), x8] [] (wd I L R) := by
            intro m
            induction m with
            | zero =>
              intro n x8 hn
              refine j_iload C (D 35 rfl) rfl ?_
              refine j_iload_n C (D 36 rfl) rfl ?_
              refine j_icmp_gt C  107 (D 37 rfl) (by decide) (fun h68 => ?_) (fun h68 => absurd h68 (fun z => z ((nlt (by omega) (by omega)).mpr (by omega))))
              refine j_iload C (D 55 rfl) rfl ?_
              exact j_iret C P rfl (D 56 rfl) ⟨Nat.le_refl _, Nat.le_refl _⟩ (qc0 (by rw [a_kinds_t ⟨(b2_ne h5), ((wC (by decide) (by decide)).mp (b2_ne h12)), ((wC (by decide) (by decide)).mp (b2_ne h19)), ((kdC ((wC (by decide) (by decide)).mp (b2_ne h12)) ((wC (by decide) (by decide)).mp (b2_ne h19)) (by decide) (by decide)).mp (b2_ne h32))⟩, tn_n (by omega), tn_n (by omega), tn_n (by omega), show t - f = n by omega]))
            | succ m ih =>
              intro n x8 hn
              refine j_iload C (D 35 rfl) rfl ?_
              refine j_iload_n C (D 36 rfl) rfl ?_
              refine j_icmp_gt C  107 (D 37 rfl) (by decide) (fun h68 => absurd h68 (fun z => by rw [nlt (by omega) (by omega)] at z; omega)) (fun h68 => ?_)
              refine j_aload C (D 38 rfl) rfl ?_
              refine j_iload C (D 39 rfl) rfl ?_
              refine j_cVp C B k_X11_154 (rc_obj C (sT0 (isT_of hc he10)) rfl rfl) (c_valueOf _ _ (isT_of hc he10) hL (hV.2.2.2.2.1 e hk) (hT.2.2.2.2.1 e hk) _ (Or.inr ⟨by rw [nI_int (by omega)]; omega, by rw [nI_int (by omega)]; omega⟩)) rfl rfl rfl rfl ⟨Nat.le_refl _, Nat.le_refl _⟩ (D 40 rfl) ?_
              refine j_istore C (D 41 rfl) rfl ?_
              refine j_iload C (D 42 rfl) rfl ?_
              refine j_iload C (D 43 rfl) rfl ?_
              refine j_iload C (D 44 rfl) rfl ?_
              refine j_icmp_eq C  93 (D 45 rfl) (by decide) (fun h86 => ?_) (fun h86 => ?_)
              · refine j_iconst C (v := nI 0) (D 48 rfl) rfl ?_
                refine j_iadd C (D 49 rfl) ?_
                refine j_istore C (D 50 rfl) rfl ?_
                refine j_iload C (D 51 rfl) rfl ?_
                refine j_istore C (D 52 rfl) rfl ?_
                first | refine j_iinc1 C (D 53 rfl) rfl rfl ?_ | refine j_iinc C (D 53 rfl) rfl rfl rfl ?_
                refine j_goto C 65 (D 54 rfl) (by decide) ?_
                have hq := ih (n + 1) (some (.int (pts (vev V e) (nI (f + n + 1))))) (by omega)
                rw [knS, if_pos h86] at hq
                exact hq
              · refine j_iconst C (v := nI 1) (D 46 rfl) rfl ?_
                refine j_goto C 94 (D 47 rfl) (by decide) ?_
                refine j_iadd C (D 49 rfl) ?_
                refine j_istore C (D 50 rfl) rfl ?_
                refine j_iload C (D 51 rfl) rfl ?_
                refine j_istore C (D 52 rfl) rfl ?_
                first | refine j_iinc1 C (D 53 rfl) rfl rfl ?_ | refine j_iinc C (D 53 rfl) rfl rfl rfl ?_
                refine j_goto C 65 (D 54 rfl) (by decide) ?_
                have hq := ih (n + 1) (some (.int (pts (vev V e) (nI (f + n + 1))))) (by omega)
                rw [knS, if_neg h86] at hq
                exact hq
          rw [nI_add]
          exact Lp (t - f) 0 _ (by omega)
        · refine j_bipush C (v := (-2)) (D 17 rfl) rfl ?_
          exact j_iret C P rfl (D 18 rfl) ⟨Nat.le_refl _, Nat.le_refl _⟩ (qc0 (a_kinds_f (fun z => b2_eq h32 ((kdC ((wC (by decide) (by decide)).mp (b2_ne h12)) ((wC (by decide) (by decide)).mp (b2_ne h19)) (by decide) (by decide)).mpr z.2.2.2))).symm)
set_option maxRecDepth 20000 in
theorem d_kindsQ (l : Launch) (G : GT) {I : Nat → Nat → Int32} {L : Nat → Nat → Int64} {R : Nat → Nat → Option Nat} (hL : Lay R) {V : VT} (hV : WV V) (hM : MT I V) (ld : Bool) (hld : I 172 1 = b2 (ld = true)) (e m u : Int32) : Mt l G mX12_kinds (4) 0 0 [.ref (ra G 172), .int e, .int m, .int u] (wd I L R) (qM (a_kinds V ld e m u) I R) := by
  refine mt_of (own := RX12) (by decide) rfl rfl (fun Z C P B => ?_)
  have D := @dc_of _ _ dX12_kinds
  have hE10 := hV.1
  have hA8 := hV.2.1
  refine j_aload_n C (D 0 rfl) rfl ?_
  refine j_iload_n C (D 1 rfl) rfl ?_
  refine j_cVp C B k_X12_320 (rc_obj C (lit (kd := 12) (n := 48) rfl) rfl rfl) (d_isEvent _ _ hL (vE V) hM.1 (by omega) _) rfl rfl rfl rfl ⟨Nat.le_refl _, Nat.le_refl _⟩ (D 2 rfl) ?_
  refine j_if_eq C  37 (D 3 rfl) (by decide) (fun h5 => ?_) (fun h5 => ?_)
  · refine j_bipush C (v := (-2)) (D 19 rfl) rfl ?_
    exact j_iret C P rfl (D 20 rfl) ⟨Nat.le_refl _, Nat.le_refl _⟩ (qm0 (a_kinds_f (fun z => b2_eq h5 z.1)).symm)
  · refine j_iload_n C (D 4 rfl) rfl ?_
    refine j_cSp C B k_X12_347 (d_isMark _ _ _ _) rfl rfl rfl rfl ⟨Nat.le_refl _, Nat.le_refl _⟩ (D 5 rfl) ?_
    refine j_if_eq C  37 (D 6 rfl) (by decide) (fun h12 => ?_) (fun h12 => ?_)
    · refine j_bipush C (v := (-2)) (D 19 rfl) rfl ?_
      exact j_iret C P rfl (D 20 rfl) ⟨Nat.le_refl _, Nat.le_refl _⟩ (qm0 (a_kinds_f (fun z => b2_eq h12 ((wC (by decide) (by decide)).mpr z.2.1))).symm)
    · refine j_iload_n C (D 7 rfl) rfl ?_
      refine j_cSp C B k_X12_347 (d_isMark _ _ _ _) rfl rfl rfl rfl ⟨Nat.le_refl _, Nat.le_refl _⟩ (D 8 rfl) ?_
      refine j_if_eq C  37 (D 9 rfl) (by decide) (fun h19 => ?_) (fun h19 => ?_)
      · refine j_bipush C (v := (-2)) (D 19 rfl) rfl ?_
        exact j_iret C P rfl (D 20 rfl) ⟨Nat.le_refl _, Nat.le_refl _⟩ (qm0 (a_kinds_f (fun z => b2_eq h19 ((wC (by decide) (by decide)).mpr z.2.2.1))).symm)
      · refine j_iload_n C (D 10 rfl) rfl ?_
        refine j_i2l C (D 11 rfl) ?_
        refine j_iload_n C (D 12 rfl) rfl ?_
        refine j_i2l C (D 13 rfl) ?_
        refine j_lsub C (D 14 rfl) ?_
        refine j_lconst C (v := 0) (D 15 rfl) rfl ?_
        refine j_ldc2_w C (v := 2000) (D 16 rfl) n_X12_342 ?_
        refine j_cSp C B k_X12_99 (d_in _ _ _ _ _ _) rfl rfl rfl rfl ⟨Nat.le_refl _, Nat.le_refl _⟩ (D 17 rfl) ?_
        refine j_if_ne C  40 (D 18 rfl) (by decide) (fun h34 => ?_) (fun h34 => ?_)
        · have hmo : wi 0 99999 m := ((wC (by decide) (by decide)).mp (b2_ne h12))
          have huo : wi 0 99999 u := ((wC (by decide) (by decide)).mp (b2_ne h19))
          have hko := (kdL (by decide) (by decide)).mp (b2_ne h34)
          obtain ⟨e, hk, rfl⟩ := inR_n (b2_ne h5)
          have he10 : e < 10 := by omega
          obtain ⟨f, _, hf5, rfl⟩ := wi_n (a := 0) (b := 99999) hmo
          obtain ⟨t, _, ht5, rfl⟩ := wi_n (a := 0) (b := 99999) huo
          rw [nI_int (by omega), nI_int (by omega)] at hko
          have hme : mE I e = vev V e := hM.2.2.2.2.1 e hk
          have hWE : WE (mE I e) := by rw [hme]; exact hV.2.2.2.2.1 e hk
          refine j_iconst C (v := nI 1) (D 21 rfl) rfl ?_
          refine j_istore C (D 22 rfl) rfl ?_
          refine j_iload_n C (D 23 rfl) rfl ?_
          refine j_iconst C (v := nI 1) (D 24 rfl) rfl ?_
          refine j_iadd C (D 25 rfl) ?_
          refine j_istore C (D 26 rfl) rfl ?_
          have Lp : ∀ (m n : Nat), n + m = t - f → J Z (0, 0) 48 [some (.ref (ra G 172)), some (.int (nI e)), some (.int (nI f)), some (.int (nI t)), some (.int (knS (vev V e) f n)), some (.int (nI (f + n + 1)))] [] (wd I L R) := by
            intro m
            induction m with
            | zero =>
              intro n hn
              refine j_iload C (D 27 rfl) rfl ?_
              refine j_iload_n C (D 28 rfl) rfl ?_
              refine j_icmp_gt C  89 (D 29 rfl) (by decide) (fun h51 => ?_) (fun h51 => absurd h51 (fun z => z ((nlt (by omega) (by omega)).mpr (by omega))))
              refine j_iload C (D 49 rfl) rfl ?_
              exact j_iret C P rfl (D 50 rfl) ⟨Nat.le_refl _, Nat.le_refl _⟩ (qm0 (by rw [a_kinds_t ⟨(b2_ne h5), ((wC (by decide) (by decide)).mp (b2_ne h12)), ((wC (by decide) (by decide)).mp (b2_ne h19)), ((kdL (by decide) (by decide)).mp (b2_ne h34))⟩, tn_n (by omega), tn_n (by omega), tn_n (by omega), show t - f = n by omega]))
            | succ m ih =>
              intro n hn
              refine j_iload C (D 27 rfl) rfl ?_
              refine j_iload_n C (D 28 rfl) rfl ?_
              refine j_icmp_gt C  89 (D 29 rfl) (by decide) (fun h51 => absurd h51 (fun z => by rw [nlt (by omega) (by omega)] at z; omega)) (fun h51 => ?_)
              refine j_iload C (D 30 rfl) rfl ?_
              refine j_aload_n C (D 31 rfl) rfl ?_
              refine j_iload_n C (D 32 rfl) rfl ?_
              refine j_iload C (D 33 rfl) rfl ?_
              refine j_cVp C B k_X12_350 (rc_obj C (lit (kd := 12) (n := 48) rfl) rfl rfl) (d_pointsOf _ _ hL e he10 hWE _ (Or.inr ⟨by rw [nI_int (by omega)]; omega, by rw [nI_int (by omega)]; omega⟩)) rfl rfl rfl rfl ⟨Nat.le_refl _, Nat.le_refl _⟩ (D 34 rfl) ?_
              refine j_aload_n C (D 35 rfl) rfl ?_
              refine j_iload_n C (D 36 rfl) rfl ?_
              refine j_iload C (D 37 rfl) rfl ?_
              refine j_iconst C (v := nI 1) (D 38 rfl) rfl ?_
              refine j_isub C (D 39 rfl) ?_
              rw [pk_sub (by omega), show f + n + 1 - 1 = f + n from rfl]
              refine j_cVp C B k_X12_350 (rc_obj C (lit (kd := 12) (n := 48) rfl) rfl rfl) (d_pointsOf _ _ hL e he10 hWE (nI (f + n)) (Or.inr ⟨by rw [nI_int (by omega)]; omega, by rw [nI_int (by omega)]; omega⟩)) rfl rfl rfl rfl ⟨Nat.le_refl _, Nat.le_refl _⟩ (D 40 rfl) ?_
              rw [hme]
              refine j_icmp_eq C  79 (D 41 rfl) (by decide) (fun h72 => ?_) (fun h72 => ?_)
              · refine j_iconst C (v := nI 0) (D 44 rfl) rfl ?_
                refine j_iadd C (D 45 rfl) ?_
                refine j_istore C (D 46 rfl) rfl ?_
                first | refine j_iinc1 C (D 47 rfl) rfl rfl ?_ | refine j_iinc C (D 47 rfl) rfl rfl rfl ?_
                refine j_goto C 48 (D 48 rfl) (by decide) ?_
                have hq := ih (n + 1) (by omega)
                rw [knS, if_pos h72] at hq
                exact hq
              · refine j_iconst C (v := nI 1) (D 42 rfl) rfl ?_
                refine j_goto C 80 (D 43 rfl) (by decide) ?_
                refine j_iadd C (D 45 rfl) ?_
                refine j_istore C (D 46 rfl) rfl ?_
                first | refine j_iinc1 C (D 47 rfl) rfl rfl ?_ | refine j_iinc C (D 47 rfl) rfl rfl rfl ?_
                refine j_goto C 48 (D 48 rfl) (by decide) ?_
                have hq := ih (n + 1) (by omega)
                rw [knS, if_neg h72] at hq
                exact hq
          rw [nI_add]
          exact Lp (t - f) 0 (by omega)
        · refine j_bipush C (v := (-2)) (D 19 rfl) rfl ?_
          exact j_iret C P rfl (D 20 rfl) ⟨Nat.le_refl _, Nat.le_refl _⟩ (qm0 (a_kinds_f (fun z => b2_eq h34 ((kdL (by decide) (by decide)).mpr z.2.2.2))).symm)
def a_dream (V : VT) (ld : Bool)  : Int32 := if ld = true then sumN (drmS V) (vE V) else -2
theorem a_dream_t {V : VT} {ld : Bool}  (hX : ld = true) : a_dream V ld  = sumN (drmS V) (vE V) := if_pos hX
theorem a_dream_f {V : VT} {ld : Bool}  (hX : ¬ (ld = true)) : a_dream V ld  = -2 := if_neg hX
set_option maxRecDepth 20000 in
theorem c_dreamQ (l : Launch) (G : GT) {c : Nat} (hc : isC c) {I : Nat → Nat → Int32} {L : Nat → Nat → Int64} {R : Nat → Nat → Option Nat} (hL : Lay R) (hr5 : R 0 5 = some c) {V : VT} (hV : WV V) (hT : CT I c V) (ld : Bool) (hld : I 0 6 = b2 (ld = true)) : Mt l G mX11_dream (4) 0 0 [.ref (ra G 0)] (wd I L R) (qC (a_dream V ld ) I R) := by
  refine mt_of (own := RX11) (by decide) rfl rfl (fun Z C P B => ?_)
  have D := @dc_of _ _ dX11_dream
  have hE10 := hV.1
  have hA8 := hV.2.1
  refine j_aload_n C (D 0 rfl) rfl ?_
  refine j_geti C f_X11_85 (lit (kd := 11) (n := 12) rfl) rfl rfl (D 1 rfl) ?_
  rw [hld]
  refine j_if_ne C  10 (D 2 rfl) (by decide) (fun h4 => ?_) (fun h4 => ?_)
  · refine j_iconst C (v := nI 0) (D 5 rfl) rfl ?_
    refine j_istore_n C (D 6 rfl) rfl ?_
    refine j_iconst C (v := nI 0) (D 7 rfl) rfl ?_
    refine j_istore_n C (D 8 rfl) rfl ?_
    have Lp : ∀ (m e : Nat) (x3 : Option Value), e + m = vE V → J Z (0, 0) 14 [some (.ref (ra G 0)), some (.int (sumN (drmS V) e)), some (.int (nI e)), x3] [] (wd I L R) := by
      intro m
      induction m with
      | zero =>
        intro e x3 he
        refine j_iload_n C (D 9 rfl) rfl ?_
        refine j_aload_n C (D 10 rfl) rfl ?_
        refine j_getr C f_X11_37 (lit (kd := 11) (n := 12) rfl) rfl rfl hr5 (D 11 rfl) ?_
        refine j_geti C f_X11_98 (sC0 hc) rfl rfl (D 12 rfl) ?_
        rw [hT.1]
        refine j_icmp_ge C  62 (D 13 rfl) (by decide) (fun h22 => ?_) (fun h22 => absurd h22 (fun z => z ((nle (by omega) (by omega)).mpr (by omega))))
        refine j_iload_n C (D 35 rfl) rfl ?_
        exact j_iret C P rfl (D 36 rfl) ⟨Nat.le_refl _, Nat.le_refl _⟩ (qc0 (by rw [a_dream_t (b2_ne h4), show vE V = e by omega]))
      | succ m ih =>
        intro e x3 he
        refine j_iload_n C (D 9 rfl) rfl ?_
        refine j_aload_n C (D 10 rfl) rfl ?_
        refine j_getr C f_X11_37 (lit (kd := 11) (n := 12) rfl) rfl rfl hr5 (D 11 rfl) ?_
        refine j_geti C f_X11_98 (sC0 hc) rfl rfl (D 12 rfl) ?_
        rw [hT.1]
        refine j_icmp_ge C  62 (D 13 rfl) (by decide) (fun h22 => absurd h22 (fun z => by rw [nle (by omega) (by omega)] at z; omega)) (fun h22 => ?_)
        refine j_aload_n C (D 14 rfl) rfl ?_
        refine j_getr C f_X11_37 (lit (kd := 11) (n := 12) rfl) rfl rfl hr5 (D 15 rfl) ?_
        refine j_iload_n C (D 16 rfl) rfl ?_
        refine j_iconst C (v := nI 0) (D 17 rfl) rfl ?_
        refine j_cVp C B k_X11_233 (rc_obj C (sC0 hc) rfl rfl) (c_athleteByMark _ _ hc hL hV hT e _ (by omega)) rfl rfl rfl rfl ⟨Nat.le_refl _, Nat.le_refl _⟩ (D 18 rfl) ?_
        refine j_istore_n C (D 19 rfl) rfl ?_
        refine j_iload_n C (D 20 rfl) rfl ?_
        refine j_iload_n C (D 21 rfl) rfl ?_
        refine j_iconst C (v := (-1)) (D 22 rfl) rfl ?_
        refine j_icmp_ne C  45 (D 23 rfl) (by decide) (fun h38 => ?_) (fun h38 => ?_)
        · obtain ⟨b, hb, hbe⟩ := (kth_cs V e 0).resolve_left h38
          rw [show kthS V e (nI 0) = nI b from hbe]
          refine j_aload_n C (D 26 rfl) rfl ?_
          refine j_getr C f_X11_37 (lit (kd := 11) (n := 12) rfl) rfl rfl hr5 (D 27 rfl) ?_
          refine j_iload_n C (D 28 rfl) rfl ?_
          refine j_iload_n C (D 29 rfl) rfl ?_
          refine j_cVp C B k_X11_182 (rc_obj C (sC0 hc) rfl rfl) (c_cvalueOf _ _ hc hL hV hT b e hb (by omega)) rfl rfl rfl rfl ⟨Nat.le_refl _, Nat.le_refl _⟩ (D 30 rfl) ?_
          refine j_iadd C (D 31 rfl) ?_
          refine j_istore_n C (D 32 rfl) rfl ?_
          first | refine j_iinc1 C (D 33 rfl) rfl rfl ?_ | refine j_iinc C (D 33 rfl) rfl rfl rfl ?_
          refine j_goto C 14 (D 34 rfl) (by decide) ?_
          have hq := ih (e + 1) (some (.int (nI b))) (by omega)
          rw [sumN, drm_b h38 hbe (by omega)] at hq
          exact hq
        · refine j_iconst C (v := nI 0) (D 24 rfl) rfl ?_
          refine j_goto C 54 (D 25 rfl) (by decide) ?_
          refine j_iadd C (D 31 rfl) ?_
          refine j_istore_n C (D 32 rfl) rfl ?_
          first | refine j_iinc1 C (D 33 rfl) rfl rfl ?_ | refine j_iinc C (D 33 rfl) rfl rfl rfl ?_
          refine j_goto C 14 (D 34 rfl) (by decide) ?_
          have hq := ih (e + 1) (some (.int (kthS V e 0))) (by omega)
          rw [sumN, drm_0 h38] at hq
          exact hq
    exact Lp (vE V) 0 _ (by omega)
  · refine j_bipush C (v := (-2)) (D 3 rfl) rfl ?_
    exact j_iret C P rfl (D 4 rfl) ⟨Nat.le_refl _, Nat.le_refl _⟩ (qc0 (a_dream_f (fun z => b2_eq h4 z)).symm)
set_option maxRecDepth 20000 in
theorem d_dreamQ (l : Launch) (G : GT) {I : Nat → Nat → Int32} {L : Nat → Nat → Int64} {R : Nat → Nat → Option Nat} (hL : Lay R) {V : VT} (hV : WV V) (hM : MT I V) (ld : Bool) (hld : I 172 1 = b2 (ld = true)) : Mt l G mX12_dream (4) 0 0 [.ref (ra G 172)] (wd I L R) (qM (a_dream V ld ) I R) := by
  refine mt_of (own := RX12) (by decide) rfl rfl (fun Z C P B => ?_)
  have D := @dc_of _ _ dX12_dream
  have hE10 := hV.1
  have hA8 := hV.2.1
  refine j_aload_n C (D 0 rfl) rfl ?_
  refine j_geti C f_X12_297 (lit (kd := 12) (n := 48) rfl) rfl rfl (D 1 rfl) ?_
  rw [hld]
  refine j_if_ne C  10 (D 2 rfl) (by decide) (fun h4 => ?_) (fun h4 => ?_)
  · refine j_iconst C (v := nI 0) (D 5 rfl) rfl ?_
    refine j_istore_n C (D 6 rfl) rfl ?_
    refine j_iconst C (v := nI 0) (D 7 rfl) rfl ?_
    refine j_istore_n C (D 8 rfl) rfl ?_
    have Lp : ∀ (m e : Nat) (x3 : Option Value), e + m = vE V → J Z (0, 0) 14 [some (.ref (ra G 172)), some (.int (sumN (drmS V) e)), some (.int (nI e)), x3] [] (wd I L R) := by
      intro m
      induction m with
      | zero =>
        intro e x3 he
        refine j_iload_n C (D 9 rfl) rfl ?_
        refine j_aload_n C (D 10 rfl) rfl ?_
        refine j_geti C f_X12_300 (lit (kd := 12) (n := 48) rfl) rfl rfl (D 11 rfl) ?_
        rw [hM.1]
        refine j_icmp_ge C  62 (D 12 rfl) (by decide) (fun h19 => ?_) (fun h19 => absurd h19 (fun z => z ((nle (by omega) (by omega)).mpr (by omega))))
        refine j_iload_n C (D 38 rfl) rfl ?_
        exact j_iret C P rfl (D 39 rfl) ⟨Nat.le_refl _, Nat.le_refl _⟩ (qm0 (by rw [a_dream_t (b2_ne h4), show vE V = e by omega]))
      | succ m ih =>
        intro e x3 he
        refine j_iload_n C (D 9 rfl) rfl ?_
        refine j_aload_n C (D 10 rfl) rfl ?_
        refine j_geti C f_X12_300 (lit (kd := 12) (n := 48) rfl) rfl rfl (D 11 rfl) ?_
        rw [hM.1]
        refine j_icmp_ge C  62 (D 12 rfl) (by decide) (fun h19 => absurd h19 (fun z => by rw [nle (by omega) (by omega)] at z; omega)) (fun h19 => ?_)
        refine j_aload_n C (D 13 rfl) rfl ?_
        refine j_iload_n C (D 14 rfl) rfl ?_
        refine j_cVp C B k_X12_421 (rc_obj C (lit (kd := 12) (n := 48) rfl) rfl rfl) (d_leader _ _ hL hV hM e (by omega)) rfl rfl rfl rfl ⟨Nat.le_refl _, Nat.le_refl _⟩ (D 15 rfl) ?_
        refine j_istore_n C (D 16 rfl) rfl ?_
        refine j_iload_n C (D 17 rfl) rfl ?_
        refine j_iload_n C (D 18 rfl) rfl ?_
        refine j_iconst C (v := (-1)) (D 19 rfl) rfl ?_
        refine j_icmp_ne C  38 (D 20 rfl) (by decide) (fun h31 => ?_) (fun h31 => ?_)
        · have hme : mE I e = vev V e := hM.2.2.2.2.1 e (by omega)
          have hWE : WE (mE I e) := by rw [hme]; exact hV.2.2.2.2.1 e (by omega)
          obtain ⟨b, hb, hbe⟩ := (kth_cs V e 0).resolve_left h31
          rw [show kthS V e 0 = nI b from hbe]
          refine j_aload_n C (D 23 rfl) rfl ?_
          refine j_iload_n C (D 24 rfl) rfl ?_
          refine j_aload_n C (D 25 rfl) rfl ?_
          refine j_getr C f_X12_22 (lit (kd := 12) (n := 48) rfl) rfl rfl (hL _ _ _ rfl) (D 26 rfl) ?_
          refine j_bipush C (v := nI 10) (D 27 rfl) rfl ?_
          refine j_iload_n C (D 28 rfl) rfl ?_
          refine j_imul C (D 29 rfl) ?_
          refine j_iload_n C (D 30 rfl) rfl ?_
          refine j_iadd C (D 31 rfl) ?_
          refine j_iald C (lit (kd := 20) (n := 80) rfl) (ix_cell' (by omega) (by omega)) (D 32 rfl) ?_
          rw [(hM.2.2.2.2.2.1 b e hb (by omega)).1]
          refine j_cVp C B k_X12_350 (rc_obj C (lit (kd := 12) (n := 48) rfl) rfl rfl) (d_pointsOf _ _ hL e (by omega) hWE _ (hV.2.2.2.2.2.1 b e hb (by omega)).1) rfl rfl rfl rfl ⟨Nat.le_refl _, Nat.le_refl _⟩ (D 33 rfl) ?_
          rw [hme]
          refine j_iadd C (D 34 rfl) ?_
          refine j_istore_n C (D 35 rfl) rfl ?_
          first | refine j_iinc1 C (D 36 rfl) rfl rfl ?_ | refine j_iinc C (D 36 rfl) rfl rfl rfl ?_
          refine j_goto C 14 (D 37 rfl) (by decide) ?_
          have hq := ih (e + 1) (some (.int (nI b))) (by omega)
          rw [sumN, drm_b h31 hbe (by omega)] at hq
          exact hq
        · refine j_iconst C (v := nI 0) (D 21 rfl) rfl ?_
          refine j_goto C 54 (D 22 rfl) (by decide) ?_
          refine j_iadd C (D 34 rfl) ?_
          refine j_istore_n C (D 35 rfl) rfl ?_
          first | refine j_iinc1 C (D 36 rfl) rfl rfl ?_ | refine j_iinc C (D 36 rfl) rfl rfl rfl ?_
          refine j_goto C 14 (D 37 rfl) (by decide) ?_
          have hq := ih (e + 1) (some (.int (kthS V e 0))) (by omega)
          rw [sumN, drm_0 h31] at hq
          exact hq
    exact Lp (vE V) 0 _ (by omega)
  · refine j_bipush C (v := (-2)) (D 3 rfl) rfl ?_
    exact j_iret C P rfl (D 4 rfl) ⟨Nat.le_refl _, Nat.le_refl _⟩ (qm0 (a_dream_f (fun z => b2_eq h4 z)).symm)
def a_kth (V : VT) (ld : Bool) (e k : Int32) : Int32 := if inR (vE V) e ∧ 0 ≤ k.toInt then kthS V (tn e) k else -2
theorem a_kth_t {V : VT} {ld : Bool} {e k : Int32} (hX : inR (vE V) e ∧ 0 ≤ k.toInt) : a_kth V ld e k = kthS V (tn e) k := if_pos hX
theorem a_kth_f {V : VT} {ld : Bool} {e k : Int32} (hX : ¬ (inR (vE V) e ∧ 0 ≤ k.toInt)) : a_kth V ld e k = -2 := if_neg hX
set_option maxRecDepth 20000 in
theorem c_kthQ (l : Launch) (G : GT) {c : Nat} (hc : isC c) {I : Nat → Nat → Int32} {L : Nat → Nat → Int64} {R : Nat → Nat → Option Nat} (hL : Lay R) (hr5 : R 0 5 = some c) {V : VT} (hV : WV V) (hT : CT I c V) (ld : Bool) (hld : I 0 6 = b2 (ld = true)) (e k : Int32) : Mt l G mX11_kth (4) 0 0 [.ref (ra G 0), .int e, .int k] (wd I L R) (qC (a_kth V ld e k) I R) := by
  refine mt_of (own := RX11) (by decide) rfl rfl (fun Z C P B => ?_)
  have D := @dc_of _ _ dX11_kth
  have hE10 := hV.1
  have hA8 := hV.2.1
  refine j_aload_n C (D 0 rfl) rfl ?_
  refine j_iload_n C (D 1 rfl) rfl ?_
  refine j_cVp C B k_X11_120 (rc_obj C (lit (kd := 11) (n := 12) rfl) rfl rfl) (c_hasEvent _ _ hc hL hr5 hV hT ld hld _) rfl rfl rfl rfl ⟨Nat.le_refl _, Nat.le_refl _⟩ (D 2 rfl) ?_
  refine j_if_eq C  24 (D 3 rfl) (by decide) (fun h5 => ?_) (fun h5 => ?_)
  · refine j_bipush C (v := (-2)) (D 12 rfl) rfl ?_
    exact j_iret C P rfl (D 13 rfl) ⟨Nat.le_refl _, Nat.le_refl _⟩ (qc0 (a_kth_f (fun z => b2_eq h5 z.1)).symm)
  · refine j_iload_n C (D 4 rfl) rfl ?_
    refine j_if_lt C  24 (D 5 rfl) (by decide) (fun h9 => ?_) (fun h9 => ?_)
    · refine j_bipush C (v := (-2)) (D 12 rfl) rfl ?_
      exact j_iret C P rfl (D 13 rfl) ⟨Nat.le_refl _, Nat.le_refl _⟩ (qc0 (a_kth_f (fun z => absurd (i_lt.mp h9) (by rw [i0]; have := z.2; omega))).symm)
    · obtain ⟨e, hk, rfl⟩ := inR_n (b2_ne h5)
      have he10 : e < 10 := by omega
      refine j_aload_n C (D 6 rfl) rfl ?_
      refine j_getr C f_X11_37 (lit (kd := 11) (n := 12) rfl) rfl rfl hr5 (D 7 rfl) ?_
      refine j_iload_n C (D 8 rfl) rfl ?_
      refine j_iload_n C (D 9 rfl) rfl ?_
      refine j_cVp C B k_X11_233 (rc_obj C (sC0 hc) rfl rfl) (c_athleteByMark _ _ hc hL hV hT e _ hk) rfl rfl rfl rfl ⟨Nat.le_refl _, Nat.le_refl _⟩ (D 10 rfl) ?_
      refine j_goto C 26 (D 11 rfl) (by decide) ?_
      exact j_iret C P rfl (D 13 rfl) ⟨Nat.le_refl _, Nat.le_refl _⟩ (qc0 (by rw [a_kth_t ⟨(b2_ne h5), (by rw [i_lt, i0] at h9; omega)⟩, tn_n (by omega)]))
set_option maxRecDepth 20000 in
theorem d_kthQ (l : Launch) (G : GT) {I : Nat → Nat → Int32} {L : Nat → Nat → Int64} {R : Nat → Nat → Option Nat} (hL : Lay R) {V : VT} (hV : WV V) (hM : MT I V) (ld : Bool) (hld : I 172 1 = b2 (ld = true)) (e k : Int32) : Mt l G mX12_kth (4) 0 0 [.ref (ra G 172), .int e, .int k] (wd I L R) (qM (a_kth V ld e k) I R) := by
  refine mt_of (own := RX12) (by decide) rfl rfl (fun Z C P B => ?_)
  have D := @dc_of _ _ dX12_kth
  have hE10 := hV.1
  have hA8 := hV.2.1
  refine j_aload_n C (D 0 rfl) rfl ?_
  refine j_iload_n C (D 1 rfl) rfl ?_
  refine j_cVp C B k_X12_320 (rc_obj C (lit (kd := 12) (n := 48) rfl) rfl rfl) (d_isEvent _ _ hL (vE V) hM.1 (by omega) _) rfl rfl rfl rfl ⟨Nat.le_refl _, Nat.le_refl _⟩ (D 2 rfl) ?_
  refine j_if_eq C  12 (D 3 rfl) (by decide) (fun h5 => ?_) (fun h5 => ?_)
  · refine j_bipush C (v := (-2)) (D 6 rfl) rfl ?_
    exact j_iret C P rfl (D 7 rfl) ⟨Nat.le_refl _, Nat.le_refl _⟩ (qm0 (a_kth_f (fun z => b2_eq h5 z.1)).symm)
  · refine j_iload_n C (D 4 rfl) rfl ?_
    refine j_if_ge C  15 (D 5 rfl) (by decide) (fun h9 => ?_) (fun h9 => ?_)
    · obtain ⟨e, hk, rfl⟩ := inR_n (b2_ne h5)
      have he10 : e < 10 := by omega
      have hme : mE I e = vev V e := hM.2.2.2.2.1 e hk
      have hWE : WE (mE I e) := by rw [hme]; exact hV.2.2.2.2.1 e hk
      refine j_iconst C (v := nI 0) (D 8 rfl) rfl ?_
      refine j_istore_n C (D 9 rfl) rfl ?_
      have Lp : ∀ (m a : Nat), a + m = vA V → fst1 (fun a => !decide (vmk V a e = -1) && decide (nI (cbS V e a) = k)) (vA V) 0 = fst1 (fun a => !decide (vmk V a e = -1) && decide (nI (cbS V e a) = k)) m a → J Z (0, 0) 17 [some (.ref (ra G 172)), some (.int (nI e)), some (.int k), some (.int (nI a))] [] (wd I L R) := by
        intro m
        induction m with
        | zero =>
          intro a ha hf
          refine j_iload_n C (D 10 rfl) rfl ?_
          refine j_aload_n C (D 11 rfl) rfl ?_
          refine j_geti C f_X12_303 (lit (kd := 12) (n := 48) rfl) rfl rfl (D 12 rfl) ?_
          rw [hM.2.1]
          refine j_icmp_ge C  58 (D 13 rfl) (by decide) (fun h22 => ?_) (fun h22 => absurd h22 (fun z => z ((nle (by omega) (by omega)).mpr (by omega))))
          refine j_iconst C (v := (-1)) (D 34 rfl) rfl ?_
          exact j_iret C P rfl (D 35 rfl) ⟨Nat.le_refl _, Nat.le_refl _⟩ (qm0 (by rw [a_kth_t ⟨(b2_ne h5), (by rw [i_le, i0] at h9; exact h9)⟩, tn_n (by omega), kthS, hf]; rfl))
        | succ m ih =>
          intro a ha hf
          refine j_iload_n C (D 10 rfl) rfl ?_
          refine j_aload_n C (D 11 rfl) rfl ?_
          refine j_geti C f_X12_303 (lit (kd := 12) (n := 48) rfl) rfl rfl (D 12 rfl) ?_
          rw [hM.2.1]
          refine j_icmp_ge C  58 (D 13 rfl) (by decide) (fun h22 => absurd h22 (fun z => by rw [nle (by omega) (by omega)] at z; omega)) (fun h22 => ?_)
          refine j_aload_n C (D 14 rfl) rfl ?_
          refine j_getr C f_X12_22 (lit (kd := 12) (n := 48) rfl) rfl rfl (hL _ _ _ rfl) (D 15 rfl) ?_
          refine j_bipush C (v := nI 10) (D 16 rfl) rfl ?_
          refine j_iload_n C (D 17 rfl) rfl ?_
          refine j_imul C (D 18 rfl) ?_
          refine j_iload_n C (D 19 rfl) rfl ?_
          refine j_iadd C (D 20 rfl) ?_
          refine j_iald C (lit (kd := 20) (n := 80) rfl) (ix_cell' (by omega) he10) (D 21 rfl) ?_
          rw [(hM.2.2.2.2.2.1 a e (by omega) he10).1]
          refine j_iconst C (v := (-1)) (D 22 rfl) rfl ?_
          refine j_icmp_eq C  52 (D 23 rfl) (by decide) (fun h37 => ?_) (fun h37 => ?_)
          · first | refine j_iinc1 C (D 32 rfl) rfl rfl ?_ | refine j_iinc C (D 32 rfl) rfl rfl rfl ?_
            refine j_goto C 17 (D 33 rfl) (by decide) ?_
            exact ih (a + 1) (by omega) (by rw [hf, fst1, if_neg (by simp [h37])])
          · refine j_aload_n C (D 24 rfl) rfl ?_
            refine j_iload_n C (D 25 rfl) rfl ?_
            refine j_iload_n C (D 26 rfl) rfl ?_
            refine j_cVp C B k_X12_451 (rc_obj C (lit (kd := 12) (n := 48) rfl) rfl rfl) (d_betterOf _ _ hL hV hM a e (by omega) hk) rfl rfl rfl rfl ⟨Nat.le_refl _, Nat.le_refl _⟩ (D 27 rfl) ?_
            refine j_iload_n C (D 28 rfl) rfl ?_
            refine j_icmp_ne C  52 (D 29 rfl) (by decide) (fun h47 => ?_) (fun h47 => ?_)
            · first | refine j_iinc1 C (D 32 rfl) rfl rfl ?_ | refine j_iinc C (D 32 rfl) rfl rfl rfl ?_
              refine j_goto C 17 (D 33 rfl) (by decide) ?_
              exact ih (a + 1) (by omega) (by rw [hf, fst1, if_neg (by simp [h37, h47])])
            · refine j_iload_n C (D 30 rfl) rfl ?_
              exact j_iret C P rfl (D 31 rfl) ⟨Nat.le_refl _, Nat.le_refl _⟩ (qm0 (by rw [a_kth_t ⟨(b2_ne h5), (by rw [i_le, i0] at h9; exact h9)⟩, tn_n (by omega), kthS, hf, fst1, if_pos (by simp [h37, h47])]))
      exact Lp (vA V) 0 (by omega) rfl
    · refine j_bipush C (v := (-2)) (D 6 rfl) rfl ?_
      exact j_iret C P rfl (D 7 rfl) ⟨Nat.le_refl _, Nat.le_refl _⟩ (qm0 (a_kth_f (fun z => h9 (i_le.mpr (by rw [i0]; exact z.2)))).symm)
