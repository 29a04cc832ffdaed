def OW (I : Nat → Nat → Int32) (V : VT) (n : Nat) : Prop := ∀ a h, a < n → h ≤ 60 → I 192 (a * 61 + h) = nI (sqW V a h)
def FrX (I I' : Nat → Nat → Int32) : Prop := ∀ b j, ¬ (191 ≤ b ∧ b ≤ 193) → I' b j = I b j
theorem FrX.M {I I' : Nat → Nat → Int32} (h : FrX I I') : FrM I I' := fun b j q => h b j (by omega)
set_option maxRecDepth 20000 in
theorem d_squadOf (l : Launch) (G : GT) {I : Nat → Nat → Int32} {L : Nat → Nat → Int64} {R : Nat → Nat → Option Nat} (hL : Lay R) {V : VT} (hV : WV V) (hM : MT I V) (a h lf : Nat) (ha : a < vA V) (hh : h ≤ lf) (hl : lf ≤ 60) (hO : OW I V (vA V)) (hB : TB I 193 (sqW V) (vA V) (-1000000) (a + 1)) : Mt l G mX12_squadOf (1) 0 0 [.ref (ra G 172), .int (nI a), .int (nI h), .int (nI lf)] (wd I L R) (pV (.int (nI (sqW V a h) + mB (sqW V) (vA V) (-1000000) (a + 1) (lf - h))) (wd I L R)) := by
  refine mt_of (own := RX12) (by decide) rfl rfl (fun Z C P B => ?_)
  have D := @dc_of _ _ dX12_squadOf
  have hA8 := hV.2.1
  refine j_aload_n C (D 0 rfl) rfl ?_
  refine j_getr C f_X12_74 (lit (kd := 12) (n := 48) rfl) rfl rfl (hL _ _ _ rfl) (D 1 rfl) ?_
  refine j_iload_n C (D 2 rfl) rfl ?_
  refine j_iload_n C (D 3 rfl) rfl ?_
  refine j_cSp C B k_X12_437 (d_byAt _ _ hL (a) (h)) rfl rfl rfl rfl ⟨Nat.le_refl _, Nat.le_refl _⟩ (D 4 rfl) ?_
  refine j_iald C (lit (kd := 20) (n := 488) rfl) (ix_n (by omega) (by decide)) (D 5 rfl) ?_
  rw [hO a h ha (by omega)]
  refine j_aload_n C (D 6 rfl) rfl ?_
  refine j_getr C f_X12_77 (lit (kd := 12) (n := 48) rfl) rfl rfl (hL _ _ _ rfl) (D 7 rfl) ?_
  refine j_iload_n C (D 8 rfl) rfl ?_
  refine j_iconst C (v := nI 1) (D 9 rfl) rfl ?_
  refine j_iadd C (D 10 rfl) ?_
  refine j_iload_n C (D 11 rfl) rfl ?_
  refine j_iload_n C (D 12 rfl) rfl ?_
  refine j_isub C (D 13 rfl) ?_
  rw [nI_add, pk_sub hh]
  refine j_cSp C B k_X12_437 (d_byAt _ _ hL (a + 1) (lf - h)) rfl rfl rfl rfl ⟨Nat.le_refl _, Nat.le_refl _⟩ (D 14 rfl) ?_
  refine j_iald C (lit (kd := 20) (n := 549) rfl) (ix_n (by omega) (by decide)) (D 15 rfl) ?_
  rw [hB (a + 1) (lf - h) (by omega) (by omega) (by omega)]
  refine j_iadd C (D 16 rfl) ?_
  exact j_iret C P rfl (D 17 rfl) ⟨Nat.le_refl _, Nat.le_refl _⟩ (pv_i rfl)
set_option maxRecDepth 20000 in
theorem d_laysSquad (l : Launch) (G : GT) {I : Nat → Nat → Int32} {L : Nat → Nat → Int64} {R : Nat → Nat → Option Nat} (hL : Lay R) {V : VT} (hV : WV V) (hM : MT I V) : Mt l G mX12_laysSquad (6) 0 0 [.ref (ra G 172)] (wd I L R) (fun r w' => r = none ∧ ∃ I', w' = wd I' L R ∧ FrX I I' ∧ OW I' V (vA V) ∧ TB I' 193 (sqW V) (vA V) (-1000000) 0) := by
  refine mt_of (own := RX12) (by decide) rfl rfl (fun Z C P B => ?_)
  have D := @dc_of _ _ dX12_laysSquad
  have hE10 := hV.1
  have hA8 := hV.2.1
  have hA10 : vA V ≤ 10 := by omega
  have hWM := sqW_M hV 60
  have Lp2 : ∀ (k : Nat) (x2 x3 x4 : Option Value) (I1 : Nat → Nat → Int32), k ≤ vA V → FrX I I1 → OW I1 V (vA V) → TB I1 193 (sqW V) (vA V) (-1000000) k → J Z (0, 0) 107 [some (.ref (ra G 172)), some (.int (pr k)), x2, x3, x4] [] (wd I1 L R) := by
    intro k
    induction k with
    | zero =>
      intro x2 x3 x4 I1 hk hF hO hB
      refine j_iload_n C (D 57 rfl) rfl ?_
      refine j_if_lt C  174 (D 58 rfl) (by decide) (fun h108 => ?_) (fun h108 => absurd h108 (fun z => z (i_lt.mpr (by rw [pr_int2 (by omega), i0]; omega))))
      exact j_vret C P rfl (D 92 rfl) ⟨Nat.le_refl _, Nat.le_refl _⟩ ⟨rfl, I1, rfl, hF, hO, fun i h _ => hB i h (by omega)⟩
    | succ i ih =>
      intro x2 x3 x4 I1 hk hF hO hB
      have ihk : ∀ (x2 x3 x4 : Option Value) (I1 : Nat → Nat → Int32), FrX I I1 → OW I1 V (vA V) → TB I1 193 (sqW V) (vA V) (-1000000) i → J Z (0, 0) 107 [some (.ref (ra G 172)), some (.int (pr i)), x2, x3, x4] [] (wd I1 L R) := fun x3 x4 x5 I1 q1 q2 q3 => ih x3 x4 x5 I1 (by omega) q1 q2 q3
      have Lp3 : ∀ (m l : Nat) (x3 x4 : Option Value) (I2 : Nat → Nat → Int32), l + m = 61 → FrX I I2 → OW I2 V (vA V) → TB I2 193 (sqW V) (vA V) (-1000000) (i + 1) → (∀ h9, h9 < l → I2 193 (i * 61 + h9) = mB (sqW V) (vA V) (-1000000) i h9) → J Z (0, 0) 113 [some (.ref (ra G 172)), some (.int (nI i)), some (.int (nI l)), x3, x4] [] (wd I2 L R) := by
        intro m
        induction m with
        | zero =>
          intro l x3 x4 I2 hl hF hO hB hr
          refine j_iload_n C (D 61 rfl) rfl ?_
          refine j_bipush C (v := nI 60) (D 62 rfl) rfl ?_
          refine j_icmp_gt C  168 (D 63 rfl) (by decide) (fun h116 => ?_) (fun h116 => absurd h116 (fun z => z ((nlt (by omega) (by omega)).mpr (by omega))))
          refine j_iinc C (D 90 rfl) rfl rfl rfl ?_
          rw [pr_d]
          refine j_goto C 107 (D 91 rfl) (by decide) ?_
          exact ihk _ _ _ I2 hF hO (fun j h q1 q2 q3 => by
            by_cases q : j = i
            · rw [q]; exact hr h (by omega)
            · exact hB j h (by omega) q2 q3)
        | succ m ih3 =>
          intro l x3 x4 I2 hl hF hO hB hr
          have hM2 : MT I2 V := MT_fr hM hF.M
          have Lp4 : ∀ (m h : Nat) (x : Int32), h + m = l + 1 → rnI (sqW V) (vA V) i l h x → J Z (0, 0) 126 [some (.ref (ra G 172)), some (.int (nI i)), some (.int (nI l)), some (.int x), some (.int (nI h))] [] (wd I2 L R) := by
            intro m
            induction m with
            | zero =>
              intro h x hh hx
              refine j_iload C (D 68 rfl) rfl ?_
              refine j_iload_n C (D 69 rfl) rfl ?_
              refine j_icmp_gt C  151 (D 70 rfl) (by decide) (fun h129 => ?_) (fun h129 => absurd h129 (fun z => z ((nlt (by omega) (by omega)).mpr (by omega))))
              refine j_aload_n C (D 81 rfl) rfl ?_
              refine j_getr C f_X12_77 (lit (kd := 12) (n := 48) rfl) rfl rfl (hL _ _ _ rfl) (D 82 rfl) ?_
              refine j_iload_n C (D 83 rfl) rfl ?_
              refine j_iload_n C (D 84 rfl) rfl ?_
              refine j_cSp C B k_X12_437 (d_byAt _ _ hL (i) (l)) rfl rfl rfl rfl ⟨Nat.le_refl _, Nat.le_refl _⟩ (D 85 rfl) ?_
              refine j_iload_n C (D 86 rfl) rfl ?_
              refine j_iast C (lit (kd := 20) (n := 549) rfl) (ix_n (by omega) (by decide)) (D 87 rfl) ?_
              first | refine j_iinc1 C (D 88 rfl) rfl rfl ?_ | refine j_iinc C (D 88 rfl) rfl rfl rfl ?_
              refine j_goto C 113 (D 89 rfl) (by decide) ?_
              exact ih3 (l + 1) _ _ _ (by omega) (fun b j q => by rw [up2_i (by omega)]; exact hF b j q) (fun b h9 q1 q2 => by rw [up2_i (by omega)]; exact hO b h9 q1 q2) (fun j h9 q1 q2 q3 => by rw [up2_i (by omega)]; exact hB j h9 q1 q2 q3) (fun h9 q1 => by
                by_cases q : h9 = l
                · rw [q, up2_same]; exact rn_end (by omega) hx
                · rw [up2_i (by omega)]; exact hr h9 (by omega))
            | succ m ih4 =>
              intro h x hh hx
              refine j_iload C (D 68 rfl) rfl ?_
              refine j_iload_n C (D 69 rfl) rfl ?_
              refine j_icmp_gt C  151 (D 70 rfl) (by decide) (fun h129 => absurd h129 (fun z => by rw [nlt (by omega) (by omega)] at z; omega)) (fun h129 => ?_)
              refine j_iload_n C (D 71 rfl) rfl ?_
              refine j_aload_n C (D 72 rfl) rfl ?_
              refine j_iload_n C (D 73 rfl) rfl ?_
              refine j_iload C (D 74 rfl) rfl ?_
              refine j_iload_n C (D 75 rfl) rfl ?_
              refine j_cVp C B k_X12_456 (rc_obj C (lit (kd := 12) (n := 48) rfl) rfl rfl) (d_squadOf _ _ hL hV hM2 i h l (by omega) (by omega) (by omega) hO hB) rfl rfl rfl rfl ⟨Nat.le_refl _, Nat.le_refl _⟩ (D 76 rfl) ?_
              refine j_mmax C B k_X12_365 rfl rfl ⟨Nat.le_refl _, Nat.le_refl _⟩ (D 77 rfl) ?_
              refine j_istore_n C (D 78 rfl) rfl ?_
              first | refine j_iinc1 C (D 79 rfl) rfl rfl ?_ | refine j_iinc C (D 79 rfl) rfl rfl rfl ?_
              refine j_goto C 126 (D 80 rfl) (by decide) ?_
              exact ih4 (h + 1) _ (by omega) (rn_step KB_2 hWM hA10 (by omega) (by omega) hx)
          refine j_iload_n C (D 61 rfl) rfl ?_
          refine j_bipush C (v := nI 60) (D 62 rfl) rfl ?_
          refine j_icmp_gt C  168 (D 63 rfl) (by decide) (fun h116 => absurd h116 (fun z => by rw [nlt (by omega) (by omega)] at z; omega)) (fun h116 => ?_)
          refine j_ldc_w C (v := (-2000000)) (D 64 rfl) n_X12_455 ?_
          refine j_istore_n C (D 65 rfl) rfl ?_
          refine j_iconst C (v := nI 0) (D 66 rfl) rfl ?_
          refine j_istore C (D 67 rfl) rfl ?_
          exact Lp4 (l + 1) 0 _ (by omega) (rn_0 (by omega) (by decide))
      rw [pr_s]
      refine j_iload_n C (D 57 rfl) rfl ?_
      refine j_if_lt C  174 (D 58 rfl) (by decide) (fun h108 => absurd h108 (fun z => by rw [i_lt, nI_int (by omega), i0] at z; omega)) (fun h108 => ?_)
      refine j_iconst C (v := nI 0) (D 59 rfl) rfl ?_
      refine j_istore_n C (D 60 rfl) rfl ?_
      exact Lp3 61 0 _ _ I1 (by omega) hF hO hB (fun h hh => absurd hh (by omega))
  have Lp : ∀ (m h : Nat) (x2 x3 x4 : Option Value) (I1 : Nat → Nat → Int32), h + m = 61 → FrX I I1 → OW I1 V (vA V) → (∀ h9, h9 < h → I1 193 (vA V * 61 + h9) = mB (sqW V) (vA V) (-1000000) (vA V) h9) → J Z (0, 0) 57 [some (.ref (ra G 172)), some (.int (nI h)), x2, x3, x4] [] (wd I1 L R) := by
    intro m
    induction m with
    | zero =>
      intro h x2 x3 x4 I1 hh hF hO hr
      have hM1 : MT I1 V := MT_fr hM hF.M
      refine j_iload_n C (D 32 rfl) rfl ?_
      refine j_bipush C (v := nI 60) (D 33 rfl) rfl ?_
      refine j_icmp_gt C  100 (D 34 rfl) (by decide) (fun h60 => ?_) (fun h60 => absurd h60 (fun z => z ((nlt (by omega) (by omega)).mpr (by omega))))
      refine j_aload_n C (D 52 rfl) rfl ?_
      refine j_geti C f_X12_303 (lit (kd := 12) (n := 48) rfl) rfl rfl (D 53 rfl) ?_
      refine j_iconst C (v := nI 1) (D 54 rfl) rfl ?_
      refine j_isub C (D 55 rfl) ?_
      rw [hM1.2.1]
      refine j_istore_n C (D 56 rfl) rfl ?_
      exact Lp2 (vA V) _ _ _ I1 (Nat.le_refl _) hF hO (fun i h9 q1 q2 q3 => by rw [show i = vA V by omega]; exact hr h9 (by omega))
    | succ m ih =>
      intro h x2 x3 x4 I1 hh hF hO hr
      have hM1 : MT I1 V := MT_fr hM hF.M
      refine j_iload_n C (D 32 rfl) rfl ?_
      refine j_bipush C (v := nI 60) (D 33 rfl) rfl ?_
      refine j_icmp_gt C  100 (D 34 rfl) (by decide) (fun h60 => absurd h60 (fun z => by rw [nlt (by omega) (by omega)] at z; omega)) (fun h60 => ?_)
      refine j_aload_n C (D 35 rfl) rfl ?_
      refine j_getr C f_X12_77 (lit (kd := 12) (n := 48) rfl) rfl rfl (hL _ _ _ rfl) (D 36 rfl) ?_
      refine j_aload_n C (D 37 rfl) rfl ?_
      refine j_geti C f_X12_303 (lit (kd := 12) (n := 48) rfl) rfl rfl (D 38 rfl) ?_
      refine j_iload_n C (D 39 rfl) rfl ?_
      rw [hM1.2.1]
      refine j_cSp C B k_X12_437 (d_byAt _ _ hL (vA V) (h)) rfl rfl rfl rfl ⟨Nat.le_refl _, Nat.le_refl _⟩ (D 40 rfl) ?_
      refine j_iload_n C (D 41 rfl) rfl ?_
      refine j_if_eq C  86 (D 42 rfl) (by decide) (fun h76 => ?_) (fun h76 => ?_)
      · refine j_iconst C (v := nI 0) (D 46 rfl) rfl ?_
        refine j_goto C 93 (D 47 rfl) (by decide) ?_
        refine j_iast C (lit (kd := 20) (n := 549) rfl) (ix_n (by omega) (by decide)) (D 49 rfl) ?_
        first | refine j_iinc1 C (D 50 rfl) rfl rfl ?_ | refine j_iinc C (D 50 rfl) rfl rfl rfl ?_
        refine j_goto C 57 (D 51 rfl) (by decide) ?_
        exact ih (h + 1) _ _ _ _ (by omega) (fun b j q => by rw [up2_i (by omega)]; exact hF b j q) (fun b h9 q1 q2 => by rw [up2_i (by omega)]; exact hO b h9 q1 q2) (fun h9 q1 => by
          by_cases q : h9 = h
          · rw [q, up2_same, mB, if_neg (by omega), if_pos (Or.inl (nI_inj (by omega) (by decide) h76))]
          · rw [up2_i (by omega)]; exact hr h9 (by omega))
      · refine j_aload_n C (D 43 rfl) rfl ?_
        refine j_geti C f_X12_303 (lit (kd := 12) (n := 48) rfl) rfl rfl (D 44 rfl) ?_
        rw [hM1.2.1]
        refine j_if_ne C  90 (D 45 rfl) (by decide) (fun h83 => ?_) (fun h83 => ?_)
        · refine j_ldc_w C (v := (-1000000)) (D 48 rfl) n_X12_454 ?_
          refine j_iast C (lit (kd := 20) (n := 549) rfl) (ix_n (by omega) (by decide)) (D 49 rfl) ?_
          first | refine j_iinc1 C (D 50 rfl) rfl rfl ?_ | refine j_iinc C (D 50 rfl) rfl rfl rfl ?_
          refine j_goto C 57 (D 51 rfl) (by decide) ?_
          exact ih (h + 1) _ _ _ _ (by omega) (fun b j q => by rw [up2_i (by omega)]; exact hF b j q) (fun b h9 q1 q2 => by rw [up2_i (by omega)]; exact hO b h9 q1 q2) (fun h9 q1 => by
            by_cases q : h9 = h
            · rw [q, up2_same, mB, if_neg (by omega), if_neg (fun z => z.elim (fun z => h76 (by rw [z]; rfl)) (fun z => h83 (by rw [z]; rfl)))]
            · rw [up2_i (by omega)]; exact hr h9 (by omega))
        · refine j_iconst C (v := nI 0) (D 46 rfl) rfl ?_
          refine j_goto C 93 (D 47 rfl) (by decide) ?_
          refine j_iast C (lit (kd := 20) (n := 549) rfl) (ix_n (by omega) (by decide)) (D 49 rfl) ?_
          first | refine j_iinc1 C (D 50 rfl) rfl rfl ?_ | refine j_iinc C (D 50 rfl) rfl rfl rfl ?_
          refine j_goto C 57 (D 51 rfl) (by decide) ?_
          exact ih (h + 1) _ _ _ _ (by omega) (fun b j q => by rw [up2_i (by omega)]; exact hF b j q) (fun b h9 q1 q2 => by rw [up2_i (by omega)]; exact hO b h9 q1 q2) (fun h9 q1 => by
            by_cases q : h9 = h
            · rw [q, up2_same, mB, if_neg (by omega), if_pos (Or.inr (nI_inj (by omega) (by decide) h83))]
            · rw [up2_i (by omega)]; exact hr h9 (by omega))
  have LpA : ∀ (m a : Nat) (x2 x3 x4 : Option Value) (I1 : Nat → Nat → Int32), a + m = vA V → FrX I I1 → OW I1 V a → J Z (0, 0) 2 [some (.ref (ra G 172)), some (.int (nI a)), x2, x3, x4] [] (wd I1 L R) := by
    intro m
    induction m with
    | zero =>
      intro a x2 x3 x4 I1 ha hF hO
      have hM1 : MT I1 V := MT_fr hM hF.M
      refine j_iload_n C (D 2 rfl) rfl ?_
      refine j_aload_n C (D 3 rfl) rfl ?_
      refine j_geti C f_X12_303 (lit (kd := 12) (n := 48) rfl) rfl rfl (D 4 rfl) ?_
      rw [hM1.2.1]
      refine j_icmp_ge C  55 (D 5 rfl) (by decide) (fun h7 => ?_) (fun h7 => absurd h7 (fun z => z ((nle (by omega) (by omega)).mpr (by omega))))
      refine j_iconst C (v := nI 0) (D 30 rfl) rfl ?_
      refine j_istore_n C (D 31 rfl) rfl ?_
      exact Lp 61 0 _ _ _ I1 (by omega) hF (fun b h q1 q2 => hO b h (by omega) q2) (fun h q => absurd q (by omega))
    | succ m ih =>
      intro a x2 x3 x4 I1 ha hF hO
      have hM1 : MT I1 V := MT_fr hM hF.M
      have LpB : ∀ (m h : Nat) (x3 x4 : Option Value) (I2 : Nat → Nat → Int32), h + m = 61 → FrX I I2 → OW I2 V a → (∀ h9, h9 < h → I2 192 (a * 61 + h9) = nI (sqW V a h9)) → TB I2 191 (evW V a) (vE V) (-100000) 0 → J Z (0, 0) 17 [some (.ref (ra G 172)), some (.int (nI a)), some (.int (nI h)), x3, x4] [] (wd I2 L R) := by
        intro m
        induction m with
        | zero =>
          intro h x3 x4 I2 hh hF hO hr hB2
          refine j_iload_n C (D 11 rfl) rfl ?_
          refine j_bipush C (v := nI 60) (D 12 rfl) rfl ?_
          refine j_icmp_gt C  49 (D 13 rfl) (by decide) (fun h20 => ?_) (fun h20 => absurd h20 (fun z => z ((nlt (by omega) (by omega)).mpr (by omega))))
          first | refine j_iinc1 C (D 28 rfl) rfl rfl ?_ | refine j_iinc C (D 28 rfl) rfl rfl rfl ?_
          refine j_goto C 2 (D 29 rfl) (by decide) ?_
          exact ih (a + 1) _ _ _ I2 (by omega) hF (fun b h q1 q2 => by
            by_cases q : b = a
            · rw [q]; exact hr h (by omega)
            · exact hO b h (by omega) q2)
        | succ m ihB =>
          intro h x3 x4 I2 hh hF hO hr hB2
          refine j_iload_n C (D 11 rfl) rfl ?_
          refine j_bipush C (v := nI 60) (D 12 rfl) rfl ?_
          refine j_icmp_gt C  49 (D 13 rfl) (by decide) (fun h20 => absurd h20 (fun z => by rw [nlt (by omega) (by omega)] at z; omega)) (fun h20 => ?_)
          refine j_aload_n C (D 14 rfl) rfl ?_
          refine j_getr C f_X12_74 (lit (kd := 12) (n := 48) rfl) rfl rfl (hL _ _ _ rfl) (D 15 rfl) ?_
          refine j_iload_n C (D 16 rfl) rfl ?_
          refine j_iload_n C (D 17 rfl) rfl ?_
          refine j_cSp C B k_X12_437 (d_byAt _ _ hL (a) (h)) rfl rfl rfl rfl ⟨Nat.le_refl _, Nat.le_refl _⟩ (D 18 rfl) ?_
          refine j_aload_n C (D 19 rfl) rfl ?_
          refine j_getr C f_X12_71 (lit (kd := 12) (n := 48) rfl) rfl rfl (hL _ _ _ rfl) (D 20 rfl) ?_
          refine j_iconst C (v := nI 0) (D 21 rfl) rfl ?_
          refine j_iload_n C (D 22 rfl) rfl ?_
          refine j_cSp C B k_X12_437 (d_byAt _ _ hL (0) (h)) rfl rfl rfl rfl ⟨Nat.le_refl _, Nat.le_refl _⟩ (D 23 rfl) ?_
          refine j_iald C (lit (kd := 20) (n := 671) rfl) (ix_n (by omega) (by decide)) (D 24 rfl) ?_
          rw [hB2 0 h (by omega) (by omega) (by omega), mB_0]
          refine j_iast C (lit (kd := 20) (n := 488) rfl) (ix_n (by omega) (by decide)) (D 25 rfl) ?_
          first | refine j_iinc1 C (D 26 rfl) rfl rfl ?_ | refine j_iinc C (D 26 rfl) rfl rfl rfl ?_
          refine j_goto C 17 (D 27 rfl) (by decide) ?_
          exact ihB (h + 1) _ _ _ (by omega) (fun b j q => by rw [up2_i (by omega)]; exact hF b j q) (fun b h9 q1 q2 => by rw [up2_i (by omega)]; exact hO b h9 q1 q2) (fun h9 q1 => by
            by_cases q : h9 = h
            · rw [q, up2_same]; rfl
            · rw [up2_i (by omega)]; exact hr h9 (by omega)) (fun i h9 q1 q2 q3 => by rw [up2_i (by omega)]; exact hB2 i h9 q1 q2 q3)
      refine j_iload_n C (D 2 rfl) rfl ?_
      refine j_aload_n C (D 3 rfl) rfl ?_
      refine j_geti C f_X12_303 (lit (kd := 12) (n := 48) rfl) rfl rfl (D 4 rfl) ?_
      rw [hM1.2.1]
      refine j_icmp_ge C  55 (D 5 rfl) (by decide) (fun h7 => absurd h7 (fun z => by rw [nle (by omega) (by omega)] at z; omega)) (fun h7 => ?_)
      refine j_aload_n C (D 6 rfl) rfl ?_
      refine j_iload_n C (D 7 rfl) rfl ?_
      refine j_callV C B k_X12_448 (rc_obj C (lit (kd := 12) (n := 48) rfl) rfl rfl) (d_laysSpread _ _ hL hV hM1 a (by omega)) rfl rfl rfl rfl ⟨Nat.le_refl _, Nat.le_refl _⟩ (D 8 rfl) ?_
      rintro r w' ⟨rfl, I2, rfl, hF2, hB2⟩
      refine j_iconst C (v := nI 0) (D 9 rfl) rfl ?_
      refine j_istore_n C (D 10 rfl) rfl ?_
      exact LpB 61 0 _ _ I2 (by omega) (fun b j q => by rw [hF2 b j (by omega)]; exact hF b j q) (fun b h q1 q2 => by rw [hF2 _ _ (by omega)]; exact hO b h q1 q2) (fun h q => absurd q (by omega)) hB2
  refine j_iconst C (v := nI 0) (D 0 rfl) rfl ?_
  refine j_istore_n C (D 1 rfl) rfl ?_
  exact LpA (vA V) 0 _ _ _ _ (by omega) (fun _ _ _ => rfl) (fun b h q => absurd q (by omega))
