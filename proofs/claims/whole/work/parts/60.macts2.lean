set_option maxRecDepth 20000 in
theorem d_tieQ (l : Launch) (G : GT) {I : Nat → Nat → Int32} {L : Nat → Nat → Int64} {R : Nat → Nat → Option Nat} (hL : Lay R) {V : VT} (hV : WV V) (hM : MT I V) (ld : Bool) (hld : I 172 1 = b2 (ld = true)) {n : Nat} {h : Nat → SN} (hn : n ≤ 10) (hW : WH V n h) (hH : HMo I n h) (t : Int32) : Mt l G mX12_tie (4) 0 0 [.ref (ra G 172), .int t] (wd I L R) (aM (a_tie V ld t) I R (s_tie V ld n h t)) := by
  refine mt_of (own := RX12) (by decide) rfl rfl (fun Z C P B => ?_)
  have D := @dc_of _ _ dX12_tie
  have hE10 := hV.1
  have hA8 := hV.2.1
  refine j_aload_n C (D 0 rfl) rfl ?_
  refine j_geti C f_X12_297 (lit (kd := 12) (n := 48) rfl) rfl rfl (D 1 rfl) ?_
  rw [hld]
  refine j_if_eq C  19 (D 2 rfl) (by decide) (fun h4 => ?_) (fun h4 => ?_)
  · refine j_bipush C (v := (-2)) (D 9 rfl) rfl ?_
    exact j_iret C P rfl (D 10 rfl) ⟨Nat.le_refl _, Nat.le_refl _⟩ (am0 hM hH (a_tie_f (fun z => b2_eq h4 z.1)).symm (s_tie_f (fun z => b2_eq h4 z.1)).symm)
  · refine j_iload_n C (D 3 rfl) rfl ?_
    refine j_i2l C (D 4 rfl) ?_
    refine j_lconst C (v := 0) (D 5 rfl) rfl ?_
    refine j_ldc2_w C (v := 2) (D 6 rfl) n_X12_330 ?_
    refine j_cSp C B k_X12_99 (d_in _ _ _ _ _ _) rfl rfl rfl rfl ⟨Nat.le_refl _, Nat.le_refl _⟩ (D 7 rfl) ?_
    refine j_if_ne C  22 (D 8 rfl) (by decide) (fun h16 => ?_) (fun h16 => ?_)
    · refine j_aload_n C (D 11 rfl) rfl ?_
      refine j_geti C f_X12_309 (lit (kd := 12) (n := 48) rfl) rfl rfl (D 12 rfl) ?_
      rw [hM.2.2.1]
      refine j_istore_n C (D 13 rfl) rfl ?_
      refine j_iload_n C (D 14 rfl) rfl ?_
      refine j_iload_n C (D 15 rfl) rfl ?_
      refine j_icmp_ne C  34 (D 16 rfl) (by decide) (fun h29 => ?_) (fun h29 => ?_)
      · refine j_aload_n C (D 19 rfl) rfl ?_
        refine j_callV C B k_X12_485 (rc_obj C (lit (kd := 12) (n := 48) rfl) rfl rfl) (d_keeps _ _ hL n hn hH.1) rfl rfl rfl rfl ⟨Nat.le_refl _, Nat.le_refl _⟩ (D 20 rfl) ?_
        rintro r w' ⟨rfl, I2, rfl, k0, k1, k2, k3, k4⟩
        have hH2 := keeps_HM hn hV hM hH hW k0 k1 k2 k3
        refine j_aload_n C (D 21 rfl) rfl ?_
        refine j_iload_n C (D 22 rfl) rfl ?_
        refine j_puti C f_X12_309 (lit (kd := 12) (n := 48) rfl) rfl rfl (D 23 rfl) ?_
        refine j_iload_n C (D 24 rfl) rfl ?_
        exact j_iret C P rfl (D 25 rfl) ⟨Nat.le_refl _, Nat.le_refl _⟩ (by
    rw [s_tie_t ⟨(b2_ne h4), ((wL (by decide) (by decide)).mp (b2_ne h16))⟩, tiS, if_neg h29]
    have hM2 := MT_k hM k4
    refine ⟨by rw [a_tie_t ⟨(b2_ne h4), ((wL (by decide) (by decide)).mp (b2_ne h16))⟩], _, L, rfl, ?_, HM_fr hH2 (up2_i (by omega)) (fun j => up2_i (by omega)), fun b j q1 q2 q3 => by rw [up2_i (by omega)]; exact k4 b j q3 (by omega)⟩
    exact MT_set hM2 (fun b k q1 q2 q3 => up2_i (by omega)) (by rw [up2_i (by omega)]; exact hM2.2.1) (by rw [up2_same]) (fun b j hb hj => by rw [up2_i (by omega), up2_i (by omega), up2_i (by omega)]; exact hM2.2.2.2.2.2.1 b j hb hj))
      · refine j_iload_n C (D 17 rfl) rfl ?_
        exact j_iret C P rfl (D 18 rfl) ⟨Nat.le_refl _, Nat.le_refl _⟩ (am0 hM hH (by rw [a_tie_t ⟨(b2_ne h4), ((wL (by decide) (by decide)).mp (b2_ne h16))⟩]) (by rw [s_tie_t ⟨(b2_ne h4), ((wL (by decide) (by decide)).mp (b2_ne h16))⟩, tiS, if_pos h29]))
    · refine j_bipush C (v := (-2)) (D 9 rfl) rfl ?_
      exact j_iret C P rfl (D 10 rfl) ⟨Nat.le_refl _, Nat.le_refl _⟩ (am0 hM hH (a_tie_f (fun z => b2_eq h16 ((wL (by decide) (by decide)).mpr z.2))).symm (s_tie_f (fun z => b2_eq h16 ((wL (by decide) (by decide)).mpr z.2))).symm)
set_option maxRecDepth 20000 in
theorem d_undoQ (l : Launch) (G : GT) {I : Nat → Nat → Int32} {L : Nat → Nat → Int64} {R : Nat → Nat → Option Nat} (hL : Lay R) {V : VT} (hV : WV V) (hM : MT I V) (ld : Bool) (hld : I 172 1 = b2 (ld = true)) {n : Nat} {h : Nat → SN} (hn : n ≤ 10) (hW : WH V n h) (hH : HMo I n h) : Mt l G mX12_undo (0) 0 0 [.ref (ra G 172)] (wd I L R) (aM (a_undo n) I R (s_undo V n h)) := by
  refine mt_of (own := RX12) (by decide) rfl rfl (fun Z C P B => ?_)
  have D := @dc_of _ _ dX12_undo
  have LB : ¬ n = 0 → ∀ I5 : Nat → Nat → Int32, I5 172 44 = nI (n - 1) → I5 172 3 = I 195 (242 * (n - 1)) → I5 172 5 = I 195 (242 * (n - 1) + 1) → (∀ x, I5 195 x = I 195 x) → (∀ b j, ¬ (b = 172 ∧ (j = 3 ∨ j = 5 ∨ j = 44)) → I5 b j = I b j) → ∀ (m i : Nat) (I1 : Nat → Nat → Int32), i + m = 80 → (∀ b j, ¬ (177 ≤ b ∧ b ≤ 179) → I1 b j = I5 b j) → (∀ j, j < i → I1 177 j = I 195 (242 * (n - 1) + 2 + 3 * j) ∧ I1 178 j = I 195 (242 * (n - 1) + 3 + 3 * j) ∧ I1 179 j = I 195 (242 * (n - 1) + 4 + 3 * j)) → J Z (0, 0) 52 [some (.ref (ra G 172)), some (.int (nI (242 * (n - 1)))), some (.int (nI i))] [] (wd I1 L R) := by
    intro h0 I5 h44 h3 h5t h5 hX m
    induction m with
    | zero =>
      intro i I1 hi hO hB
      refine j_iload_n C (D 32 rfl) rfl ?_
      refine j_bipush C (v := nI 80) (D 33 rfl) rfl ?_
      refine j_icmp_ge C  118 (D 34 rfl) (by decide) (fun h55 => ?_) (fun h55 => absurd h55 (fun z => z ((nle (by omega) (by omega)).mpr (by omega))))
      refine j_aload_n C (D 79 rfl) rfl ?_
      refine j_geti C f_X12_311 (lit (kd := 12) (n := 48) rfl) rfl rfl (D 80 rfl) ?_
      rw [hO 172 44 (by omega), h44]
      exact j_iret C P rfl (D 81 rfl) ⟨Nat.le_refl _, Nat.le_refl _⟩ (by
      rw [a_undo, if_neg h0, s_undo, if_neg h0]
      have hh := hH.2 (n - 1) (by omega)
      refine ⟨rfl, I1, L, rfl, ?_, ⟨by rw [hO 172 44 (by omega), h44], fun i9 hi9 => ?_⟩, fun b j q1 q2 q3 => by rw [hO b j (by omega)]; exact hX b j q1⟩
      · refine MT_set hM (fun b k q1 q2 q3 => by rw [hO b k (by omega)]; exact hX b k q1) (by rw [hO 172 3 (by omega), h3]; exact hh.1) (by rw [hO 172 5 (by omega), h5t]; exact hh.2.1) (fun b j hb hj => ?_)
        have hA : (h (n - 1)).1.1 ≤ 8 := (hW.2 (n - 1) (by omega)).2.1
        have z := hB (10 * b + j) (by omega)
        have y := hh.2.2 b j hb hj
        exact ⟨z.1.trans y.1, z.2.1.trans y.2.1, z.2.2.trans y.2.2⟩
      · have hi9 : i9 < n - 1 := hi9
        have y := hH.2 i9 (by omega)
        have hk : ∀ x, I1 195 x = I 195 x := fun x => by rw [hO 195 x (by omega)]; exact h5 x
        exact ⟨by rw [hk]; exact y.1, by rw [hk]; exact y.2.1, fun a e ha he => by rw [hk, hk, hk]; exact y.2.2 a e ha he⟩)
    | succ m ih =>
      intro i I1 hi hO hB
      refine j_iload_n C (D 32 rfl) rfl ?_
      refine j_bipush C (v := nI 80) (D 33 rfl) rfl ?_
      refine j_icmp_ge C  118 (D 34 rfl) (by decide) (fun h55 => absurd h55 (fun z => by rw [nle (by omega) (by omega)] at z; omega)) (fun h55 => ?_)
      refine j_aload_n C (D 35 rfl) rfl ?_
      refine j_getr C f_X12_22 (lit (kd := 12) (n := 48) rfl) rfl rfl (hL _ _ _ rfl) (D 36 rfl) ?_
      refine j_iload_n C (D 37 rfl) rfl ?_
      refine j_aload_n C (D 38 rfl) rfl ?_
      refine j_getr C f_X12_83 (lit (kd := 12) (n := 48) rfl) rfl rfl (hL _ _ _ rfl) (D 39 rfl) ?_
      refine j_iload_n C (D 40 rfl) rfl ?_
      refine j_iconst C (v := nI 2) (D 41 rfl) rfl ?_
      refine j_iadd C (D 42 rfl) ?_
      refine j_iconst C (v := nI 3) (D 43 rfl) rfl ?_
      refine j_iload_n C (D 44 rfl) rfl ?_
      refine j_imul C (D 45 rfl) ?_
      refine j_iadd C (D 46 rfl) ?_
      refine j_iald C (lit (kd := 20) (n := 2420) rfl) (ixk (c := n - 1) (by omega) (by omega) (Or.inl rfl)) (D 47 rfl) ?_
      rw [hO 195 _ (by omega), h5 _]
      refine j_iast C (lit (kd := 20) (n := 80) rfl) (ix_n (by omega) (by decide)) (D 48 rfl) ?_
      refine j_aload_n C (D 49 rfl) rfl ?_
      refine j_getr C f_X12_25 (lit (kd := 12) (n := 48) rfl) rfl rfl (hL _ _ _ rfl) (D 50 rfl) ?_
      refine j_iload_n C (D 51 rfl) rfl ?_
      refine j_aload_n C (D 52 rfl) rfl ?_
      refine j_getr C f_X12_83 (lit (kd := 12) (n := 48) rfl) rfl rfl (hL _ _ _ rfl) (D 53 rfl) ?_
      refine j_iload_n C (D 54 rfl) rfl ?_
      refine j_iconst C (v := nI 3) (D 55 rfl) rfl ?_
      refine j_iadd C (D 56 rfl) ?_
      refine j_iconst C (v := nI 3) (D 57 rfl) rfl ?_
      refine j_iload_n C (D 58 rfl) rfl ?_
      refine j_imul C (D 59 rfl) ?_
      refine j_iadd C (D 60 rfl) ?_
      refine j_iald C (lit (kd := 20) (n := 2420) rfl) (ixk (c := n - 1) (by omega) (by omega) (Or.inr (Or.inl rfl))) (D 61 rfl) ?_
      rw [up2_i (show ¬ ((195 : Nat) = 177 ∧ 242 * (n - 1) + 3 + 3 * i = i) by omega), hO 195 _ (by omega), h5 _]
      refine j_iast C (lit (kd := 20) (n := 80) rfl) (ix_n (by omega) (by decide)) (D 62 rfl) ?_
      refine j_aload_n C (D 63 rfl) rfl ?_
      refine j_getr C f_X12_28 (lit (kd := 12) (n := 48) rfl) rfl rfl (hL _ _ _ rfl) (D 64 rfl) ?_
      refine j_iload_n C (D 65 rfl) rfl ?_
      refine j_aload_n C (D 66 rfl) rfl ?_
      refine j_getr C f_X12_83 (lit (kd := 12) (n := 48) rfl) rfl rfl (hL _ _ _ rfl) (D 67 rfl) ?_
      refine j_iload_n C (D 68 rfl) rfl ?_
      refine j_iconst C (v := nI 4) (D 69 rfl) rfl ?_
      refine j_iadd C (D 70 rfl) ?_
      refine j_iconst C (v := nI 3) (D 71 rfl) rfl ?_
      refine j_iload_n C (D 72 rfl) rfl ?_
      refine j_imul C (D 73 rfl) ?_
      refine j_iadd C (D 74 rfl) ?_
      refine j_iald C (lit (kd := 20) (n := 2420) rfl) (ixk (c := n - 1) (by omega) (by omega) (Or.inr (Or.inr rfl))) (D 75 rfl) ?_
      rw [up2_i (show ¬ ((195 : Nat) = 178 ∧ 242 * (n - 1) + 4 + 3 * i = i) by omega), up2_i (show ¬ ((195 : Nat) = 177 ∧ 242 * (n - 1) + 4 + 3 * i = i) by omega), hO 195 _ (by omega), h5 _]
      refine j_iast C (lit (kd := 20) (n := 80) rfl) (ix_n (by omega) (by decide)) (D 76 rfl) ?_
      first | refine j_iinc1 C (D 77 rfl) rfl rfl ?_ | refine j_iinc C (D 77 rfl) rfl rfl rfl ?_
      refine j_goto C 52 (D 78 rfl) (by decide) ?_
      exact ih (i + 1) _ (by omega) (fun b j q => by rw [up2_i (by omega), up2_i (by omega), up2_i (by omega)]; exact hO b j q) (fun j hj => by
        by_cases q : j = i
        · rw [q, up2_i (by omega), up2_i (by omega), up2_same, up2_i (by omega), up2_same, up2_same]; exact ⟨rfl, rfl, rfl⟩
        · rw [up2_i (by omega), up2_i (by omega), up2_i (by omega), up2_i (by omega), up2_i (by omega), up2_i (by omega), up2_i (by omega), up2_i (by omega), up2_i (by omega)]; exact hB j (by omega))
  refine j_aload_n C (D 0 rfl) rfl ?_
  refine j_geti C f_X12_311 (lit (kd := 12) (n := 48) rfl) rfl rfl (D 1 rfl) ?_
  rw [hH.1]
  refine j_if_ne C  9 (D 2 rfl) (by decide) (fun h4 => ?_) (fun h4 => ?_)
  · have h0 : ¬ n = 0 := fun z => h4 (by rw [z]; rfl)
    refine j_aload_n C (D 5 rfl) rfl ?_
    refine j_dup C (D 6 rfl) rfl ?_
    refine j_geti C f_X12_311 (lit (kd := 12) (n := 48) rfl) rfl rfl (D 7 rfl) ?_
    rw [hH.1]
    refine j_iconst C (v := nI 1) (D 8 rfl) rfl ?_
    refine j_isub C (D 9 rfl) ?_
    rw [pk_sub (show 1 ≤ n by omega)]
    refine j_puti C f_X12_311 (lit (kd := 12) (n := 48) rfl) rfl rfl (D 10 rfl) ?_
    refine j_sipush C (v := nI 242) (D 11 rfl) rfl ?_
    refine j_aload_n C (D 12 rfl) rfl ?_
    refine j_geti C f_X12_311 (lit (kd := 12) (n := 48) rfl) rfl rfl (D 13 rfl) ?_
    rw [up2_same]
    refine j_imul C (D 14 rfl) ?_
    rw [pk_mul]
    refine j_istore_n C (D 15 rfl) rfl ?_
    refine j_aload_n C (D 16 rfl) rfl ?_
    refine j_aload_n C (D 17 rfl) rfl ?_
    refine j_getr C f_X12_83 (lit (kd := 12) (n := 48) rfl) rfl rfl (hL _ _ _ rfl) (D 18 rfl) ?_
    refine j_iload_n C (D 19 rfl) rfl ?_
    refine j_iald C (lit (kd := 20) (n := 2420) rfl) (ix_n (by omega) (by decide)) (D 20 rfl) ?_
    rw [up2_i (show ¬ ((195 : Nat) = 172 ∧ 242 * (n - 1) = 44) by omega)]
    refine j_puti C f_X12_303 (lit (kd := 12) (n := 48) rfl) rfl rfl (D 21 rfl) ?_
    refine j_aload_n C (D 22 rfl) rfl ?_
    refine j_aload_n C (D 23 rfl) rfl ?_
    refine j_getr C f_X12_83 (lit (kd := 12) (n := 48) rfl) rfl rfl (hL _ _ _ rfl) (D 24 rfl) ?_
    refine j_iload_n C (D 25 rfl) rfl ?_
    refine j_iconst C (v := nI 1) (D 26 rfl) rfl ?_
    refine j_iadd C (D 27 rfl) ?_
    refine j_iald C (lit (kd := 20) (n := 2420) rfl) (ixk1 (c := n - 1) (by omega)) (D 28 rfl) ?_
    rw [up2_i (show ¬ ((195 : Nat) = 172 ∧ 242 * (n - 1) + 1 = 3) by omega), up2_i (show ¬ ((195 : Nat) = 172 ∧ 242 * (n - 1) + 1 = 44) by omega)]
    refine j_puti C f_X12_309 (lit (kd := 12) (n := 48) rfl) rfl rfl (D 29 rfl) ?_
    refine j_iconst C (v := nI 0) (D 30 rfl) rfl ?_
    refine j_istore_n C (D 31 rfl) rfl ?_
    exact LB h0 _ (by rw [up2_i (by omega), up2_i (by omega), up2_same]) (by rw [up2_i (by omega), up2_same]) (by rw [up2_same]) (fun x => by rw [up2_i (by omega), up2_i (by omega), up2_i (by omega)]) (fun b j q => by rw [up2_i (by omega), up2_i (by omega), up2_i (by omega)]) 80 0 _ (by omega) (fun _ _ _ => rfl) (fun j hj => absurd hj (by omega))
  · refine j_iconst C (v := (-1)) (D 3 rfl) rfl ?_
    exact j_iret C P rfl (D 4 rfl) ⟨Nat.le_refl _, Nat.le_refl _⟩ (by rw [a_undo, if_pos (nI_inj (by omega) (by decide) h4), s_undo, if_pos (nI_inj (by omega) (by decide) h4)]; exact am0 hM hH rfl rfl)
set_option maxRecDepth 20000 in
theorem d_athleteQ (l : Launch) (G : GT) {I : Nat → Nat → Int32} {L : Nat → Nat → Int64} {R : Nat → Nat → Option Nat} (hL : Lay R) {V : VT} (hV : WV V) (hM : MT I V) (ld : Bool) (hld : I 172 1 = b2 (ld = true)) {n : Nat} {h : Nat → SN} (hn : n ≤ 10) (hW : WH V n h) (hH : HMo I n h) : Mt l G mX12_athlete (4) 0 0 [.ref (ra G 172)] (wd I L R) (aM (a_athlete V ld ) I R (s_athlete V ld n h )) := by
  refine mt_of (own := RX12) (by decide) rfl rfl (fun Z C P B => ?_)
  have D := @dc_of _ _ dX12_athlete
  have hE10 := hV.1
  have hA8 := hV.2.1
  refine j_aload_n C (D 0 rfl) rfl ?_
  refine j_geti C f_X12_297 (lit (kd := 12) (n := 48) rfl) rfl rfl (D 1 rfl) ?_
  rw [hld]
  refine j_if_ne C  10 (D 2 rfl) (by decide) (fun h4 => ?_) (fun h4 => ?_)
  · refine j_aload_n C (D 5 rfl) rfl ?_
    refine j_geti C f_X12_303 (lit (kd := 12) (n := 48) rfl) rfl rfl (D 6 rfl) ?_
    refine j_bipush C (v := nI 8) (D 7 rfl) rfl ?_
    rw [hM.2.1]
    refine j_icmp_ne C  22 (D 8 rfl) (by decide) (fun h16 => ?_) (fun h16 => ?_)
    · have hA : vA V < 8 := by
        have : ¬ vA V = 8 := fun z => h16 (by rw [z])
        omega
      refine j_aload_n C (D 11 rfl) rfl ?_
      refine j_callV C B k_X12_485 (rc_obj C (lit (kd := 12) (n := 48) rfl) rfl rfl) (d_keeps _ _ hL n hn hH.1) rfl rfl rfl rfl ⟨Nat.le_refl _, Nat.le_refl _⟩ (D 12 rfl) ?_
      rintro r w' ⟨rfl, I2, rfl, k0, k1, k2, k3, k4⟩
      have hH2 := keeps_HM hn hV hM hH hW k0 k1 k2 k3
      have hM2 := MT_k hM k4
      refine j_iconst C (v := nI 0) (D 13 rfl) rfl ?_
      refine j_istore_n C (D 14 rfl) rfl ?_
      have Lp : ∀ (m e : Nat) (I1 : Nat → Nat → Int32), e + m = 10 → (∀ b j, ¬ (177 ≤ b ∧ b ≤ 179) → I1 b j = I2 b j) → (∀ t x, (177 ≤ t ∧ t ≤ 179) → I1 t x = if 10 * vA V ≤ x ∧ x < 10 * vA V + e then -1 else I2 t x) → J Z (0, 0) 28 [some (.ref (ra G 172)), some (.int (nI e))] [] (wd I1 L R) := by
        intro m
        induction m with
        | zero =>
          intro e I1 he hO hR
          refine j_iload_n C (D 15 rfl) rfl ?_
          refine j_bipush C (v := nI 10) (D 16 rfl) rfl ?_
          refine j_icmp_ge C  85 (D 17 rfl) (by decide) (fun h31 => ?_) (fun h31 => absurd h31 (fun z => z ((nle (by omega) (by omega)).mpr (by omega))))
          refine j_aload_n C (D 50 rfl) rfl ?_
          refine j_dup C (D 51 rfl) rfl ?_
          refine j_geti C f_X12_303 (lit (kd := 12) (n := 48) rfl) rfl rfl (D 52 rfl) ?_
          rw [hO 172 3 (by omega), hM2.2.1]
          refine j_iconst C (v := nI 1) (D 53 rfl) rfl ?_
          refine j_iadd C (D 54 rfl) ?_
          rw [nI_add]
          refine j_puti C f_X12_303 (lit (kd := 12) (n := 48) rfl) rfl rfl (D 55 rfl) ?_
          refine j_aload_n C (D 56 rfl) rfl ?_
          refine j_geti C f_X12_303 (lit (kd := 12) (n := 48) rfl) rfl rfl (D 57 rfl) ?_
          rw [up2_same]
          refine j_iconst C (v := nI 1) (D 58 rfl) rfl ?_
          refine j_isub C (D 59 rfl) ?_
          rw [pk_sub (by omega), show vA V + 1 - 1 = vA V from rfl]
          exact j_iret C P rfl (D 60 rfl) ⟨Nat.le_refl _, Nat.le_refl _⟩ (by
            rw [s_athlete_t (b2_ne h4), if_pos hA]
            refine ⟨by rw [a_athlete_t (b2_ne h4), if_pos hA], _, L, rfl, ?_, HM_fr hH2 (by rw [up2_i (by omega), hO _ _ (by omega)]) (fun j => by rw [up2_i (by omega), hO _ _ (by omega)]), fun b j q1 q2 q3 => by rw [up2_i (by omega), hO b j q2]; exact k4 b j q3 (by omega)⟩
            refine MT_set hM2 (fun b k q1 q2 q3 => by rw [up2_i (by omega), hO b k (by omega)]) (by rw [up2_same]) (by rw [up2_i (by omega), hO _ _ (by omega)]; exact hM2.2.2.1) (fun b j hb hj => ?_)
            have hb : b < vA V + 1 := hb
            have cell : ∀ t, 177 ≤ t ∧ t ≤ 179 → up2 I1 172 3 (nI (vA V + 1)) t (10 * b + j) = if b = vA V then -1 else I2 t (10 * b + j) := fun t ht => by
              rw [up2_i (by omega), hR t _ ht]
              by_cases q : b = vA V
              · rw [if_pos (by omega), if_pos q]
              · rw [if_neg (by omega), if_neg q]
            rw [cell 177 (by omega), cell 178 (by omega), cell 179 (by omega)]
            show _ = va_up (vmk V) (vA V) (fun _ => -1) b j ∧ _ = va_up (vgo V) (vA V) (fun _ => -1) b j ∧ _ = va_up (vgi V) (vA V) (fun _ => -1) b j
            rw [at_in, at_in, at_in]
            by_cases q : b = vA V
            · rw [if_pos q, if_pos q, if_pos q, if_pos q, if_pos q, if_pos q]; exact ⟨rfl, rfl, rfl⟩
            · rw [if_neg q, if_neg q, if_neg q, if_neg q, if_neg q, if_neg q]; exact hM2.2.2.2.2.2.1 b j (by omega) hj)
        | succ m ih =>
          intro e I1 he hO hR
          refine j_iload_n C (D 15 rfl) rfl ?_
          refine j_bipush C (v := nI 10) (D 16 rfl) rfl ?_
          refine j_icmp_ge C  85 (D 17 rfl) (by decide) (fun h31 => absurd h31 (fun z => by rw [nle (by omega) (by omega)] at z; omega)) (fun h31 => ?_)
          refine j_aload_n C (D 18 rfl) rfl ?_
          refine j_getr C f_X12_22 (lit (kd := 12) (n := 48) rfl) rfl rfl (hL _ _ _ rfl) (D 19 rfl) ?_
          refine j_bipush C (v := nI 10) (D 20 rfl) rfl ?_
          refine j_aload_n C (D 21 rfl) rfl ?_
          refine j_geti C f_X12_303 (lit (kd := 12) (n := 48) rfl) rfl rfl (D 22 rfl) ?_
          rw [hO 172 3 (by omega), hM2.2.1]
          refine j_imul C (D 23 rfl) ?_
          refine j_iload_n C (D 24 rfl) rfl ?_
          refine j_iadd C (D 25 rfl) ?_
          refine j_iconst C (v := (-1)) (D 26 rfl) rfl ?_
          refine j_iast C (lit (kd := 20) (n := 80) rfl) (ix_cell' hA (by omega)) (D 27 rfl) ?_
          refine j_aload_n C (D 28 rfl) rfl ?_
          refine j_getr C f_X12_25 (lit (kd := 12) (n := 48) rfl) rfl rfl (hL _ _ _ rfl) (D 29 rfl) ?_
          refine j_bipush C (v := nI 10) (D 30 rfl) rfl ?_
          refine j_aload_n C (D 31 rfl) rfl ?_
          refine j_geti C f_X12_303 (lit (kd := 12) (n := 48) rfl) rfl rfl (D 32 rfl) ?_
          rw [up2_i (show ¬ ((172 : Nat) = 177 ∧ 3 = 10 * vA V + e) by omega), hO 172 3 (by omega), hM2.2.1]
          refine j_imul C (D 33 rfl) ?_
          refine j_iload_n C (D 34 rfl) rfl ?_
          refine j_iadd C (D 35 rfl) ?_
          refine j_iconst C (v := (-1)) (D 36 rfl) rfl ?_
          refine j_iast C (lit (kd := 20) (n := 80) rfl) (ix_cell' hA (by omega)) (D 37 rfl) ?_
          refine j_aload_n C (D 38 rfl) rfl ?_
          refine j_getr C f_X12_28 (lit (kd := 12) (n := 48) rfl) rfl rfl (hL _ _ _ rfl) (D 39 rfl) ?_
          refine j_bipush C (v := nI 10) (D 40 rfl) rfl ?_
          refine j_aload_n C (D 41 rfl) rfl ?_
          refine j_geti C f_X12_303 (lit (kd := 12) (n := 48) rfl) rfl rfl (D 42 rfl) ?_
          rw [up2_i (show ¬ ((172 : Nat) = 178 ∧ 3 = 10 * vA V + e) by omega), up2_i (show ¬ ((172 : Nat) = 177 ∧ 3 = 10 * vA V + e) by omega), hO 172 3 (by omega), hM2.2.1]
          refine j_imul C (D 43 rfl) ?_
          refine j_iload_n C (D 44 rfl) rfl ?_
          refine j_iadd C (D 45 rfl) ?_
          refine j_iconst C (v := (-1)) (D 46 rfl) rfl ?_
          refine j_iast C (lit (kd := 20) (n := 80) rfl) (ix_cell' hA (by omega)) (D 47 rfl) ?_
          first | refine j_iinc1 C (D 48 rfl) rfl rfl ?_ | refine j_iinc C (D 48 rfl) rfl rfl rfl ?_
          refine j_goto C 28 (D 49 rfl) (by decide) ?_
          exact ih (e + 1) _ (by omega) (fun b j q => by rw [up2_i (by omega), up2_i (by omega), up2_i (by omega)]; exact hO b j q) (fun t x ht => by
            by_cases q : x = 10 * vA V + e
            · rw [if_pos (by omega), q]
              rcases (show t = 177 ∨ t = 178 ∨ t = 179 by omega) with rfl | rfl | rfl
              · rw [up2_i (by omega), up2_i (by omega), up2_same]
              · rw [up2_i (by omega), up2_same]
              · rw [up2_same]
            · rw [up2_i (by omega), up2_i (by omega), up2_i (by omega), hR t x ht]
              by_cases y : 10 * vA V ≤ x ∧ x < 10 * vA V + e
              · rw [if_pos y, if_pos (by omega)]
              · rw [if_neg y, if_neg (by omega)])
      exact Lp 10 0 _ (by omega) (fun _ _ _ => rfl) (fun t x _ => by rw [if_neg (by omega)])
    · refine j_bipush C (v := (-5)) (D 9 rfl) rfl ?_
      exact j_iret C P rfl (D 10 rfl) ⟨Nat.le_refl _, Nat.le_refl _⟩ (am0 hM hH (by rw [a_athlete_t (b2_ne h4), if_neg (fun z => by have := nI_inj (by omega) (by decide) h16; omega)]) (by rw [s_athlete_t (b2_ne h4), if_neg (fun z => by have := nI_inj (by omega) (by decide) h16; omega)]))
  · refine j_bipush C (v := (-2)) (D 3 rfl) rfl ?_
    exact j_iret C P rfl (D 4 rfl) ⟨Nat.le_refl _, Nat.le_refl _⟩ (am0 hM hH (a_athlete_f (fun z => b2_eq h4 z)).symm (s_athlete_f (fun z => b2_eq h4 z)).symm)
