theorem HM_fr {I I' : Nat → Nat → Int32} {n : Nat} {h : Nat → SN} (hH : HMo I n h) (h0 : I' 172 44 = I 172 44) (h1 : ∀ j, I' 195 j = I 195 j) : HMo I' n h :=
  ⟨by rw [h0]; exact hH.1, fun i hi => by rw [h1, h1]; exact ⟨(hH.2 i hi).1, (hH.2 i hi).2.1, fun a e ha he => by rw [h1, h1, h1]; exact (hH.2 i hi).2.2 a e ha he⟩⟩
theorem MT_k {I I2 : Nat → Nat → Int32} {V : VT} (hM : MT I V) (k4 : ∀ b j, ¬ b = 195 → ¬ (b = 172 ∧ j = 44) → I2 b j = I b j) : MT I2 V := by
  obtain ⟨a0, a1, a2, a3, a4, a5, a6, a7, a8⟩ := hM
  refine ⟨by rw [k4 _ _ (by omega) (by omega)]; exact a0, by rw [k4 _ _ (by omega) (by omega)]; exact a1, by rw [k4 _ _ (by omega) (by omega)]; exact a2, by rw [k4 _ _ (by omega) (by omega)]; exact a3, fun e he => ?_, fun a e ha he => by rw [k4 _ _ (by omega) (by omega), k4 _ _ (by omega) (by omega), k4 _ _ (by omega) (by omega)]; exact a5 a e ha he, fun k hk => by rw [k4 _ _ (by omega) (by omega)]; exact a6 k hk, fun k hk => by rw [k4 _ _ (by omega) (by omega)]; exact a7 k hk, fun k hk i q hq => by rw [k4 _ _ (by omega) (by omega)]; exact a8 k hk i q hq⟩
  have : mE I2 e = mE I e := by funext k; exact k4 173 _ (by omega) (by omega)
  rw [this]; exact a4 e he
/-- one MARK set, behind keeps -/
theorem aM_mk {I I2 : Nat → Nat → Int32} {L : Nat → Nat → Int64} {R : Nat → Nat → Option Nat} {V : VT} {n : Nat} {h : Nat → SN} {a e : Nat} {m v v' : Int32} (ha8 : a < 8) (he10 : e < 10) (hM : MT I V) (hH2 : HMo I2 (cut n + 1) (hpush V n h)) (k4 : ∀ b j, ¬ b = 195 → ¬ (b = 172 ∧ j = 44) → I2 b j = I b j) (hv : v = v') : aM v' I R (pushS V (mkV V a e m) n h) (some (.int v)) (wd (up2 I2 177 (10 * a + e) m) L R) := by
  have hM2 := MT_k hM k4
  refine ⟨by rw [hv], _, L, rfl, ?_, HM_fr hH2 (up2_i (by omega)) (fun j => up2_i (by omega)), fun b j q1 q2 q3 => by rw [up2_i (by omega)]; exact k4 b j q3 (by omega)⟩
  refine MT_set hM2 (fun b k q1 q2 q3 => up2_i (by omega)) (by rw [up2_i (by omega)]; exact hM2.2.1) (by rw [up2_i (by omega)]; exact hM2.2.2.1) (fun b j hb hj => ?_)
  have z := hM2.2.2.2.2.2.1 b j hb hj
  refine ⟨?_, by rw [up2_i (by omega)]; exact z.2.1, by rw [up2_i (by omega)]; exact z.2.2⟩
  show _ = tw (vmk V) a e m b j
  rw [tw_at]
  by_cases q : b = a ∧ j = e
  · rw [if_pos q, q.1, q.2, up2_same]
  · rw [if_neg q, up2_i (by omega)]; exact z.1
theorem aM_gn {I I2 : Nat → Nat → Int32} {L : Nat → Nat → Int64} {R : Nat → Nat → Option Nat} {V : VT} {n : Nat} {h : Nat → SN} {a e : Nat} {g u v v' : Int32} (ha8 : a < 8) (he10 : e < 10) (hM : MT I V) (hH2 : HMo I2 (cut n + 1) (hpush V n h)) (k4 : ∀ b j, ¬ b = 195 → ¬ (b = 172 ∧ j = 44) → I2 b j = I b j) (hv : v = v') : aM v' I R (pushS V (gnV V a e g u) n h) (some (.int v)) (wd (up2 (up2 I2 178 (10 * a + e) g) 179 (10 * a + e) u) L R) := by
  have hM2 := MT_k hM k4
  refine ⟨by rw [hv], _, L, rfl, ?_, HM_fr hH2 (by rw [up2_i (by omega), up2_i (by omega)]) (fun j => by rw [up2_i (by omega), up2_i (by omega)]), fun b j q1 q2 q3 => by rw [up2_i (by omega), up2_i (by omega)]; exact k4 b j q3 (by omega)⟩
  refine MT_set hM2 (fun b k q1 q2 q3 => by rw [up2_i (by omega), up2_i (by omega)]) (by rw [up2_i (by omega), up2_i (by omega)]; exact hM2.2.1) (by rw [up2_i (by omega), up2_i (by omega)]; exact hM2.2.2.1) (fun b j hb hj => ?_)
  have z := hM2.2.2.2.2.2.1 b j hb hj
  refine ⟨by rw [up2_i (by omega), up2_i (by omega)]; exact z.1, ?_, ?_⟩
  · show _ = tw (vgo V) a e g b j
    rw [tw_at]
    by_cases q : b = a ∧ j = e
    · rw [if_pos q, q.1, q.2, up2_i (by omega), up2_same]
    · rw [if_neg q, up2_i (by omega), up2_i (by omega)]; exact z.2.1
  · show _ = tw (vgi V) a e u b j
    rw [tw_at]
    by_cases q : b = a ∧ j = e
    · rw [if_pos q, q.1, q.2, up2_same]
    · rw [if_neg q, up2_i (by omega), up2_i (by omega)]; exact z.2.2
theorem wm1 {m : Int32} (h : m = -1 ∨ wi 0 99999 m) : wi (-1) 99999 m := by
  rcases h with rfl | h
  · exact ⟨by decide, by decide⟩
  · exact ⟨by have := h.1; omega, h.2⟩
theorem wm2 {m : Int32} (h : wi (-1) 99999 m) : m = -1 ∨ wi 0 99999 m := by
  by_cases q : m.toInt = -1
  · exact Or.inl (i_eq.mpr q)
  · exact Or.inr ⟨by have := h.1; omega, h.2⟩
set_option maxRecDepth 20000 in
theorem d_setsQ (l : Launch) (G : GT) {I : Nat → Nat → Int32} {L : Nat → Nat → Int64} {R : Nat → Nat → Option Nat} (hL : Lay R) {V : VT} (hV : WV V) (hM : MT I V) (ld : Bool) (hld : I 172 1 = b2 (ld = true)) {n : Nat} {h : Nat → SN} (hn : n ≤ 10) (hW : WH V n h) (hH : HMo I n h) (a e m : Int32) : Mt l G mX12_sets (4) 0 0 [.ref (ra G 172), .int a, .int e, .int m] (wd I L R) (aM (a_sets V ld a e m) I R (s_sets V ld n h a e m)) := by
  refine mt_of (own := RX12) (by decide) rfl rfl (fun Z C P B => ?_)
  have D := @dc_of _ _ dX12_sets
  have hE10 := hV.1
  have hA8 := hV.2.1
  refine j_aload_n C (D 0 rfl) rfl ?_
  refine j_iload_n C (D 1 rfl) rfl ?_
  refine j_iload_n C (D 2 rfl) rfl ?_
  refine j_cVp C B k_X12_407 (rc_obj C (lit (kd := 12) (n := 48) rfl) rfl rfl) (d_isBoth _ _ hL (vA V) (vE V) hM.2.1 (by omega) hM.1 (by omega) _ _) rfl rfl rfl rfl ⟨Nat.le_refl _, Nat.le_refl _⟩ (D 3 rfl) ?_
  refine j_if_eq C  21 (D 4 rfl) (by decide) (fun h6 => ?_) (fun h6 => ?_)
  · refine j_bipush C (v := (-2)) (D 11 rfl) rfl ?_
    exact j_iret C P rfl (D 12 rfl) ⟨Nat.le_refl _, Nat.le_refl _⟩ (am0 hM hH (a_sets_f (fun z => b2_eq h6 z.1)).symm (s_sets_f (fun z => b2_eq h6 z.1)).symm)
  · refine j_iload_n C (D 5 rfl) rfl ?_
    refine j_iconst C (v := (-1)) (D 6 rfl) rfl ?_
    refine j_icmp_eq C  24 (D 7 rfl) (by decide) (fun h11 => ?_) (fun h11 => ?_)
    · have hwm : wi (-1) 99999 m := wm1 (Or.inl h11)
      obtain ⟨⟨a, ha, rfl⟩, ⟨e, he, rfl⟩⟩ := And.intro (inR_n (b2_ne h6).1) (inR_n (b2_ne h6).2)
      have he10 : e < 10 := by omega
      have ha8 : a < 8 := by omega
      refine j_bipush C (v := nI 10) (D 13 rfl) rfl ?_
      refine j_iload_n C (D 14 rfl) rfl ?_
      refine j_imul C (D 15 rfl) ?_
      refine j_iload_n C (D 16 rfl) rfl ?_
      refine j_iadd C (D 17 rfl) ?_
      refine j_istore C (D 18 rfl) rfl ?_
      refine j_aload_n C (D 19 rfl) rfl ?_
      refine j_getr C f_X12_22 (lit (kd := 12) (n := 48) rfl) rfl rfl (hL _ _ _ rfl) (D 20 rfl) ?_
      refine j_iload C (D 21 rfl) rfl ?_
      refine j_iald C (lit (kd := 20) (n := 80) rfl) (ix_cell' ha8 he10) (D 22 rfl) ?_
      rw [(hM.2.2.2.2.2.1 a e ha he10).1]
      refine j_istore C (D 23 rfl) rfl ?_
      refine j_iload C (D 24 rfl) rfl ?_
      refine j_iload_n C (D 25 rfl) rfl ?_
      refine j_icmp_ne C  50 (D 26 rfl) (by decide) (fun h44 => ?_) (fun h44 => ?_)
      · refine j_aload_n C (D 29 rfl) rfl ?_
        refine j_callV C B k_X12_485 (rc_obj C (lit (kd := 12) (n := 48) rfl) rfl rfl) (d_keeps _ _ hL n hn hH.1) rfl rfl rfl rfl ⟨Nat.le_refl _, Nat.le_refl _⟩ (D 30 rfl) ?_
        rintro r w' ⟨rfl, I2, rfl, k0, k1, k2, k3, k4⟩
        have hH2 := keeps_HM hn hV hM hH hW k0 k1 k2 k3
        refine j_aload_n C (D 31 rfl) rfl ?_
        refine j_getr C f_X12_22 (lit (kd := 12) (n := 48) rfl) rfl rfl (hL _ _ _ rfl) (D 32 rfl) ?_
        refine j_iload C (D 33 rfl) rfl ?_
        refine j_iload_n C (D 34 rfl) rfl ?_
        refine j_iast C (lit (kd := 20) (n := 80) rfl) (ix_cell' ha8 he10) (D 35 rfl) ?_
        refine j_iload C (D 36 rfl) rfl ?_
        exact j_iret C P rfl (D 37 rfl) ⟨Nat.le_refl _, Nat.le_refl _⟩ (by rw [s_sets_t ⟨b2_ne h6, hwm⟩, tn_n (by omega), tn_n (by omega), mkS, if_neg h44]; exact aM_mk ha8 he10 hM hH2 k4 (by rw [a_sets_t ⟨b2_ne h6, hwm⟩, tn_n (by omega), tn_n (by omega)]))
      · refine j_iload C (D 27 rfl) rfl ?_
        exact j_iret C P rfl (D 28 rfl) ⟨Nat.le_refl _, Nat.le_refl _⟩ (am0 hM hH (by rw [a_sets_t ⟨b2_ne h6, hwm⟩, tn_n (by omega), tn_n (by omega)]) (by rw [s_sets_t ⟨b2_ne h6, hwm⟩, tn_n (by omega), tn_n (by omega), mkS, if_pos h44]))
    · refine j_iload_n C (D 8 rfl) rfl ?_
      refine j_cSp C B k_X12_347 (d_isMark _ _ _ _) rfl rfl rfl rfl ⟨Nat.le_refl _, Nat.le_refl _⟩ (D 9 rfl) ?_
      refine j_if_ne C  24 (D 10 rfl) (by decide) (fun h18 => ?_) (fun h18 => ?_)
      · have hwm : wi (-1) 99999 m := wm1 (Or.inr ((wC (by decide) (by decide)).mp (b2_ne h18)))
        obtain ⟨⟨a, ha, rfl⟩, ⟨e, he, rfl⟩⟩ := And.intro (inR_n (b2_ne h6).1) (inR_n (b2_ne h6).2)
        have he10 : e < 10 := by omega
        have ha8 : a < 8 := by omega
        refine j_bipush C (v := nI 10) (D 13 rfl) rfl ?_
        refine j_iload_n C (D 14 rfl) rfl ?_
        refine j_imul C (D 15 rfl) ?_
        refine j_iload_n C (D 16 rfl) rfl ?_
        refine j_iadd C (D 17 rfl) ?_
        refine j_istore C (D 18 rfl) rfl ?_
        refine j_aload_n C (D 19 rfl) rfl ?_
        refine j_getr C f_X12_22 (lit (kd := 12) (n := 48) rfl) rfl rfl (hL _ _ _ rfl) (D 20 rfl) ?_
        refine j_iload C (D 21 rfl) rfl ?_
        refine j_iald C (lit (kd := 20) (n := 80) rfl) (ix_cell' ha8 he10) (D 22 rfl) ?_
        rw [(hM.2.2.2.2.2.1 a e ha he10).1]
        refine j_istore C (D 23 rfl) rfl ?_
        refine j_iload C (D 24 rfl) rfl ?_
        refine j_iload_n C (D 25 rfl) rfl ?_
        refine j_icmp_ne C  50 (D 26 rfl) (by decide) (fun h44 => ?_) (fun h44 => ?_)
        · refine j_aload_n C (D 29 rfl) rfl ?_
          refine j_callV C B k_X12_485 (rc_obj C (lit (kd := 12) (n := 48) rfl) rfl rfl) (d_keeps _ _ hL n hn hH.1) rfl rfl rfl rfl ⟨Nat.le_refl _, Nat.le_refl _⟩ (D 30 rfl) ?_
          rintro r w' ⟨rfl, I2, rfl, k0, k1, k2, k3, k4⟩
          have hH2 := keeps_HM hn hV hM hH hW k0 k1 k2 k3
          refine j_aload_n C (D 31 rfl) rfl ?_
          refine j_getr C f_X12_22 (lit (kd := 12) (n := 48) rfl) rfl rfl (hL _ _ _ rfl) (D 32 rfl) ?_
          refine j_iload C (D 33 rfl) rfl ?_
          refine j_iload_n C (D 34 rfl) rfl ?_
          refine j_iast C (lit (kd := 20) (n := 80) rfl) (ix_cell' ha8 he10) (D 35 rfl) ?_
          refine j_iload C (D 36 rfl) rfl ?_
          exact j_iret C P rfl (D 37 rfl) ⟨Nat.le_refl _, Nat.le_refl _⟩ (by rw [s_sets_t ⟨b2_ne h6, hwm⟩, tn_n (by omega), tn_n (by omega), mkS, if_neg h44]; exact aM_mk ha8 he10 hM hH2 k4 (by rw [a_sets_t ⟨b2_ne h6, hwm⟩, tn_n (by omega), tn_n (by omega)]))
        · refine j_iload C (D 27 rfl) rfl ?_
          exact j_iret C P rfl (D 28 rfl) ⟨Nat.le_refl _, Nat.le_refl _⟩ (am0 hM hH (by rw [a_sets_t ⟨b2_ne h6, hwm⟩, tn_n (by omega), tn_n (by omega)]) (by rw [s_sets_t ⟨b2_ne h6, hwm⟩, tn_n (by omega), tn_n (by omega), mkS, if_pos h44]))
      · refine j_bipush C (v := (-2)) (D 11 rfl) rfl ?_
        exact j_iret C P rfl (D 12 rfl) ⟨Nat.le_refl _, Nat.le_refl _⟩ (am0 hM hH (a_sets_f (fun z => (wm2 z.2).elim h11 (fun y => b2_eq h18 ((wC (by decide) (by decide)).mpr y)))).symm (s_sets_f (fun z => (wm2 z.2).elim h11 (fun y => b2_eq h18 ((wC (by decide) (by decide)).mpr y)))).symm)
set_option maxRecDepth 20000 in
theorem d_trainsQ (l : Launch) (G : GT) {I : Nat → Nat → Int32} {L : Nat → Nat → Int64} {R : Nat → Nat → Option Nat} (hL : Lay R) {V : VT} (hV : WV V) (hM : MT I V) (ld : Bool) (hld : I 172 1 = b2 (ld = true)) {n : Nat} {h : Nat → SN} (hn : n ≤ 10) (hW : WH V n h) (hH : HMo I n h) (a e u : Int32) : Mt l G mX12_trains (4) 0 0 [.ref (ra G 172), .int a, .int e, .int u] (wd I L R) (aM (a_trains V ld a e u) I R (s_trains V ld n h a e u)) := by
  refine mt_of (own := RX12) (by decide) rfl rfl (fun Z C P B => ?_)
  have D := @dc_of _ _ dX12_trains
  have hE10 := hV.1
  have hA8 := hV.2.1
  refine j_aload_n C (D 0 rfl) rfl ?_
  refine j_iload_n C (D 1 rfl) rfl ?_
  refine j_iload_n C (D 2 rfl) rfl ?_
  refine j_cVp C B k_X12_407 (rc_obj C (lit (kd := 12) (n := 48) rfl) rfl rfl) (d_isBoth _ _ hL (vA V) (vE V) hM.2.1 (by omega) hM.1 (by omega) _ _) rfl rfl rfl rfl ⟨Nat.le_refl _, Nat.le_refl _⟩ (D 3 rfl) ?_
  refine j_if_eq C  21 (D 4 rfl) (by decide) (fun h6 => ?_) (fun h6 => ?_)
  · refine j_bipush C (v := (-2)) (D 11 rfl) rfl ?_
    exact j_iret C P rfl (D 12 rfl) ⟨Nat.le_refl _, Nat.le_refl _⟩ (am0 hM hH (a_trains_f (fun z => b2_eq h6 z.1)).symm (s_trains_f (fun z => b2_eq h6 z.1)).symm)
  · refine j_iload_n C (D 5 rfl) rfl ?_
    refine j_i2l C (D 6 rfl) ?_
    refine j_lconst C (v := 0) (D 7 rfl) rfl ?_
    refine j_ldc2_w C (v := 999) (D 8 rfl) n_X12_428 ?_
    refine j_cSp C B k_X12_99 (d_in _ _ _ _ _ _) rfl rfl rfl rfl ⟨Nat.le_refl _, Nat.le_refl _⟩ (D 9 rfl) ?_
    refine j_if_ne C  24 (D 10 rfl) (by decide) (fun h18 => ?_) (fun h18 => ?_)
    · obtain ⟨⟨a, ha, rfl⟩, ⟨e, he, rfl⟩⟩ := And.intro (inR_n (b2_ne h6).1) (inR_n (b2_ne h6).2)
      have he10 : e < 10 := by omega
      have ha8 : a < 8 := by omega
      obtain ⟨u, hlo, hu, rfl⟩ := wi_n (a := 0) (b := 999) ((wL (by decide) (by decide)).mp (b2_ne h18))
      refine j_aload_n C (D 13 rfl) rfl ?_
      refine j_iload_n C (D 14 rfl) rfl ?_
      refine j_iload_n C (D 15 rfl) rfl ?_
      refine j_iload_n C (D 16 rfl) rfl ?_
      refine j_cVp C B k_X12_430 (rc_obj C (lit (kd := 12) (n := 48) rfl) rfl rfl) (d_trainedOf _ _ hL hV hM a e u ha he hu) rfl rfl rfl rfl ⟨Nat.le_refl _, Nat.le_refl _⟩ (D 17 rfl) ?_
      refine j_istore C (D 18 rfl) rfl ?_
      refine j_iload C (D 19 rfl) rfl ?_
      refine j_aload_n C (D 20 rfl) rfl ?_
      refine j_getr C f_X12_22 (lit (kd := 12) (n := 48) rfl) rfl rfl (hL _ _ _ rfl) (D 21 rfl) ?_
      refine j_bipush C (v := nI 10) (D 22 rfl) rfl ?_
      refine j_iload_n C (D 23 rfl) rfl ?_
      refine j_imul C (D 24 rfl) ?_
      refine j_iload_n C (D 25 rfl) rfl ?_
      refine j_iadd C (D 26 rfl) ?_
      refine j_iald C (lit (kd := 20) (n := 80) rfl) (ix_cell' ha8 he10) (D 27 rfl) ?_
      rw [(hM.2.2.2.2.2.1 a e ha he10).1]
      refine j_icmp_ne C  52 (D 28 rfl) (by decide) (fun h46 => ?_) (fun h46 => ?_)
      · refine j_aload_n C (D 31 rfl) rfl ?_
        refine j_callV C B k_X12_485 (rc_obj C (lit (kd := 12) (n := 48) rfl) rfl rfl) (d_keeps _ _ hL n hn hH.1) rfl rfl rfl rfl ⟨Nat.le_refl _, Nat.le_refl _⟩ (D 32 rfl) ?_
        rintro r w' ⟨rfl, I2, rfl, k0, k1, k2, k3, k4⟩
        have hH2 := keeps_HM hn hV hM hH hW k0 k1 k2 k3
        refine j_aload_n C (D 33 rfl) rfl ?_
        refine j_getr C f_X12_22 (lit (kd := 12) (n := 48) rfl) rfl rfl (hL _ _ _ rfl) (D 34 rfl) ?_
        refine j_bipush C (v := nI 10) (D 35 rfl) rfl ?_
        refine j_iload_n C (D 36 rfl) rfl ?_
        refine j_imul C (D 37 rfl) ?_
        refine j_iload_n C (D 38 rfl) rfl ?_
        refine j_iadd C (D 39 rfl) ?_
        refine j_iload C (D 40 rfl) rfl ?_
        refine j_iast C (lit (kd := 20) (n := 80) rfl) (ix_cell' ha8 he10) (D 41 rfl) ?_
        refine j_iload C (D 42 rfl) rfl ?_
        exact j_iret C P rfl (D 43 rfl) ⟨Nat.le_refl _, Nat.le_refl _⟩ (by rw [s_trains_t ⟨(b2_ne h6), ((wL (by decide) (by decide)).mp (b2_ne h18))⟩, tn_n (by omega), tn_n (by omega), tn_n (by omega), mkS, if_neg (fun z => h46 z.symm)]; exact aM_mk ha8 he10 hM hH2 k4 (by rw [a_trains_t ⟨(b2_ne h6), ((wL (by decide) (by decide)).mp (b2_ne h18))⟩, tn_n (by omega), tn_n (by omega), tn_n (by omega)]))
      · refine j_iload C (D 29 rfl) rfl ?_
        exact j_iret C P rfl (D 30 rfl) ⟨Nat.le_refl _, Nat.le_refl _⟩ (am0 hM hH (by rw [a_trains_t ⟨(b2_ne h6), ((wL (by decide) (by decide)).mp (b2_ne h18))⟩, tn_n (by omega), tn_n (by omega), tn_n (by omega)]) (by rw [s_trains_t ⟨(b2_ne h6), ((wL (by decide) (by decide)).mp (b2_ne h18))⟩, tn_n (by omega), tn_n (by omega), tn_n (by omega), mkS, if_pos h46.symm]))
    · refine j_bipush C (v := (-2)) (D 11 rfl) rfl ?_
      exact j_iret C P rfl (D 12 rfl) ⟨Nat.le_refl _, Nat.le_refl _⟩ (am0 hM hH (a_trains_f (fun z => b2_eq h18 ((wL (by decide) (by decide)).mpr z.2))).symm (s_trains_f (fun z => b2_eq h18 ((wL (by decide) (by decide)).mpr z.2))).symm)
set_option maxRecDepth 20000 in
theorem d_gainQ (l : Launch) (G : GT) {I : Nat → Nat → Int32} {L : Nat → Nat → Int64} {R : Nat → Nat → Option Nat} (hL : Lay R) {V : VT} (hV : WV V) (hM : MT I V) (ld : Bool) (hld : I 172 1 = b2 (ld = true)) {n : Nat} {h : Nat → SN} (hn : n ≤ 10) (hW : WH V n h) (hH : HMo I n h) (a e g u : Int32) : Mt l G mX12_gain (4) 0 0 [.ref (ra G 172), .int a, .int e, .int g, .int u] (wd I L R) (aM (a_gain V ld a e g u) I R (s_gain V ld n h a e g u)) := by
  refine mt_of (own := RX12) (by decide) rfl rfl (fun Z C P B => ?_)
  have D := @dc_of _ _ dX12_gain
  have hE10 := hV.1
  have hA8 := hV.2.1
  refine j_aload_n C (D 0 rfl) rfl ?_
  refine j_iload_n C (D 1 rfl) rfl ?_
  refine j_iload_n C (D 2 rfl) rfl ?_
  refine j_cVp C B k_X12_407 (rc_obj C (lit (kd := 12) (n := 48) rfl) rfl rfl) (d_isBoth _ _ hL (vA V) (vE V) hM.2.1 (by omega) hM.1 (by omega) _ _) rfl rfl rfl rfl ⟨Nat.le_refl _, Nat.le_refl _⟩ (D 3 rfl) ?_
  refine j_if_eq C  29 (D 4 rfl) (by decide) (fun h6 => ?_) (fun h6 => ?_)
  · refine j_bipush C (v := (-2)) (D 14 rfl) rfl ?_
    exact j_iret C P rfl (D 15 rfl) ⟨Nat.le_refl _, Nat.le_refl _⟩ (am0 hM hH (a_gain_f (fun z => b2_eq h6 z.1)).symm (s_gain_f (fun z => b2_eq h6 z.1)).symm)
  · refine j_iload_n C (D 5 rfl) rfl ?_
    refine j_cSp C B k_X12_347 (d_isMark _ _ _ _) rfl rfl rfl rfl ⟨Nat.le_refl _, Nat.le_refl _⟩ (D 6 rfl) ?_
    refine j_if_eq C  29 (D 7 rfl) (by decide) (fun h13 => ?_) (fun h13 => ?_)
    · refine j_bipush C (v := (-2)) (D 14 rfl) rfl ?_
      exact j_iret C P rfl (D 15 rfl) ⟨Nat.le_refl _, Nat.le_refl _⟩ (am0 hM hH (a_gain_f (fun z => b2_eq h13 ((wC (by decide) (by decide)).mpr z.2.1))).symm (s_gain_f (fun z => b2_eq h13 ((wC (by decide) (by decide)).mpr z.2.1))).symm)
    · refine j_iload C (D 8 rfl) rfl ?_
      refine j_i2l C (D 9 rfl) ?_
      refine j_lconst C (v := 1) (D 10 rfl) rfl ?_
      refine j_ldc2_w C (v := 999) (D 11 rfl) n_X12_428 ?_
      refine j_cSp C B k_X12_99 (d_in _ _ _ _ _ _) rfl rfl rfl rfl ⟨Nat.le_refl _, Nat.le_refl _⟩ (D 12 rfl) ?_
      refine j_if_ne C  32 (D 13 rfl) (by decide) (fun h26 => ?_) (fun h26 => ?_)
      · obtain ⟨⟨a, ha, rfl⟩, ⟨e, he, rfl⟩⟩ := And.intro (inR_n (b2_ne h6).1) (inR_n (b2_ne h6).2)
        have he10 : e < 10 := by omega
        have ha8 : a < 8 := by omega
        refine j_bipush C (v := nI 10) (D 16 rfl) rfl ?_
        refine j_iload_n C (D 17 rfl) rfl ?_
        refine j_imul C (D 18 rfl) ?_
        refine j_iload_n C (D 19 rfl) rfl ?_
        refine j_iadd C (D 20 rfl) ?_
        refine j_istore C (D 21 rfl) rfl ?_
        refine j_aload_n C (D 22 rfl) rfl ?_
        refine j_getr C f_X12_25 (lit (kd := 12) (n := 48) rfl) rfl rfl (hL _ _ _ rfl) (D 23 rfl) ?_
        refine j_iload C (D 24 rfl) rfl ?_
        refine j_iald C (lit (kd := 20) (n := 80) rfl) (ix_cell' ha8 he10) (D 25 rfl) ?_
        rw [(hM.2.2.2.2.2.1 a e ha he10).2.1]
        refine j_istore C (D 26 rfl) rfl ?_
        refine j_iload C (D 27 rfl) rfl ?_
        refine j_iload_n C (D 28 rfl) rfl ?_
        refine j_icmp_ne C  70 (D 29 rfl) (by decide) (fun h52 => ?_) (fun h52 => ?_)
        · refine j_aload_n C (D 38 rfl) rfl ?_
          refine j_callV C B k_X12_485 (rc_obj C (lit (kd := 12) (n := 48) rfl) rfl rfl) (d_keeps _ _ hL n hn hH.1) rfl rfl rfl rfl ⟨Nat.le_refl _, Nat.le_refl _⟩ (D 39 rfl) ?_
          rintro r w' ⟨rfl, I2, rfl, k0, k1, k2, k3, k4⟩
          have hH2 := keeps_HM hn hV hM hH hW k0 k1 k2 k3
          refine j_aload_n C (D 40 rfl) rfl ?_
          refine j_getr C f_X12_25 (lit (kd := 12) (n := 48) rfl) rfl rfl (hL _ _ _ rfl) (D 41 rfl) ?_
          refine j_iload C (D 42 rfl) rfl ?_
          refine j_iload_n C (D 43 rfl) rfl ?_
          refine j_iast C (lit (kd := 20) (n := 80) rfl) (ix_cell' ha8 he10) (D 44 rfl) ?_
          refine j_aload_n C (D 45 rfl) rfl ?_
          refine j_getr C f_X12_28 (lit (kd := 12) (n := 48) rfl) rfl rfl (hL _ _ _ rfl) (D 46 rfl) ?_
          refine j_iload C (D 47 rfl) rfl ?_
          refine j_iload C (D 48 rfl) rfl ?_
          refine j_iast C (lit (kd := 20) (n := 80) rfl) (ix_cell' ha8 he10) (D 49 rfl) ?_
          refine j_iload C (D 50 rfl) rfl ?_
          exact j_iret C P rfl (D 51 rfl) ⟨Nat.le_refl _, Nat.le_refl _⟩ (by rw [s_gain_t ⟨(b2_ne h6), ((wC (by decide) (by decide)).mp (b2_ne h13)), ((wL (by decide) (by decide)).mp (b2_ne h26))⟩, tn_n (by omega), tn_n (by omega), gnS, if_neg (fun z => h52 z.1)]; exact aM_gn ha8 he10 hM hH2 k4 (by rw [a_gain_t ⟨(b2_ne h6), ((wC (by decide) (by decide)).mp (b2_ne h13)), ((wL (by decide) (by decide)).mp (b2_ne h26))⟩, tn_n (by omega), tn_n (by omega)]))
        · refine j_aload_n C (D 30 rfl) rfl ?_
          refine j_getr C f_X12_28 (lit (kd := 12) (n := 48) rfl) rfl rfl (hL _ _ _ rfl) (D 31 rfl) ?_
          refine j_iload C (D 32 rfl) rfl ?_
          refine j_iald C (lit (kd := 20) (n := 80) rfl) (ix_cell' ha8 he10) (D 33 rfl) ?_
          rw [(hM.2.2.2.2.2.1 a e ha he10).2.2]
          refine j_iload C (D 34 rfl) rfl ?_
          refine j_icmp_ne C  70 (D 35 rfl) (by decide) (fun h64 => ?_) (fun h64 => ?_)
          · refine j_aload_n C (D 38 rfl) rfl ?_
            refine j_callV C B k_X12_485 (rc_obj C (lit (kd := 12) (n := 48) rfl) rfl rfl) (d_keeps _ _ hL n hn hH.1) rfl rfl rfl rfl ⟨Nat.le_refl _, Nat.le_refl _⟩ (D 39 rfl) ?_
            rintro r w' ⟨rfl, I2, rfl, k0, k1, k2, k3, k4⟩
            have hH2 := keeps_HM hn hV hM hH hW k0 k1 k2 k3
            refine j_aload_n C (D 40 rfl) rfl ?_
            refine j_getr C f_X12_25 (lit (kd := 12) (n := 48) rfl) rfl rfl (hL _ _ _ rfl) (D 41 rfl) ?_
            refine j_iload C (D 42 rfl) rfl ?_
            refine j_iload_n C (D 43 rfl) rfl ?_
            refine j_iast C (lit (kd := 20) (n := 80) rfl) (ix_cell' ha8 he10) (D 44 rfl) ?_
            refine j_aload_n C (D 45 rfl) rfl ?_
            refine j_getr C f_X12_28 (lit (kd := 12) (n := 48) rfl) rfl rfl (hL _ _ _ rfl) (D 46 rfl) ?_
            refine j_iload C (D 47 rfl) rfl ?_
            refine j_iload C (D 48 rfl) rfl ?_
            refine j_iast C (lit (kd := 20) (n := 80) rfl) (ix_cell' ha8 he10) (D 49 rfl) ?_
            refine j_iload C (D 50 rfl) rfl ?_
            exact j_iret C P rfl (D 51 rfl) ⟨Nat.le_refl _, Nat.le_refl _⟩ (by rw [s_gain_t ⟨(b2_ne h6), ((wC (by decide) (by decide)).mp (b2_ne h13)), ((wL (by decide) (by decide)).mp (b2_ne h26))⟩, tn_n (by omega), tn_n (by omega), gnS, if_neg (fun z => h64 z.2)]; exact aM_gn ha8 he10 hM hH2 k4 (by rw [a_gain_t ⟨(b2_ne h6), ((wC (by decide) (by decide)).mp (b2_ne h13)), ((wL (by decide) (by decide)).mp (b2_ne h26))⟩, tn_n (by omega), tn_n (by omega)]))
          · refine j_iload C (D 36 rfl) rfl ?_
            exact j_iret C P rfl (D 37 rfl) ⟨Nat.le_refl _, Nat.le_refl _⟩ (am0 hM hH (by rw [a_gain_t ⟨(b2_ne h6), ((wC (by decide) (by decide)).mp (b2_ne h13)), ((wL (by decide) (by decide)).mp (b2_ne h26))⟩, tn_n (by omega), tn_n (by omega)]) (by rw [s_gain_t ⟨(b2_ne h6), ((wC (by decide) (by decide)).mp (b2_ne h13)), ((wL (by decide) (by decide)).mp (b2_ne h26))⟩, tn_n (by omega), tn_n (by omega), gnS, if_pos ⟨h52, h64⟩]))
      · refine j_bipush C (v := (-2)) (D 14 rfl) rfl ?_
        exact j_iret C P rfl (D 15 rfl) ⟨Nat.le_refl _, Nat.le_refl _⟩ (am0 hM hH (a_gain_f (fun z => b2_eq h26 ((wL (by decide) (by decide)).mpr z.2.2))).symm (s_gain_f (fun z => b2_eq h26 ((wL (by decide) (by decide)).mpr z.2.2))).symm)
