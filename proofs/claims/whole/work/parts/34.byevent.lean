/-! hours over the EVENTS of an ATHLETE, and over the ATHLETES -/
def evW (V : VT) (a e h : Nat) : Nat := (pts (vev V e) (trS (vev V e) (vmk V a e) (vgo V a e) (vgi V a e) h)).toInt.toNat
theorem evW_i {V : VT} (hV : WV V) (a e h : Nat) (he : e < vE V) : pts (vev V e) (trS (vev V e) (vmk V a e) (vgo V a e) (vgi V a e) h) = nI (evW V a e h) := by
  have q := pts_rng (hV.2.2.2.2.1 e he) (trS (vev V e) (vmk V a e) (vgo V a e) (vgi V a e) h)
  obtain ⟨n, h1, h2, h3⟩ := i_nat q.1
  unfold evW
  rw [h3, h2]; rfl
theorem evW_le {V : VT} (hV : WV V) (a e h : Nat) (he : e < vE V) : evW V a e h ≤ 2000 := by
  have q := pts_rng (hV.2.2.2.2.1 e he) (trS (vev V e) (vmk V a e) (vgo V a e) (vgi V a e) h)
  unfold evW; omega
theorem evW_M {V : VT} (hV : WV V) (a n : Nat) : HM (evW V a) (vE V) n := fun r h hr _ => by have := evW_le hV a r h hr; omega
def sqW (V : VT) (a h : Nat) : Nat := mstS (evW V a) (vE V) h
theorem sqW_le {V : VT} (hV : WV V) (a h : Nat) : sqW V a h ≤ 20000 := by
  unfold sqW mstS
  by_cases c : vE V = 0
  · rw [if_pos c]; omega
  · rw [if_neg c]
    have h1 := bsR_le (W := evW V a) (M := 2000) (m := vE V - 1) (r := 0) (h := h) (fun i k hi _ => evW_le hV a i k (by omega))
    have h2 : (vE V - 1 + 1) * 2000 ≤ 10 * 2000 := Nat.mul_le_mul_right _ (by have := hV.1; omega)
    omega
theorem sqW_M {V : VT} (hV : WV V) (n : Nat) : HM (sqW V) (vA V) n := fun r h _ _ => sqW_le hV r h
def FrE (I I' : Nat → Nat → Int32) : Prop := ∀ b j, ¬ (125 ≤ b ∧ b ≤ 147) → I' b j = I b j
theorem FrE.S {I I' : Nat → Nat → Int32} (h : FrE I I') : FrS I I' := fun b j hb => h b j (fun z => hb (by unfold scr; omega))
theorem FrH.E {I I' : Nat → Nat → Int32} (h : FrH 125 I I') : FrE I I' := fun b j hb => h b j (by omega) (by omega)
theorem FrE.tr {I I' I'' : Nat → Nat → Int32} (h : FrE I I') (h' : FrE I' I'') : FrE I I'' := fun b j h1 => (h' b j h1).trans (h b j h1)
theorem h125 : isH 125 := Or.inl rfl
theorem h148 : isH 148 := Or.inr rfl
set_option maxRecDepth 20000 in
theorem c_shareByEvent (l : Launch) (G : GT) {c : Nat} (hc : isC c) {I : Nat → Nat → Int32} {L : Nat → Nat → Int64} {R : Nat → Nat → Option Nat} (hL : Lay R) (h5 : R 0 5 = some c) {V : VT} (hV : WV V) (hT : CT I c V) (a n : Nat) (ha : a < vA V) (hn : n ≤ 60) : Mt l G mX11_shareByEvent (4) 0 0 [.ref (ra G 0), .int (nI a), .int (nI n)] (wd I L R) (fun r w' => r = none ∧ ∃ I', w' = wd I' L R ∧ FrE I I' ∧ HR I' 125 (evW V a) (vE V) n ∧ I' 125 2 = nI (vE V) ∧ HB I' 125 (evW V a) (vE V) n 0) := by
  refine mt_of (own := RX11) (by decide) rfl rfl (fun Z C P B => ?_)
  have D := @dc_of _ _ dX11_shareByEvent
  have hE10 := hV.1
  have Lp : ∀ (m e : Nat) (x4 : Option Value) (I1 : Nat → Nat → Int32), e + m = vE V → FrE I I1 → HR I1 125 (evW V a) e n → J Z (0, 0) 2 [some (.ref (ra G 0)), some (.int (nI a)), some (.int (nI n)), some (.int (nI e)), x4] [] (wd I1 L R) := by
    intro m
    induction m with
    | zero =>
      intro e x4 I1 he hF hR
      have hT1 := CT_fr hc hT hF.S hE10
      have hRw : HR I1 125 (evW V a) (vE V) n := fun r h q1 q2 => hR r h (by omega) q2
      refine j_iload_n C (D 2 rfl) rfl ?_
      refine j_aload_n C (D 3 rfl) rfl ?_
      refine j_getr C f_X11_37 (lit (kd := 11) (n := 12) rfl) rfl rfl h5 (D 4 rfl) ?_
      refine j_geti C f_X11_98 (sC0 hc) rfl rfl (D 5 rfl) ?_
      rw [hT1.1]
      refine j_icmp_ge C  57 (D 6 rfl) (by decide) (fun h10 => ?_) (fun h10 => absurd h10 (fun z => z ((nle (by omega) (by omega)).mpr (by omega))))
      refine j_aload_n C (D 29 rfl) rfl ?_
      refine j_getr C f_X11_58 (lit (kd := 11) (n := 12) rfl) rfl rfl (hL _ _ _ rfl) (D 30 rfl) ?_
      refine j_aload_n C (D 31 rfl) rfl ?_
      refine j_getr C f_X11_37 (lit (kd := 11) (n := 12) rfl) rfl rfl h5 (D 32 rfl) ?_
      refine j_geti C f_X11_98 (sC0 hc) rfl rfl (D 33 rfl) ?_
      refine j_iload_n C (D 34 rfl) rfl ?_
      rw [hT1.1]
      refine j_callV C B k_X11_361 (rc_obj C (lit (kd := 6) (n := 3) rfl) rfl rfl) (c_settle _ _ h125 hL (evW V a) (vE V) n hE10 hn (evW_M hV a n) hRw) rfl rfl rfl rfl ⟨Nat.le_refl _, Nat.le_refl _⟩ (D 35 rfl) ?_
      rintro r w' ⟨rfl, I2, rfl, hF2, h22, hB2⟩
      exact j_vret C P rfl (D 36 rfl) ⟨Nat.le_refl _, Nat.le_refl _⟩ ⟨rfl, I2, rfl, hF.tr hF2.E, fun r h q1 q2 => by rw [hF2 _ _ (by omega) (by omega)]; exact hRw r h q1 q2, h22, hB2⟩
    | succ m ih =>
      intro e x4 I1 he hF hR
      have hT1 := CT_fr hc hT hF.S hE10
      have he10 : e < 10 := by omega
      have Lp2 : ∀ (m h : Nat) (I2 : Nat → Nat → Int32), h + m = n + 1 → FrE I I2 → HR I2 125 (evW V a) e n → (∀ h9, h9 < h → I2 (125 + 2 + e) h9 = nI (evW V a e h9)) → J Z (0, 0) 16 [some (.ref (ra G 0)), some (.int (nI a)), some (.int (nI n)), some (.int (nI e)), some (.int (nI h))] [] (wd I2 L R) := by
        intro m
        induction m with
        | zero =>
          intro h I2 hh hF hR hR2
          refine j_iload C (D 9 rfl) rfl ?_
          refine j_iload_n C (D 10 rfl) rfl ?_
          refine j_icmp_gt C  51 (D 11 rfl) (by decide) (fun h19 => ?_) (fun h19 => absurd h19 (fun z => z ((nlt (by omega) (by omega)).mpr (by omega))))
          first | refine j_iinc1 C (D 27 rfl) rfl rfl ?_ | refine j_iinc C (D 27 rfl) rfl rfl rfl ?_
          refine j_goto C 2 (D 28 rfl) (by decide) ?_
          exact ih (e + 1) _ I2 (by omega) hF (fun r h q1 q2 => by
            by_cases q : r = e
            · rw [q]; exact hR2 h (by omega)
            · exact hR r h (by omega) q2)
        | succ m ih2 =>
          intro h I2 hh hF hR hR2
          have hT2 := CT_fr hc hT hF.S hE10
          refine j_iload C (D 9 rfl) rfl ?_
          refine j_iload_n C (D 10 rfl) rfl ?_
          refine j_icmp_gt C  51 (D 11 rfl) (by decide) (fun h19 => absurd h19 (fun z => by rw [nlt (by omega) (by omega)] at z; omega)) (fun h19 => ?_)
          refine j_aload_n C (D 12 rfl) rfl ?_
          refine j_getr C f_X11_58 (lit (kd := 11) (n := 12) rfl) rfl rfl (hL _ _ _ rfl) (D 13 rfl) ?_
          refine j_getr C f_X11_357 (lit (kd := 6) (n := 3) rfl) rfl rfl (hL _ _ _ rfl) (D 14 rfl) ?_
          refine j_iload_n C (D 15 rfl) rfl ?_
          refine j_aald C (kd := 3) (lit (kd := 27) (n := 10) rfl) rfl (ix_n (by omega) (by decide)) (hL _ _ _ (rHrA h125 he10)) (D 16 rfl) ?_
          refine j_iload C (D 17 rfl) rfl ?_
          refine j_aload_n C (D 18 rfl) rfl ?_
          refine j_getr C f_X11_37 (lit (kd := 11) (n := 12) rfl) rfl rfl h5 (D 19 rfl) ?_
          refine j_iload_n C (D 20 rfl) rfl ?_
          refine j_iload_n C (D 21 rfl) rfl ?_
          refine j_iload C (D 22 rfl) rfl ?_
          refine j_cVp C B k_X11_271 (rc_obj C (sC0 hc) rfl rfl) (c_valueAfter _ _ hc hL hV hT2 a e h ha (by omega) (by omega)) rfl rfl rfl rfl ⟨Nat.le_refl _, Nat.le_refl _⟩ (D 23 rfl) ?_
          rw [evW_i hV a e h (by omega)]
          refine j_iast C (sHrA h125 he10) (ix_n (by omega) (by decide)) (D 24 rfl) ?_
          first | refine j_iinc1 C (D 25 rfl) rfl rfl ?_ | refine j_iinc C (D 25 rfl) rfl rfl rfl ?_
          refine j_goto C 16 (D 26 rfl) (by decide) ?_
          exact ih2 (h + 1) _ (by omega) (fun b j q => by rw [up2_i (by omega)]; exact hF b j q) (fun r h9 q1 q2 => by rw [up2_i (by omega)]; exact hR r h9 q1 q2) (fun h9 q1 => by
            by_cases q : h9 = h
            · rw [q, up2_same]
            · rw [up2_i (by omega)]; exact hR2 h9 (by omega))
      refine j_iload_n C (D 2 rfl) rfl ?_
      refine j_aload_n C (D 3 rfl) rfl ?_
      refine j_getr C f_X11_37 (lit (kd := 11) (n := 12) rfl) rfl rfl h5 (D 4 rfl) ?_
      refine j_geti C f_X11_98 (sC0 hc) rfl rfl (D 5 rfl) ?_
      rw [hT1.1]
      refine j_icmp_ge C  57 (D 6 rfl) (by decide) (fun h10 => absurd h10 (fun z => by rw [nle (by omega) (by omega)] at z; omega)) (fun h10 => ?_)
      refine j_iconst C (v := nI 0) (D 7 rfl) rfl ?_
      refine j_istore C (D 8 rfl) rfl ?_
      exact Lp2 (n + 1) 0 I1 (by omega) hF hR (fun h hh => absurd hh (by omega))
  refine j_iconst C (v := nI 0) (D 0 rfl) rfl ?_
  refine j_istore_n C (D 1 rfl) rfl ?_
  exact Lp (vE V) 0 _ _ (by omega) (fun _ _ _ => rfl) (fun r h q => absurd q (by omega))
def FrA (I I' : Nat → Nat → Int32) : Prop := ∀ b j, ¬ (125 ≤ b ∧ b ≤ 170) → I' b j = I b j
theorem FrA.S {I I' : Nat → Nat → Int32} (h : FrA I I') : FrS I I' := fun b j hb => h b j (fun z => hb (by unfold scr; omega))
theorem FrE.A {I I' : Nat → Nat → Int32} (h : FrE I I') : FrA I I' := fun b j hb => h b j (by omega)
theorem FrH.A {I I' : Nat → Nat → Int32} (h : FrH 148 I I') : FrA I I' := fun b j hb => h b j (by omega) (by omega)
theorem FrA.tr {I I' I'' : Nat → Nat → Int32} (h : FrA I I') (h' : FrA I' I'') : FrA I I'' := fun b j h1 => (h' b j h1).trans (h b j h1)
set_option maxRecDepth 20000 in
theorem c_shareByAthlete (l : Launch) (G : GT) {c : Nat} (hc : isC c) {I : Nat → Nat → Int32} {L : Nat → Nat → Int64} {R : Nat → Nat → Option Nat} (hL : Lay R) (h5 : R 0 5 = some c) {V : VT} (hV : WV V) (hT : CT I c V) (n : Nat) (hn : n ≤ 60) : Mt l G mX11_shareByAthlete (5) 0 0 [.ref (ra G 0), .int (nI n)] (wd I L R) (fun r w' => r = none ∧ ∃ I', w' = wd I' L R ∧ FrA I I' ∧ HR I' 148 (sqW V) (vA V) n ∧ I' 148 2 = nI (vA V) ∧ HB I' 148 (sqW V) (vA V) n 0) := by
  refine mt_of (own := RX11) (by decide) rfl rfl (fun Z C P B => ?_)
  have D := @dc_of _ _ dX11_shareByAthlete
  have hE10 := hV.1
  have hA8 := hV.2.1
  have Lp : ∀ (m a : Nat) (x4 : Option Value) (I1 : Nat → Nat → Int32), a + m = vA V → FrA I I1 → HR I1 148 (sqW V) a n → J Z (0, 0) 2 [some (.ref (ra G 0)), some (.int (nI n)), some (.int (nI a)), x4] [] (wd I1 L R) := by
    intro m
    induction m with
    | zero =>
      intro a x4 I1 ha hF hR
      have hT1 := CT_fr hc hT hF.S hE10
      have hRw : HR I1 148 (sqW V) (vA V) n := fun r h q1 q2 => hR r h (by omega) q2
      refine j_iload_n C (D 2 rfl) rfl ?_
      refine j_aload_n C (D 3 rfl) rfl ?_
      refine j_getr C f_X11_37 (lit (kd := 11) (n := 12) rfl) rfl rfl h5 (D 4 rfl) ?_
      refine j_geti C f_X11_101 (sC0 hc) rfl rfl (D 5 rfl) ?_
      rw [hT1.2.1]
      refine j_icmp_ge C  57 (D 6 rfl) (by decide) (fun h10 => ?_) (fun h10 => absurd h10 (fun z => z ((nle (by omega) (by omega)).mpr (by omega))))
      refine j_aload_n C (D 31 rfl) rfl ?_
      refine j_getr C f_X11_62 (lit (kd := 11) (n := 12) rfl) rfl rfl (hL _ _ _ rfl) (D 32 rfl) ?_
      refine j_aload_n C (D 33 rfl) rfl ?_
      refine j_getr C f_X11_37 (lit (kd := 11) (n := 12) rfl) rfl rfl h5 (D 34 rfl) ?_
      refine j_geti C f_X11_101 (sC0 hc) rfl rfl (D 35 rfl) ?_
      refine j_iload_n C (D 36 rfl) rfl ?_
      rw [hT1.2.1]
      refine j_callV C B k_X11_361 (rc_obj C (lit (kd := 6) (n := 3) rfl) rfl rfl) (c_settle _ _ h148 hL (sqW V) (vA V) n (by omega) hn (sqW_M hV n) hRw) rfl rfl rfl rfl ⟨Nat.le_refl _, Nat.le_refl _⟩ (D 37 rfl) ?_
      rintro r w' ⟨rfl, I2, rfl, hF2, h22, hB2⟩
      exact j_vret C P rfl (D 38 rfl) ⟨Nat.le_refl _, Nat.le_refl _⟩ ⟨rfl, I2, rfl, hF.tr hF2.A, fun r h q1 q2 => by rw [hF2 _ _ (by omega) (by omega)]; exact hRw r h q1 q2, h22, hB2⟩
    | succ m ih =>
      intro a x4 I1 ha hF hR
      have hT1 := CT_fr hc hT hF.S hE10
      have ha10 : a < 10 := by omega
      have Lp2 : ∀ (m h : Nat) (I2 : Nat → Nat → Int32), h + m = n + 1 → FrA I I2 → HR I2 148 (sqW V) a n → (∀ h9, h9 < h → I2 (148 + 2 + a) h9 = nI (sqW V a h9)) → HR I2 125 (evW V a) (vE V) n → I2 125 2 = nI (vE V) → HB I2 125 (evW V a) (vE V) n 0 → J Z (0, 0) 21 [some (.ref (ra G 0)), some (.int (nI n)), some (.int (nI a)), some (.int (nI h))] [] (wd I2 L R) := by
        intro m
        induction m with
        | zero =>
          intro h I2 hh hF hR hR2 k1 k2 k3
          refine j_iload_n C (D 13 rfl) rfl ?_
          refine j_iload_n C (D 14 rfl) rfl ?_
          refine j_icmp_gt C  51 (D 15 rfl) (by decide) (fun h23 => ?_) (fun h23 => absurd h23 (fun z => z ((nlt (by omega) (by omega)).mpr (by omega))))
          first | refine j_iinc1 C (D 29 rfl) rfl rfl ?_ | refine j_iinc C (D 29 rfl) rfl rfl rfl ?_
          refine j_goto C 2 (D 30 rfl) (by decide) ?_
          exact ih (a + 1) _ I2 (by omega) hF (fun r h q1 q2 => by
            by_cases q : r = a
            · rw [q]; exact hR2 h (by omega)
            · exact hR r h (by omega) q2)
        | succ m ih2 =>
          intro h I2 hh hF hR hR2 k1 k2 k3
          refine j_iload_n C (D 13 rfl) rfl ?_
          refine j_iload_n C (D 14 rfl) rfl ?_
          refine j_icmp_gt C  51 (D 15 rfl) (by decide) (fun h23 => absurd h23 (fun z => by rw [nlt (by omega) (by omega)] at z; omega)) (fun h23 => ?_)
          refine j_aload_n C (D 16 rfl) rfl ?_
          refine j_getr C f_X11_62 (lit (kd := 11) (n := 12) rfl) rfl rfl (hL _ _ _ rfl) (D 17 rfl) ?_
          refine j_getr C f_X11_357 (lit (kd := 6) (n := 3) rfl) rfl rfl (hL _ _ _ rfl) (D 18 rfl) ?_
          refine j_iload_n C (D 19 rfl) rfl ?_
          refine j_aald C (kd := 3) (lit (kd := 27) (n := 10) rfl) rfl (ix_n (by omega) (by decide)) (hL _ _ _ (rHrA h148 ha10)) (D 20 rfl) ?_
          refine j_iload_n C (D 21 rfl) rfl ?_
          refine j_aload_n C (D 22 rfl) rfl ?_
          refine j_getr C f_X11_58 (lit (kd := 11) (n := 12) rfl) rfl rfl (hL _ _ _ rfl) (D 23 rfl) ?_
          refine j_iload_n C (D 24 rfl) rfl ?_
          refine j_cVp C B k_X11_277 (rc_obj C (lit (kd := 6) (n := 3) rfl) rfl rfl) (c_mostFor _ _ h125 hL (evW V a) (vE V) n hE10 hn (evW_M hV a n) k1 k2 k3 h (by omega)) rfl rfl rfl rfl ⟨Nat.le_refl _, Nat.le_refl _⟩ (D 25 rfl) ?_
          refine j_iast C (sHrA h148 ha10) (ix_n (by omega) (by decide)) (D 26 rfl) ?_
          first | refine j_iinc1 C (D 27 rfl) rfl rfl ?_ | refine j_iinc C (D 27 rfl) rfl rfl rfl ?_
          refine j_goto C 21 (D 28 rfl) (by decide) ?_
          exact ih2 (h + 1) _ (by omega) (fun b j q => by rw [up2_i (by omega)]; exact hF b j q) (fun r h9 q1 q2 => by rw [up2_i (by omega)]; exact hR r h9 q1 q2) (fun h9 q1 => by
            by_cases q : h9 = h
            · rw [q, up2_same]; rfl
            · rw [up2_i (by omega)]; exact hR2 h9 (by omega)) (fun r h9 q1 q2 => by rw [up2_i (by omega)]; exact k1 r h9 q1 q2) (by rw [up2_i (by omega)]; exact k2) (fun r h9 q0 q1 q2 => by rw [up2_i (by omega)]; exact k3 r h9 q0 q1 q2)
      refine j_iload_n C (D 2 rfl) rfl ?_
      refine j_aload_n C (D 3 rfl) rfl ?_
      refine j_getr C f_X11_37 (lit (kd := 11) (n := 12) rfl) rfl rfl h5 (D 4 rfl) ?_
      refine j_geti C f_X11_101 (sC0 hc) rfl rfl (D 5 rfl) ?_
      rw [hT1.2.1]
      refine j_icmp_ge C  57 (D 6 rfl) (by decide) (fun h10 => absurd h10 (fun z => by rw [nle (by omega) (by omega)] at z; omega)) (fun h10 => ?_)
      refine j_aload_n C (D 7 rfl) rfl ?_
      refine j_iload_n C (D 8 rfl) rfl ?_
      refine j_iload_n C (D 9 rfl) rfl ?_
      refine j_callV C B k_X11_274 (rc_obj C (lit (kd := 11) (n := 12) rfl) rfl rfl) (c_shareByEvent _ _ hc hL h5 hV hT1 a n (by omega) hn) rfl rfl rfl rfl ⟨Nat.le_refl _, Nat.le_refl _⟩ (D 10 rfl) ?_
      rintro r w' ⟨rfl, I2, rfl, hF2, hR2, h22, hB2⟩
      refine j_iconst C (v := nI 0) (D 11 rfl) rfl ?_
      refine j_istore_n C (D 12 rfl) rfl ?_
      exact Lp2 (n + 1) 0 I2 (by omega) (hF.tr hF2.A) (fun r h q1 q2 => by rw [hF2 _ _ (by omega)]; exact hR r h q1 q2) (fun h hh => absurd hh (by omega)) hR2 h22 hB2
  refine j_iconst C (v := nI 0) (D 0 rfl) rfl ?_
  refine j_istore_n C (D 1 rfl) rfl ?_
  exact Lp (vA V) 0 _ _ (by omega) (fun _ _ _ => rfl) (fun r h q => absurd q (by omega))
