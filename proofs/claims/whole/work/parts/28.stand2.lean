set_option maxRecDepth 20000 in
theorem c_placeOf (l : Launch) (G : GT) {I : Nat → Nat → Int32} {L : Nat → Nat → Int64} {R : Nat → Nat → Option Nat} (hL : Lay R) {V : VT} (hV : WV V) {Pt : Nat → Nat → Int32} {g : Nat → Nat → Bool} (hz : pza V Pt g) (h0 : S0 I V Pt g) (hP : SP I V Pt g) (hF : SF I V Pt) (a : Nat) (ha : a < vA V) : Mt l G mX8_placeOf (3) 0 0 [.ref (ra G 98), .int (nI a)] (wd I L R) (pV (.int (nI (rkS V Pt g a))) (wd I L R)) := by
  refine mt_of (own := RX8) (by decide) rfl rfl (fun Z C P B => ?_)
  have D := @dc_of _ _ dX8_placeOf
  have hA8 := hV.2.1
  have Lp : ∀ (m b : Nat), b + m = vA V → J Z (0, 0) 4 [some (.ref (ra G 98)), some (.int (nI a)), some (.int (nI (cnt (fun b => !decide (b = a) && ahS V Pt g b a) b))), some (.int (nI b))] [] (wd I L R) := by
    intro m
    induction m with
    | zero =>
      intro b hb
      refine j_iload_n C (D 4 rfl) rfl ?_
      refine j_aload_n C (D 5 rfl) rfl ?_
      refine j_geti C f_X8_28 (lit (kd := 8) (n := 6) rfl) rfl rfl (D 6 rfl) ?_
      rw [h0.1]
      refine j_icmp_ge C  40 (D 7 rfl) (by decide) (fun h9 => ?_) (fun h9 => absurd h9 (fun z => z ((nle (by omega) (by omega)).mpr (by omega))))
      refine j_iload_n C (D 24 rfl) rfl ?_
      exact j_iret C P rfl (D 25 rfl) ⟨Nat.le_refl _, Nat.le_refl _⟩ (pv_i (by rw [rkS, show vA V = b by omega]))
    | succ m ih =>
      intro b hb
      refine j_iload_n C (D 4 rfl) rfl ?_
      refine j_aload_n C (D 5 rfl) rfl ?_
      refine j_geti C f_X8_28 (lit (kd := 8) (n := 6) rfl) rfl rfl (D 6 rfl) ?_
      rw [h0.1]
      refine j_icmp_ge C  40 (D 7 rfl) (by decide) (fun h9 => absurd h9 (fun z => by rw [nle (by omega) (by omega)] at z; omega)) (fun h9 => ?_)
      refine j_iload_n C (D 8 rfl) rfl ?_
      refine j_iload_n C (D 9 rfl) rfl ?_
      refine j_iload_n C (D 10 rfl) rfl ?_
      refine j_icmp_eq C  31 (D 11 rfl) (by decide) (fun h15 => ?_) (fun h15 => ?_)
      · refine j_iconst C (v := nI 0) (D 19 rfl) rfl ?_
        refine j_iadd C (D 20 rfl) ?_
        refine j_istore_n C (D 21 rfl) rfl ?_
        first | refine j_iinc1 C (D 22 rfl) rfl rfl ?_ | refine j_iinc C (D 22 rfl) rfl rfl rfl ?_
        refine j_goto C 4 (D 23 rfl) (by decide) ?_
        rw [show nI (cnt (fun b => !decide (b = a) && ahS V Pt g b a) b) + nI 0 = nI (cnt (fun b => !decide (b = a) && ahS V Pt g b a) (b + 1)) by rw [nI_add, cnt_f (by rw [nI_inj (by omega) (by omega) h15]; simp)]; rfl]
        exact ih (b + 1) (by omega)
      · refine j_aload_n C (D 12 rfl) rfl ?_
        refine j_iload_n C (D 13 rfl) rfl ?_
        refine j_iload_n C (D 14 rfl) rfl ?_
        refine j_cVp C B k_X8_126 (rc_obj C (lit (kd := 8) (n := 6) rfl) rfl rfl) (c_isAhead _ _ hL hV hz h0 hP hF b a (by omega) ha) rfl rfl rfl rfl ⟨Nat.le_refl _, Nat.le_refl _⟩ (D 15 rfl) ?_
        refine j_if_eq C  31 (D 16 rfl) (by decide) (fun h24 => ?_) (fun h24 => ?_)
        · refine j_iconst C (v := nI 0) (D 19 rfl) rfl ?_
          refine j_iadd C (D 20 rfl) ?_
          refine j_istore_n C (D 21 rfl) rfl ?_
          first | refine j_iinc1 C (D 22 rfl) rfl rfl ?_ | refine j_iinc C (D 22 rfl) rfl rfl rfl ?_
          refine j_goto C 4 (D 23 rfl) (by decide) ?_
          rw [show nI (cnt (fun b => !decide (b = a) && ahS V Pt g b a) b) + nI 0 = nI (cnt (fun b => !decide (b = a) && ahS V Pt g b a) (b + 1)) by rw [nI_add, cnt_f (by simp; intro _; simpa using b2_eq h24)]; rfl]
          exact ih (b + 1) (by omega)
        · refine j_iconst C (v := nI 1) (D 17 rfl) rfl ?_
          refine j_goto C 32 (D 18 rfl) (by decide) ?_
          refine j_iadd C (D 20 rfl) ?_
          refine j_istore_n C (D 21 rfl) rfl ?_
          first | refine j_iinc1 C (D 22 rfl) rfl rfl ?_ | refine j_iinc C (D 22 rfl) rfl rfl rfl ?_
          refine j_goto C 4 (D 23 rfl) (by decide) ?_
          rw [show nI (cnt (fun b => !decide (b = a) && ahS V Pt g b a) b) + nI 1 = nI (cnt (fun b => !decide (b = a) && ahS V Pt g b a) (b + 1)) by rw [nI_add, cnt_t (by simp; exact ⟨fun q => h15 (by rw [q]), b2_ne h24⟩)]]
          exact ih (b + 1) (by omega)
  refine j_iconst C (v := nI 0) (D 0 rfl) rfl ?_
  refine j_istore_n C (D 1 rfl) rfl ?_
  refine j_iconst C (v := nI 0) (D 2 rfl) rfl ?_
  refine j_istore_n C (D 3 rfl) rfl ?_
  exact Lp (vA V) 0 (by omega)
set_option maxRecDepth 20000 in
theorem c_athleteAt (l : Launch) (G : GT) {I : Nat → Nat → Int32} {L : Nat → Nat → Int64} {R : Nat → Nat → Option Nat} (hL : Lay R) {V : VT} (hV : WV V) {Pt : Nat → Nat → Int32} {g : Nat → Nat → Bool} (hz : pza V Pt g) (h0 : S0 I V Pt g) (hP : SP I V Pt g) (hF : SF I V Pt) (k : Int32) : Mt l G mX8_athleteAt (4) 0 0 [.ref (ra G 98), .int k] (wd I L R) (pV (.int (plS V Pt g k)) (wd I L R)) := by
  refine mt_of (own := RX8) (by decide) rfl rfl (fun Z C P B => ?_)
  have D := @dc_of _ _ dX8_athleteAt
  have hA8 := hV.2.1
  have Lp : ∀ (m a : Nat), a + m = vA V → fst1 (fun a => decide (nI (rkS V Pt g a) = k)) (vA V) 0 = fst1 (fun a => decide (nI (rkS V Pt g a) = k)) m a → J Z (0, 0) 2 [some (.ref (ra G 98)), some (.int k), some (.int (nI a))] [] (wd I L R) := by
    intro m
    induction m with
    | zero =>
      intro a ha hf
      refine j_iload_n C (D 2 rfl) rfl ?_
      refine j_aload_n C (D 3 rfl) rfl ?_
      refine j_geti C f_X8_28 (lit (kd := 8) (n := 6) rfl) rfl rfl (D 4 rfl) ?_
      rw [h0.1]
      refine j_icmp_ge C  27 (D 5 rfl) (by decide) (fun h7 => ?_) (fun h7 => absurd h7 (fun z => z ((nle (by omega) (by omega)).mpr (by omega))))
      refine j_iconst C (v := (-1)) (D 15 rfl) rfl ?_
      exact j_iret C P rfl (D 16 rfl) ⟨Nat.le_refl _, Nat.le_refl _⟩ (pv_i (by rw [plS, hf]; rfl))
    | succ m ih =>
      intro a ha hf
      refine j_iload_n C (D 2 rfl) rfl ?_
      refine j_aload_n C (D 3 rfl) rfl ?_
      refine j_geti C f_X8_28 (lit (kd := 8) (n := 6) rfl) rfl rfl (D 4 rfl) ?_
      rw [h0.1]
      refine j_icmp_ge C  27 (D 5 rfl) (by decide) (fun h7 => absurd h7 (fun z => by rw [nle (by omega) (by omega)] at z; omega)) (fun h7 => ?_)
      refine j_aload_n C (D 6 rfl) rfl ?_
      refine j_iload_n C (D 7 rfl) rfl ?_
      refine j_cVp C B k_X8_130 (rc_obj C (lit (kd := 8) (n := 6) rfl) rfl rfl) (c_placeOf _ _ hL hV hz h0 hP hF a (by omega)) rfl rfl rfl rfl ⟨Nat.le_refl _, Nat.le_refl _⟩ (D 8 rfl) ?_
      refine j_iload_n C (D 9 rfl) rfl ?_
      refine j_icmp_ne C  21 (D 10 rfl) (by decide) (fun h16 => ?_) (fun h16 => ?_)
      · first | refine j_iinc1 C (D 13 rfl) rfl rfl ?_ | refine j_iinc C (D 13 rfl) rfl rfl rfl ?_
        refine j_goto C 2 (D 14 rfl) (by decide) ?_
        exact ih (a + 1) (by omega) (by rw [hf, fst1, if_neg (by simp [h16])])
      · refine j_iload_n C (D 11 rfl) rfl ?_
        exact j_iret C P rfl (D 12 rfl) ⟨Nat.le_refl _, Nat.le_refl _⟩ (pv_i (by rw [plS, hf, fst1, if_pos (by simp [h16])]))
  refine j_iconst C (v := nI 0) (D 0 rfl) rfl ?_
  refine j_istore_n C (D 1 rfl) rfl ?_
  exact Lp (vA V) 0 (by omega) rfl
def ptM (V : VT) (mk : Nat → Nat → Int32) (a e : Nat) : Int32 := pts (vev V e) (mk a e)
def gM (mk : Nat → Nat → Int32) (a e : Nat) : Bool := !decide (mk a e = -1)
theorem pza_M {V : VT} (hV : WV V) (mk : Nat → Nat → Int32) : pza V (ptM V mk) (gM mk) := fun a ha j hj => ⟨pts_rng (hV.2.2.2.2.1 j hj) _, fun q => by
  have q2 : mk a j = -1 := by simpa [gM] using q
  show pts (vev V j) (mk a j) = 0
  rw [pts, ptsZ, if_pos q2]; decide⟩
/-- Standings read by the contest at c -/
def FrN (c : Nat) (I I' : Nat → Nat → Int32) : Prop := ∀ b j, b ≠ 98 → ¬ (101 ≤ b ∧ b ≤ 124) → ¬ (b = c + 5 ∧ j = 7) → b ≠ c + 9 → I' b j = I b j
theorem FrN.S {c : Nat} {I I' : Nat → Nat → Int32} (hc : isC c) (h : FrN c I I') : FrS I I' := fun b j hb => by
  unfold scr at hb
  rcases hc with rfl | rfl <;> exact h b j (by omega) (by omega) (by omega) (by omega)
theorem FrN.tr {c : Nat} {I I' I'' : Nat → Nat → Int32} (h : FrN c I I') (h' : FrN c I' I'') : FrN c I I'' := fun b j h1 h2 h3 h4 => (h' b j h1 h2 h3 h4).trans (h b j h1 h2 h3 h4)
set_option maxRecDepth 20000 in
theorem c_sread (l : Launch) (G : GT) {c : Nat} (hc : isC c) {I : Nat → Nat → Int32} {L : Nat → Nat → Int64} {R : Nat → Nat → Option Nat} (hL : Lay R) {V : VT} (hV : WV V) (hT : CT I c V) (ma : Nat) (mk : Nat → Nat → Int32) (hma : ma < NN ∧ SH ma = (20, 80)) (hmb : ma = c + 2 ∨ ma = 100) (hmk : ∀ a e, a < vA V → e < vE V → I ma (a * 10 + e) = mk a e ∧ okM (mk a e)) : Mt l G mX8_read (4) 0 0 [.ref (ra G 98), .ref (ra G c), .ref (ra G ma)] (wd I L R) (fun r w' => r = none ∧ ∃ I', w' = wd I' L R ∧ FrN c I I' ∧ S0 I' V (ptM V mk) (gM mk) ∧ SP I' V (ptM V mk) (gM mk) ∧ SF I' V (ptM V mk)) := by
  refine mt_of (own := RX8) (by decide) rfl rfl (fun Z C P B => ?_)
  have D := @dc_of _ _ dX8_read
  have hA8 := hV.2.1
  have hE10 := hV.1
  have hcc : c ≤ 55 := by rcases hc with rfl | rfl <;> omega
  have Lp : ∀ (m a : Nat) (I1 : Nat → Nat → Int32), a + m = vA V → FrN c I I1 → (I1 98 1 = nI (vA V) ∧ I1 98 2 = nI (vE V) ∧ I1 98 3 = vt V ∧ ∀ b, b < a → (SC I1 (101 + 3 * b) (ptM V mk b) (gM mk b) (vE V) ∧ SK I1 (101 + 3 * b) (ptM V mk b) (gM mk b) (vE V)) ∧ I1 (101 + 3 * b) 7 = paidS V (ptM V mk b) (gM mk b)) → J Z (0, 0) 26 [some (.ref (ra G 98)), some (.ref (ra G c)), some (.ref (ra G ma)), some (.int (nI a))] [] (wd I1 L R) := by
    intro m
    induction m with
    | zero =>
      intro a I1 ha hFN hI
      refine j_iload_n C (D 14 rfl) rfl ?_
      refine j_aload_n C (D 15 rfl) rfl ?_
      refine j_geti C f_X8_28 (lit (kd := 8) (n := 6) rfl) rfl rfl (D 16 rfl) ?_
      rw [hI.1]
      refine j_icmp_ge C  65 (D 17 rfl) (by decide) (fun h31 => ?_) (fun h31 => absurd h31 (fun z => z ((nle (by omega) (by omega)).mpr (by omega))))
      refine j_aload_n C (D 35 rfl) rfl ?_
      refine j_callV C B k_X8_51 (rc_obj C (lit (kd := 8) (n := 6) rfl) rfl rfl) (c_countFirsts _ _ hL hV (pza_M hV mk) ⟨hI.1, hI.2.1, hI.2.2.1, fun b hb => (hI.2.2.2 b (by omega)).1⟩) rfl rfl rfl rfl ⟨Nat.le_refl _, Nat.le_refl _⟩ (D 36 rfl) ?_
      rintro r w' ⟨rfl, I2, rfl, hF2, hW2⟩
      exact j_vret C P rfl (D 37 rfl) ⟨Nat.le_refl _, Nat.le_refl _⟩ ⟨rfl, I2, rfl, hFN.tr (fun b j q1 q2 q3 q4 => hF2 b j (by omega)), S0_F hF2 hE10 ⟨hI.1, hI.2.1, hI.2.2.1, fun b hb => (hI.2.2.2 b (by omega)).1⟩, fun b hb => by rw [hF2 _ _ (by omega)]; exact (hI.2.2.2 b (by omega)).2, hW2⟩
    | succ m ih =>
      intro a I1 ha hFN hI
      have ha8 : a < 8 := by omega
      refine j_iload_n C (D 14 rfl) rfl ?_
      refine j_aload_n C (D 15 rfl) rfl ?_
      refine j_geti C f_X8_28 (lit (kd := 8) (n := 6) rfl) rfl rfl (D 16 rfl) ?_
      rw [hI.1]
      refine j_icmp_ge C  65 (D 17 rfl) (by decide) (fun h31 => absurd h31 (fun z => by rw [nle (by omega) (by omega)] at z; omega)) (fun h31 => ?_)
      refine j_aload_n C (D 18 rfl) rfl ?_
      refine j_getr C f_X8_11 (lit (kd := 8) (n := 6) rfl) rfl rfl (hL _ _ _ rfl) (D 19 rfl) ?_
      refine j_iload_n C (D 20 rfl) rfl ?_
      refine j_aald C (kd := 2) (lit (kd := 26) (n := 8) rfl) rfl (ix_n ha8 (by decide)) (hL _ _ _ (rSS ha8)) (D 21 rfl) ?_
      refine j_aload_n C (D 22 rfl) rfl ?_
      refine j_aload_n C (D 23 rfl) rfl ?_
      refine j_iload_n C (D 24 rfl) rfl ?_
      refine j_callV C B k_X8_37 (rc_obj C (sS0 (isS_of ha8)) rfl rfl) (c_read _ _ (isS_of ha8) hc hL hV (CT_fr hc hT (hFN.S hc) hV.1) ma a (mk a) hma (by omega) ha8 (fun e he => ⟨by rw [hFN ma _ (by omega) (by omega) (by omega) (by omega)]; exact (hmk a e (by omega) he).1, (hmk a e (by omega) he).2⟩)) rfl rfl rfl rfl ⟨Nat.le_refl _, Nat.le_refl _⟩ (D 25 rfl) ?_
      rintro r w' ⟨rfl, I2, rfl, hF2, hS2, hK2⟩
      refine j_aload_n C (D 26 rfl) rfl ?_
      refine j_getr C f_X8_41 (sC0 hc) rfl rfl (hL _ _ _ (rC4 hc)) (D 27 rfl) ?_
      refine j_aload_n C (D 28 rfl) rfl ?_
      refine j_getr C f_X8_11 (lit (kd := 8) (n := 6) rfl) rfl rfl (hL _ _ _ rfl) (D 29 rfl) ?_
      refine j_iload_n C (D 30 rfl) rfl ?_
      refine j_aald C (kd := 2) (lit (kd := 26) (n := 8) rfl) rfl (ix_n ha8 (by decide)) (hL _ _ _ (rSS ha8)) (D 31 rfl) ?_
      refine j_callV C B k_X8_45 (rc_obj C (sC5 hc) rfl rfl) (c_pay _ _ hc (isS_of ha8) hL hV (CT_fr hc (CT_fr hc hT (hFN.S hc) hV.1) (hF2.S (isS_of ha8)) hV.1) (pza_M hV mk a (by omega)) hS2 hK2) rfl rfl rfl rfl ⟨Nat.le_refl _, Nat.le_refl _⟩ (D 32 rfl) ?_
      rintro r w' ⟨rfl, I3, rfl, hF3, hp3⟩
      first | refine j_iinc1 C (D 33 rfl) rfl rfl ?_ | refine j_iinc C (D 33 rfl) rfl rfl rfl ?_
      refine j_goto C 26 (D 34 rfl) (by decide) ?_
      exact ih (a + 1) I3 (by omega) (hFN.tr (fun b j q1 q2 q3 q4 => by rw [hF3 b j (by omega) (by omega) (by omega), hF2 b j (by omega) (by omega) (by omega)])) ⟨by rw [hF3 98 1 (by omega) (by omega) (by omega), hF2 98 1 (by omega) (by omega) (by omega)]; exact hI.1, by rw [hF3 98 2 (by omega) (by omega) (by omega), hF2 98 2 (by omega) (by omega) (by omega)]; exact hI.2.1, by rw [hF3 98 3 (by omega) (by omega) (by omega), hF2 98 3 (by omega) (by omega) (by omega)]; exact hI.2.2.1, fun b hb => by
        by_cases q : b = a
        · subst q; exact ⟨⟨SC_Bo hc (isS_of ha8) hF3 hS2, SK_Bo hc (isS_of ha8) hF3 hK2⟩, hp3⟩
        · have z := hI.2.2.2 b (by omega)
          have e3 : ∀ j k, j ≤ 2 → I3 (101 + 3 * b + j) k = I1 (101 + 3 * b + j) k := fun j k hj => by rw [hF3 _ _ (by omega) (by omega) (by omega), hF2 _ _ (by omega) (by omega) (by omega)]
          have e0 : ∀ k, I3 (101 + 3 * b) k = I1 (101 + 3 * b) k := fun k => e3 0 k (by omega)
          exact ⟨⟨⟨by rw [e0]; exact z.1.1.1, fun e he => by rw [e3 1 e (by omega), e3 2 e (by omega)]; exact z.1.1.2 e he⟩, by unfold SK; rw [e0, e0, e0, e0]; exact z.1.2⟩, by rw [e0]; exact z.2⟩⟩
  refine j_aload_n C (D 0 rfl) rfl ?_
  refine j_aload_n C (D 1 rfl) rfl ?_
  refine j_geti C f_X8_22 (sC0 hc) rfl rfl (D 2 rfl) ?_
  rw [hT.2.1]
  refine j_puti C f_X8_28 (lit (kd := 8) (n := 6) rfl) rfl rfl (D 3 rfl) ?_
  refine j_aload_n C (D 4 rfl) rfl ?_
  refine j_aload_n C (D 5 rfl) rfl ?_
  refine j_geti C f_X8_29 (sC0 hc) rfl rfl (D 6 rfl) ?_
  rw [up2_i (by omega), hT.1]
  refine j_puti C f_X8_32 (lit (kd := 8) (n := 6) rfl) rfl rfl (D 7 rfl) ?_
  refine j_aload_n C (D 8 rfl) rfl ?_
  refine j_aload_n C (D 9 rfl) rfl ?_
  refine j_geti C f_X8_33 (sC0 hc) rfl rfl (D 10 rfl) ?_
  rw [up2_i (by omega), up2_i (by omega), hT.2.2.1]
  refine j_puti C f_X8_36 (lit (kd := 8) (n := 6) rfl) rfl rfl (D 11 rfl) ?_
  refine j_iconst C (v := nI 0) (D 12 rfl) rfl ?_
  refine j_istore_n C (D 13 rfl) rfl ?_
  exact Lp (vA V) 0 _ (by omega) (fun b j q1 q2 q3 q4 => by rw [up2_i (by omega), up2_i (by omega), up2_i (by omega)]) ⟨by rw [up2_i (by omega), up2_i (by omega), up2_same], by rw [up2_i (by omega), up2_same], by rw [up2_same], fun b hb => absurd hb (by omega)⟩
