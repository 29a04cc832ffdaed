/-! THE MODEL: points laid out, totals, ranks -/
def ML (I : Nat → Nat → Int32) (V : VT) (Pt : Nat → Nat → Int32) (g : Nat → Nat → Bool) : Prop := ∀ a e, a < vA V → e < vE V → I 188 (10 * a + e) = Pt a e ∧ I 189 (10 * a + e) = b2 (g a e = true)
/-- an answer v; longs alone may have changed -/
def pL (v : Value) (I : Nat → Nat → Int32) (R : Nat → Nat → Option Nat) : Option Value → Wd → Prop := fun r w' => r = some v ∧ ∃ L' : Nat → Nat → Int64, w' = wd I L' R
theorem pl_i {v v' : Int32} {I : Nat → Nat → Int32} {L : Nat → Nat → Int64} {R : Nat → Nat → Option Nat} (h : v = v') : pL (.int v') I R (some (.int v)) (wd I L R) := ⟨by rw [h], L, rfl⟩
def FrL (I I' : Nat → Nat → Int32) : Prop := ∀ b j, b ≠ 188 → b ≠ 189 → I' b j = I b j
theorem FrL.M {I I' : Nat → Nat → Int32} (h : FrL I I') : FrM I I' := fun b j q => h b j (by omega) (by omega)
theorem FrL.tr {I I' I'' : Nat → Nat → Int32} (h : FrL I I') (h' : FrL I' I'') : FrL I I'' := fun b j q1 q2 => (h' b j q1 q2).trans (h b j q1 q2)
set_option maxRecDepth 20000 in
theorem d_lays (l : Launch) (G : GT) {I : Nat → Nat → Int32} {L : Nat → Nat → Int64} {R : Nat → Nat → Option Nat} (hL : Lay R) {V : VT} (hV : WV V) (hM : MT I V) (ma : Nat) (mk : Nat → Nat → Int32) (hma : ma < NN ∧ SH ma = (20, 80)) (hmb : ma = 177 ∨ ma = 194) (hmk : ∀ a e, a < vA V → e < vE V → I ma (10 * a + e) = mk a e ∧ okM (mk a e)) : Mt l G mX12_lays (3) 0 0 [.ref (ra G 172), .ref (ra G ma)] (wd I L R) (fun r w' => r = none ∧ ∃ I', w' = wd I' L R ∧ FrL I I' ∧ ML I' V (ptM V mk) (gM mk)) := by
  refine mt_of (own := RX12) (by decide) rfl rfl (fun Z C P B => ?_)
  have D := @dc_of _ _ dX12_lays
  have hA8 := hV.2.1
  have hE10 := hV.1
  have Lp : ∀ (m a : Nat) (x3 x4 : Option Value) (I1 : Nat → Nat → Int32), a + m = vA V → FrL I I1 → (∀ b e, b < a → e < vE V → I1 188 (10 * b + e) = ptM V mk b e ∧ I1 189 (10 * b + e) = b2 (gM mk b e = true)) → J Z (0, 0) 2 [some (.ref (ra G 172)), some (.ref (ra G ma)), some (.int (nI a)), x3, x4] [] (wd I1 L R) := by
    intro m
    induction m with
    | zero =>
      intro a x3 x4 I1 ha hF hr
      refine j_iload_n C (D 2 rfl) rfl ?_
      refine j_aload_n C (D 3 rfl) rfl ?_
      refine j_geti C f_X12_303 (lit (kd := 12) (n := 48) rfl) rfl rfl (D 4 rfl) ?_
      rw [(MT_fr hM hF.M).2.1]
      refine j_icmp_ge C  76 (D 5 rfl) (by decide) (fun h7 => ?_) (fun h7 => absurd h7 (fun z => z ((nle (by omega) (by omega)).mpr (by omega))))
      exact j_vret C P rfl (D 44 rfl) ⟨Nat.le_refl _, Nat.le_refl _⟩ ⟨rfl, I1, rfl, hF, fun b e hb he => hr b e (by omega) he⟩
    | succ m ih =>
      intro a x3 x4 I1 ha hF hr
      have Lp2 : ∀ (m2 e : Nat) (x4 : Option Value) (I1 : Nat → Nat → Int32), e + m2 = vE V → FrL I I1 → (∀ b e, b < a → e < vE V → I1 188 (10 * b + e) = ptM V mk b e ∧ I1 189 (10 * b + e) = b2 (gM mk b e = true)) → (∀ e2, e2 < e → I1 188 (10 * a + e2) = ptM V mk a e2 ∧ I1 189 (10 * a + e2) = b2 (gM mk a e2 = true)) → J Z (0, 0) 12 [some (.ref (ra G 172)), some (.ref (ra G ma)), some (.int (nI a)), some (.int (nI e)), x4] [] (wd I1 L R) := by
        intro m2
        induction m2 with
        | zero =>
          intro e x4 I1 he hF hr hr2
          refine j_iload_n C (D 8 rfl) rfl ?_
          refine j_aload_n C (D 9 rfl) rfl ?_
          refine j_geti C f_X12_300 (lit (kd := 12) (n := 48) rfl) rfl rfl (D 10 rfl) ?_
          rw [(MT_fr hM hF.M).1]
          refine j_icmp_ge C  70 (D 11 rfl) (by decide) (fun h17 => ?_) (fun h17 => absurd h17 (fun z => z ((nle (by omega) (by omega)).mpr (by omega))))
          first | refine j_iinc1 C (D 42 rfl) rfl rfl ?_ | refine j_iinc C (D 42 rfl) rfl rfl rfl ?_
          refine j_goto C 2 (D 43 rfl) (by decide) ?_
          exact ih (a + 1) _ _ I1 (by omega) hF (fun b e2 hb he2 => by
            by_cases q : b = a
            · rw [q]; exact hr2 e2 (by omega)
            · exact hr b e2 (by omega) he2)
        | succ m2 ih2 =>
          intro e x4 I1 he hF hr hr2
          have he10 : e < 10 := by omega
          have hme : mE I1 e = vev V e := (MT_fr hM hF.M).2.2.2.2.1 e (by omega)
          have hpe : pts (mE I1 e) (mk a e) = ptM V mk a e := by rw [hme]; rfl
          refine j_iload_n C (D 8 rfl) rfl ?_
          refine j_aload_n C (D 9 rfl) rfl ?_
          refine j_geti C f_X12_300 (lit (kd := 12) (n := 48) rfl) rfl rfl (D 10 rfl) ?_
          rw [(MT_fr hM hF.M).1]
          refine j_icmp_ge C  70 (D 11 rfl) (by decide) (fun h17 => absurd h17 (fun z => by rw [nle (by omega) (by omega)] at z; omega)) (fun h17 => ?_)
          refine j_bipush C (v := nI 10) (D 12 rfl) rfl ?_
          refine j_iload_n C (D 13 rfl) rfl ?_
          refine j_imul C (D 14 rfl) ?_
          refine j_iload_n C (D 15 rfl) rfl ?_
          refine j_iadd C (D 16 rfl) ?_
          rw [pk_mul, nI_add]
          refine j_istore C (D 17 rfl) rfl ?_
          refine j_aload_n C (D 18 rfl) rfl ?_
          refine j_getr C f_X12_60 (lit (kd := 12) (n := 48) rfl) rfl rfl (hL _ _ _ rfl) (D 19 rfl) ?_
          refine j_iload C (D 20 rfl) rfl ?_
          refine j_aload_n C (D 21 rfl) rfl ?_
          refine j_iload_n C (D 22 rfl) rfl ?_
          refine j_aload_n C (D 23 rfl) rfl ?_
          refine j_iload C (D 24 rfl) rfl ?_
          refine j_iald C hma (ix_n (by omega) (by decide)) (D 25 rfl) ?_
          rw [hF ma _ (by omega) (by omega), (hmk a e (by omega) (by omega)).1]
          refine j_cVp C B k_X12_350 (rc_obj C (lit (kd := 12) (n := 48) rfl) rfl rfl) (d_pointsOf _ _ hL e he10 (by rw [hme]; exact hV.2.2.2.2.1 e (by omega)) _ (hmk a e (by omega) (by omega)).2) rfl rfl rfl rfl ⟨Nat.le_refl _, Nat.le_refl _⟩ (D 26 rfl) ?_
          rw [hpe]
          refine j_iast C (lit (kd := 20) (n := 80) rfl) (ix_n (by omega) (by decide)) (D 27 rfl) ?_
          refine j_aload_n C (D 28 rfl) rfl ?_
          refine j_getr C f_X12_63 (lit (kd := 12) (n := 48) rfl) rfl rfl (hL _ _ _ rfl) (D 29 rfl) ?_
          refine j_iload C (D 30 rfl) rfl ?_
          refine j_aload_n C (D 31 rfl) rfl ?_
          refine j_iload C (D 32 rfl) rfl ?_
          refine j_iald C hma (ix_n (by omega) (by decide)) (D 33 rfl) ?_
          rw [up2_i (by omega), hF ma _ (by omega) (by omega), (hmk a e (by omega) (by omega)).1]
          refine j_iconst C (v := (-1)) (D 34 rfl) rfl ?_
          refine j_icmp_eq C  62 (D 35 rfl) (by decide) (fun h55 => ?_) (fun h55 => ?_)
          · refine j_iconst C (v := nI 0) (D 38 rfl) rfl ?_
            refine j_zast C (lit (kd := 22) (n := 80) rfl) (ix_n (by omega) (by decide)) (by first | exact isB_1 | exact isB_0) (D 39 rfl) ?_
            first | refine j_iinc1 C (D 40 rfl) rfl rfl ?_ | refine j_iinc C (D 40 rfl) rfl rfl rfl ?_
            refine j_goto C 12 (D 41 rfl) (by decide) ?_
            exact ih2 (e + 1) _ _ (by omega) (fun b j q1 q2 => by rw [up2_i (by omega), up2_i (by omega)]; exact hF b j q1 q2) (fun b e2 hb he2 => by rw [up2_i (by omega), up2_i (by omega), up2_i (by omega), up2_i (by omega)]; exact hr b e2 hb he2) (fun e2 he2 => by
              by_cases q : e2 = e
              · rw [q, up2_i (by omega), up2_same, up2_same]; exact ⟨rfl, b2_f (by simp [gM, h55])⟩
              · rw [up2_i (by omega), up2_i (by omega), up2_i (by omega), up2_i (by omega)]; exact hr2 e2 (by omega))
          · refine j_iconst C (v := nI 1) (D 36 rfl) rfl ?_
            refine j_goto C 63 (D 37 rfl) (by decide) ?_
            refine j_zast C (lit (kd := 22) (n := 80) rfl) (ix_n (by omega) (by decide)) (by first | exact isB_1 | exact isB_0) (D 39 rfl) ?_
            first | refine j_iinc1 C (D 40 rfl) rfl rfl ?_ | refine j_iinc C (D 40 rfl) rfl rfl rfl ?_
            refine j_goto C 12 (D 41 rfl) (by decide) ?_
            exact ih2 (e + 1) _ _ (by omega) (fun b j q1 q2 => by rw [up2_i (by omega), up2_i (by omega)]; exact hF b j q1 q2) (fun b e2 hb he2 => by rw [up2_i (by omega), up2_i (by omega), up2_i (by omega), up2_i (by omega)]; exact hr b e2 hb he2) (fun e2 he2 => by
              by_cases q : e2 = e
              · rw [q, up2_i (by omega), up2_same, up2_same]; exact ⟨rfl, b2_t (by simp [gM, h55])⟩
              · rw [up2_i (by omega), up2_i (by omega), up2_i (by omega), up2_i (by omega)]; exact hr2 e2 (by omega))
      refine j_iload_n C (D 2 rfl) rfl ?_
      refine j_aload_n C (D 3 rfl) rfl ?_
      refine j_geti C f_X12_303 (lit (kd := 12) (n := 48) rfl) rfl rfl (D 4 rfl) ?_
      rw [(MT_fr hM hF.M).2.1]
      refine j_icmp_ge C  76 (D 5 rfl) (by decide) (fun h7 => absurd h7 (fun z => by rw [nle (by omega) (by omega)] at z; omega)) (fun h7 => ?_)
      refine j_iconst C (v := nI 0) (D 6 rfl) rfl ?_
      refine j_istore_n C (D 7 rfl) rfl ?_
      exact Lp2 (vE V) 0 _ I1 (by omega) hF hr (fun e he => absurd he (by omega))
  refine j_iconst C (v := nI 0) (D 0 rfl) rfl ?_
  refine j_istore_n C (D 1 rfl) rfl ?_
  exact Lp (vA V) 0 _ _ I (by omega) (fun _ _ _ _ => rfl) (fun b e hb => absurd hb (by omega))
set_option maxRecDepth 20000 in
theorem d_sumOf (l : Launch) (G : GT) {I : Nat → Nat → Int32} {L : Nat → Nat → Int64} {R : Nat → Nat → Option Nat} (hL : Lay R) {V : VT} (hV : WV V) (hM : MT I V) {Pt : Nat → Nat → Int32} {g : Nat → Nat → Bool} (hz : pza V Pt g) (hl : ML I V Pt g) (a : Nat) (ha : a < vA V) : Mt l G mX12_sumOf (0) 0 0 [.ref (ra G 172), .int (nI a)] (wd I L R) (pV (.int (sumN (Pt a) (vE V))) (wd I L R)) := by
  refine mt_of (own := RX12) (by decide) rfl rfl (fun Z C P B => ?_)
  have D := @dc_of _ _ dX12_sumOf
  have hA8 := hV.2.1
  have hE10 := hV.1
  have ha8 : a < 8 := by omega
  have Lp : ∀ (m e : Nat), e + m = vE V → J Z (0, 0) 4 [some (.ref (ra G 172)), some (.int (nI a)), some (.int (sumN (Pt a) e)), some (.int (nI e))] [] (wd I L R) := by
    intro m
    induction m with
    | zero =>
      intro e he
      refine j_iload_n C (D 4 rfl) rfl ?_
      refine j_aload_n C (D 5 rfl) rfl ?_
      refine j_geti C f_X12_300 (lit (kd := 12) (n := 48) rfl) rfl rfl (D 6 rfl) ?_
      rw [hM.1]
      refine j_icmp_ge C  32 (D 7 rfl) (by decide) (fun h9 => ?_) (fun h9 => absurd h9 (fun z => z ((nle (by omega) (by omega)).mpr (by omega))))
      refine j_iload_n C (D 21 rfl) rfl ?_
      exact j_iret C P rfl (D 22 rfl) ⟨Nat.le_refl _, Nat.le_refl _⟩ (pv_i (by rw [show vE V = e by omega]))
    | succ m ih =>
      intro e he
      have hla := hl a e ha (by omega)
      refine j_iload_n C (D 4 rfl) rfl ?_
      refine j_aload_n C (D 5 rfl) rfl ?_
      refine j_geti C f_X12_300 (lit (kd := 12) (n := 48) rfl) rfl rfl (D 6 rfl) ?_
      rw [hM.1]
      refine j_icmp_ge C  32 (D 7 rfl) (by decide) (fun h9 => absurd h9 (fun z => by rw [nle (by omega) (by omega)] at z; omega)) (fun h9 => ?_)
      refine j_iload_n C (D 8 rfl) rfl ?_
      refine j_aload_n C (D 9 rfl) rfl ?_
      refine j_getr C f_X12_60 (lit (kd := 12) (n := 48) rfl) rfl rfl (hL _ _ _ rfl) (D 10 rfl) ?_
      refine j_bipush C (v := nI 10) (D 11 rfl) rfl ?_
      refine j_iload_n C (D 12 rfl) rfl ?_
      refine j_imul C (D 13 rfl) ?_
      refine j_iload_n C (D 14 rfl) rfl ?_
      refine j_iadd C (D 15 rfl) ?_
      refine j_iald C (lit (kd := 20) (n := 80) rfl) (ix_cell' ha8 (by omega)) (D 16 rfl) ?_
      rw [hla.1]
      refine j_iadd C (D 17 rfl) ?_
      rw [sum_t]
      refine j_istore_n C (D 18 rfl) rfl ?_
      first | refine j_iinc1 C (D 19 rfl) rfl rfl ?_ | refine j_iinc C (D 19 rfl) rfl rfl rfl ?_
      refine j_goto C 4 (D 20 rfl) (by decide) ?_
      exact ih (e + 1) (by omega)
  refine j_iconst C (v := nI 0) (D 0 rfl) rfl ?_
  refine j_istore_n C (D 1 rfl) rfl ?_
  refine j_iconst C (v := nI 0) (D 2 rfl) rfl ?_
  refine j_istore_n C (D 3 rfl) rfl ?_
  exact Lp (vE V) 0 (by omega)
set_option maxRecDepth 20000 in
theorem d_doneOf (l : Launch) (G : GT) {I : Nat → Nat → Int32} {L : Nat → Nat → Int64} {R : Nat → Nat → Option Nat} (hL : Lay R) {V : VT} (hV : WV V) (hM : MT I V) {Pt : Nat → Nat → Int32} {g : Nat → Nat → Bool} (hz : pza V Pt g) (hl : ML I V Pt g) (a : Nat) (ha : a < vA V) : Mt l G mX12_doneOf (0) 0 0 [.ref (ra G 172), .int (nI a)] (wd I L R) (pV (.int (nI (cnt (g a) (vE V)))) (wd I L R)) := by
  refine mt_of (own := RX12) (by decide) rfl rfl (fun Z C P B => ?_)
  have D := @dc_of _ _ dX12_doneOf
  have hA8 := hV.2.1
  have hE10 := hV.1
  have ha8 : a < 8 := by omega
  have Lp : ∀ (m e : Nat), e + m = vE V → J Z (0, 0) 4 [some (.ref (ra G 172)), some (.int (nI a)), some (.int (nI (cnt (g a) e))), some (.int (nI e))] [] (wd I L R) := by
    intro m
    induction m with
    | zero =>
      intro e he
      refine j_iload_n C (D 4 rfl) rfl ?_
      refine j_aload_n C (D 5 rfl) rfl ?_
      refine j_geti C f_X12_300 (lit (kd := 12) (n := 48) rfl) rfl rfl (D 6 rfl) ?_
      rw [hM.1]
      refine j_icmp_ge C  40 (D 7 rfl) (by decide) (fun h9 => ?_) (fun h9 => absurd h9 (fun z => z ((nle (by omega) (by omega)).mpr (by omega))))
      refine j_iload_n C (D 25 rfl) rfl ?_
      exact j_iret C P rfl (D 26 rfl) ⟨Nat.le_refl _, Nat.le_refl _⟩ (pv_i (by rw [show vE V = e by omega]))
    | succ m ih =>
      intro e he
      have hla := hl a e ha (by omega)
      refine j_iload_n C (D 4 rfl) rfl ?_
      refine j_aload_n C (D 5 rfl) rfl ?_
      refine j_geti C f_X12_300 (lit (kd := 12) (n := 48) rfl) rfl rfl (D 6 rfl) ?_
      rw [hM.1]
      refine j_icmp_ge C  40 (D 7 rfl) (by decide) (fun h9 => absurd h9 (fun z => by rw [nle (by omega) (by omega)] at z; omega)) (fun h9 => ?_)
      refine j_iload_n C (D 8 rfl) rfl ?_
      refine j_aload_n C (D 9 rfl) rfl ?_
      refine j_getr C f_X12_63 (lit (kd := 12) (n := 48) rfl) rfl rfl (hL _ _ _ rfl) (D 10 rfl) ?_
      refine j_bipush C (v := nI 10) (D 11 rfl) rfl ?_
      refine j_iload_n C (D 12 rfl) rfl ?_
      refine j_imul C (D 13 rfl) ?_
      refine j_iload_n C (D 14 rfl) rfl ?_
      refine j_iadd C (D 15 rfl) ?_
      refine j_zald C (lit (kd := 22) (n := 80) rfl) (ix_cell' ha8 (by omega)) (D 16 rfl) ?_
      rw [hla.2]
      refine j_if_eq C  31 (D 17 rfl) (by decide) (fun h24 => ?_) (fun h24 => ?_)
      · refine j_iconst C (v := nI 0) (D 20 rfl) rfl ?_
        refine j_iadd C (D 21 rfl) ?_
        refine j_istore_n C (D 22 rfl) rfl ?_
        first | refine j_iinc1 C (D 23 rfl) rfl rfl ?_ | refine j_iinc C (D 23 rfl) rfl rfl rfl ?_
        refine j_goto C 4 (D 24 rfl) (by decide) ?_
        rw [show nI (cnt (g a) e) + nI 0 = nI (cnt (g a) (e + 1)) by rw [nI_add, cnt_f (b2_eq h24)]; rfl]
        exact ih (e + 1) (by omega)
      · refine j_iconst C (v := nI 1) (D 18 rfl) rfl ?_
        refine j_goto C 32 (D 19 rfl) (by decide) ?_
        refine j_iadd C (D 21 rfl) ?_
        refine j_istore_n C (D 22 rfl) rfl ?_
        first | refine j_iinc1 C (D 23 rfl) rfl rfl ?_ | refine j_iinc C (D 23 rfl) rfl rfl rfl ?_
        refine j_goto C 4 (D 24 rfl) (by decide) ?_
        rw [show nI (cnt (g a) e) + nI 1 = nI (cnt (g a) (e + 1)) by rw [nI_add, cnt_t (b2_ne h24)]]
        exact ih (e + 1) (by omega)
  refine j_iconst C (v := nI 0) (D 0 rfl) rfl ?_
  refine j_istore_n C (D 1 rfl) rfl ?_
  refine j_iconst C (v := nI 0) (D 2 rfl) rfl ?_
  refine j_istore_n C (D 3 rfl) rfl ?_
  exact Lp (vE V) 0 (by omega)
set_option maxRecDepth 20000 in
theorem d_bestOf (l : Launch) (G : GT) {I : Nat → Nat → Int32} {L : Nat → Nat → Int64} {R : Nat → Nat → Option Nat} (hL : Lay R) {V : VT} (hV : WV V) (hM : MT I V) {Pt : Nat → Nat → Int32} {g : Nat → Nat → Bool} (hz : pza V Pt g) (hl : ML I V Pt g) (a : Nat) (ha : a < vA V) : Mt l G mX12_bestOf (1) 0 0 [.ref (ra G 172), .int (nI a)] (wd I L R) (pV (.int (bestN (Pt a) (g a) (vE V))) (wd I L R)) := by
  refine mt_of (own := RX12) (by decide) rfl rfl (fun Z C P B => ?_)
  have D := @dc_of _ _ dX12_bestOf
  have hA8 := hV.2.1
  have hE10 := hV.1
  have ha8 : a < 8 := by omega
  have Lp : ∀ (m e : Nat), e + m = vE V → J Z (0, 0) 4 [some (.ref (ra G 172)), some (.int (nI a)), some (.int (bestN (Pt a) (g a) e)), some (.int (nI e))] [] (wd I L R) := by
    intro m
    induction m with
    | zero =>
      intro e he
      refine j_iload_n C (D 4 rfl) rfl ?_
      refine j_aload_n C (D 5 rfl) rfl ?_
      refine j_geti C f_X12_300 (lit (kd := 12) (n := 48) rfl) rfl rfl (D 6 rfl) ?_
      rw [hM.1]
      refine j_icmp_ge C  48 (D 7 rfl) (by decide) (fun h9 => ?_) (fun h9 => absurd h9 (fun z => z ((nle (by omega) (by omega)).mpr (by omega))))
      refine j_iload_n C (D 30 rfl) rfl ?_
      exact j_iret C P rfl (D 31 rfl) ⟨Nat.le_refl _, Nat.le_refl _⟩ (pv_i (by rw [show vE V = e by omega]))
    | succ m ih =>
      intro e he
      have hla := hl a e ha (by omega)
      refine j_iload_n C (D 4 rfl) rfl ?_
      refine j_aload_n C (D 5 rfl) rfl ?_
      refine j_geti C f_X12_300 (lit (kd := 12) (n := 48) rfl) rfl rfl (D 6 rfl) ?_
      rw [hM.1]
      refine j_icmp_ge C  48 (D 7 rfl) (by decide) (fun h9 => absurd h9 (fun z => by rw [nle (by omega) (by omega)] at z; omega)) (fun h9 => ?_)
      refine j_aload_n C (D 8 rfl) rfl ?_
      refine j_getr C f_X12_63 (lit (kd := 12) (n := 48) rfl) rfl rfl (hL _ _ _ rfl) (D 9 rfl) ?_
      refine j_bipush C (v := nI 10) (D 10 rfl) rfl ?_
      refine j_iload_n C (D 11 rfl) rfl ?_
      refine j_imul C (D 12 rfl) ?_
      refine j_iload_n C (D 13 rfl) rfl ?_
      refine j_iadd C (D 14 rfl) ?_
      refine j_zald C (lit (kd := 22) (n := 80) rfl) (ix_cell' ha8 (by omega)) (D 15 rfl) ?_
      rw [hla.2]
      refine j_if_eq C  42 (D 16 rfl) (by decide) (fun h23 => ?_) (fun h23 => ?_)
      · first | refine j_iinc1 C (D 28 rfl) rfl rfl ?_ | refine j_iinc C (D 28 rfl) rfl rfl rfl ?_
        refine j_goto C 4 (D 29 rfl) (by decide) ?_
        rw [best_f (p := Pt a) (b2_eq h23)]
        exact ih (e + 1) (by omega)
      · refine j_iload_n C (D 17 rfl) rfl ?_
        refine j_aload_n C (D 18 rfl) rfl ?_
        refine j_getr C f_X12_60 (lit (kd := 12) (n := 48) rfl) rfl rfl (hL _ _ _ rfl) (D 19 rfl) ?_
        refine j_bipush C (v := nI 10) (D 20 rfl) rfl ?_
        refine j_iload_n C (D 21 rfl) rfl ?_
        refine j_imul C (D 22 rfl) ?_
        refine j_iload_n C (D 23 rfl) rfl ?_
        refine j_iadd C (D 24 rfl) ?_
        refine j_iald C (lit (kd := 20) (n := 80) rfl) (ix_cell' ha8 (by omega)) (D 25 rfl) ?_
        rw [hla.1]
        refine j_mmax C B k_X12_365 rfl rfl ⟨Nat.le_refl _, Nat.le_refl _⟩ (D 26 rfl) ?_
        rw [best_t (b2_ne h23)]
        refine j_istore_n C (D 27 rfl) rfl ?_
        first | refine j_iinc1 C (D 28 rfl) rfl rfl ?_ | refine j_iinc C (D 28 rfl) rfl rfl rfl ?_
        refine j_goto C 4 (D 29 rfl) (by decide) ?_
        exact ih (e + 1) (by omega)
  refine j_iconst C (v := nI 0) (D 0 rfl) rfl ?_
  refine j_istore_n C (D 1 rfl) rfl ?_
  refine j_iconst C (v := nI 0) (D 2 rfl) rfl ?_
  refine j_istore_n C (D 3 rfl) rfl ?_
  exact Lp (vE V) 0 (by omega)
def lmS (p : Nat → Int32) (g : Nat → Bool) (k : Nat) : Int32 := if cnt g k = 0 then -1 else leastN p g k
theorem lm_f {p : Nat → Int32} {g : Nat → Bool} {n : Nat} (h : ¬ g n = true) : lmS p g n = lmS p g (n + 1) := by unfold lmS; rw [cnt_f h, least_f (p := p) h]
theorem lm_0 {p : Nat → Int32} {g : Nat → Bool} {n : Nat} (h : g n = true) (hc : cnt g n = 0) : p n = lmS p g (n + 1) := by unfold lmS; rw [cnt_t h, if_neg (by omega), ← least_0 h hc]
theorem lm_t {p : Nat → Int32} {g : Nat → Bool} {n : Nat} (h : g n = true) (hc : ¬ cnt g n = 0) : (if p n < lmS p g n then p n else lmS p g n) = lmS p g (n + 1) := by unfold lmS; rw [cnt_t h, if_neg hc, if_neg (show ¬ cnt g n + 1 = 0 by omega), least_t h hc]
theorem least_c {p : Nat → Int32} {g : Nat → Bool} : ∀ {n : Nat}, cnt g n = 0 → leastN p g n = 0
  | 0, _ => rfl
  | n + 1, h => by
    by_cases c : g n = true
    · rw [cnt_t c] at h; omega
    · rw [cnt_f c] at h; rw [← least_f c]; exact least_c h
theorem lm_m1 {p : Nat → Int32} {g : Nat → Bool} {n : Nat} (hp : ∀ i, i < n → 0 ≤ (p i).toInt ∧ (p i).toInt ≤ 2000) : lmS p g n = -1 ↔ cnt g n = 0 := by
  unfold lmS
  by_cases c : cnt g n = 0
  · rw [if_pos c]; simp [c]
  · rw [if_neg c]
    have := leastN_rng (g := g) hp
    refine ⟨fun z => ?_, fun z => absurd z c⟩
    rw [z] at this
    exact absurd this.1 (by decide)
set_option maxRecDepth 20000 in
theorem d_leastOf (l : Launch) (G : GT) {I : Nat → Nat → Int32} {L : Nat → Nat → Int64} {R : Nat → Nat → Option Nat} (hL : Lay R) {V : VT} (hV : WV V) (hM : MT I V) {Pt : Nat → Nat → Int32} {g : Nat → Nat → Bool} (hz : pza V Pt g) (hl : ML I V Pt g) (a : Nat) (ha : a < vA V) : Mt l G mX12_leastOf (1) 0 0 [.ref (ra G 172), .int (nI a)] (wd I L R) (pV (.int (leastN (Pt a) (g a) (vE V))) (wd I L R)) := by
  refine mt_of (own := RX12) (by decide) rfl rfl (fun Z C P B => ?_)
  have D := @dc_of _ _ dX12_leastOf
  have hA8 := hV.2.1
  have hE10 := hV.1
  have ha8 : a < 8 := by omega
  have Lp : ∀ (m e : Nat), e + m = vE V → J Z (0, 0) 4 [some (.ref (ra G 172)), some (.int (nI a)), some (.int (lmS (Pt a) (g a) e)), some (.int (nI e))] [] (wd I L R) := by
    intro m
    induction m with
    | zero =>
      intro e he
      refine j_iload_n C (D 4 rfl) rfl ?_
      refine j_aload_n C (D 5 rfl) rfl ?_
      refine j_geti C f_X12_300 (lit (kd := 12) (n := 48) rfl) rfl rfl (D 6 rfl) ?_
      rw [hM.1]
      refine j_icmp_ge C  67 (D 7 rfl) (by decide) (fun h9 => ?_) (fun h9 => absurd h9 (fun z => z ((nle (by omega) (by omega)).mpr (by omega))))
      refine j_iload_n C (D 42 rfl) rfl ?_
      refine j_iconst C (v := (-1)) (D 43 rfl) rfl ?_
      refine j_icmp_ne C  76 (D 44 rfl) (by decide) (fun h69 => ?_) (fun h69 => ?_)
      · refine j_iload_n C (D 47 rfl) rfl ?_
        exact j_iret C P rfl (D 48 rfl) ⟨Nat.le_refl _, Nat.le_refl _⟩ (pv_i (by rw [show vE V = e by omega, lmS, if_neg (fun z => h69 ((lm_m1 (fun i hi => (hz a ha i (by omega)).1)).mpr z))]))
      · refine j_iconst C (v := nI 0) (D 45 rfl) rfl ?_
        refine j_goto C 77 (D 46 rfl) (by decide) ?_
        exact j_iret C P rfl (D 48 rfl) ⟨Nat.le_refl _, Nat.le_refl _⟩ (pv_i (by rw [show vE V = e by omega, least_c ((lm_m1 (fun i hi => (hz a ha i (by omega)).1)).mp h69)]; rfl))
    | succ m ih =>
      intro e he
      have hla := hl a e ha (by omega)
      refine j_iload_n C (D 4 rfl) rfl ?_
      refine j_aload_n C (D 5 rfl) rfl ?_
      refine j_geti C f_X12_300 (lit (kd := 12) (n := 48) rfl) rfl rfl (D 6 rfl) ?_
      rw [hM.1]
      refine j_icmp_ge C  67 (D 7 rfl) (by decide) (fun h9 => absurd h9 (fun z => by rw [nle (by omega) (by omega)] at z; omega)) (fun h9 => ?_)
      refine j_aload_n C (D 8 rfl) rfl ?_
      refine j_getr C f_X12_63 (lit (kd := 12) (n := 48) rfl) rfl rfl (hL _ _ _ rfl) (D 9 rfl) ?_
      refine j_bipush C (v := nI 10) (D 10 rfl) rfl ?_
      refine j_iload_n C (D 11 rfl) rfl ?_
      refine j_imul C (D 12 rfl) ?_
      refine j_iload_n C (D 13 rfl) rfl ?_
      refine j_iadd C (D 14 rfl) ?_
      refine j_zald C (lit (kd := 22) (n := 80) rfl) (ix_cell' ha8 (by omega)) (D 15 rfl) ?_
      rw [hla.2]
      refine j_if_eq C  61 (D 16 rfl) (by decide) (fun h23 => ?_) (fun h23 => ?_)
      · first | refine j_iinc1 C (D 40 rfl) rfl rfl ?_ | refine j_iinc C (D 40 rfl) rfl rfl rfl ?_
        refine j_goto C 4 (D 41 rfl) (by decide) ?_
        rw [lm_f (p := Pt a) (b2_eq h23)]
        exact ih (e + 1) (by omega)
      · refine j_iload_n C (D 17 rfl) rfl ?_
        refine j_iconst C (v := (-1)) (D 18 rfl) rfl ?_
        refine j_icmp_ne C  45 (D 19 rfl) (by decide) (fun h28 => ?_) (fun h28 => ?_)
        · refine j_iload_n C (D 29 rfl) rfl ?_
          refine j_aload_n C (D 30 rfl) rfl ?_
          refine j_getr C f_X12_60 (lit (kd := 12) (n := 48) rfl) rfl rfl (hL _ _ _ rfl) (D 31 rfl) ?_
          refine j_bipush C (v := nI 10) (D 32 rfl) rfl ?_
          refine j_iload_n C (D 33 rfl) rfl ?_
          refine j_imul C (D 34 rfl) ?_
          refine j_iload_n C (D 35 rfl) rfl ?_
          refine j_iadd C (D 36 rfl) ?_
          refine j_iald C (lit (kd := 20) (n := 80) rfl) (ix_cell' ha8 (by omega)) (D 37 rfl) ?_
          rw [hla.1]
          refine j_mmin C B k_X12_138 rfl rfl ⟨Nat.le_refl _, Nat.le_refl _⟩ (D 38 rfl) ?_
          rw [lm_t (b2_ne h23) (fun z => h28 ((lm_m1 (fun i hi => (hz a ha i (by omega)).1)).mpr z))]
          refine j_istore_n C (D 39 rfl) rfl ?_
          first | refine j_iinc1 C (D 40 rfl) rfl rfl ?_ | refine j_iinc C (D 40 rfl) rfl rfl rfl ?_
          refine j_goto C 4 (D 41 rfl) (by decide) ?_
          exact ih (e + 1) (by omega)
        · refine j_aload_n C (D 20 rfl) rfl ?_
          refine j_getr C f_X12_60 (lit (kd := 12) (n := 48) rfl) rfl rfl (hL _ _ _ rfl) (D 21 rfl) ?_
          refine j_bipush C (v := nI 10) (D 22 rfl) rfl ?_
          refine j_iload_n C (D 23 rfl) rfl ?_
          refine j_imul C (D 24 rfl) ?_
          refine j_iload_n C (D 25 rfl) rfl ?_
          refine j_iadd C (D 26 rfl) ?_
          refine j_iald C (lit (kd := 20) (n := 80) rfl) (ix_cell' ha8 (by omega)) (D 27 rfl) ?_
          rw [hla.1, lm_0 (p := Pt a) (b2_ne h23) ((lm_m1 (fun i hi => (hz a ha i (by omega)).1)).mp h28)]
          refine j_goto C 60 (D 28 rfl) (by decide) ?_
          refine j_istore_n C (D 39 rfl) rfl ?_
          first | refine j_iinc1 C (D 40 rfl) rfl rfl ?_ | refine j_iinc C (D 40 rfl) rfl rfl rfl ?_
          refine j_goto C 4 (D 41 rfl) (by decide) ?_
          exact ih (e + 1) (by omega)
  refine j_iconst C (v := (-1)) (D 0 rfl) rfl ?_
  refine j_istore_n C (D 1 rfl) rfl ?_
  refine j_iconst C (v := nI 0) (D 2 rfl) rfl ?_
  refine j_istore_n C (D 3 rfl) rfl ?_
  exact Lp (vE V) 0 (by omega)
theorem top_pre {Pt : Nat → Nat → Int32} {n a e b : Nat} (hb : b ≤ n) (h : topE Pt n a e = true) : (decide (0 < Pt a e) && allN (fun b => decide (Pt b e ≤ Pt a e)) b) = true := by
  unfold topE at h
  rw [Bool.and_eq_true, allN_iff] at h ⊢
  exact ⟨h.1, fun i hi => h.2 i (by omega)⟩
set_option maxRecDepth 20000 in
theorem d_winsOf (l : Launch) (G : GT) {I : Nat → Nat → Int32} {L : Nat → Nat → Int64} {R : Nat → Nat → Option Nat} (hL : Lay R) {V : VT} (hV : WV V) (hM : MT I V) {Pt : Nat → Nat → Int32} {g : Nat → Nat → Bool} (hz : pza V Pt g) (hl : ML I V Pt g) (a : Nat) (ha : a < vA V) : Mt l G mX12_winsOf (0) 0 0 [.ref (ra G 172), .int (nI a)] (wd I L R) (pV (.int (nI (winsS Pt (vA V) (vE V) a))) (wd I L R)) := by
  refine mt_of (own := RX12) (by decide) rfl rfl (fun Z C P B => ?_)
  have D := @dc_of _ _ dX12_winsOf
  have hA8 := hV.2.1
  have hE10 := hV.1
  have ha8 : a < 8 := by omega
  have Lp : ∀ (m e : Nat) (x4 x5 x6 : Option Value), e + m = vE V → J Z (0, 0) 4 [some (.ref (ra G 172)), some (.int (nI a)), some (.int (nI (cnt (topE Pt (vA V) a) e))), some (.int (nI e)), x4, x5, x6] [] (wd I L R) := by
    intro m
    induction m with
    | zero =>
      intro e x4 x5 x6 he
      refine j_iload_n C (D 4 rfl) rfl ?_
      refine j_aload_n C (D 5 rfl) rfl ?_
      refine j_geti C f_X12_300 (lit (kd := 12) (n := 48) rfl) rfl rfl (D 6 rfl) ?_
      rw [hM.1]
      refine j_icmp_ge C  103 (D 7 rfl) (by decide) (fun h9 => ?_) (fun h9 => absurd h9 (fun z => z ((nle (by omega) (by omega)).mpr (by omega))))
      refine j_iload_n C (D 57 rfl) rfl ?_
      exact j_iret C P rfl (D 58 rfl) ⟨Nat.le_refl _, Nat.le_refl _⟩ (pv_i (by rw [winsS, show vE V = e by omega]))
    | succ m ih =>
      intro e x4 x5 x6 he
      have hla := hl a e ha (by omega)
      have hcl := cnt_le (topE Pt (vA V) a) e
      have K : ∀ (x : Int32) (x6 : Option Value), x = b2 (topE Pt (vA V) a e = true) → J Z (0, 0) 84 [some (.ref (ra G 172)), some (.int (nI a)), some (.int (nI (cnt (topE Pt (vA V) a) e))), some (.int (nI e)), some (.int (Pt a e)), some (.int x), x6] [] (wd I L R) := by
        intro x x6 hx
        refine j_iload_n C (D 47 rfl) rfl ?_
        refine j_iload C (D 48 rfl) rfl ?_
        rw [hx]
        refine j_if_eq C  94 (D 49 rfl) (by decide) (fun h87 => ?_) (fun h87 => ?_)
        · refine j_iconst C (v := nI 0) (D 52 rfl) rfl ?_
          refine j_iadd C (D 53 rfl) ?_
          refine j_istore_n C (D 54 rfl) rfl ?_
          first | refine j_iinc1 C (D 55 rfl) rfl rfl ?_ | refine j_iinc C (D 55 rfl) rfl rfl rfl ?_
          refine j_goto C 4 (D 56 rfl) (by decide) ?_
          rw [show nI (cnt (topE Pt (vA V) a) e) + nI 0 = nI (cnt (topE Pt (vA V) a) (e + 1)) by rw [nI_add, cnt_f (b2_eq h87)]; rfl]
          exact ih (e + 1) _ _ _ (by omega)
        · refine j_iconst C (v := nI 1) (D 50 rfl) rfl ?_
          refine j_goto C 95 (D 51 rfl) (by decide) ?_
          refine j_iadd C (D 53 rfl) ?_
          refine j_istore_n C (D 54 rfl) rfl ?_
          first | refine j_iinc1 C (D 55 rfl) rfl rfl ?_ | refine j_iinc C (D 55 rfl) rfl rfl rfl ?_
          refine j_goto C 4 (D 56 rfl) (by decide) ?_
          rw [show nI (cnt (topE Pt (vA V) a) e) + nI 1 = nI (cnt (topE Pt (vA V) a) (e + 1)) by rw [nI_add, cnt_t (b2_ne h87)]]
          exact ih (e + 1) _ _ _ (by omega)
      have Lp2 : ∀ (m2 b : Nat) (x : Int32), b + m2 = vA V → x = b2 ((decide (0 < Pt a e) && allN (fun b => decide (Pt b e ≤ Pt a e)) b) = true) → J Z (0, 0) 40 [some (.ref (ra G 172)), some (.int (nI a)), some (.int (nI (cnt (topE Pt (vA V) a) e))), some (.int (nI e)), some (.int (Pt a e)), some (.int x), some (.int (nI b))] [] (wd I L R) := by
        intro m2
        induction m2 with
        | zero =>
          intro b x hb hx
          refine j_iload C (D 25 rfl) rfl ?_
          refine j_aload_n C (D 26 rfl) rfl ?_
          refine j_geti C f_X12_303 (lit (kd := 12) (n := 48) rfl) rfl rfl (D 27 rfl) ?_
          rw [hM.2.1]
          refine j_icmp_ge C  84 (D 28 rfl) (by decide) (fun h46 => ?_) (fun h46 => absurd h46 (fun z => z ((nle (by omega) (by omega)).mpr (by omega))))
          exact K _ _ (by rw [hx, show b = vA V by omega]; rfl)
        | succ m2 ih2 =>
          intro b x hb hx
          refine j_iload C (D 25 rfl) rfl ?_
          refine j_aload_n C (D 26 rfl) rfl ?_
          refine j_geti C f_X12_303 (lit (kd := 12) (n := 48) rfl) rfl rfl (D 27 rfl) ?_
          rw [hM.2.1]
          refine j_icmp_ge C  84 (D 28 rfl) (by decide) (fun h46 => absurd h46 (fun z => by rw [nle (by omega) (by omega)] at z; omega)) (fun h46 => ?_)
          refine j_iload C (D 29 rfl) rfl ?_
          refine j_if_eq C  84 (D 30 rfl) (by decide) (fun h51 => ?_) (fun h51 => ?_)
          · exact K _ _ (hx.trans (b2_congr (iff_of_false (b2_eq (hx.symm.trans h51)) (fun z => b2_eq (hx.symm.trans h51) (top_pre (by omega) z)))))
          · refine j_aload_n C (D 31 rfl) rfl ?_
            refine j_getr C f_X12_60 (lit (kd := 12) (n := 48) rfl) rfl rfl (hL _ _ _ rfl) (D 32 rfl) ?_
            refine j_bipush C (v := nI 10) (D 33 rfl) rfl ?_
            refine j_iload C (D 34 rfl) rfl ?_
            refine j_imul C (D 35 rfl) ?_
            refine j_iload_n C (D 36 rfl) rfl ?_
            refine j_iadd C (D 37 rfl) ?_
            refine j_iald C (lit (kd := 20) (n := 80) rfl) (ix_cell' (by omega) (by omega)) (D 38 rfl) ?_
            rw [(hl b e (by omega) (by omega)).1]
            refine j_iload C (D 39 rfl) rfl ?_
            refine j_icmp_gt C  75 (D 40 rfl) (by decide) (fun h68 => ?_) (fun h68 => ?_)
            · refine j_iconst C (v := nI 0) (D 43 rfl) rfl ?_
              refine j_istore C (D 44 rfl) rfl ?_
              first | refine j_iinc1 C (D 45 rfl) rfl rfl ?_ | refine j_iinc C (D 45 rfl) rfl rfl rfl ?_
              refine j_goto C 40 (D 46 rfl) (by decide) ?_
              exact ih2 (b + 1) _ (by omega) (b2_f (by have q := b2_ne (fun z => h51 (hx.trans z)); simp only [Bool.and_eq_true, allN, decide_eq_true_eq] at q ⊢; rw [i_lt] at h68; intro z; have z2 := i_le.mp z.2.2; omega))
            · refine j_iconst C (v := nI 1) (D 41 rfl) rfl ?_
              refine j_goto C 76 (D 42 rfl) (by decide) ?_
              refine j_istore C (D 44 rfl) rfl ?_
              first | refine j_iinc1 C (D 45 rfl) rfl rfl ?_ | refine j_iinc C (D 45 rfl) rfl rfl rfl ?_
              refine j_goto C 40 (D 46 rfl) (by decide) ?_
              exact ih2 (b + 1) _ (by omega) (b2_t (by have q := b2_ne (fun z => h51 (hx.trans z)); simp only [Bool.and_eq_true, allN, decide_eq_true_eq] at q ⊢; exact ⟨q.1, q.2, i_le.mpr (by rw [i_lt] at h68; omega)⟩))
      refine j_iload_n C (D 4 rfl) rfl ?_
      refine j_aload_n C (D 5 rfl) rfl ?_
      refine j_geti C f_X12_300 (lit (kd := 12) (n := 48) rfl) rfl rfl (D 6 rfl) ?_
      rw [hM.1]
      refine j_icmp_ge C  103 (D 7 rfl) (by decide) (fun h9 => absurd h9 (fun z => by rw [nle (by omega) (by omega)] at z; omega)) (fun h9 => ?_)
      refine j_aload_n C (D 8 rfl) rfl ?_
      refine j_getr C f_X12_60 (lit (kd := 12) (n := 48) rfl) rfl rfl (hL _ _ _ rfl) (D 9 rfl) ?_
      refine j_bipush C (v := nI 10) (D 10 rfl) rfl ?_
      refine j_iload_n C (D 11 rfl) rfl ?_
      refine j_imul C (D 12 rfl) ?_
      refine j_iload_n C (D 13 rfl) rfl ?_
      refine j_iadd C (D 14 rfl) ?_
      refine j_iald C (lit (kd := 20) (n := 80) rfl) (ix_cell' ha8 (by omega)) (D 15 rfl) ?_
      rw [hla.1]
      refine j_istore C (D 16 rfl) rfl ?_
      refine j_iload C (D 17 rfl) rfl ?_
      refine j_if_le C  34 (D 18 rfl) (by decide) (fun h27 => ?_) (fun h27 => ?_)
      · refine j_iconst C (v := nI 0) (D 21 rfl) rfl ?_
        refine j_istore C (D 22 rfl) rfl ?_
        refine j_iconst C (v := nI 0) (D 23 rfl) rfl ?_
        refine j_istore C (D 24 rfl) rfl ?_
        exact Lp2 (vA V) 0 _ (by omega) (b2_f (by rw [allN, Bool.and_true, decide_eq_true_eq, i_lt, i0]; rw [i_le, i0] at h27; omega))
      · refine j_iconst C (v := nI 1) (D 19 rfl) rfl ?_
        refine j_goto C 35 (D 20 rfl) (by decide) ?_
        refine j_istore C (D 22 rfl) rfl ?_
        refine j_iconst C (v := nI 0) (D 23 rfl) rfl ?_
        refine j_istore C (D 24 rfl) rfl ?_
        exact Lp2 (vA V) 0 _ (by omega) (b2_t (by rw [allN, Bool.and_true, decide_eq_true_eq, i_lt, i0]; rw [i_le, i0] at h27; omega))
  refine j_iconst C (v := nI 0) (D 0 rfl) rfl ?_
  refine j_istore_n C (D 1 rfl) rfl ?_
  refine j_iconst C (v := nI 0) (D 2 rfl) rfl ?_
  refine j_istore_n C (D 3 rfl) rfl ?_
  exact Lp (vE V) 0 _ _ _ (by omega)
theorem lc_le {x y : Int64} : lg_cmp x y ≤ 0 ↔ x.toInt ≤ y.toInt := by rw [lg_cmp_le, l_le]
def isBL (x : Int64) : Prop := x = 0 ∨ x = 1
set_option maxRecDepth 20000 in
theorem d_two (l : Launch) (G : GT) (w : Wd) (op : Nat) (x y : Int64) (hop : op = 6 ∨ op = 7 ∨ op = 8 ∨ op = 9 ∨ op = 10 ∨ op = 12 ∨ op = 13) (hx : -500000000 ≤ x.toInt ∧ x.toInt ≤ 500000000) (hy : -500000000 ≤ y.toInt ∧ y.toInt ≤ 500000000) (hf : 12 ≤ op → isBL x ∧ isBL y) : Mt l G mX12_two (0) 0 0 [.int (nI op), .long x, .long y] w (pV (.long (Int64.ofInt (twoZ op x.toInt y.toInt))) w) := by
  refine mt_of (own := RX12) (by decide) rfl rfl (fun Z C P B => ?_)
  have D := @dc_of _ _ dX12_two
  refine j_iload_n C (D 0 rfl) rfl ?_
  rcases hop with rfl | rfl | rfl | rfl | rfl | rfl | rfl
  · refine j_tableIn C 44 (D 1 rfl) (by decide) (by decide) rfl (by decide) ?_
    refine j_lload_n C (D 2 rfl) rfl ?_
    refine j_lload_n C (D 3 rfl) rfl ?_
    refine j_ladd C (D 4 rfl) ?_
    exact j_lret C P rfl (D 5 rfl) ⟨Nat.le_refl _, Nat.le_refl _⟩ (pv_l (eq_ofL (by rw [l_add (by omega) (by omega)]; rfl)))
  · refine j_tableIn C 48 (D 1 rfl) (by decide) (by decide) rfl (by decide) ?_
    refine j_lload_n C (D 6 rfl) rfl ?_
    refine j_lload_n C (D 7 rfl) rfl ?_
    refine j_lsub C (D 8 rfl) ?_
    exact j_lret C P rfl (D 9 rfl) ⟨Nat.le_refl _, Nat.le_refl _⟩ (pv_l (eq_ofL (by rw [l_sub (by omega) (by omega)]; rfl)))
  · refine j_tableIn C 52 (D 1 rfl) (by decide) (by decide) rfl (by decide) ?_
    refine j_lload_n C (D 10 rfl) rfl ?_
    refine j_lload_n C (D 11 rfl) rfl ?_
    refine j_lcmp C (D 12 rfl) ?_
    refine j_if_ge C  62 (D 13 rfl) (by decide) (fun h55 => ?_) (fun h55 => ?_)
    · refine j_lconst C (v := 0) (D 16 rfl) rfl ?_
      exact j_lret C P rfl (D 17 rfl) ⟨Nat.le_refl _, Nat.le_refl _⟩ (pv_l (eq_ofL (by rw [two8, if_neg (by rw [lc_ge] at h55; omega)]; decide)))
    · refine j_lconst C (v := 1) (D 14 rfl) rfl ?_
      refine j_goto C 63 (D 15 rfl) (by decide) ?_
      exact j_lret C P rfl (D 17 rfl) ⟨Nat.le_refl _, Nat.le_refl _⟩ (pv_l (eq_ofL (by rw [two8, if_pos (by rw [lc_ge] at h55; omega)]; decide)))
  · refine j_tableIn C 64 (D 1 rfl) (by decide) (by decide) rfl (by decide) ?_
    refine j_lload_n C (D 18 rfl) rfl ?_
    refine j_lload_n C (D 19 rfl) rfl ?_
    refine j_lcmp C (D 20 rfl) ?_
    refine j_if_ne C  74 (D 21 rfl) (by decide) (fun h67 => ?_) (fun h67 => ?_)
    · refine j_lconst C (v := 0) (D 24 rfl) rfl ?_
      exact j_lret C P rfl (D 25 rfl) ⟨Nat.le_refl _, Nat.le_refl _⟩ (pv_l (eq_ofL (by rw [two9, if_neg (by rw [lg_cmp_eq, l_eq] at h67; omega)]; decide)))
    · refine j_lconst C (v := 1) (D 22 rfl) rfl ?_
      refine j_goto C 75 (D 23 rfl) (by decide) ?_
      exact j_lret C P rfl (D 25 rfl) ⟨Nat.le_refl _, Nat.le_refl _⟩ (pv_l (eq_ofL (by rw [two9, if_pos (by rw [lg_cmp_eq, l_eq] at h67; omega)]; decide)))
  · refine j_tableIn C 76 (D 1 rfl) (by decide) (by decide) rfl (by decide) ?_
    refine j_lload_n C (D 26 rfl) rfl ?_
    refine j_lload_n C (D 27 rfl) rfl ?_
    refine j_lcmp C (D 28 rfl) ?_
    refine j_if_le C  86 (D 29 rfl) (by decide) (fun h79 => ?_) (fun h79 => ?_)
    · refine j_lconst C (v := 0) (D 32 rfl) rfl ?_
      exact j_lret C P rfl (D 33 rfl) ⟨Nat.le_refl _, Nat.le_refl _⟩ (pv_l (eq_ofL (by rw [two10, if_neg (by rw [lc_le] at h79; omega)]; decide)))
    · refine j_lconst C (v := 1) (D 30 rfl) rfl ?_
      refine j_goto C 87 (D 31 rfl) (by decide) ?_
      exact j_lret C P rfl (D 33 rfl) ⟨Nat.le_refl _, Nat.le_refl _⟩ (pv_l (eq_ofL (by rw [two10, if_pos (by rw [lc_le] at h79; omega)]; decide)))
  · refine j_tableIn C 88 (D 1 rfl) (by decide) (by decide) rfl (by decide) ?_
    refine j_lload_n C (D 34 rfl) rfl ?_
    refine j_lload_n C (D 35 rfl) rfl ?_
    refine j_land C (D 36 rfl) ?_
    exact j_lret C P rfl (D 37 rfl) ⟨Nat.le_refl _, Nat.le_refl _⟩ (pv_l (by obtain ⟨hx1, hy1⟩ := hf (by omega); rcases hx1 with rfl | rfl <;> rcases hy1 with rfl | rfl <;> decide))
  · refine j_tableOut C 92 (D 1 rfl) (by decide) (by decide) ?_
    refine j_lload_n C (D 38 rfl) rfl ?_
    refine j_lload_n C (D 39 rfl) rfl ?_
    refine j_lor C (D 40 rfl) ?_
    exact j_lret C P rfl (D 41 rfl) ⟨Nat.le_refl _, Nat.le_refl _⟩ (pv_l (by obtain ⟨hx1, hy1⟩ := hf (by omega); rcases hx1 with rfl | rfl <;> rcases hy1 with rfl | rfl <;> decide))
set_option maxRecDepth 20000 in
theorem d_asked (l : Launch) (G : GT) {I : Nat → Nat → Int32} {L : Nat → Nat → Int64} {R : Nat → Nat → Option Nat} (hL : Lay R) {V : VT} (hV : WV V) (hM : MT I V) {Pt : Nat → Nat → Int32} {g : Nat → Nat → Bool} (hz : pza V Pt g) (hl : ML I V Pt g) (a : Nat) (ha : a < vA V) (op : Nat) (v : Int32) (hop : op ≤ 5) (hv : 0 ≤ v.toInt ∧ v.toInt ≤ 99999) (h1 : op = 1 → v.toInt < vE V) : Mt l G mX12_asked (2) 0 0 [.ref (ra G 172), .int (nI op), .int v, .int (nI a)] (wd I L R) (pV (.long (Int64.ofInt (envZ (Pt a) (g a) (vE V) op v))) (wd I L R)) := by
  refine mt_of (own := RX12) (by decide) rfl rfl (fun Z C P B => ?_)
  have D := @dc_of _ _ dX12_asked
  have hA8 := hV.2.1
  have hE10 := hV.1
  have ha8 : a < 8 := by omega
  refine j_iload_n C (D 0 rfl) rfl ?_
  rcases (show op = 0 ∨ op = 1 ∨ op = 2 ∨ op = 3 ∨ op = 4 ∨ op = 5 by omega) with rfl | rfl | rfl | rfl | rfl | rfl
  · refine j_tableIn C 36 (D 1 rfl) (by decide) (by decide) rfl (by decide) ?_
    refine j_iload_n C (D 2 rfl) rfl ?_
    refine j_i2l C (D 3 rfl) ?_
    exact j_lret C P rfl (D 4 rfl) ⟨Nat.le_refl _, Nat.le_refl _⟩ (pv_l (eq_ofL (by rw [i_l, envZ_0])))
  · refine j_tableIn C 39 (D 1 rfl) (by decide) (by decide) rfl (by decide) ?_
    obtain ⟨k, hk1, rfl, hk2⟩ := i_nat (a := v) hv.1
    have hkn : k < vE V := by have := h1 rfl; omega
    refine j_aload_n C (D 5 rfl) rfl ?_
    refine j_getr C f_X12_60 (lit (kd := 12) (n := 48) rfl) rfl rfl (hL _ _ _ rfl) (D 6 rfl) ?_
    refine j_bipush C (v := nI 10) (D 7 rfl) rfl ?_
    refine j_iload_n C (D 8 rfl) rfl ?_
    refine j_imul C (D 9 rfl) ?_
    refine j_iload_n C (D 10 rfl) rfl ?_
    refine j_iadd C (D 11 rfl) ?_
    refine j_iald C (lit (kd := 20) (n := 80) rfl) (ix_cell' ha8 (by omega)) (D 12 rfl) ?_
    rw [(hl a k ha hkn).1]
    refine j_i2l C (D 13 rfl) ?_
    exact j_lret C P rfl (D 14 rfl) ⟨Nat.le_refl _, Nat.le_refl _⟩ (pv_l (eq_ofL (by rw [i_l, envZ_1, hk2]; rfl)))
  · refine j_tableIn C 52 (D 1 rfl) (by decide) (by decide) rfl (by decide) ?_
    refine j_aload_n C (D 15 rfl) rfl ?_
    refine j_iload_n C (D 16 rfl) rfl ?_
    refine j_cVp C B k_X12_368 (rc_obj C (lit (kd := 12) (n := 48) rfl) rfl rfl) (d_sumOf _ _ hL hV hM hz hl a ha) rfl rfl rfl rfl ⟨Nat.le_refl _, Nat.le_refl _⟩ (D 17 rfl) ?_
    refine j_i2l C (D 18 rfl) ?_
    exact j_lret C P rfl (D 19 rfl) ⟨Nat.le_refl _, Nat.le_refl _⟩ (pv_l (eq_ofL (by rw [i_l, envZ_2])))
  · refine j_tableIn C 59 (D 1 rfl) (by decide) (by decide) rfl (by decide) ?_
    refine j_aload_n C (D 20 rfl) rfl ?_
    refine j_iload_n C (D 21 rfl) rfl ?_
    refine j_cVp C B k_X12_371 (rc_obj C (lit (kd := 12) (n := 48) rfl) rfl rfl) (d_doneOf _ _ hL hV hM hz hl a ha) rfl rfl rfl rfl ⟨Nat.le_refl _, Nat.le_refl _⟩ (D 22 rfl) ?_
    refine j_i2l C (D 23 rfl) ?_
    exact j_lret C P rfl (D 24 rfl) ⟨Nat.le_refl _, Nat.le_refl _⟩ (pv_l (eq_ofL (by rw [i_l, envZ_3, nI_int (by have := cnt_le (g a) (vE V); omega)])))
  · refine j_tableIn C 66 (D 1 rfl) (by decide) (by decide) rfl (by decide) ?_
    refine j_aload_n C (D 25 rfl) rfl ?_
    refine j_iload_n C (D 26 rfl) rfl ?_
    refine j_cVp C B k_X12_374 (rc_obj C (lit (kd := 12) (n := 48) rfl) rfl rfl) (d_bestOf _ _ hL hV hM hz hl a ha) rfl rfl rfl rfl ⟨Nat.le_refl _, Nat.le_refl _⟩ (D 27 rfl) ?_
    refine j_i2l C (D 28 rfl) ?_
    exact j_lret C P rfl (D 29 rfl) ⟨Nat.le_refl _, Nat.le_refl _⟩ (pv_l (eq_ofL (by rw [i_l, envZ_4])))
  · refine j_tableOut C 73 (D 1 rfl) (by decide) (by decide) ?_
    refine j_aload_n C (D 30 rfl) rfl ?_
    refine j_iload_n C (D 31 rfl) rfl ?_
    refine j_cVp C B k_X12_377 (rc_obj C (lit (kd := 12) (n := 48) rfl) rfl rfl) (d_leastOf _ _ hL hV hM hz hl a ha) rfl rfl rfl rfl ⟨Nat.le_refl _, Nat.le_refl _⟩ (D 32 rfl) ?_
    refine j_i2l C (D 33 rfl) ?_
    exact j_lret C P rfl (D 34 rfl) ⟨Nat.le_refl _, Nat.le_refl _⟩ (pv_l (eq_ofL (by rw [i_l, envZ_5])))
