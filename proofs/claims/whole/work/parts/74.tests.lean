/-! TESTS as the class reads them -/
def eP0 (c b j : Nat) : Prop := (b = 4 ∧ (j = 4 ∨ j = 5 ∨ j = 6)) ∨ (b = c + 5 ∧ j = 4) ∨ b = c + 8
def eP1 (c b j : Nat) : Prop := (b = 4 ∧ (j = 0 ∨ j = 1 ∨ j = 4 ∨ j = 5 ∨ j = 6)) ∨ (b = c + 5 ∧ j = 4) ∨ b = c + 8
theorem eP01 (c b j : Nat) (h : eP0 c b j) : eP1 c b j := by unfold eP0 at h; unfold eP1; omega
theorem rP0e (c b j : Nat) (h : rP0 b j) : eP0 c b j := Or.inl h
theorem rP1e (c b j : Nat) (h : rP1 b j) : eP1 c b j := Or.inl h
theorem rP0e1 (c b j : Nat) (h : rP0 b j) : eP1 c b j := eP01 c b j (Or.inl h)
/-- o was put behind the first m of the code -/
def CDE (I I' : Nat → Nat → Int32) (c m : Nat) (o : OPS) : Prop := I' (c + 5) 4 = nI (m + o.length) ∧ (∀ x q, o[x]? = some q → I' (c + 8) (m + x) = encC q) ∧ ∀ x, x < m → I' (c + 8) x = I (c + 8) x
def eO (I : Nat → Nat → Int32) (c m : Nat) (x : OPS × Nat) (I' : Nat → Nat → Int32) : Prop := I' 4 4 = nI x.2 ∧ CDE I I' c m x.1
def PC (I : Nat → Nat → Int32) (R : Nat → Nat → Option Nat) (T : Nat → TK) (N c nE m i : Nat) : Prop := SE I R T N i ∧ R 4 3 = some c ∧ I (c + 5) 4 = nI m ∧ m ≤ i ∧ I c 5 = nI nE
theorem CDE_nil {I I' : Nat → Nat → Int32} {c m : Nat} (hc : isC c) (h : I (c + 5) 4 = nI m) (hF : Fx rP0 I I') : CDE I I' c m [] :=
  ⟨by rw [hF _ _ (fun z => by have := z.1; rcases hc with rfl | rfl <;> omega)]; exact h, fun x q hq => (by cases hq), fun x hx => hF _ _ (fun z => by have := z.1; rcases hc with rfl | rfl <;> omega)⟩
theorem CDE_r {I I1 I2 : Nat → Nat → Int32} {c m : Nat} {o : OPS} (hc : isC c) (h : CDE I I1 c m o) (hF : Fx rP0 I1 I2) : CDE I I2 c m o := by
  have e : ∀ x, I2 (c + 8) x = I1 (c + 8) x := fun x => hF _ _ (fun z => by have := z.1; rcases hc with rfl | rfl <;> omega)
  exact ⟨by rw [hF _ _ (fun z => by have := z.1; rcases hc with rfl | rfl <;> omega)]; exact h.1, fun x q hq => by rw [e]; exact h.2.1 x q hq, fun x hx => by rw [e]; exact h.2.2 x hx⟩
theorem CDE_l {I I1 I2 : Nat → Nat → Int32} {c m : Nat} {o : OPS} (hc : isC c) (hF : Fx rP0 I I1) (h : CDE I1 I2 c m o) : CDE I I2 c m o :=
  ⟨h.1, h.2.1, fun x hx => by rw [h.2.2 x hx]; exact hF _ _ (fun z => by have := z.1; rcases hc with rfl | rfl <;> omega)⟩
theorem CDE_app {I I1 I2 : Nat → Nat → Int32} {c m : Nat} {a b : OPS} (h1 : CDE I I1 c m a) (h2 : CDE I1 I2 c (m + a.length) b) : CDE I I2 c m (a ++ b) := by
  refine ⟨by rw [h2.1, List.length_append, Nat.add_assoc], fun x q hq => ?_, fun x hx => by rw [h2.2.2 x (by omega)]; exact h1.2.2 x hx⟩
  by_cases c : x < a.length
  · rw [List.getElem?_append_left c] at hq
    rw [h2.2.2 (m + x) (by omega)]
    exact h1.2.1 x q hq
  · rw [List.getElem?_append_right (by omega)] at hq
    have := h2.2.1 (x - a.length) q hq
    rw [show m + a.length + (x - a.length) = m + x by omega] at this
    exact this
theorem CDE_emit {I : Nat → Nat → Int32} {c m : Nat} {q : Nat × Int32} : CDE I (up2 (up2 I (c + 8) m (encC q)) (c + 5) 4 (nI (m + 1))) c m [q] := by
  refine ⟨by rw [up2_same]; rfl, fun x r hr => ?_, fun x hx => by rw [up2_i (by omega), up2_i (by omega)]⟩
  match x, hr with
  | 0, hr =>
    cases hr
    rw [up2_i (by omega)]
    exact up2_same _ _ _ _
theorem ct_ne {c : Nat} (hc : isC c) : ¬ c + 5 = 4 ∧ ¬ c + 8 = 4 ∧ ¬ c = 4 ∧ ¬ c + 5 = 5 ∧ ¬ c + 5 = 7 ∧ ¬ c + 5 = 8 ∧ ¬ c + 8 = 5 ∧ ¬ c + 8 = 7 ∧ ¬ c + 8 = 8 := by rcases hc with rfl | rfl <;> omega
theorem PC_go {I I' : Nat → Nat → Int32} {R : Nat → Nat → Option Nat} {T : Nat → TK} {N c nE m i j : Nat} {o : OPS} (hc : isC c) (h : PC I R T N c nE m i) (hF : Fx (eP0 c) I I') (h4 : I' 4 4 = nI j) (hj : j ≤ N) (hC : CDE I I' c m o) (hm : m + o.length ≤ j) : PC I' R T N c nE (m + o.length) j := by
  have hn := ct_ne hc
  exact ⟨SE_go h.1 hF (fun b k z => by unfold eP0 at z; omega) h4 hj, h.2.1, hC.1, hm, by rw [hF _ _ (fun z => by unfold eP0 at z; omega)]; exact h.2.2.2.2⟩
theorem adv_F {I : Nat → Nat → Int32} {v : Int32} : Fx rP0 I (up2 I 4 4 v) := Fx.up (Fx.rf _ _) ⟨rfl, by omega⟩
theorem PC_r {I I' : Nat → Nat → Int32} {R : Nat → Nat → Option Nat} {T : Nat → TK} {N c nE m i j : Nat} (hc : isC c) (h : PC I R T N c nE m i) (hF : Fx rP0 I I') (h4 : I' 4 4 = nI j) (hj : j ≤ N) (hij : i ≤ j) : PC I' R T N c nE m j :=
  PC_go (o := []) hc h (hF.mo (rP0e c)) h4 hj (CDE_nil hc h.2.2.1 hF) (by have := h.2.2.2.1; simp only [List.length_nil]; omega)
theorem em_F {I : Nat → Nat → Int32} {c m : Nat} {v w : Int32} : Fx (eP0 c) I (up2 (up2 I (c + 8) m v) (c + 5) 4 w) := Fx.up (Fx.up (Fx.rf _ _) (Or.inr (Or.inr rfl))) (Or.inr (Or.inl ⟨rfl, rfl⟩))
/-- behind one more round of a chain -/
theorem lp_next {I I1 I2 : Nat → Nat → Int32} {R : Nat → Nat → Option Nat} {T : Nat → TK} {N c nE m0 i i2 : Nat} {o o2 : OPS} {q : Nat × Int32} (hc : isC c) (h1 : PC I1 R T N c nE (m0 + o.length) i) (hC : CDE I I1 c m0 o) (hF : Fx (eP0 c) I I1) (z0 : I2 4 4 = nI i2) (zC : CDE (up2 I1 4 4 (nI (i + 1))) I2 c (m0 + o.length) o2) (zF : Fx (eP0 c) (up2 I1 4 4 (nI (i + 1))) I2) (hj : i2 ≤ N) (hl : o2.length + (i + 1) ≤ i2) :
    PC (up2 (up2 I2 (c + 8) (m0 + o.length + o2.length) (encC q)) (c + 5) 4 (nI (m0 + o.length + o2.length + 1))) R T N c nE (m0 + (o ++ (o2 ++ [q])).length) i2 ∧ CDE I (up2 (up2 I2 (c + 8) (m0 + o.length + o2.length) (encC q)) (c + 5) 4 (nI (m0 + o.length + o2.length + 1))) c m0 (o ++ (o2 ++ [q])) ∧ Fx (eP0 c) I (up2 (up2 I2 (c + 8) (m0 + o.length + o2.length) (encC q)) (c + 5) 4 (nI (m0 + o.length + o2.length + 1))) := by
  have hn := ct_ne hc
  have hm := h1.2.2.2.1
  have f1 : Fx (eP0 c) I1 I2 := (adv_F.mo (rP0e c)).tr zF
  have c1 : CDE I1 I2 c (m0 + o.length) o2 := CDE_l hc adv_F zC
  have c2 := CDE_app c1 (CDE_emit (I := I2) (q := q))
  have f2 := f1.tr (em_F (I := I2) (c := c) (m := m0 + o.length + o2.length) (v := encC q) (w := nI (m0 + o.length + o2.length + 1)))
  have c3 := CDE_app hC c2
  refine ⟨?_, c3, hF.tr f2⟩
  have := PC_go hc h1 f2 (by rw [up2_i (by omega), up2_i (by omega)]; exact z0) hj c2 (by simp only [List.length_append, List.length_cons, List.length_nil]; omega)
  rw [List.length_append, ← Nat.add_assoc]
  exact this
set_option maxRecDepth 20000 in
theorem c_emit (l : Launch) (G : GT) {c : Nat} (hc : isC c) {I : Nat → Nat → Int32} {L : Nat → Nat → Int64} {R : Nat → Nat → Option Nat} (hL : Lay R) {m : Nat} (hm : I (c + 5) 4 = nI m) (hm2 : m < 1200) (q : Nat × Int32) : Mt l G mX0_emit (0) 0 0 [.ref (ra G (c + 5)), .int (nI (cop q.1)), .int q.2] (wd I L R) (fun r w' => r = none ∧ w' = wd (up2 (up2 I (c + 8) m (encC q)) (c + 5) 4 (nI (m + 1))) L R) := by
  refine mt_of (own := RX0) (by decide) rfl rfl (fun Z C P B => ?_)
  have D := @dc_of _ _ dX0_emit
  have hn := ct_ne hc
  refine j_aload_n C (D 0 rfl) rfl ?_
  refine j_geti C f_X0_28 (sC5 hc) rfl rfl (D 1 rfl) ?_
  rw [hm]
  refine j_aload_n C (D 2 rfl) rfl ?_
  refine j_getr C f_X0_18 (sC5 hc) rfl rfl (hL _ _ _ (rB3 hc)) (D 3 rfl) ?_
  refine j_alen C (kd := 0) (sC8 hc) rfl (D 4 rfl) ?_
  refine j_icmp_ge C  37 (D 5 rfl) (by decide) (fun h9 => absurd h9 (fun z => by rw [nle (by omega) (by omega)] at z; omega)) (fun h9 => ?_)
  refine j_aload_n C (D 6 rfl) rfl ?_
  refine j_getr C f_X0_18 (sC5 hc) rfl rfl (hL _ _ _ (rB3 hc)) (D 7 rfl) ?_
  refine j_aload_n C (D 8 rfl) rfl ?_
  refine j_geti C f_X0_28 (sC5 hc) rfl rfl (D 9 rfl) ?_
  rw [hm]
  refine j_iload_n C (D 10 rfl) rfl ?_
  refine j_ldc C (v := 100000) (D 11 rfl) n_X0_34 ?_
  refine j_imul C (D 12 rfl) ?_
  refine j_iload_n C (D 13 rfl) rfl ?_
  refine j_iadd C (D 14 rfl) ?_
  refine j_iast C (sC8 hc) (ix_n (by omega) (by decide)) (D 15 rfl) ?_
  refine j_aload_n C (D 16 rfl) rfl ?_
  refine j_dup C (D 17 rfl) rfl ?_
  refine j_geti C f_X0_28 (sC5 hc) rfl rfl (D 18 rfl) ?_
  rw [up2_i (by omega), hm]
  refine j_iconst C (v := nI 1) (D 19 rfl) rfl ?_
  refine j_iadd C (D 20 rfl) ?_
  rw [nI_add]
  refine j_puti C f_X0_28 (sC5 hc) rfl rfl (D 21 rfl) ?_
  exact j_vret C P rfl (D 22 rfl) ⟨Nat.le_refl _, Nat.le_refl _⟩ ⟨rfl, rfl⟩
set_option maxRecDepth 20000 in
theorem c_readWord (l : Launch) (G : GT) {c : Nat} (hc : isC c) {I : Nat → Nat → Int32} {L : Nat → Nat → Int64} {R : Nat → Nat → Option Nat} (hL : Lay R) {T : Nat → TK} {N nE m i : Nat} (hN : TN T N) (hE : nE ≤ 10) (hP : PC I R T N c nE m i) : Mt l G mX4_readWord (1) 0 0 [.ref (ra G 4)] (wd I L R) (PX I L R (eP0 c) (eP1 c) (eO I c m) (opW T i)) := by
  refine mt_of (own := RX4) (by decide) rfl rfl (fun Z C P B => ?_)
  have D := @dc_of _ _ dX4_readWord
  have hr3 := hP.2.1
  have hn := ct_ne hc
  have hN1 := hN.1
  have hi1 := hP.1.2.2
  have hm1 := hP.2.2.2.1
  refine j_iconst C (v := nI 2) (D 0 rfl) rfl ?_
  refine j_istore_n C (D 1 rfl) rfl ?_
  refine j_aload_n C (D 2 rfl) rfl ?_
  refine j_gsgn C (i := 25) (by decide) s_X4_339 (D 3 rfl) ?_
  refine j_cVp C B k_X4_52 (rc_obj C (lit (kd := 4) (n := 8) rfl) rfl rfl) (c_sees _ _ hL hN hP.1 (by decide)) rfl rfl rfl rfl ⟨Nat.le_refl _, Nat.le_refl _⟩ (D 4 rfl) ?_
  refine j_if_eq C  17 (D 5 rfl) (by decide) (fun h9 => ?_) (fun h9 => ?_)
  · refine j_aload_n C (D 9 rfl) rfl ?_
    refine j_gsgn C (i := 12) (by decide) s_X4_240 (D 10 rfl) ?_
    refine j_cVp C B k_X4_52 (rc_obj C (lit (kd := 4) (n := 8) rfl) rfl rfl) (c_sees _ _ hL hN hP.1 (by decide)) rfl rfl rfl rfl ⟨Nat.le_refl _, Nat.le_refl _⟩ (D 11 rfl) ?_
    refine j_if_eq C  32 (D 12 rfl) (by decide) (fun h24 => ?_) (fun h24 => ?_)
    · refine j_aload_n C (D 16 rfl) rfl ?_
      refine j_gsgn C (i := 26) (by decide) s_X4_342 (D 17 rfl) ?_
      refine j_cVp C B k_X4_52 (rc_obj C (lit (kd := 4) (n := 8) rfl) rfl rfl) (c_sees _ _ hL hN hP.1 (by decide)) rfl rfl rfl rfl ⟨Nat.le_refl _, Nat.le_refl _⟩ (D 18 rfl) ?_
      refine j_if_eq C  47 (D 19 rfl) (by decide) (fun h39 => ?_) (fun h39 => ?_)
      · refine j_aload_n C (D 23 rfl) rfl ?_
        refine j_gsgn C (i := 24) (by decide) s_X4_345 (D 24 rfl) ?_
        refine j_cVp C B k_X4_52 (rc_obj C (lit (kd := 4) (n := 8) rfl) rfl rfl) (c_sees _ _ hL hN hP.1 (by decide)) rfl rfl rfl rfl ⟨Nat.le_refl _, Nat.le_refl _⟩ (D 25 rfl) ?_
        refine j_if_ne C  63 (D 26 rfl) (by decide) (fun h54 => ?_) (fun h54 => ?_)
        · have hw : wop (T i).1 = 2 := by unfold wop; rw [if_neg (b2_eq h9), if_neg (b2_eq h24), if_neg (b2_eq h39), if_pos (b2_ne h54)]
          have hlt : i < N := lt_of_T hN.2.1 hi1 (by rw [b2_ne h54]; decide)
          refine j_aload_n C (D 31 rfl) rfl ?_
          refine j_getr C f_X4_25 (lit (kd := 4) (n := 8) rfl) rfl rfl hr3 (D 32 rfl) ?_
          refine j_getr C f_X4_129 (sC0 hc) rfl rfl (hL _ _ _ (rC4 hc)) (D 33 rfl) ?_
          refine j_iload_n C (D 34 rfl) rfl ?_
          refine j_iconst C (v := nI 0) (D 35 rfl) rfl ?_
          refine j_callV C B k_X4_281 (rc_obj C (sC5 hc) rfl rfl) (c_emit _ _ hc hL hP.2.2.1 (by omega) (2, 0)) rfl rfl rfl rfl ⟨Nat.le_refl _, Nat.le_refl _⟩ (D 36 rfl) ?_
          rintro r w' ⟨rfl, rfl⟩
          refine j_aload_n C (D 37 rfl) rfl ?_
          refine j_callV C B k_X4_77 (rc_obj C (lit (kd := 4) (n := 8) rfl) rfl rfl) (c_advance _ _ hL hN (SE_go hP.1 em_F (fun b k z => by unfold eP0 at z; omega) (by rw [up2_i (by omega), up2_i (by omega)]; exact hP.1.2.1) hi1) hlt) rfl rfl rfl rfl ⟨Nat.le_refl _, Nat.le_refl _⟩ (D 38 rfl) ?_
          rintro r w' ⟨rfl, rfl⟩
          exact j_zret C P rfl (by first | exact Or.inl rfl | exact Or.inr rfl | assumption) (D 39 rfl) ⟨Nat.le_refl _, Nat.le_refl _⟩ (PX_o (a := ([(2, 0)], i + 1)) (by unfold opW; rw [hw, if_neg (by decide)]) ⟨up2_same _ _ _ _, CDE_r hc CDE_emit adv_F⟩ (em_F.tr (adv_F.mo (rP0e c))))
        · refine j_aload_n C (D 27 rfl) rfl ?_
          refine j_iconst C (v := nI 1) (D 28 rfl) rfl ?_
          refine j_callV C B k_X4_80 (rc_obj C (lit (kd := 4) (n := 8) rfl) rfl rfl) (c_refuse _ _ hL hN hP.1 1) rfl rfl rfl rfl ⟨Nat.le_refl _, Nat.le_refl _⟩ (D 29 rfl) ?_
          rintro r w' ⟨rfl, rfl⟩
          exact j_zret C P rfl (by first | exact Or.inl rfl | exact Or.inr rfl | assumption) (D 30 rfl) ⟨Nat.le_refl _, Nat.le_refl _⟩ (PX_e (e := fl T i 1) (by unfold opW wop; rw [if_neg (b2_eq h9), if_neg (b2_eq h24), if_neg (b2_eq h39), if_neg (b2_eq h54), if_pos rfl]) flt0 (up2_same _ _ _ _) (Fx.up (Fx.up (Fx.rf _ _) (Or.inl ⟨rfl, by omega⟩)) (Or.inl ⟨rfl, by omega⟩)))
      · refine j_iconst C (v := nI 5) (D 20 rfl) rfl ?_
        refine j_istore_n C (D 21 rfl) rfl ?_
        refine j_goto C 63 (D 22 rfl) (by decide) ?_
        have hw : wop (T i).1 = 5 := by unfold wop; rw [if_neg (b2_eq h9), if_neg (b2_eq h24), if_pos (b2_ne h39)]
        have hlt : i < N := lt_of_T hN.2.1 hi1 (by rw [b2_ne h39]; decide)
        refine j_aload_n C (D 31 rfl) rfl ?_
        refine j_getr C f_X4_25 (lit (kd := 4) (n := 8) rfl) rfl rfl hr3 (D 32 rfl) ?_
        refine j_getr C f_X4_129 (sC0 hc) rfl rfl (hL _ _ _ (rC4 hc)) (D 33 rfl) ?_
        refine j_iload_n C (D 34 rfl) rfl ?_
        refine j_iconst C (v := nI 0) (D 35 rfl) rfl ?_
        refine j_callV C B k_X4_281 (rc_obj C (sC5 hc) rfl rfl) (c_emit _ _ hc hL hP.2.2.1 (by omega) (5, 0)) rfl rfl rfl rfl ⟨Nat.le_refl _, Nat.le_refl _⟩ (D 36 rfl) ?_
        rintro r w' ⟨rfl, rfl⟩
        refine j_aload_n C (D 37 rfl) rfl ?_
        refine j_callV C B k_X4_77 (rc_obj C (lit (kd := 4) (n := 8) rfl) rfl rfl) (c_advance _ _ hL hN (SE_go hP.1 em_F (fun b k z => by unfold eP0 at z; omega) (by rw [up2_i (by omega), up2_i (by omega)]; exact hP.1.2.1) hi1) hlt) rfl rfl rfl rfl ⟨Nat.le_refl _, Nat.le_refl _⟩ (D 38 rfl) ?_
        rintro r w' ⟨rfl, rfl⟩
        exact j_zret C P rfl (by first | exact Or.inl rfl | exact Or.inr rfl | assumption) (D 39 rfl) ⟨Nat.le_refl _, Nat.le_refl _⟩ (PX_o (a := ([(5, 0)], i + 1)) (by unfold opW; rw [hw, if_neg (by decide)]) ⟨up2_same _ _ _ _, CDE_r hc CDE_emit adv_F⟩ (em_F.tr (adv_F.mo (rP0e c))))
    · refine j_iconst C (v := nI 4) (D 13 rfl) rfl ?_
      refine j_istore_n C (D 14 rfl) rfl ?_
      refine j_goto C 63 (D 15 rfl) (by decide) ?_
      have hw : wop (T i).1 = 4 := by unfold wop; rw [if_neg (b2_eq h9), if_pos (b2_ne h24)]
      have hlt : i < N := lt_of_T hN.2.1 hi1 (by rw [b2_ne h24]; decide)
      refine j_aload_n C (D 31 rfl) rfl ?_
      refine j_getr C f_X4_25 (lit (kd := 4) (n := 8) rfl) rfl rfl hr3 (D 32 rfl) ?_
      refine j_getr C f_X4_129 (sC0 hc) rfl rfl (hL _ _ _ (rC4 hc)) (D 33 rfl) ?_
      refine j_iload_n C (D 34 rfl) rfl ?_
      refine j_iconst C (v := nI 0) (D 35 rfl) rfl ?_
      refine j_callV C B k_X4_281 (rc_obj C (sC5 hc) rfl rfl) (c_emit _ _ hc hL hP.2.2.1 (by omega) (4, 0)) rfl rfl rfl rfl ⟨Nat.le_refl _, Nat.le_refl _⟩ (D 36 rfl) ?_
      rintro r w' ⟨rfl, rfl⟩
      refine j_aload_n C (D 37 rfl) rfl ?_
      refine j_callV C B k_X4_77 (rc_obj C (lit (kd := 4) (n := 8) rfl) rfl rfl) (c_advance _ _ hL hN (SE_go hP.1 em_F (fun b k z => by unfold eP0 at z; omega) (by rw [up2_i (by omega), up2_i (by omega)]; exact hP.1.2.1) hi1) hlt) rfl rfl rfl rfl ⟨Nat.le_refl _, Nat.le_refl _⟩ (D 38 rfl) ?_
      rintro r w' ⟨rfl, rfl⟩
      exact j_zret C P rfl (by first | exact Or.inl rfl | exact Or.inr rfl | assumption) (D 39 rfl) ⟨Nat.le_refl _, Nat.le_refl _⟩ (PX_o (a := ([(4, 0)], i + 1)) (by unfold opW; rw [hw, if_neg (by decide)]) ⟨up2_same _ _ _ _, CDE_r hc CDE_emit adv_F⟩ (em_F.tr (adv_F.mo (rP0e c))))
  · refine j_iconst C (v := nI 3) (D 6 rfl) rfl ?_
    refine j_istore_n C (D 7 rfl) rfl ?_
    refine j_goto C 63 (D 8 rfl) (by decide) ?_
    have hw : wop (T i).1 = 3 := by unfold wop; rw [if_pos (b2_ne h9)]
    have hlt : i < N := lt_of_T hN.2.1 hi1 (by rw [b2_ne h9]; decide)
    refine j_aload_n C (D 31 rfl) rfl ?_
    refine j_getr C f_X4_25 (lit (kd := 4) (n := 8) rfl) rfl rfl hr3 (D 32 rfl) ?_
    refine j_getr C f_X4_129 (sC0 hc) rfl rfl (hL _ _ _ (rC4 hc)) (D 33 rfl) ?_
    refine j_iload_n C (D 34 rfl) rfl ?_
    refine j_iconst C (v := nI 0) (D 35 rfl) rfl ?_
    refine j_callV C B k_X4_281 (rc_obj C (sC5 hc) rfl rfl) (c_emit _ _ hc hL hP.2.2.1 (by omega) (3, 0)) rfl rfl rfl rfl ⟨Nat.le_refl _, Nat.le_refl _⟩ (D 36 rfl) ?_
    rintro r w' ⟨rfl, rfl⟩
    refine j_aload_n C (D 37 rfl) rfl ?_
    refine j_callV C B k_X4_77 (rc_obj C (lit (kd := 4) (n := 8) rfl) rfl rfl) (c_advance _ _ hL hN (SE_go hP.1 em_F (fun b k z => by unfold eP0 at z; omega) (by rw [up2_i (by omega), up2_i (by omega)]; exact hP.1.2.1) hi1) hlt) rfl rfl rfl rfl ⟨Nat.le_refl _, Nat.le_refl _⟩ (D 38 rfl) ?_
    rintro r w' ⟨rfl, rfl⟩
    exact j_zret C P rfl (by first | exact Or.inl rfl | exact Or.inr rfl | assumption) (D 39 rfl) ⟨Nat.le_refl _, Nat.le_refl _⟩ (PX_o (a := ([(3, 0)], i + 1)) (by unfold opW; rw [hw, if_neg (by decide)]) ⟨up2_same _ _ _ _, CDE_r hc CDE_emit adv_F⟩ (em_F.tr (adv_F.mo (rP0e c))))
set_option maxRecDepth 20000 in
theorem c_readSum_of (l : Launch) (G : GT) {c : Nat} (hc : isC c) {I : Nat → Nat → Int32} {L : Nat → Nat → Int64} {R : Nat → Nat → Option Nat} (hL : Lay R) {T : Nat → TK} {N nE m i : Nat} (hN : TN T N) (hE : nE ≤ 10) (hP : PC I R T N c nE m i) {g : Nat → RE} {D d : Nat} {x : Int32} (hok : OKR N nE false D g) (hg : ∀ (l : Launch) (I : Nat → Nat → Int32) (m i : Nat), PC I R T N c nE m i → Mt l G mX4_readTerm d 0 0 [.ref (ra G 4), .int x] (wd I L R) (PX I L R (eP0 c) (eP1 c) (eO I c m) (g i))) : Mt l G mX4_readSum (d + 1) 0 0 [.ref (ra G 4), .int x] (wd I L R) (PX I L R (eP0 c) (eP1 c) (eO I c m) (sq T g sepS i)) := by
  refine mt_of (own := RX4) (by decide) rfl rfl (fun Z C P B => ?_)
  have D := @dc_of _ _ dX4_readSum
  have hr3 := hP.2.1
  have hN1 := hN.1
  have hi1 := hP.1.2.2
  have hm0 := hP.2.2.2.1
  have L1 : ∀ mm rd o i1 (I1 : Nat → Nat → Int32) (x3 : Option Value), rd + mm = 1200 → i < i1 → PC I1 R T N c nE (m + o.length) i1 → o.length + i ≤ i1 → CDE I I1 c m o → Fx (eP0 c) I I1 → chn T g sepS mm o i1 = sq T g sepS i → J Z (0, 0) 12 [some (.ref (ra G 4)), some (.int x), some (.int (nI rd)), x3] [] (wd I1 L R) := by
    intro mm
    induction mm with
    | zero =>
      intro rd o i1 I1 x3 hrd hi0 hP1 hl hC hF he
      have hj1 := hP1.1.2.2
      have hm1 := hP1.2.2.2.1
      refine j_iload_n C (D 8 rfl) rfl ?_
      refine j_sipush C (v := nI 1200) (D 9 rfl) rfl ?_
      refine j_icmp_ge C  90 (D 10 rfl) (by decide) (fun h16 => ?_) (fun h16 => absurd h16 (fun z => z ((nle (by omega) (by omega)).mpr (by omega))))
      refine j_iconst C (v := nI 1) (D 44 rfl) rfl ?_
      exact j_zret C P rfl (by first | exact Or.inl rfl | exact Or.inr rfl | assumption) (D 45 rfl) ⟨Nat.le_refl _, Nat.le_refl _⟩ (PX_o (a := (o, i1)) (by rw [← he, chn]) ⟨hP1.1.2.1, hC⟩ hF)
    | succ mm ih =>
      intro rd o i1 I1 x3 hrd hi0 hP1 hl hC hF he
      have hj1 := hP1.1.2.2
      have hm1 := hP1.2.2.2.1
      refine j_iload_n C (D 8 rfl) rfl ?_
      refine j_sipush C (v := nI 1200) (D 9 rfl) rfl ?_
      refine j_icmp_ge C  90 (D 10 rfl) (by decide) (fun h16 => absurd h16 (fun z => by rw [nle (by omega) (by omega)] at z; omega)) (fun h16 => ?_)
      refine j_aload_n C (D 11 rfl) rfl ?_
      refine j_gsgn C (i := 33) (by decide) s_X4_321 (D 12 rfl) ?_
      refine j_cVp C B k_X4_52 (rc_obj C (lit (kd := 4) (n := 8) rfl) rfl rfl) (c_sees _ _ hL hN hP1.1 (by decide)) rfl rfl (Nat.ble_eq_true_of_le (by omega)) rfl ⟨Nat.le_refl _, Nat.le_refl _⟩ (D 13 rfl) ?_
      refine j_if_ne C  39 (D 14 rfl) (by decide) (fun h26 => ?_) (fun h26 => ?_)
      · refine j_aload_n C (D 19 rfl) rfl ?_
        refine j_gsgn C (i := 33) (by decide) s_X4_321 (D 20 rfl) ?_
        refine j_cVp C B k_X4_52 (rc_obj C (lit (kd := 4) (n := 8) rfl) rfl rfl) (c_sees _ _ hL hN hP1.1 (by decide)) rfl rfl (Nat.ble_eq_true_of_le (by omega)) rfl ⟨Nat.le_refl _, Nat.le_refl _⟩ (D 21 rfl) ?_
        refine j_if_eq C  54 (D 22 rfl) (by decide) (fun h46 => absurd h46 (fun z => b2_eq z (b2_ne h26))) (fun h46 => ?_)
        refine j_bipush C (v := nI 6) (D 23 rfl) rfl ?_
        refine j_goto C 56 (D 24 rfl) (by decide) ?_
        refine j_istore_n C (D 26 rfl) rfl ?_
        have hsep : sepS (T i1).1 = 6 := by unfold sepS; rw [if_pos (b2_ne h26)]
        have hlt : i1 < N := lt_of_T hN.2.1 hj1 (by rw [b2_ne h26]; decide)
        refine j_aload_n C (D 27 rfl) rfl ?_
        refine j_callV C B k_X4_77 (rc_obj C (lit (kd := 4) (n := 8) rfl) rfl rfl) (c_advance _ _ hL hN hP1.1 hlt) rfl rfl (Nat.ble_eq_true_of_le (by omega)) rfl ⟨Nat.le_refl _, Nat.le_refl _⟩ (D 28 rfl) ?_
        rintro r w' ⟨rfl, rfl⟩
        refine j_pop C (D 29 rfl) rfl ?_
        refine j_aload_n C (D 30 rfl) rfl ?_
        refine j_iload_n C (D 31 rfl) rfl ?_
        refine j_callV C B k_X4_318 (rc_obj C (lit (kd := 4) (n := 8) rfl) rfl rfl) (hg _ _ _ _ (PC_r hc hP1 adv_F (up2_same _ _ _ _) hlt (by omega))) rfl rfl (Nat.ble_eq_true_of_le (by omega)) rfl ⟨Nat.le_refl _, Nat.le_refl _⟩ (D 32 rfl) ?_
        rintro r w' ⟨rfl, I2, rfl, k0, k1⟩
        refine j_if_ne C  72 (D 33 rfl) (by decide) (fun h67 => ?_) (fun h67 => ?_)
        · obtain ⟨⟨o2, i2⟩, hq⟩ := okB_ne h67
          obtain ⟨⟨z0, zC⟩, zF⟩ := k1 _ hq
          have zC : CDE (up2 I1 4 4 (nI (i1 + 1))) I2 c (m + o.length) o2 := zC
          have hk := hok (i1 + 1) (by omega)
          rw [hq] at hk
          obtain ⟨a1, a2, a3, -⟩ := hk
          refine j_aload_n C (D 36 rfl) rfl ?_
          refine j_getr C f_X4_25 (lit (kd := 4) (n := 8) rfl) rfl rfl hr3 (D 37 rfl) ?_
          refine j_getr C f_X4_129 (sC0 hc) rfl rfl (hL _ _ _ (rC4 hc)) (D 38 rfl) ?_
          refine j_iload_n C (D 39 rfl) rfl ?_
          refine j_iconst C (v := nI 0) (D 40 rfl) rfl ?_
          refine j_callV C B k_X4_281 (rc_obj C (sC5 hc) rfl rfl) (c_emit _ _ hc hL zC.1 (by omega) (6, 0)) rfl rfl (Nat.ble_eq_true_of_le (by omega)) rfl ⟨Nat.le_refl _, Nat.le_refl _⟩ (D 41 rfl) ?_
          rintro r w' ⟨rfl, rfl⟩
          first | refine j_iinc1 C (D 42 rfl) rfl rfl ?_ | refine j_iinc C (D 42 rfl) rfl rfl rfl ?_
          refine j_goto C 12 (D 43 rfl) (by decide) ?_
          obtain ⟨y1, y2, y3⟩ := lp_next (q := (6, 0)) hc hP1 hC hF z0 zC zF a2 a3
          exact ih (rd + 1) (o ++ (o2 ++ [(6, 0)])) i2 _ _ (by omega) (by omega) y1 (by simp only [List.length_append, List.length_cons, List.length_nil]; omega) y2 y3 (by rw [← he, chn, if_neg (by rw [hsep]; decide), hq, hsep])
        · obtain ⟨e, hq⟩ := okB_eq h67
          obtain ⟨z0, z1, z2⟩ := k0 e hq
          refine j_iconst C (v := nI 0) (D 34 rfl) rfl ?_
          exact j_zret C P rfl (by first | exact Or.inl rfl | exact Or.inr rfl | assumption) (D 35 rfl) ⟨Nat.le_refl _, Nat.le_refl _⟩ (PX_e (e := e) (by rw [← he, chn, if_neg (by rw [hsep]; decide), hq]) z0 z1 (((hF.tr (adv_F.mo (rP0e c))).mo (eP01 c)).tr z2))
      · refine j_aload_n C (D 15 rfl) rfl ?_
        refine j_gsgn C (i := 34) (by decide) s_X4_324 (D 16 rfl) ?_
        refine j_cVp C B k_X4_52 (rc_obj C (lit (kd := 4) (n := 8) rfl) rfl rfl) (c_sees _ _ hL hN hP1.1 (by decide)) rfl rfl (Nat.ble_eq_true_of_le (by omega)) rfl ⟨Nat.le_refl _, Nat.le_refl _⟩ (D 17 rfl) ?_
        refine j_if_eq C  90 (D 18 rfl) (by decide) (fun h36 => ?_) (fun h36 => ?_)
        · refine j_iconst C (v := nI 1) (D 44 rfl) rfl ?_
          exact j_zret C P rfl (by first | exact Or.inl rfl | exact Or.inr rfl | assumption) (D 45 rfl) ⟨Nat.le_refl _, Nat.le_refl _⟩ (PX_o (a := (o, i1)) (by rw [← he, chn, if_pos (by unfold sepS; rw [if_neg (b2_eq h26), if_neg (b2_eq h36)])]) ⟨hP1.1.2.1, hC⟩ hF)
        · refine j_aload_n C (D 19 rfl) rfl ?_
          refine j_gsgn C (i := 33) (by decide) s_X4_321 (D 20 rfl) ?_
          refine j_cVp C B k_X4_52 (rc_obj C (lit (kd := 4) (n := 8) rfl) rfl rfl) (c_sees _ _ hL hN hP1.1 (by decide)) rfl rfl (Nat.ble_eq_true_of_le (by omega)) rfl ⟨Nat.le_refl _, Nat.le_refl _⟩ (D 21 rfl) ?_
          refine j_if_eq C  54 (D 22 rfl) (by decide) (fun h46 => ?_) (fun h46 => absurd h46 (fun z => z (b2_zero (b2_eq h26))))
          refine j_bipush C (v := nI 7) (D 25 rfl) rfl ?_
          refine j_istore_n C (D 26 rfl) rfl ?_
          have hsep : sepS (T i1).1 = 7 := by unfold sepS; rw [if_neg (b2_eq h26), if_pos (b2_ne h36)]
          have hlt : i1 < N := lt_of_T hN.2.1 hj1 (by rw [b2_ne h36]; decide)
          refine j_aload_n C (D 27 rfl) rfl ?_
          refine j_callV C B k_X4_77 (rc_obj C (lit (kd := 4) (n := 8) rfl) rfl rfl) (c_advance _ _ hL hN hP1.1 hlt) rfl rfl (Nat.ble_eq_true_of_le (by omega)) rfl ⟨Nat.le_refl _, Nat.le_refl _⟩ (D 28 rfl) ?_
          rintro r w' ⟨rfl, rfl⟩
          refine j_pop C (D 29 rfl) rfl ?_
          refine j_aload_n C (D 30 rfl) rfl ?_
          refine j_iload_n C (D 31 rfl) rfl ?_
          refine j_callV C B k_X4_318 (rc_obj C (lit (kd := 4) (n := 8) rfl) rfl rfl) (hg _ _ _ _ (PC_r hc hP1 adv_F (up2_same _ _ _ _) hlt (by omega))) rfl rfl (Nat.ble_eq_true_of_le (by omega)) rfl ⟨Nat.le_refl _, Nat.le_refl _⟩ (D 32 rfl) ?_
          rintro r w' ⟨rfl, I2, rfl, k0, k1⟩
          refine j_if_ne C  72 (D 33 rfl) (by decide) (fun h67 => ?_) (fun h67 => ?_)
          · obtain ⟨⟨o2, i2⟩, hq⟩ := okB_ne h67
            obtain ⟨⟨z0, zC⟩, zF⟩ := k1 _ hq
            have zC : CDE (up2 I1 4 4 (nI (i1 + 1))) I2 c (m + o.length) o2 := zC
            have hk := hok (i1 + 1) (by omega)
            rw [hq] at hk
            obtain ⟨a1, a2, a3, -⟩ := hk
            refine j_aload_n C (D 36 rfl) rfl ?_
            refine j_getr C f_X4_25 (lit (kd := 4) (n := 8) rfl) rfl rfl hr3 (D 37 rfl) ?_
            refine j_getr C f_X4_129 (sC0 hc) rfl rfl (hL _ _ _ (rC4 hc)) (D 38 rfl) ?_
            refine j_iload_n C (D 39 rfl) rfl ?_
            refine j_iconst C (v := nI 0) (D 40 rfl) rfl ?_
            refine j_callV C B k_X4_281 (rc_obj C (sC5 hc) rfl rfl) (c_emit _ _ hc hL zC.1 (by omega) (7, 0)) rfl rfl (Nat.ble_eq_true_of_le (by omega)) rfl ⟨Nat.le_refl _, Nat.le_refl _⟩ (D 41 rfl) ?_
            rintro r w' ⟨rfl, rfl⟩
            first | refine j_iinc1 C (D 42 rfl) rfl rfl ?_ | refine j_iinc C (D 42 rfl) rfl rfl rfl ?_
            refine j_goto C 12 (D 43 rfl) (by decide) ?_
            obtain ⟨y1, y2, y3⟩ := lp_next (q := (7, 0)) hc hP1 hC hF z0 zC zF a2 a3
            exact ih (rd + 1) (o ++ (o2 ++ [(7, 0)])) i2 _ _ (by omega) (by omega) y1 (by simp only [List.length_append, List.length_cons, List.length_nil]; omega) y2 y3 (by rw [← he, chn, if_neg (by rw [hsep]; decide), hq, hsep])
          · obtain ⟨e, hq⟩ := okB_eq h67
            obtain ⟨z0, z1, z2⟩ := k0 e hq
            refine j_iconst C (v := nI 0) (D 34 rfl) rfl ?_
            exact j_zret C P rfl (by first | exact Or.inl rfl | exact Or.inr rfl | assumption) (D 35 rfl) ⟨Nat.le_refl _, Nat.le_refl _⟩ (PX_e (e := e) (by rw [← he, chn, if_neg (by rw [hsep]; decide), hq]) z0 z1 (((hF.tr (adv_F.mo (rP0e c))).mo (eP01 c)).tr z2))
  refine j_aload_n C (D 0 rfl) rfl ?_
  refine j_iload_n C (D 1 rfl) rfl ?_
  refine j_callV C B k_X4_318 (rc_obj C (lit (kd := 4) (n := 8) rfl) rfl rfl) (hg _ _ _ _ hP) rfl rfl (Nat.ble_eq_true_of_le (by omega)) rfl ⟨Nat.le_refl _, Nat.le_refl _⟩ (D 2 rfl) ?_
  rintro r w' ⟨rfl, I2, rfl, k0, k1⟩
  refine j_if_ne C  10 (D 3 rfl) (by decide) (fun h5 => ?_) (fun h5 => ?_)
  · obtain ⟨⟨o2, i2⟩, hq⟩ := okB_ne h5
    obtain ⟨⟨z0, zC⟩, zF⟩ := k1 _ hq
    have zC : CDE I I2 c m o2 := zC
    have hk := hok i hi1
    rw [hq] at hk
    obtain ⟨a1, a2, a3, -⟩ := hk
    refine j_iconst C (v := nI 0) (D 6 rfl) rfl ?_
    refine j_istore_n C (D 7 rfl) rfl ?_
    exact L1 1200 0 o2 i2 I2 _ rfl a1 (PC_go hc hP zF z0 a2 zC (by omega)) a3 zC zF (by rw [sq, hq])
  · obtain ⟨e, hq⟩ := okB_eq h5
    obtain ⟨z0, z1, z2⟩ := k0 e hq
    refine j_iconst C (v := nI 0) (D 4 rfl) rfl ?_
    exact j_zret C P rfl (by first | exact Or.inl rfl | exact Or.inr rfl | assumption) (D 5 rfl) ⟨Nat.le_refl _, Nat.le_refl _⟩ (PX_e (e := e) (by rw [sq, hq]) z0 z1 z2)
set_option maxRecDepth 20000 in
theorem c_readSide_of (l : Launch) (G : GT) {c : Nat} (hc : isC c) {I : Nat → Nat → Int32} {L : Nat → Nat → Int64} {R : Nat → Nat → Option Nat} (hL : Lay R) {T : Nat → TK} {N nE m i : Nat} (hN : TN T N) (hE : nE ≤ 10) (hP : PC I R T N c nE m i) {g : Nat → RE} {D d : Nat} {x : Int32} (hok : OKR N nE true D g) (hg : ∀ (l : Launch) (I : Nat → Nat → Int32) (m i : Nat), PC I R T N c nE m i → Mt l G mX4_readFact d 0 0 [.ref (ra G 4), .int x] (wd I L R) (PX I L R (eP0 c) (eP1 c) (eO I c m) (g i))) : Mt l G mX4_readSide (d + 1) 0 0 [.ref (ra G 4), .int x] (wd I L R) (PX I L R (eP0 c) (eP1 c) (eO I c m) (sq T g sepA i)) := by
  refine mt_of (own := RX4) (by decide) rfl rfl (fun Z C P B => ?_)
  have D := @dc_of _ _ dX4_readSide
  have hr3 := hP.2.1
  have hN1 := hN.1
  have hi1 := hP.1.2.2
  have hm0 := hP.2.2.2.1
  have L1 : ∀ mm rd o i1 (I1 : Nat → Nat → Int32), rd + mm = 1200 → i < i1 → PC I1 R T N c nE (m + o.length) i1 → o.length + i ≤ i1 → CDE I I1 c m o → Fx (eP0 c) I I1 → chn T g sepA mm o i1 = sq T g sepA i → J Z (0, 0) 12 [some (.ref (ra G 4)), some (.int x), some (.int (nI rd))] [] (wd I1 L R) := by
    intro mm
    induction mm with
    | zero =>
      intro rd o i1 I1 hrd hi0 hP1 hl hC hF he
      have hj1 := hP1.1.2.2
      have hm1 := hP1.2.2.2.1
      refine j_iload_n C (D 8 rfl) rfl ?_
      refine j_sipush C (v := nI 1200) (D 9 rfl) rfl ?_
      refine j_icmp_ge C  63 (D 10 rfl) (by decide) (fun h16 => ?_) (fun h16 => absurd h16 (fun z => z ((nle (by omega) (by omega)).mpr (by omega))))
      refine j_iconst C (v := nI 1) (D 32 rfl) rfl ?_
      exact j_zret C P rfl (by first | exact Or.inl rfl | exact Or.inr rfl | assumption) (D 33 rfl) ⟨Nat.le_refl _, Nat.le_refl _⟩ (PX_o (a := (o, i1)) (by rw [← he, chn]) ⟨hP1.1.2.1, hC⟩ hF)
    | succ mm ih =>
      intro rd o i1 I1 hrd hi0 hP1 hl hC hF he
      have hj1 := hP1.1.2.2
      have hm1 := hP1.2.2.2.1
      refine j_iload_n C (D 8 rfl) rfl ?_
      refine j_sipush C (v := nI 1200) (D 9 rfl) rfl ?_
      refine j_icmp_ge C  63 (D 10 rfl) (by decide) (fun h16 => absurd h16 (fun z => by rw [nle (by omega) (by omega)] at z; omega)) (fun h16 => ?_)
      refine j_aload_n C (D 11 rfl) rfl ?_
      refine j_gsgn C (i := 21) (by decide) s_X4_288 (D 12 rfl) ?_
      refine j_cVp C B k_X4_52 (rc_obj C (lit (kd := 4) (n := 8) rfl) rfl rfl) (c_sees _ _ hL hN hP1.1 (by decide)) rfl rfl (Nat.ble_eq_true_of_le (by omega)) rfl ⟨Nat.le_refl _, Nat.le_refl _⟩ (D 13 rfl) ?_
      refine j_if_eq C  63 (D 14 rfl) (by decide) (fun h26 => ?_) (fun h26 => ?_)
      · refine j_iconst C (v := nI 1) (D 32 rfl) rfl ?_
        exact j_zret C P rfl (by first | exact Or.inl rfl | exact Or.inr rfl | assumption) (D 33 rfl) ⟨Nat.le_refl _, Nat.le_refl _⟩ (PX_o (a := (o, i1)) (by rw [← he, chn, if_pos (by unfold sepA; rw [if_neg (b2_eq h26)])]) ⟨hP1.1.2.1, hC⟩ hF)
      · have hsep : sepA (T i1).1 = 12 := by unfold sepA; rw [if_pos (b2_ne h26)]
        have hlt : i1 < N := lt_of_T hN.2.1 hj1 (by rw [b2_ne h26]; decide)
        refine j_aload_n C (D 15 rfl) rfl ?_
        refine j_callV C B k_X4_77 (rc_obj C (lit (kd := 4) (n := 8) rfl) rfl rfl) (c_advance _ _ hL hN hP1.1 hlt) rfl rfl (Nat.ble_eq_true_of_le (by omega)) rfl ⟨Nat.le_refl _, Nat.le_refl _⟩ (D 16 rfl) ?_
        rintro r w' ⟨rfl, rfl⟩
        refine j_pop C (D 17 rfl) rfl ?_
        refine j_aload_n C (D 18 rfl) rfl ?_
        refine j_iload_n C (D 19 rfl) rfl ?_
        refine j_callV C B k_X4_285 (rc_obj C (lit (kd := 4) (n := 8) rfl) rfl rfl) (hg _ _ _ _ (PC_r hc hP1 adv_F (up2_same _ _ _ _) hlt (by omega))) rfl rfl (Nat.ble_eq_true_of_le (by omega)) rfl ⟨Nat.le_refl _, Nat.le_refl _⟩ (D 20 rfl) ?_
        rintro r w' ⟨rfl, I2, rfl, k0, k1⟩
        refine j_if_ne C  44 (D 21 rfl) (by decide) (fun h39 => ?_) (fun h39 => ?_)
        · obtain ⟨⟨o2, i2⟩, hq⟩ := okB_ne h39
          obtain ⟨⟨z0, zC⟩, zF⟩ := k1 _ hq
          have zC : CDE (up2 I1 4 4 (nI (i1 + 1))) I2 c (m + o.length) o2 := zC
          have hk := hok (i1 + 1) (by omega)
          rw [hq] at hk
          obtain ⟨a1, a2, a3, -⟩ := hk
          refine j_aload_n C (D 24 rfl) rfl ?_
          refine j_getr C f_X4_25 (lit (kd := 4) (n := 8) rfl) rfl rfl hr3 (D 25 rfl) ?_
          refine j_getr C f_X4_129 (sC0 hc) rfl rfl (hL _ _ _ (rC4 hc)) (D 26 rfl) ?_
          refine j_bipush C (v := nI 11) (D 27 rfl) rfl ?_
          refine j_iconst C (v := nI 0) (D 28 rfl) rfl ?_
          refine j_callV C B k_X4_281 (rc_obj C (sC5 hc) rfl rfl) (c_emit _ _ hc hL zC.1 (by omega) (12, 0)) rfl rfl (Nat.ble_eq_true_of_le (by omega)) rfl ⟨Nat.le_refl _, Nat.le_refl _⟩ (D 29 rfl) ?_
          rintro r w' ⟨rfl, rfl⟩
          first | refine j_iinc1 C (D 30 rfl) rfl rfl ?_ | refine j_iinc C (D 30 rfl) rfl rfl rfl ?_
          refine j_goto C 12 (D 31 rfl) (by decide) ?_
          obtain ⟨y1, y2, y3⟩ := lp_next (q := (12, 0)) hc hP1 hC hF z0 zC zF a2 a3
          exact ih (rd + 1) (o ++ (o2 ++ [(12, 0)])) i2 _ (by omega) (by omega) y1 (by simp only [List.length_append, List.length_cons, List.length_nil]; omega) y2 y3 (by rw [← he, chn, if_neg (by rw [hsep]; decide), hq, hsep])
        · obtain ⟨e, hq⟩ := okB_eq h39
          obtain ⟨z0, z1, z2⟩ := k0 e hq
          refine j_iconst C (v := nI 0) (D 22 rfl) rfl ?_
          exact j_zret C P rfl (by first | exact Or.inl rfl | exact Or.inr rfl | assumption) (D 23 rfl) ⟨Nat.le_refl _, Nat.le_refl _⟩ (PX_e (e := e) (by rw [← he, chn, if_neg (by rw [hsep]; decide), hq]) z0 z1 (((hF.tr (adv_F.mo (rP0e c))).mo (eP01 c)).tr z2))
  refine j_aload_n C (D 0 rfl) rfl ?_
  refine j_iload_n C (D 1 rfl) rfl ?_
  refine j_callV C B k_X4_285 (rc_obj C (lit (kd := 4) (n := 8) rfl) rfl rfl) (hg _ _ _ _ hP) rfl rfl (Nat.ble_eq_true_of_le (by omega)) rfl ⟨Nat.le_refl _, Nat.le_refl _⟩ (D 2 rfl) ?_
  rintro r w' ⟨rfl, I2, rfl, k0, k1⟩
  refine j_if_ne C  10 (D 3 rfl) (by decide) (fun h5 => ?_) (fun h5 => ?_)
  · obtain ⟨⟨o2, i2⟩, hq⟩ := okB_ne h5
    obtain ⟨⟨z0, zC⟩, zF⟩ := k1 _ hq
    have zC : CDE I I2 c m o2 := zC
    have hk := hok i hi1
    rw [hq] at hk
    obtain ⟨a1, a2, a3, -⟩ := hk
    refine j_iconst C (v := nI 0) (D 6 rfl) rfl ?_
    refine j_istore_n C (D 7 rfl) rfl ?_
    exact L1 1200 0 o2 i2 I2 rfl a1 (PC_go hc hP zF z0 a2 zC (by omega)) a3 zC zF (by rw [sq, hq])
  · obtain ⟨e, hq⟩ := okB_eq h5
    obtain ⟨z0, z1, z2⟩ := k0 e hq
    refine j_iconst C (v := nI 0) (D 4 rfl) rfl ?_
    exact j_zret C P rfl (by first | exact Or.inl rfl | exact Or.inr rfl | assumption) (D 5 rfl) ⟨Nat.le_refl _, Nat.le_refl _⟩ (PX_e (e := e) (by rw [sq, hq]) z0 z1 z2)
set_option maxRecDepth 20000 in
theorem c_readTest_of (l : Launch) (G : GT) {c : Nat} (hc : isC c) {I : Nat → Nat → Int32} {L : Nat → Nat → Int64} {R : Nat → Nat → Option Nat} (hL : Lay R) {T : Nat → TK} {N nE m i : Nat} (hN : TN T N) (hE : nE ≤ 10) (hP : PC I R T N c nE m i) {g : Nat → RE} {D d : Nat} {x : Int32} (hok : OKR N nE true D g) (hg : ∀ (l : Launch) (I : Nat → Nat → Int32) (m i : Nat), PC I R T N c nE m i → Mt l G mX4_readSide d 0 0 [.ref (ra G 4), .int x] (wd I L R) (PX I L R (eP0 c) (eP1 c) (eO I c m) (g i))) : Mt l G mX4_readTest (d + 1) 0 0 [.ref (ra G 4), .int x] (wd I L R) (PX I L R (eP0 c) (eP1 c) (eO I c m) (sq T g sepO i)) := by
  refine mt_of (own := RX4) (by decide) rfl rfl (fun Z C P B => ?_)
  have D := @dc_of _ _ dX4_readTest
  have hr3 := hP.2.1
  have hN1 := hN.1
  have hi1 := hP.1.2.2
  have hm0 := hP.2.2.2.1
  have L1 : ∀ mm rd o i1 (I1 : Nat → Nat → Int32), rd + mm = 1200 → i < i1 → PC I1 R T N c nE (m + o.length) i1 → o.length + i ≤ i1 → CDE I I1 c m o → Fx (eP0 c) I I1 → chn T g sepO mm o i1 = sq T g sepO i → J Z (0, 0) 12 [some (.ref (ra G 4)), some (.int x), some (.int (nI rd))] [] (wd I1 L R) := by
    intro mm
    induction mm with
    | zero =>
      intro rd o i1 I1 hrd hi0 hP1 hl hC hF he
      have hj1 := hP1.1.2.2
      have hm1 := hP1.2.2.2.1
      refine j_iload_n C (D 8 rfl) rfl ?_
      refine j_sipush C (v := nI 1200) (D 9 rfl) rfl ?_
      refine j_icmp_ge C  63 (D 10 rfl) (by decide) (fun h16 => ?_) (fun h16 => absurd h16 (fun z => z ((nle (by omega) (by omega)).mpr (by omega))))
      refine j_iconst C (v := nI 1) (D 32 rfl) rfl ?_
      exact j_zret C P rfl (by first | exact Or.inl rfl | exact Or.inr rfl | assumption) (D 33 rfl) ⟨Nat.le_refl _, Nat.le_refl _⟩ (PX_o (a := (o, i1)) (by rw [← he, chn]) ⟨hP1.1.2.1, hC⟩ hF)
    | succ mm ih =>
      intro rd o i1 I1 hrd hi0 hP1 hl hC hF he
      have hj1 := hP1.1.2.2
      have hm1 := hP1.2.2.2.1
      refine j_iload_n C (D 8 rfl) rfl ?_
      refine j_sipush C (v := nI 1200) (D 9 rfl) rfl ?_
      refine j_icmp_ge C  63 (D 10 rfl) (by decide) (fun h16 => absurd h16 (fun z => by rw [nle (by omega) (by omega)] at z; omega)) (fun h16 => ?_)
      refine j_aload_n C (D 11 rfl) rfl ?_
      refine j_gsgn C (i := 20) (by decide) s_X4_278 (D 12 rfl) ?_
      refine j_cVp C B k_X4_52 (rc_obj C (lit (kd := 4) (n := 8) rfl) rfl rfl) (c_sees _ _ hL hN hP1.1 (by decide)) rfl rfl (Nat.ble_eq_true_of_le (by omega)) rfl ⟨Nat.le_refl _, Nat.le_refl _⟩ (D 13 rfl) ?_
      refine j_if_eq C  63 (D 14 rfl) (by decide) (fun h26 => ?_) (fun h26 => ?_)
      · refine j_iconst C (v := nI 1) (D 32 rfl) rfl ?_
        exact j_zret C P rfl (by first | exact Or.inl rfl | exact Or.inr rfl | assumption) (D 33 rfl) ⟨Nat.le_refl _, Nat.le_refl _⟩ (PX_o (a := (o, i1)) (by rw [← he, chn, if_pos (by unfold sepO; rw [if_neg (b2_eq h26)])]) ⟨hP1.1.2.1, hC⟩ hF)
      · have hsep : sepO (T i1).1 = 13 := by unfold sepO; rw [if_pos (b2_ne h26)]
        have hlt : i1 < N := lt_of_T hN.2.1 hj1 (by rw [b2_ne h26]; decide)
        refine j_aload_n C (D 15 rfl) rfl ?_
        refine j_callV C B k_X4_77 (rc_obj C (lit (kd := 4) (n := 8) rfl) rfl rfl) (c_advance _ _ hL hN hP1.1 hlt) rfl rfl (Nat.ble_eq_true_of_le (by omega)) rfl ⟨Nat.le_refl _, Nat.le_refl _⟩ (D 16 rfl) ?_
        rintro r w' ⟨rfl, rfl⟩
        refine j_pop C (D 17 rfl) rfl ?_
        refine j_aload_n C (D 18 rfl) rfl ?_
        refine j_iload_n C (D 19 rfl) rfl ?_
        refine j_callV C B k_X4_275 (rc_obj C (lit (kd := 4) (n := 8) rfl) rfl rfl) (hg _ _ _ _ (PC_r hc hP1 adv_F (up2_same _ _ _ _) hlt (by omega))) rfl rfl (Nat.ble_eq_true_of_le (by omega)) rfl ⟨Nat.le_refl _, Nat.le_refl _⟩ (D 20 rfl) ?_
        rintro r w' ⟨rfl, I2, rfl, k0, k1⟩
        refine j_if_ne C  44 (D 21 rfl) (by decide) (fun h39 => ?_) (fun h39 => ?_)
        · obtain ⟨⟨o2, i2⟩, hq⟩ := okB_ne h39
          obtain ⟨⟨z0, zC⟩, zF⟩ := k1 _ hq
          have zC : CDE (up2 I1 4 4 (nI (i1 + 1))) I2 c (m + o.length) o2 := zC
          have hk := hok (i1 + 1) (by omega)
          rw [hq] at hk
          obtain ⟨a1, a2, a3, -⟩ := hk
          refine j_aload_n C (D 24 rfl) rfl ?_
          refine j_getr C f_X4_25 (lit (kd := 4) (n := 8) rfl) rfl rfl hr3 (D 25 rfl) ?_
          refine j_getr C f_X4_129 (sC0 hc) rfl rfl (hL _ _ _ (rC4 hc)) (D 26 rfl) ?_
          refine j_bipush C (v := nI 12) (D 27 rfl) rfl ?_
          refine j_iconst C (v := nI 0) (D 28 rfl) rfl ?_
          refine j_callV C B k_X4_281 (rc_obj C (sC5 hc) rfl rfl) (c_emit _ _ hc hL zC.1 (by omega) (13, 0)) rfl rfl (Nat.ble_eq_true_of_le (by omega)) rfl ⟨Nat.le_refl _, Nat.le_refl _⟩ (D 29 rfl) ?_
          rintro r w' ⟨rfl, rfl⟩
          first | refine j_iinc1 C (D 30 rfl) rfl rfl ?_ | refine j_iinc C (D 30 rfl) rfl rfl rfl ?_
          refine j_goto C 12 (D 31 rfl) (by decide) ?_
          obtain ⟨y1, y2, y3⟩ := lp_next (q := (13, 0)) hc hP1 hC hF z0 zC zF a2 a3
          exact ih (rd + 1) (o ++ (o2 ++ [(13, 0)])) i2 _ (by omega) (by omega) y1 (by simp only [List.length_append, List.length_cons, List.length_nil]; omega) y2 y3 (by rw [← he, chn, if_neg (by rw [hsep]; decide), hq, hsep])
        · obtain ⟨e, hq⟩ := okB_eq h39
          obtain ⟨z0, z1, z2⟩ := k0 e hq
          refine j_iconst C (v := nI 0) (D 22 rfl) rfl ?_
          exact j_zret C P rfl (by first | exact Or.inl rfl | exact Or.inr rfl | assumption) (D 23 rfl) ⟨Nat.le_refl _, Nat.le_refl _⟩ (PX_e (e := e) (by rw [← he, chn, if_neg (by rw [hsep]; decide), hq]) z0 z1 (((hF.tr (adv_F.mo (rP0e c))).mo (eP01 c)).tr z2))
  refine j_aload_n C (D 0 rfl) rfl ?_
  refine j_iload_n C (D 1 rfl) rfl ?_
  refine j_callV C B k_X4_275 (rc_obj C (lit (kd := 4) (n := 8) rfl) rfl rfl) (hg _ _ _ _ hP) rfl rfl (Nat.ble_eq_true_of_le (by omega)) rfl ⟨Nat.le_refl _, Nat.le_refl _⟩ (D 2 rfl) ?_
  rintro r w' ⟨rfl, I2, rfl, k0, k1⟩
  refine j_if_ne C  10 (D 3 rfl) (by decide) (fun h5 => ?_) (fun h5 => ?_)
  · obtain ⟨⟨o2, i2⟩, hq⟩ := okB_ne h5
    obtain ⟨⟨z0, zC⟩, zF⟩ := k1 _ hq
    have zC : CDE I I2 c m o2 := zC
    have hk := hok i hi1
    rw [hq] at hk
    obtain ⟨a1, a2, a3, -⟩ := hk
    refine j_iconst C (v := nI 0) (D 6 rfl) rfl ?_
    refine j_istore_n C (D 7 rfl) rfl ?_
    exact L1 1200 0 o2 i2 I2 rfl a1 (PC_go hc hP zF z0 a2 zC (by omega)) a3 zC zF (by rw [sq, hq])
  · obtain ⟨e, hq⟩ := okB_eq h5
    obtain ⟨z0, z1, z2⟩ := k0 e hq
    refine j_iconst C (v := nI 0) (D 4 rfl) rfl ?_
    exact j_zret C P rfl (by first | exact Or.inl rfl | exact Or.inr rfl | assumption) (D 5 rfl) ⟨Nat.le_refl _, Nat.le_refl _⟩ (PX_e (e := e) (by rw [sq, hq]) z0 z1 z2)
