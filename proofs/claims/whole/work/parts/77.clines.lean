/-! LINES as the class reads them -/
def lP0 (c b j : Nat) : Prop := (b = 4 ∧ (j = 4 ∨ j = 5 ∨ j = 6 ∨ j = 7)) ∨ (c ≤ b ∧ b < c + 40 ∧ ¬ (b = c + 7 ∧ j = 0))
def lP1 (c b j : Nat) : Prop := (b = 4 ∧ (j = 0 ∨ j = 1 ∨ j = 4 ∨ j = 5 ∨ j = 6 ∨ j = 7)) ∨ (c ≤ b ∧ b < c + 40 ∧ ¬ (b = c + 7 ∧ j = 0))
theorem lP01 (c b j : Nat) (h : lP0 c b j) : lP1 c b j := by unfold lP0 at h; unfold lP1; omega
theorem rP0l (c b j : Nat) (h : rP0 b j) : lP0 c b j := by unfold rP0 at h; unfold lP0; omega
theorem rP1l (c b j : Nat) (h : rP1 b j) : lP1 c b j := by unfold rP1 at h; unfold lP1; omega
theorem rP0l1 (c b j : Nat) (h : rP0 b j) : lP1 c b j := lP01 c b j (rP0l c b j h)
theorem eP0l (c b j : Nat) (h : eP0 c b j) : lP0 c b j := by unfold eP0 at h; unfold lP0; omega
theorem eP1l (c b j : Nat) (h : eP1 c b j) : lP1 c b j := by unfold eP1 at h; unfold lP1; omega
def lO (c : Nat) (x : LST) (I' : Nat → Nat → Int32) : Prop := I' 4 4 = nI x.2 ∧ CT I' c x.1.1 ∧ I' 4 7 = b2 (x.1.2 = true)
def LPr (I : Nat → Nat → Int32) (R : Nat → Nat → Option Nat) (T : Nat → TK) (N c : Nat) (V : VT) (i : Nat) : Prop := SE I R T N i ∧ R 4 3 = some c ∧ CT I c V ∧ LI V i
theorem CT_r {I I' : Nat → Nat → Int32} {c : Nat} {V : VT} (hc : isC c) (h : CT I c V) (hF : Fx rP0 I I') (hE : vE V ≤ 10) : CT I' c V :=
  CT_of h (fun j k h1 h2 h3 => hF _ _ (fun z => by have := z.1; rcases hc with rfl | rfl <;> omega)) hE
theorem CT_mk {I : Nat → Nat → Int32} {c a e : Nat} {V : VT} {m : Int32} (h : CT I c V) (hE : vE V ≤ 10) (he : e < 10) : CT (up2 I (c + 2) (a * 10 + e) m) c (mkV V a e m) := by
  refine CT_set h hE (fun j k q1 q2 q3 q4 q5 => up2_i (by omega)) (by rw [up2_i (by omega)]; exact h.2.1) (by rw [up2_i (by omega)]; exact h.2.2.1) (fun b j hb hj => ?_)
  have z := h.2.2.2.2.2.1 b j hb hj
  refine ⟨?_, by rw [up2_i (by omega)]; exact z.2.1, by rw [up2_i (by omega)]; exact z.2.2⟩
  show _ = tw (vmk V) a e m b j
  rw [tw_at]
  by_cases q : b = a ∧ j = e
  · rw [if_pos q, q.1, q.2, up2_same]
  · rw [if_neg q, up2_i (by omega)]; exact z.1
theorem CT_gn {I : Nat → Nat → Int32} {c a e : Nat} {V : VT} {g k : Int32} (h : CT I c V) (hE : vE V ≤ 10) (he : e < 10) : CT (up2 (up2 I (c + 3) (a * 10 + e) g) (c + 4) (a * 10 + e) k) c (gnV V a e g k) := by
  refine CT_set h hE (fun j k q1 q2 q3 q4 q5 => by rw [up2_i (by omega), up2_i (by omega)]) (by rw [up2_i (by omega), up2_i (by omega)]; exact h.2.1) (by rw [up2_i (by omega), up2_i (by omega)]; exact h.2.2.1) (fun b j hb hj => ?_)
  have z := h.2.2.2.2.2.1 b j hb hj
  refine ⟨by rw [up2_i (by omega), up2_i (by omega)]; exact z.1, ?_, ?_⟩
  · show _ = tw (vgo V) a e g b j
    rw [tw_at, up2_i (by omega)]
    by_cases q : b = a ∧ j = e
    · rw [if_pos q, q.1, q.2, up2_same]
    · rw [if_neg q, up2_i (by omega)]; exact z.2.1
  · show _ = tw (vgi V) a e k b j
    rw [tw_at]
    by_cases q : b = a ∧ j = e
    · rw [if_pos q, q.1, q.2, up2_same]
    · rw [if_neg q, up2_i (by omega), up2_i (by omega)]; exact z.2.2
theorem CT_ti {I : Nat → Nat → Int32} {c : Nat} {V : VT} {t : Int32} (h : CT I c V) (hE : vE V ≤ 10) : CT (up2 I c 7 t) c (tiV V t) := by
  refine CT_set h hE (fun j k q1 q2 q3 q4 q5 => up2_i (by omega)) (by rw [up2_i (by omega)]; exact h.2.1) (up2_same _ _ _ _) (fun b j hb hj => ?_)
  have z := h.2.2.2.2.2.1 b j hb hj
  rw [up2_i (by omega), up2_i (by omega), up2_i (by omega)]
  exact z
theorem CT_bn {I I2 : Nat → Nat → Int32} {c a : Nat} {V : VT} {o : OPS} (hc : isC c) (hV : WV V) (h : CT I c V) (hF : Fx (eP0 c) I I2) (hC : CDE I I2 c (off (vts V) (vB V)) o) : CT (up2 (up2 (up2 (up2 I2 (c + 6) (vB V) (nI a)) (c + 5) 5 (I2 (c + 5) 5 + nI a)) (c + 5) 1 (nI (vB V + 1))) (c + 7) (vB V + 1) (I2 (c + 5) 4)) c (addBn V a o) := by
  have hn := ct_ne hc
  have hX : ∀ b j, ¬ (b = c + 6 ∧ j = vB V) → ¬ (b = c + 5 ∧ (j = 5 ∨ j = 1)) → ¬ (b = c + 7 ∧ j = vB V + 1) → up2 (up2 (up2 (up2 I2 (c + 6) (vB V) (nI a)) (c + 5) 5 (I2 (c + 5) 5 + nI a)) (c + 5) 1 (nI (vB V + 1))) (c + 7) (vB V + 1) (I2 (c + 5) 4) b j = I2 b j := fun b j h1 h2 h3 => by rw [up2_i h3, up2_i (by omega), up2_i (by omega), up2_i h1]
  have hY : ∀ b j, c ≤ b → ¬ (b = c + 5 ∧ j = 4) → ¬ b = c + 8 → I2 b j = I b j := fun b j h1 h2 h3 => hF b j (fun z => by unfold eP0 at z; rcases hc with rfl | rfl <;> omega)
  have hE := hV.1
  obtain ⟨a0, a1, a2, a3, a4, a5, a6, a7, a8, a9, a10⟩ := h
  have hoff : ∀ k, k ≤ vB V → off (va_up (vts V) (vB V) o) k = off (vts V) k := fun k hk => off_congr (fun j hj => vu_ne _ _ (by omega))
  refine ⟨?_, ?_, ?_, ?_, fun e he => ?_, fun b e hb he => ?_, fun k hk => ?_, fun k hk => ?_, fun k hk x q hq => ?_, ?_, ?_⟩
  · rw [hX _ _ (by omega) (by omega) (by omega), hY _ _ (by omega) (by omega) (by omega)]; exact a0
  · rw [hX _ _ (by omega) (by omega) (by omega), hY _ _ (by omega) (by omega) (by omega)]; exact a1
  · rw [hX _ _ (by omega) (by omega) (by omega), hY _ _ (by omega) (by omega) (by omega)]; exact a2
  · rw [up2_i (by omega), up2_same]; rfl
  · have he : e < vE V := he
    exact TR_of (a4 e he) (fun k => by rw [hX _ _ (by omega) (by omega) (by omega), hY _ _ (by omega) (by omega) (by omega)]) (fun k => by rw [hX _ _ (by omega) (by omega) (by omega), hY _ _ (by omega) (by omega) (by omega)]) (fun k => by rw [hX _ _ (by omega) (by omega) (by omega), hY _ _ (by omega) (by omega) (by omega)])
  · rw [hX _ _ (by omega) (by omega) (by omega), hX _ _ (by omega) (by omega) (by omega), hX _ _ (by omega) (by omega) (by omega), hY _ _ (by omega) (by omega) (by omega), hY _ _ (by omega) (by omega) (by omega), hY _ _ (by omega) (by omega) (by omega)]
    exact a5 b e hb he
  · have hk : k < vB V + 1 := hk
    show _ = va_up (vbn V) (vB V) (nI a) k
    by_cases q : k = vB V
    · rw [q, vu_same, up2_i (by omega), up2_i (by omega), up2_i (by omega), up2_same]
    · rw [vu_ne _ _ q, hX _ _ (by omega) (by omega) (by omega), hY _ _ (by omega) (by omega) (by omega)]; exact a6 k (by omega)
  · have hk : k ≤ vB V + 1 := hk
    show _ = nI (off (va_up (vts V) (vB V) o) k)
    by_cases q : k = vB V + 1
    · rw [q, up2_same, hC.1, off, hoff _ (Nat.le_refl _), vu_same]
    · rw [hoff k (by omega), hX _ _ (by omega) (by omega) (by omega), hY _ _ (by omega) (by omega) (by omega)]; exact a7 k (by omega)
  · have hk : k < vB V + 1 := hk
    have hq : (va_up (vts V) (vB V) o k)[x]? = some q := hq
    show _ = encC q
    show up2 _ _ _ _ (c + 8) (off (va_up (vts V) (vB V) o) k + x) = encC q
    rw [hoff k (by omega), hX _ _ (by omega) (by omega) (by omega)]
    by_cases z : k = vB V
    · rw [z, vu_same] at hq
      rw [z]
      exact hC.2.1 x q hq
    · rw [vu_ne _ _ z] at hq
      have hx : x < (vts V k).length := (List.getElem?_eq_some_iff.mp hq).1
      have hm := off_mono (vts V) (j := k + 1) (k := vB V) (by omega)
      rw [off] at hm
      rw [hC.2.2 _ (by omega)]
      exact a8 k (by omega) x q hq
  · rw [hX _ _ (by omega) (by omega) (by omega), hC.1]
    show _ = nI (off (va_up (vts V) (vB V) o) (vB V) + (va_up (vts V) (vB V) o (vB V)).length)
    rw [hoff _ (Nat.le_refl _), vu_same]
  · rw [up2_i (by omega), up2_i (by omega), up2_same, hY _ _ (by omega) (by omega) (by omega), a10]
    show _ = sumN (va_up (vbn V) (vB V) (nI a)) (vB V) + va_up (vbn V) (vB V) (nI a) (vB V)
    rw [vu_same, sumN_congr (g := vbn V) (fun j hj => vu_ne _ _ (by omega))]
def clO (x : (Nat × Nat) × Nat) (I' : Nat → Nat → Int32) : Prop := I' 4 4 = nI x.2 ∧ I' 4 6 = nI (x.1.1 * 10 + x.1.2)
theorem clV {c : Nat} (hc : isC c) {I I' : Nat → Nat → Int32} {P : Nat → Nat → Prop} (hF : Fx P I I') (hP : ∀ b j, P b j → b = 4) (j : Nat) : I' c j = I c j := hF _ _ (fun z => by have := hP _ _ z; rcases hc with rfl | rfl <;> omega)
def nmO6 (y : Int32) (x : Nat × Nat) (I' : Nat → Nat → Int32) : Prop := nmO x I' ∧ I' 4 6 = y
def tkO6 (y : Int32) (j : Nat) (I' : Nat → Nat → Int32) : Prop := tkO j I' ∧ I' 4 6 = y
set_option maxRecDepth 20000 in
theorem c_take6 (l : Launch) (G : GT) {I : Nat → Nat → Int32} {L : Nat → Nat → Int64} {R : Nat → Nat → Option Nat} (hL : Lay R) {T : Nat → TK} {N i : Nat} (hN : TN T N) (hS : SE I R T N i) {s : Nat} (hs : s < 41) : Mt l G mX4_take (1) 0 0 [.ref (ra G 4), .ref (ra G (1000 + s))] (wd I L R) (PX I L R rP0 rP1 (tkO6 (I 4 6)) (pTake T i s)) := by
  refine mt_of (own := RX4) (by decide) rfl rfl (fun Z C P B => ?_)
  have D := @dc_of _ _ dX4_take
  refine j_aload_n C (D 0 rfl) rfl ?_
  refine j_aload_n C (D 1 rfl) rfl ?_
  refine j_cVp C B k_X4_52 (rc_obj C (lit (kd := 4) (n := 8) rfl) rfl rfl) (c_sees _ _ hL hN hS (by omega)) rfl rfl rfl rfl ⟨Nat.le_refl _, Nat.le_refl _⟩ (D 2 rfl) ?_
  refine j_if_eq C  15 (D 3 rfl) (by decide) (fun h5 => ?_) (fun h5 => ?_)
  · refine j_aload_n C (D 7 rfl) rfl ?_
    refine j_iconst C (v := nI 1) (D 8 rfl) rfl ?_
    refine j_callV C B k_X4_80 (rc_obj C (lit (kd := 4) (n := 8) rfl) rfl rfl) (c_refuse _ _ hL hN hS 1) rfl rfl rfl rfl ⟨Nat.le_refl _, Nat.le_refl _⟩ (D 9 rfl) ?_
    rintro r w' ⟨rfl, rfl⟩
    exact j_zret C P rfl (by first | exact Or.inl rfl | exact Or.inr rfl | assumption) (D 10 rfl) ⟨Nat.le_refl _, Nat.le_refl _⟩ (PX_e (e := fl T i 1) (by unfold pTake; rw [if_neg (b2_eq h5)]) flt0 (up2_same _ _ _ _) (Fx.up (Fx.up (Fx.rf _ _) ⟨rfl, by omega⟩) ⟨rfl, by omega⟩))
  · refine j_aload_n C (D 4 rfl) rfl ?_
    refine j_callV C B k_X4_77 (rc_obj C (lit (kd := 4) (n := 8) rfl) rfl rfl) (c_advance _ _ hL hN hS (lt_of_T hN.2.1 hS.2.2 (by have := b2_ne h5; omega))) rfl rfl rfl rfl ⟨Nat.le_refl _, Nat.le_refl _⟩ (D 5 rfl) ?_
    rintro r w' ⟨rfl, rfl⟩
    refine j_goto C 20 (D 6 rfl) (by decide) ?_
    exact j_zret C P rfl (by first | exact Or.inl rfl | exact Or.inr rfl | assumption) (D 10 rfl) ⟨Nat.le_refl _, Nat.le_refl _⟩ (PX_o (a := i + 1) (by unfold pTake; rw [if_pos (b2_ne h5)]) ⟨up2_same _ _ _ _, up2_i (by omega)⟩ (Fx.up (Fx.rf _ _) ⟨rfl, by omega⟩))
set_option maxRecDepth 20000 in
theorem c_takeNumber6 (l : Launch) (G : GT) {I : Nat → Nat → Int32} {L : Nat → Nat → Int64} {R : Nat → Nat → Option Nat} (hL : Lay R) {T : Nat → TK} {N i : Nat} (hN : TN T N) (hS : SE I R T N i) {lo hx : Nat} {hi : Int32} (hlo : lo ≤ 100000) (hh : hx ≤ 100000) (hhi : hi.toInt + 1 = hx) : Mt l G mX4_takeNumber (1) 0 0 [.ref (ra G 4), .int (nI lo), .int hi] (wd I L R) (PX I L R rP0 rP1 (nmO6 (I 4 6)) (pNum T i lo hx)) := by
  refine mt_of (own := RX4) (by decide) rfl rfl (fun Z C P B => ?_)
  have D := @dc_of _ _ dX4_takeNumber
  have hN1 := hN.1
  have hi1 := hS.2.2
  refine j_aload_n C (D 0 rfl) rfl ?_
  refine j_gsgn C (i := 39) (by decide) s_X4_84 (D 1 rfl) ?_
  refine j_cVp C B k_X4_52 (rc_obj C (lit (kd := 4) (n := 8) rfl) rfl rfl) (c_sees _ _ hL hN hS (by omega)) rfl rfl rfl rfl ⟨Nat.le_refl _, Nat.le_refl _⟩ (D 2 rfl) ?_
  refine j_if_ne C  16 (D 3 rfl) (by decide) (fun h7 => ?_) (fun h7 => ?_)
  · have h39 : (T i).1 = 39 := b2_ne h7
    have hi2 := lt_of_T hN.2.1 hS.2.2 (by omega)
    have hS2 : ∀ v, SE (up2 I 4 5 v) R T N i := fun v => SE_go hS (Fx.up (Fx.rf rP0 I) ⟨rfl, by omega⟩) (fun b k z => by have := z.1; omega) (by rw [up2_i (by omega)]; exact hS.2.1) hi1
    refine j_aload_n C (D 8 rfl) rfl ?_
    refine j_aload_n C (D 9 rfl) rfl ?_
    refine j_getr C f_X4_18 (lit (kd := 4) (n := 8) rfl) rfl rfl (hL _ _ _ rfl) (D 10 rfl) ?_
    refine j_getr C f_X4_87 (lit (kd := 9) (n := 5) rfl) rfl rfl (hL _ _ _ rfl) (D 11 rfl) ?_
    refine j_aload_n C (D 12 rfl) rfl ?_
    refine j_geti C f_X4_36 (lit (kd := 4) (n := 8) rfl) rfl rfl (D 13 rfl) ?_
    rw [hS.2.1]
    refine j_iald C (lit (kd := 20) (n := 1201) rfl) (ix_n (by omega) (by decide)) (D 14 rfl) ?_
    rw [(hS.1.2 i hi1).2.2 h39]
    refine j_puti C f_X4_90 (lit (kd := 4) (n := 8) rfl) rfl rfl (D 15 rfl) ?_
    refine j_aload_n C (D 16 rfl) rfl ?_
    refine j_geti C f_X4_90 (lit (kd := 4) (n := 8) rfl) rfl rfl (D 17 rfl) ?_
    rw [up2_same]
    refine j_iload_n C (D 18 rfl) rfl ?_
    refine j_iload_n C (D 19 rfl) rfl ?_
    refine j_cSNp C B k_X4_93 (c_isWithin _ _ _ _ _ _) rfl rfl rfl rfl ⟨Nat.le_refl _, Nat.le_refl _⟩ (D 20 rfl) ?_
    refine j_if_eq C  51 (D 21 rfl) (by decide) (fun h41 => ?_) (fun h41 => ?_)
    · refine j_aload_n C (D 25 rfl) rfl ?_
      refine j_iconst C (v := nI 2) (D 26 rfl) rfl ?_
      refine j_callV C B k_X4_80 (rc_obj C (lit (kd := 4) (n := 8) rfl) rfl rfl) (c_refuse _ _ hL hN (hS2 _) 2) rfl rfl rfl rfl ⟨Nat.le_refl _, Nat.le_refl _⟩ (D 27 rfl) ?_
      rintro r w' ⟨rfl, rfl⟩
      exact j_zret C P rfl (by first | exact Or.inl rfl | exact Or.inr rfl | assumption) (D 28 rfl) ⟨Nat.le_refl _, Nat.le_refl _⟩ (PX_e (e := fl T i 2) (by unfold pNum; rw [if_pos h39, if_neg (fun z => b2_eq h41 ((win_iff hlo hh hhi).mpr z))]) flt0 (up2_same _ _ _ _) (Fx.up (Fx.up (Fx.up (Fx.rf _ _) ⟨rfl, by omega⟩) ⟨rfl, by omega⟩) ⟨rfl, by omega⟩))
    · refine j_aload_n C (D 22 rfl) rfl ?_
      refine j_callV C B k_X4_77 (rc_obj C (lit (kd := 4) (n := 8) rfl) rfl rfl) (c_advance _ _ hL hN (hS2 _) hi2) rfl rfl rfl rfl ⟨Nat.le_refl _, Nat.le_refl _⟩ (D 23 rfl) ?_
      rintro r w' ⟨rfl, rfl⟩
      refine j_goto C 56 (D 24 rfl) (by decide) ?_
      exact j_zret C P rfl (by first | exact Or.inl rfl | exact Or.inr rfl | assumption) (D 28 rfl) ⟨Nat.le_refl _, Nat.le_refl _⟩ (PX_o (a := ((T i).2.2, i + 1)) (by unfold pNum; rw [if_pos h39, if_pos ((win_iff hlo hh hhi).mp (b2_ne h41))]) ⟨⟨up2_same _ _ _ _, by rw [up2_i (by omega), up2_same]; congr 1; have := (win_iff hlo hh hhi).mp (b2_ne h41); omega⟩, by rw [up2_i (by omega), up2_i (by omega)]⟩ (Fx.up (Fx.up (Fx.rf _ _) ⟨rfl, by omega⟩) ⟨rfl, by omega⟩))
  · refine j_aload_n C (D 4 rfl) rfl ?_
    refine j_iconst C (v := nI 1) (D 5 rfl) rfl ?_
    refine j_callV C B k_X4_80 (rc_obj C (lit (kd := 4) (n := 8) rfl) rfl rfl) (c_refuse _ _ hL hN hS 1) rfl rfl rfl rfl ⟨Nat.le_refl _, Nat.le_refl _⟩ (D 6 rfl) ?_
    rintro r w' ⟨rfl, rfl⟩
    exact j_zret C P rfl (by first | exact Or.inl rfl | exact Or.inr rfl | assumption) (D 7 rfl) ⟨Nat.le_refl _, Nat.le_refl _⟩ (PX_e (e := fl T i 1) (by unfold pNum; rw [if_neg (b2_eq h7)]) flt0 (up2_same _ _ _ _) (Fx.up (Fx.up (Fx.rf _ _) ⟨rfl, by omega⟩) ⟨rfl, by omega⟩))
set_option maxRecDepth 20000 in
theorem c_takeCell (l : Launch) (G : GT) {c : Nat} (hc : isC c) {I : Nat → Nat → Int32} {L : Nat → Nat → Int64} {R : Nat → Nat → Option Nat} (hL : Lay R) {T : Nat → TK} {N i : Nat} {V : VT} (hN : TN T N) (hS : SE I R T N i) (hr3 : R 4 3 = some c) (hA : I c 6 = nI (vA V)) (hE : I c 5 = nI (vE V)) (hA8 : vA V ≤ 8) (hE10 : vE V ≤ 10) : Mt l G mX4_takeCell (2) 0 0 [.ref (ra G 4)] (wd I L R) (PX I L R rP0 rP1 clO (pCell T V i)) := by
  refine mt_of (own := RX4) (by decide) rfl rfl (fun Z C P B => ?_)
  have D := @dc_of _ _ dX4_takeCell
  have hN1 := hN.1
  have hi1 := hS.2.2
  refine j_aload_n C (D 0 rfl) rfl ?_
  refine j_iconst C (v := nI 0) (D 1 rfl) rfl ?_
  refine j_aload_n C (D 2 rfl) rfl ?_
  refine j_getr C f_X4_25 (lit (kd := 4) (n := 8) rfl) rfl rfl hr3 (D 3 rfl) ?_
  refine j_geti C f_X4_97 (sC0 hc) rfl rfl (D 4 rfl) ?_
  rw [hA]
  refine j_iconst C (v := nI 1) (D 5 rfl) rfl ?_
  refine j_isub C (D 6 rfl) ?_
  refine j_callV C B k_X4_100 (rc_obj C (lit (kd := 4) (n := 8) rfl) rfl rfl) (c_takeNumber _ _ hL hN hS (lo := 0) (by omega) (by omega) (evm (by omega))) rfl rfl rfl rfl ⟨Nat.le_refl _, Nat.le_refl _⟩ (D 7 rfl) ?_
  rintro r w' ⟨rfl, I2, rfl, k0, k1⟩
  refine j_if_ne C  19 (D 8 rfl) (by decide) (fun h14 => ?_) (fun h14 => ?_)
  · obtain ⟨⟨a, j⟩, hq⟩ := okB_ne h14
    obtain ⟨⟨z0, zv⟩, zF⟩ := k1 _ hq
    have z0 : I2 4 4 = nI j := z0
    have zv : I2 4 5 = nI a := zv
    obtain ⟨b1, b2, b3, b4⟩ := pNum_go hN hi1 hq
    have hS2 := SE_go hS zF (fun b k z => by have := z.1; omega) z0 (by omega)
    refine j_aload_n C (D 11 rfl) rfl ?_
    refine j_geti C f_X4_90 (lit (kd := 4) (n := 8) rfl) rfl rfl (D 12 rfl) ?_
    rw [zv]
    refine j_istore_n C (D 13 rfl) rfl ?_
    refine j_aload_n C (D 14 rfl) rfl ?_
    refine j_iconst C (v := nI 0) (D 15 rfl) rfl ?_
    refine j_aload_n C (D 16 rfl) rfl ?_
    refine j_getr C f_X4_25 (lit (kd := 4) (n := 8) rfl) rfl rfl hr3 (D 17 rfl) ?_
    refine j_geti C f_X4_104 (sC0 hc) rfl rfl (D 18 rfl) ?_
    rw [clV hc zF (fun b j z => z.1), hE]
    refine j_iconst C (v := nI 1) (D 19 rfl) rfl ?_
    refine j_isub C (D 20 rfl) ?_
    refine j_callV C B k_X4_100 (rc_obj C (lit (kd := 4) (n := 8) rfl) rfl rfl) (c_takeNumber _ _ hL hN hS2 (lo := 0) (by omega) (by omega) (evm (by omega))) rfl rfl rfl rfl ⟨Nat.le_refl _, Nat.le_refl _⟩ (D 21 rfl) ?_
    rintro r w' ⟨rfl, I3, rfl, k2, k3⟩
    refine j_if_ne C  43 (D 22 rfl) (by decide) (fun h38 => ?_) (fun h38 => ?_)
    · obtain ⟨⟨e, j2⟩, hq2⟩ := okB_ne h38
      obtain ⟨⟨x0, xv⟩, xF⟩ := k3 _ hq2
      have x0 : I3 4 4 = nI j2 := x0
      have xv : I3 4 5 = nI e := xv
      refine j_aload_n C (D 25 rfl) rfl ?_
      refine j_iload_n C (D 26 rfl) rfl ?_
      refine j_aload_n C (D 27 rfl) rfl ?_
      refine j_geti C f_X4_90 (lit (kd := 4) (n := 8) rfl) rfl rfl (D 28 rfl) ?_
      rw [xv]
      refine j_cSNp C B k_X4_107 (c_cellOf _ _ _ _ _) rfl rfl rfl rfl ⟨Nat.le_refl _, Nat.le_refl _⟩ (D 29 rfl) ?_
      refine j_puti C f_X4_111 (lit (kd := 4) (n := 8) rfl) rfl rfl (D 30 rfl) ?_
      refine j_iconst C (v := nI 1) (D 31 rfl) rfl ?_
      exact j_zret C P rfl (by first | exact Or.inl rfl | exact Or.inr rfl | assumption) (D 32 rfl) ⟨Nat.le_refl _, Nat.le_refl _⟩ (PX_o (a := ((a, e), j2)) (by unfold pCell; rw [hq, bnd_r, hq2, bnd_r]) ⟨by rw [up2_i (by omega)]; exact x0, by rw [up2_same, pk_mul, nI_add]⟩ (Fx.up (zF.tr xF) ⟨rfl, by omega⟩))
    · obtain ⟨e, hq2⟩ := okB_eq h38
      obtain ⟨x0, x1, x2⟩ := k2 e hq2
      refine j_iconst C (v := nI 0) (D 23 rfl) rfl ?_
      exact j_zret C P rfl (by first | exact Or.inl rfl | exact Or.inr rfl | assumption) (D 24 rfl) ⟨Nat.le_refl _, Nat.le_refl _⟩ (PX_e (e := e) (by unfold pCell; rw [hq, bnd_r, hq2, bnd_l]) x0 x1 ((zF.mo rP01).tr x2))
  · obtain ⟨e, hq⟩ := okB_eq h14
    obtain ⟨z0, z1, z2⟩ := k0 e hq
    refine j_iconst C (v := nI 0) (D 9 rfl) rfl ?_
    exact j_zret C P rfl (by first | exact Or.inl rfl | exact Or.inr rfl | assumption) (D 10 rfl) ⟨Nat.le_refl _, Nat.le_refl _⟩ (PX_e (e := e) (by unfold pCell; rw [hq, bnd_l]) z0 z1 z2)
set_option maxRecDepth 20000 in
theorem c_readMark (l : Launch) (G : GT) {c : Nat} (hc : isC c) {I : Nat → Nat → Int32} {L : Nat → Nat → Int64} {R : Nat → Nat → Option Nat} (hL : Lay R) {T : Nat → TK} {N i : Nat} {V : VT} (hN : TN T N) (hP : LPr I R T N c V i) (tt : Bool) (htt : I 4 7 = b2 (tt = true)) (hlt : i < N) : Mt l G mX4_readMark (3) 0 0 [.ref (ra G 4)] (wd I L R) (PX I L R (lP0 c) (lP1 c) (lO c) (pMk T V tt i)) := by
  refine mt_of (own := RX4) (by decide) rfl rfl (fun Z C P B => ?_)
  have D := @dc_of _ _ dX4_readMark
  have hr3 := hP.2.1
  have hcr := isC_rng hc
  have hN1 := hN.1
  have hi1 := hP.1.2.2
  have hT := hP.2.2.1
  have hV := hP.2.2.2.1
  have hE10 := hV.1
  have hA8 := hV.2.1
  have hSa := SE_go hP.1 (adv_F (v := nI (i + 1))) (fun b k z => by have := z.1; omega) (up2_same _ _ _ _) hlt
  refine j_aload_n C (D 0 rfl) rfl ?_
  refine j_callV C B k_X4_77 (rc_obj C (lit (kd := 4) (n := 8) rfl) rfl rfl) (c_advance _ _ hL hN hP.1 hlt) rfl rfl rfl rfl ⟨Nat.le_refl _, Nat.le_refl _⟩ (D 1 rfl) ?_
  rintro r w' ⟨rfl, rfl⟩
  refine j_pop C (D 2 rfl) rfl ?_
  refine j_aload_n C (D 3 rfl) rfl ?_
  refine j_callV C B k_X4_250 (rc_obj C (lit (kd := 4) (n := 8) rfl) rfl rfl) (c_takeCell _ _ hc hL hN hSa hr3 (by rw [up2_i (by omega)]; exact hT.2.1) (by rw [up2_i (by omega)]; exact hT.1) hA8 hE10) rfl rfl rfl rfl ⟨Nat.le_refl _, Nat.le_refl _⟩ (D 4 rfl) ?_
  rintro r w' ⟨rfl, I2, rfl, k0, k1⟩
  refine j_if_eq C  22 (D 5 rfl) (by decide) (fun h9 => ?_) (fun h9 => ?_)
  · obtain ⟨e, hq⟩ := okB_eq h9
    obtain ⟨z0, z1, z2⟩ := k0 e hq
    refine j_iconst C (v := nI 0) (D 11 rfl) rfl ?_
    exact j_zret C P rfl (by first | exact Or.inl rfl | exact Or.inr rfl | assumption) (D 12 rfl) ⟨Nat.le_refl _, Nat.le_refl _⟩ (PX_e (e := e) (by unfold pMk; rw [hq, bnd_l]) z0 z1 ((adv_F.mo (rP0l1 c)).tr (z2.mo (rP1l c))))
  · obtain ⟨⟨⟨a, e⟩, j⟩, hq⟩ := okB_ne h9
    obtain ⟨⟨z0, zv⟩, zF⟩ := k1 _ hq
    have z0 : I2 4 4 = nI j := z0
    have zv : I2 4 6 = nI (a * 10 + e) := zv
    obtain ⟨b1, b2, b3, b4⟩ := pCell_go hN (by omega) hq
    have zF2 := adv_F.tr zF
    have hS2 := SE_go hP.1 zF2 (fun b k z => by have := z.1; omega) z0 (by omega)
    refine j_aload_n C (D 6 rfl) rfl ?_
    refine j_iconst C (v := nI 0) (D 7 rfl) rfl ?_
    refine j_ldc C (v := 99999) (D 8 rfl) n_X4_175 ?_
    refine j_callV C B k_X4_100 (rc_obj C (lit (kd := 4) (n := 8) rfl) rfl rfl) (c_takeNumber6 _ _ hL hN hS2 (lo := 0) (hx := 100000) (hi := 99999) (by omega) (by omega) (by decide)) rfl rfl rfl rfl ⟨Nat.le_refl _, Nat.le_refl _⟩ (D 9 rfl) ?_
    rintro r w' ⟨rfl, I3, rfl, k2, k3⟩
    refine j_if_ne C  24 (D 10 rfl) (by decide) (fun h19 => ?_) (fun h19 => ?_)
    · obtain ⟨⟨v, j2⟩, hq2⟩ := okB_ne h19
      obtain ⟨⟨⟨x0, xv⟩, x6⟩, xF⟩ := k3 _ hq2
      have x0 : I3 4 4 = nI j2 := x0
      have xv : I3 4 5 = nI v := xv
      obtain ⟨c1, c2, c3, c4⟩ := pNum_go hN (by omega) hq2
      have x6 : I3 4 6 = nI (a * 10 + e) := by rw [x6]; exact zv
      refine j_aload_n C (D 13 rfl) rfl ?_
      refine j_getr C f_X4_25 (lit (kd := 4) (n := 8) rfl) rfl rfl hr3 (D 14 rfl) ?_
      refine j_getr C f_X4_253 (sC0 hc) rfl rfl (hL _ _ _ (rC1 hc)) (D 15 rfl) ?_
      refine j_aload_n C (D 16 rfl) rfl ?_
      refine j_geti C f_X4_111 (lit (kd := 4) (n := 8) rfl) rfl rfl (D 17 rfl) ?_
      rw [x6]
      refine j_aload_n C (D 18 rfl) rfl ?_
      refine j_geti C f_X4_90 (lit (kd := 4) (n := 8) rfl) rfl rfl (D 19 rfl) ?_
      rw [xv]
      refine j_iast C (sC2 hc) (ix_n (by omega) (by decide)) (D 20 rfl) ?_
      refine j_iconst C (v := nI 1) (D 21 rfl) rfl ?_
      exact j_zret C P rfl (by first | exact Or.inl rfl | exact Or.inr rfl | assumption) (D 22 rfl) ⟨Nat.le_refl _, Nat.le_refl _⟩ (PX_o (a := ((mkV V a e (nI v), tt), j2)) (by unfold pMk; rw [hq, bnd_r, hq2, bnd_r]) ⟨by rw [up2_i (by omega)]; exact x0, CT_mk (CT_r hc hT (zF2.tr xF) hE10) hE10 (by omega), by rw [up2_i (by omega), (zF2.tr xF) _ _ (fun z => by unfold rP0 at z; omega)]; exact htt⟩ (Fx.up ((zF2.tr xF).mo (rP0l c)) (Or.inr (by omega))))
    · obtain ⟨e2, hq2⟩ := okB_eq h19
      obtain ⟨x0, x1, x2⟩ := k2 e2 hq2
      refine j_iconst C (v := nI 0) (D 11 rfl) rfl ?_
      exact j_zret C P rfl (by first | exact Or.inl rfl | exact Or.inr rfl | assumption) (D 12 rfl) ⟨Nat.le_refl _, Nat.le_refl _⟩ (PX_e (e := e2) (by unfold pMk; rw [hq, bnd_r, hq2, bnd_l]) x0 x1 ((zF2.mo (rP0l1 c)).tr (x2.mo (rP1l c))))
set_option maxRecDepth 20000 in
theorem c_readGain (l : Launch) (G : GT) {c : Nat} (hc : isC c) {I : Nat → Nat → Int32} {L : Nat → Nat → Int64} {R : Nat → Nat → Option Nat} (hL : Lay R) {T : Nat → TK} {N i : Nat} {V : VT} (hN : TN T N) (hP : LPr I R T N c V i) (tt : Bool) (htt : I 4 7 = b2 (tt = true)) (hlt : i < N) : Mt l G mX4_readGain (3) 0 0 [.ref (ra G 4)] (wd I L R) (PX I L R (lP0 c) (lP1 c) (lO c) (pGn T V tt i)) := by
  refine mt_of (own := RX4) (by decide) rfl rfl (fun Z C P B => ?_)
  have D := @dc_of _ _ dX4_readGain
  have hr3 := hP.2.1
  have hcr := isC_rng hc
  have hN1 := hN.1
  have hi1 := hP.1.2.2
  have hT := hP.2.2.1
  have hV := hP.2.2.2.1
  have hE10 := hV.1
  have hA8 := hV.2.1
  have hSa := SE_go hP.1 (adv_F (v := nI (i + 1))) (fun b k z => by have := z.1; omega) (up2_same _ _ _ _) hlt
  refine j_aload_n C (D 0 rfl) rfl ?_
  refine j_callV C B k_X4_77 (rc_obj C (lit (kd := 4) (n := 8) rfl) rfl rfl) (c_advance _ _ hL hN hP.1 hlt) rfl rfl rfl rfl ⟨Nat.le_refl _, Nat.le_refl _⟩ (D 1 rfl) ?_
  rintro r w' ⟨rfl, rfl⟩
  refine j_pop C (D 2 rfl) rfl ?_
  refine j_aload_n C (D 3 rfl) rfl ?_
  refine j_callV C B k_X4_250 (rc_obj C (lit (kd := 4) (n := 8) rfl) rfl rfl) (c_takeCell _ _ hc hL hN hSa hr3 (by rw [up2_i (by omega)]; exact hT.2.1) (by rw [up2_i (by omega)]; exact hT.1) hA8 hE10) rfl rfl rfl rfl ⟨Nat.le_refl _, Nat.le_refl _⟩ (D 4 rfl) ?_
  rintro r w' ⟨rfl, I2, rfl, k0, k1⟩
  refine j_if_eq C  22 (D 5 rfl) (by decide) (fun h9 => ?_) (fun h9 => ?_)
  · obtain ⟨e, hq⟩ := okB_eq h9
    obtain ⟨z0, z1, z2⟩ := k0 e hq
    refine j_iconst C (v := nI 0) (D 11 rfl) rfl ?_
    exact j_zret C P rfl (by first | exact Or.inl rfl | exact Or.inr rfl | assumption) (D 12 rfl) ⟨Nat.le_refl _, Nat.le_refl _⟩ (PX_e (e := e) (by unfold pGn; rw [hq, bnd_l]) z0 z1 ((adv_F.mo (rP0l1 c)).tr (z2.mo (rP1l c))))
  · obtain ⟨⟨⟨a, e⟩, j⟩, hq⟩ := okB_ne h9
    obtain ⟨⟨z0, zv⟩, zF⟩ := k1 _ hq
    have z0 : I2 4 4 = nI j := z0
    have zv : I2 4 6 = nI (a * 10 + e) := zv
    obtain ⟨b1, b2, b3, b4⟩ := pCell_go hN (by omega) hq
    have zF2 := adv_F.tr zF
    have hS2 := SE_go hP.1 zF2 (fun b k z => by have := z.1; omega) z0 (by omega)
    refine j_aload_n C (D 6 rfl) rfl ?_
    refine j_iconst C (v := nI 0) (D 7 rfl) rfl ?_
    refine j_ldc C (v := 99999) (D 8 rfl) n_X4_175 ?_
    refine j_callV C B k_X4_100 (rc_obj C (lit (kd := 4) (n := 8) rfl) rfl rfl) (c_takeNumber6 _ _ hL hN hS2 (lo := 0) (hx := 100000) (hi := 99999) (by omega) (by omega) (by decide)) rfl rfl rfl rfl ⟨Nat.le_refl _, Nat.le_refl _⟩ (D 9 rfl) ?_
    rintro r w' ⟨rfl, I3, rfl, k2, k3⟩
    refine j_if_ne C  24 (D 10 rfl) (by decide) (fun h19 => ?_) (fun h19 => ?_)
    · obtain ⟨⟨v, j2⟩, hq2⟩ := okB_ne h19
      obtain ⟨⟨⟨x0, xv⟩, x6⟩, xF⟩ := k3 _ hq2
      have x0 : I3 4 4 = nI j2 := x0
      have xv : I3 4 5 = nI v := xv
      obtain ⟨c1, c2, c3, c4⟩ := pNum_go hN (by omega) hq2
      have x6 : I3 4 6 = nI (a * 10 + e) := by rw [x6]; exact zv
      have gF : Fx (lP0 c) I (up2 I3 (c + 3) (a * 10 + e) (nI v)) := Fx.up ((zF2.tr xF).mo (rP0l c)) (Or.inr (by omega))
      have hS3 : SE (up2 I3 (c + 3) (a * 10 + e) (nI v)) R T N j2 := SE_go hP.1 gF (fun b k z => by unfold lP0 at z; omega) (by rw [up2_i (by omega)]; exact x0) (by omega)
      refine j_aload_n C (D 13 rfl) rfl ?_
      refine j_getr C f_X4_25 (lit (kd := 4) (n := 8) rfl) rfl rfl hr3 (D 14 rfl) ?_
      refine j_getr C f_X4_256 (sC0 hc) rfl rfl (hL _ _ _ (rC2 hc)) (D 15 rfl) ?_
      refine j_aload_n C (D 16 rfl) rfl ?_
      refine j_geti C f_X4_111 (lit (kd := 4) (n := 8) rfl) rfl rfl (D 17 rfl) ?_
      rw [x6]
      refine j_aload_n C (D 18 rfl) rfl ?_
      refine j_geti C f_X4_90 (lit (kd := 4) (n := 8) rfl) rfl rfl (D 19 rfl) ?_
      rw [xv]
      refine j_iast C (sC3 hc) (ix_n (by omega) (by decide)) (D 20 rfl) ?_
      refine j_aload_n C (D 21 rfl) rfl ?_
      refine j_gsgn C (i := 19) (by decide) s_X4_259 (D 22 rfl) ?_
      refine j_callV C B k_X4_63 (rc_obj C (lit (kd := 4) (n := 8) rfl) rfl rfl) (c_take6 _ _ hL hN hS3 (by decide)) rfl rfl rfl rfl ⟨Nat.le_refl _, Nat.le_refl _⟩ (D 23 rfl) ?_
      rintro r w' ⟨rfl, I4, rfl, k4, k5⟩
      refine j_if_eq C  61 (D 24 rfl) (by decide) (fun h47 => ?_) (fun h47 => ?_)
      · obtain ⟨e3, hq3⟩ := okB_eq h47
        obtain ⟨y0, y1, y2⟩ := k4 e3 hq3
        refine j_iconst C (v := nI 0) (D 30 rfl) rfl ?_
        exact j_zret C P rfl (by first | exact Or.inl rfl | exact Or.inr rfl | assumption) (D 31 rfl) ⟨Nat.le_refl _, Nat.le_refl _⟩ (PX_e (e := e3) (by unfold pGn; rw [hq, bnd_r, hq2, bnd_r, hq3, bnd_l]) y0 y1 ((gF.mo (lP01 c)).tr (y2.mo (rP1l c))))
      · obtain ⟨j3, hq3⟩ := okB_ne h47
        obtain ⟨⟨y0, y6⟩, y1⟩ := k5 j3 hq3
        have y0 : I4 4 4 = nI j3 := y0
        obtain ⟨d1, d2⟩ := pTake_go hN (by omega) (by omega) hq3
        have hS4 := SE_go hS3 y1 (fun b k z => by have := z.1; omega) y0 (by omega)
        have y6 : I4 4 6 = nI (a * 10 + e) := by rw [y6, up2_i (by omega)]; exact x6
        refine j_aload_n C (D 25 rfl) rfl ?_
        refine j_iconst C (v := nI 1) (D 26 rfl) rfl ?_
        refine j_sipush C (v := nI 999) (D 27 rfl) rfl ?_
        refine j_callV C B k_X4_100 (rc_obj C (lit (kd := 4) (n := 8) rfl) rfl rfl) (c_takeNumber6 _ _ hL hN hS4 (lo := 1) (hx := 1000) (hi := nI 999) (by omega) (by omega) (by decide)) rfl rfl rfl rfl ⟨Nat.le_refl _, Nat.le_refl _⟩ (D 28 rfl) ?_
        rintro r w' ⟨rfl, I5, rfl, k6, k7⟩
        refine j_if_ne C  63 (D 29 rfl) (by decide) (fun h58 => ?_) (fun h58 => ?_)
        · obtain ⟨⟨u, j4⟩, hq4⟩ := okB_ne h58
          obtain ⟨⟨⟨w0, wv⟩, w6⟩, wF⟩ := k7 _ hq4
          have w0 : I5 4 4 = nI j4 := w0
          have wv : I5 4 5 = nI u := wv
          have w6 : I5 4 6 = nI (a * 10 + e) := by rw [w6]; exact y6
          refine j_aload_n C (D 32 rfl) rfl ?_
          refine j_getr C f_X4_25 (lit (kd := 4) (n := 8) rfl) rfl rfl hr3 (D 33 rfl) ?_
          refine j_getr C f_X4_262 (sC0 hc) rfl rfl (hL _ _ _ (rC3 hc)) (D 34 rfl) ?_
          refine j_aload_n C (D 35 rfl) rfl ?_
          refine j_geti C f_X4_111 (lit (kd := 4) (n := 8) rfl) rfl rfl (D 36 rfl) ?_
          rw [w6]
          refine j_aload_n C (D 37 rfl) rfl ?_
          refine j_geti C f_X4_90 (lit (kd := 4) (n := 8) rfl) rfl rfl (D 38 rfl) ?_
          rw [wv]
          refine j_iast C (sC4 hc) (ix_n (by omega) (by decide)) (D 39 rfl) ?_
          refine j_iconst C (v := nI 1) (D 40 rfl) rfl ?_
          exact j_zret C P rfl (by first | exact Or.inl rfl | exact Or.inr rfl | assumption) (D 41 rfl) ⟨Nat.le_refl _, Nat.le_refl _⟩ (PX_o (a := ((gnV V a e (nI v) (nI u), tt), j4)) (by unfold pGn; rw [hq, bnd_r, hq2, bnd_r, hq3, bnd_r, hq4, bnd_r]) ⟨by rw [up2_i (by omega)]; exact w0, by
  have e1 : CT (up2 (up2 (up2 I3 (c + 3) (a * 10 + e) (nI v)) (c + 4) (a * 10 + e) (nI u)) 4 4 0) c (gnV V a e (nI v) (nI u)) := CT_r hc (CT_gn (CT_r hc hT (zF2.tr xF) hE10) hE10 (by omega)) adv_F hE10
  exact CT_of e1 (fun x k q1 q2 q3 => by
    rw [up2_i (show ¬ (c + x = 4 ∧ k = 4) by omega)]
    by_cases q : c + x = c + 4 ∧ k = a * 10 + e
    · rw [q.1, q.2, up2_same, up2_same]
    · rw [up2_i q, up2_i q, (y1.tr wF) _ _ (fun z => by have := z.1; omega)]) hE10, by rw [up2_i (by omega), (y1.tr wF) _ _ (fun z => by unfold rP0 at z; omega), up2_i (by omega), (zF2.tr xF) _ _ (fun z => by unfold rP0 at z; omega)]; exact htt⟩ (Fx.up (gF.tr ((y1.tr wF).mo (rP0l c))) (Or.inr (by omega))))
        · obtain ⟨e4, hq4⟩ := okB_eq h58
          obtain ⟨w0, w1, w2⟩ := k6 e4 hq4
          refine j_iconst C (v := nI 0) (D 30 rfl) rfl ?_
          exact j_zret C P rfl (by first | exact Or.inl rfl | exact Or.inr rfl | assumption) (D 31 rfl) ⟨Nat.le_refl _, Nat.le_refl _⟩ (PX_e (e := e4) (by unfold pGn; rw [hq, bnd_r, hq2, bnd_r, hq3, bnd_r, hq4, bnd_l]) w0 w1 (((gF.tr (y1.mo (rP0l c))).mo (lP01 c)).tr (w2.mo (rP1l c))))
    · obtain ⟨e2, hq2⟩ := okB_eq h19
      obtain ⟨x0, x1, x2⟩ := k2 e2 hq2
      refine j_iconst C (v := nI 0) (D 11 rfl) rfl ?_
      exact j_zret C P rfl (by first | exact Or.inl rfl | exact Or.inr rfl | assumption) (D 12 rfl) ⟨Nat.le_refl _, Nat.le_refl _⟩ (PX_e (e := e2) (by unfold pGn; rw [hq, bnd_r, hq2, bnd_l]) x0 x1 ((zF2.mo (rP0l1 c)).tr (x2.mo (rP1l c))))
set_option maxRecDepth 20000 in
theorem c_readTie (l : Launch) (G : GT) {c : Nat} (hc : isC c) {I : Nat → Nat → Int32} {L : Nat → Nat → Int64} {R : Nat → Nat → Option Nat} (hL : Lay R) {T : Nat → TK} {N i : Nat} {V : VT} (hN : TN T N) (hP : LPr I R T N c V i) (hlt : i < N) : Mt l G mX4_readTie (1) 0 0 [.ref (ra G 4)] (wd I L R) (PX I L R (lP0 c) (lP1 c) (lO c) (pTie T V i)) := by
  refine mt_of (own := RX4) (by decide) rfl rfl (fun Z C P B => ?_)
  have D := @dc_of _ _ dX4_readTie
  have hr3 := hP.2.1
  have hcr := isC_rng hc
  have hN1 := hN.1
  have hi1 := hP.1.2.2
  have hT := hP.2.2.1
  have hV := hP.2.2.2.1
  have hE10 := hV.1
  have hA8 := hV.2.1
  have hSa : SE (up2 (up2 I 4 4 (nI (i + 1))) 4 7 (nI 1)) R T N (i + 1) := SE_go hP.1 (Fx.up (adv_F.mo (rP0l c)) (Or.inl ⟨rfl, by omega⟩)) (fun b k z => by unfold lP0 at z; omega) (by rw [up2_i (by omega), up2_same]) hlt
  refine j_aload_n C (D 0 rfl) rfl ?_
  refine j_callV C B k_X4_77 (rc_obj C (lit (kd := 4) (n := 8) rfl) rfl rfl) (c_advance _ _ hL hN hP.1 hlt) rfl rfl rfl rfl ⟨Nat.le_refl _, Nat.le_refl _⟩ (D 1 rfl) ?_
  rintro r w' ⟨rfl, rfl⟩
  refine j_pop C (D 2 rfl) rfl ?_
  refine j_aload_n C (D 3 rfl) rfl ?_
  refine j_iconst C (v := nI 1) (D 4 rfl) rfl ?_
  refine j_putz C f_X4_39 (lit (kd := 4) (n := 8) rfl) rfl rfl (D 5 rfl) (by first | exact Or.inl rfl | exact Or.inr rfl) ?_
  refine j_aload_n C (D 6 rfl) rfl ?_
  refine j_gsgn C (i := 11) (by decide) s_X4_234 (D 7 rfl) ?_
  refine j_cVp C B k_X4_52 (rc_obj C (lit (kd := 4) (n := 8) rfl) rfl rfl) (c_sees _ _ hL hN hSa (by decide)) rfl rfl rfl rfl ⟨Nat.le_refl _, Nat.le_refl _⟩ (D 8 rfl) ?_
  refine j_if_eq C  31 (D 9 rfl) (by decide) (fun h17 => ?_) (fun h17 => ?_)
  · refine j_aload_n C (D 15 rfl) rfl ?_
    refine j_gsgn C (i := 12) (by decide) s_X4_240 (D 16 rfl) ?_
    refine j_cVp C B k_X4_52 (rc_obj C (lit (kd := 4) (n := 8) rfl) rfl rfl) (c_sees _ _ hL hN hSa (by decide)) rfl rfl rfl rfl ⟨Nat.le_refl _, Nat.le_refl _⟩ (D 17 rfl) ?_
    refine j_if_eq C  52 (D 18 rfl) (by decide) (fun h38 => ?_) (fun h38 => ?_)
    · refine j_aload_n C (D 24 rfl) rfl ?_
      refine j_gsgn C (i := 13) (by decide) s_X4_243 (D 25 rfl) ?_
      refine j_cVp C B k_X4_52 (rc_obj C (lit (kd := 4) (n := 8) rfl) rfl rfl) (c_sees _ _ hL hN hSa (by decide)) rfl rfl rfl rfl ⟨Nat.le_refl _, Nat.le_refl _⟩ (D 26 rfl) ?_
      refine j_if_eq C  73 (D 27 rfl) (by decide) (fun h59 => ?_) (fun h59 => ?_)
      · refine j_aload_n C (D 33 rfl) rfl ?_
        refine j_iconst C (v := nI 1) (D 34 rfl) rfl ?_
        refine j_callV C B k_X4_80 (rc_obj C (lit (kd := 4) (n := 8) rfl) rfl rfl) (c_refuse _ _ hL hN hSa 1) rfl rfl rfl rfl ⟨Nat.le_refl _, Nat.le_refl _⟩ (D 35 rfl) ?_
        rintro r w' ⟨rfl, rfl⟩
        exact j_zret C P rfl (by first | exact Or.inl rfl | exact Or.inr rfl | assumption) (D 36 rfl) ⟨Nat.le_refl _, Nat.le_refl _⟩ (PX_e (e := fl T (i + 1) 1) (by unfold pTie tio; rw [if_neg (b2_eq h17), if_neg (b2_eq h38), if_neg (b2_eq h59), if_pos rfl]) flt0 (up2_same _ _ _ _) (Fx.up (Fx.up ((Fx.up (adv_F.mo (rP0l c)) (Or.inl ⟨rfl, by omega⟩)).mo (lP01 c)) (Or.inl ⟨rfl, by omega⟩)) (Or.inl ⟨rfl, by omega⟩)))
      · refine j_aload_n C (D 28 rfl) rfl ?_
        refine j_getr C f_X4_25 (lit (kd := 4) (n := 8) rfl) rfl rfl hr3 (D 29 rfl) ?_
        refine j_iconst C (v := nI 2) (D 30 rfl) rfl ?_
        refine j_puti C f_X4_237 (sC0 hc) rfl rfl (D 31 rfl) ?_
        refine j_goto C 79 (D 32 rfl) (by decide) ?_
        have htio : tio (T (i + 1)).1 = 2 := by unfold tio; rw [if_neg (b2_eq h17), if_neg (b2_eq h38), if_pos (b2_ne h59)]
        have hlt2 := lt_sg hN hlt (b2_ne h59) (by decide)
        refine j_aload_n C (D 37 rfl) rfl ?_
        refine j_callV C B k_X4_77 (rc_obj C (lit (kd := 4) (n := 8) rfl) rfl rfl) (c_advance _ _ hL hN (SE_go hSa (Fx.up (Fx.rf (lP0 c) _) (Or.inr (by omega))) (fun b k z => by unfold lP0 at z; omega) (by rw [up2_i (by omega), up2_i (by omega), up2_same]) hlt) hlt2) rfl rfl rfl rfl ⟨Nat.le_refl _, Nat.le_refl _⟩ (D 38 rfl) ?_
        rintro r w' ⟨rfl, rfl⟩
        exact j_zret C P rfl (by first | exact Or.inl rfl | exact Or.inr rfl | assumption) (D 39 rfl) ⟨Nat.le_refl _, Nat.le_refl _⟩ (PX_o (a := ((tiV V (nI 2), true), i + 2)) (by unfold pTie; rw [htio, if_neg (by decide)]) ⟨up2_same _ _ _ _, CT_r hc (CT_ti (CT_of hT (fun x k q1 q2 q3 => by rw [up2_i (by omega), up2_i (by omega)]) hE10) hE10) adv_F hE10, by rw [up2_i (by omega), up2_i (by omega), up2_same]; rfl⟩ (Fx.up (Fx.up (Fx.up (adv_F.mo (rP0l c)) (Or.inl ⟨rfl, by omega⟩)) (Or.inr (by omega))) (Or.inl ⟨rfl, by omega⟩)))
    · refine j_aload_n C (D 19 rfl) rfl ?_
      refine j_getr C f_X4_25 (lit (kd := 4) (n := 8) rfl) rfl rfl hr3 (D 20 rfl) ?_
      refine j_iconst C (v := nI 1) (D 21 rfl) rfl ?_
      refine j_puti C f_X4_237 (sC0 hc) rfl rfl (D 22 rfl) ?_
      refine j_goto C 79 (D 23 rfl) (by decide) ?_
      have htio : tio (T (i + 1)).1 = 1 := by unfold tio; rw [if_neg (b2_eq h17), if_pos (b2_ne h38)]
      have hlt2 := lt_sg hN hlt (b2_ne h38) (by decide)
      refine j_aload_n C (D 37 rfl) rfl ?_
      refine j_callV C B k_X4_77 (rc_obj C (lit (kd := 4) (n := 8) rfl) rfl rfl) (c_advance _ _ hL hN (SE_go hSa (Fx.up (Fx.rf (lP0 c) _) (Or.inr (by omega))) (fun b k z => by unfold lP0 at z; omega) (by rw [up2_i (by omega), up2_i (by omega), up2_same]) hlt) hlt2) rfl rfl rfl rfl ⟨Nat.le_refl _, Nat.le_refl _⟩ (D 38 rfl) ?_
      rintro r w' ⟨rfl, rfl⟩
      exact j_zret C P rfl (by first | exact Or.inl rfl | exact Or.inr rfl | assumption) (D 39 rfl) ⟨Nat.le_refl _, Nat.le_refl _⟩ (PX_o (a := ((tiV V (nI 1), true), i + 2)) (by unfold pTie; rw [htio, if_neg (by decide)]) ⟨up2_same _ _ _ _, CT_r hc (CT_ti (CT_of hT (fun x k q1 q2 q3 => by rw [up2_i (by omega), up2_i (by omega)]) hE10) hE10) adv_F hE10, by rw [up2_i (by omega), up2_i (by omega), up2_same]; rfl⟩ (Fx.up (Fx.up (Fx.up (adv_F.mo (rP0l c)) (Or.inl ⟨rfl, by omega⟩)) (Or.inr (by omega))) (Or.inl ⟨rfl, by omega⟩)))
  · refine j_aload_n C (D 10 rfl) rfl ?_
    refine j_getr C f_X4_25 (lit (kd := 4) (n := 8) rfl) rfl rfl hr3 (D 11 rfl) ?_
    refine j_iconst C (v := nI 0) (D 12 rfl) rfl ?_
    refine j_puti C f_X4_237 (sC0 hc) rfl rfl (D 13 rfl) ?_
    refine j_goto C 79 (D 14 rfl) (by decide) ?_
    have htio : tio (T (i + 1)).1 = 0 := by unfold tio; rw [if_pos (b2_ne h17)]
    have hlt2 := lt_sg hN hlt (b2_ne h17) (by decide)
    refine j_aload_n C (D 37 rfl) rfl ?_
    refine j_callV C B k_X4_77 (rc_obj C (lit (kd := 4) (n := 8) rfl) rfl rfl) (c_advance _ _ hL hN (SE_go hSa (Fx.up (Fx.rf (lP0 c) _) (Or.inr (by omega))) (fun b k z => by unfold lP0 at z; omega) (by rw [up2_i (by omega), up2_i (by omega), up2_same]) hlt) hlt2) rfl rfl rfl rfl ⟨Nat.le_refl _, Nat.le_refl _⟩ (D 38 rfl) ?_
    rintro r w' ⟨rfl, rfl⟩
    exact j_zret C P rfl (by first | exact Or.inl rfl | exact Or.inr rfl | assumption) (D 39 rfl) ⟨Nat.le_refl _, Nat.le_refl _⟩ (PX_o (a := ((tiV V (nI 0), true), i + 2)) (by unfold pTie; rw [htio, if_neg (by decide)]) ⟨up2_same _ _ _ _, CT_r hc (CT_ti (CT_of hT (fun x k q1 q2 q3 => by rw [up2_i (by omega), up2_i (by omega)]) hE10) hE10) adv_F hE10, by rw [up2_i (by omega), up2_i (by omega), up2_same]; rfl⟩ (Fx.up (Fx.up (Fx.up (adv_F.mo (rP0l c)) (Or.inl ⟨rfl, by omega⟩)) (Or.inr (by omega))) (Or.inl ⟨rfl, by omega⟩)))
set_option maxRecDepth 20000 in
theorem c_readAthlete (l : Launch) (G : GT) {c : Nat} (hc : isC c) {I : Nat → Nat → Int32} {L : Nat → Nat → Int64} {R : Nat → Nat → Option Nat} (hL : Lay R) {T : Nat → TK} {N i : Nat} {V : VT} (hN : TN T N) (hP : LPr I R T N c V i) (tt : Bool) (htt : I 4 7 = b2 (tt = true)) (hlt : i < N) (hA : vA V < 8) : Mt l G mX4_readAthlete (2) 0 0 [.ref (ra G 4)] (wd I L R) (PX I L R (lP0 c) (lP1 c) (lO c) (.inr ((atV V, tt), i + 1))) := by
  refine mt_of (own := RX4) (by decide) rfl rfl (fun Z C P B => ?_)
  have D := @dc_of _ _ dX4_readAthlete
  have hr3 := hP.2.1
  have hcr := isC_rng hc
  have hN1 := hN.1
  have hi1 := hP.1.2.2
  have hT := hP.2.2.1
  have hV := hP.2.2.2.1
  have hE10 := hV.1
  have hA8 := hV.2.1
  refine j_aload_n C (D 0 rfl) rfl ?_
  refine j_getr C f_X4_25 (lit (kd := 4) (n := 8) rfl) rfl rfl hr3 (D 1 rfl) ?_
  refine j_callV C B k_X4_246 (rc_obj C (sC0 hc) rfl rfl) (c_addAthlete _ _ hc hL hV hT hA) rfl rfl rfl rfl ⟨Nat.le_refl _, Nat.le_refl _⟩ (D 2 rfl) ?_
  rintro r w' ⟨rfl, I2, rfl, hT2, hF2⟩
  have gF : Fx (lP0 c) I I2 := fun b j h => hF2 b j (fun z => h (Or.inr (by omega)))
  refine j_pop C (D 3 rfl) rfl ?_
  refine j_aload_n C (D 4 rfl) rfl ?_
  refine j_callV C B k_X4_77 (rc_obj C (lit (kd := 4) (n := 8) rfl) rfl rfl) (c_advance _ _ hL hN (SE_go hP.1 gF (fun b k z => by unfold lP0 at z; omega) (by rw [hF2 _ _ (by omega)]; exact hP.1.2.1) hi1) hlt) rfl rfl rfl rfl ⟨Nat.le_refl _, Nat.le_refl _⟩ (D 5 rfl) ?_
  rintro r w' ⟨rfl, rfl⟩
  exact j_zret C P rfl (by first | exact Or.inl rfl | exact Or.inr rfl | assumption) (D 6 rfl) ⟨Nat.le_refl _, Nat.le_refl _⟩ (PX_o rfl ⟨up2_same _ _ _ _, CT_r hc hT2 adv_F hE10, by rw [up2_i (by omega), hF2 _ _ (by omega)]; exact htt⟩ (Fx.up gF (Or.inl ⟨rfl, by omega⟩)))
set_option maxRecDepth 20000 in
theorem c_finish (l : Launch) (G : GT) {c : Nat} (hc : isC c) {I : Nat → Nat → Int32} {L : Nat → Nat → Int64} {R : Nat → Nat → Option Nat} (hL : Lay R) {n : Nat} (hn : I (c + 5) 1 = nI n) (hn4 : n < 4) (x : Int32) : Mt l G mX0_finish (0) 0 0 [.ref (ra G (c + 5)), .int x] (wd I L R) (fun r w' => r = none ∧ w' = wd (up2 (up2 (up2 (up2 I (c + 6) n x) (c + 5) 5 (I (c + 5) 5 + x)) (c + 5) 1 (nI (n + 1))) (c + 7) (n + 1) (I (c + 5) 4)) L R) := by
  refine mt_of (own := RX0) (by decide) rfl rfl (fun Z C P B => ?_)
  have D := @dc_of _ _ dX0_finish
  refine j_aload_n C (D 0 rfl) rfl ?_
  refine j_geti C f_X0_24 (sC5 hc) rfl rfl (D 1 rfl) ?_
  rw [hn]
  refine j_iconst C (v := nI 4) (D 2 rfl) rfl ?_
  refine j_icmp_ge C  51 (D 3 rfl) (by decide) (fun h5 => absurd h5 (fun z => by rw [nle (by omega) (by omega)] at z; omega)) (fun h5 => ?_)
  refine j_aload_n C (D 4 rfl) rfl ?_
  refine j_getr C f_X0_9 (sC5 hc) rfl rfl (hL _ _ _ (rB0 hc)) (D 5 rfl) ?_
  refine j_aload_n C (D 6 rfl) rfl ?_
  refine j_geti C f_X0_24 (sC5 hc) rfl rfl (D 7 rfl) ?_
  rw [hn]
  refine j_iload_n C (D 8 rfl) rfl ?_
  refine j_iast C (sC6 hc) (ix_n (by omega) (by decide)) (D 9 rfl) ?_
  refine j_aload_n C (D 10 rfl) rfl ?_
  refine j_dup C (D 11 rfl) rfl ?_
  refine j_geti C f_X0_31 (sC5 hc) rfl rfl (D 12 rfl) ?_
  rw [up2_i (show ¬ (c + 5 = c + 6 ∧ 5 = n) by omega)]
  refine j_iload_n C (D 13 rfl) rfl ?_
  refine j_iadd C (D 14 rfl) ?_
  refine j_puti C f_X0_31 (sC5 hc) rfl rfl (D 15 rfl) ?_
  refine j_aload_n C (D 16 rfl) rfl ?_
  refine j_dup C (D 17 rfl) rfl ?_
  refine j_geti C f_X0_24 (sC5 hc) rfl rfl (D 18 rfl) ?_
  rw [up2_i (show ¬ (c + 5 = c + 5 ∧ 1 = 5) by omega), up2_i (show ¬ (c + 5 = c + 6 ∧ 1 = n) by omega), hn]
  refine j_iconst C (v := nI 1) (D 19 rfl) rfl ?_
  refine j_iadd C (D 20 rfl) ?_
  rw [nI_add]
  refine j_puti C f_X0_24 (sC5 hc) rfl rfl (D 21 rfl) ?_
  refine j_aload_n C (D 22 rfl) rfl ?_
  refine j_getr C f_X0_15 (sC5 hc) rfl rfl (hL _ _ _ (rB2 hc)) (D 23 rfl) ?_
  refine j_aload_n C (D 24 rfl) rfl ?_
  refine j_geti C f_X0_24 (sC5 hc) rfl rfl (D 25 rfl) ?_
  rw [up2_same]
  refine j_aload_n C (D 26 rfl) rfl ?_
  refine j_geti C f_X0_28 (sC5 hc) rfl rfl (D 27 rfl) ?_
  rw [up2_i (show ¬ (c + 5 = c + 5 ∧ 4 = 1) by omega), up2_i (show ¬ (c + 5 = c + 5 ∧ 4 = 5) by omega), up2_i (show ¬ (c + 5 = c + 6 ∧ 4 = n) by omega)]
  refine j_iast C (sC7 hc) (ix_n (by omega) (by decide)) (D 28 rfl) ?_
  exact j_vret C P rfl (D 29 rfl) ⟨Nat.le_refl _, Nat.le_refl _⟩ ⟨rfl, rfl⟩
set_option maxRecDepth 20000 in
theorem c_readBonus (l : Launch) (G : GT) {c : Nat} (hc : isC c) {I : Nat → Nat → Int32} {L : Nat → Nat → Int64} {R : Nat → Nat → Option Nat} (hL : Lay R) {T : Nat → TK} {N i : Nat} {V : VT} (hN : TN T N) (hP : LPr I R T N c V i) (tt : Bool) (htt : I 4 7 = b2 (tt = true)) (hlt : i < N) (hB : vB V < 4) : Mt l G mX4_readBonus (31) 0 0 [.ref (ra G 4)] (wd I L R) (PX I L R (lP0 c) (lP1 c) (lO c) (pBon T V tt i)) := by
  refine mt_of (own := RX4) (by decide) rfl rfl (fun Z C P B => ?_)
  have D := @dc_of _ _ dX4_readBonus
  have hr3 := hP.2.1
  have hcr := isC_rng hc
  have hN1 := hN.1
  have hi1 := hP.1.2.2
  have hT := hP.2.2.1
  have hV := hP.2.2.2.1
  have hE10 := hV.1
  have hA8 := hV.2.1
  have hSa := SE_go hP.1 (adv_F (v := nI (i + 1))) (fun b k z => by have := z.1; omega) (up2_same _ _ _ _) hlt
  refine j_aload_n C (D 0 rfl) rfl ?_
  refine j_callV C B k_X4_77 (rc_obj C (lit (kd := 4) (n := 8) rfl) rfl rfl) (c_advance _ _ hL hN hP.1 hlt) rfl rfl rfl rfl ⟨Nat.le_refl _, Nat.le_refl _⟩ (D 1 rfl) ?_
  rintro r w' ⟨rfl, rfl⟩
  refine j_pop C (D 2 rfl) rfl ?_
  refine j_aload_n C (D 3 rfl) rfl ?_
  refine j_iconst C (v := nI 1) (D 4 rfl) rfl ?_
  refine j_sipush C (v := nI 500) (D 5 rfl) rfl ?_
  refine j_callV C B k_X4_100 (rc_obj C (lit (kd := 4) (n := 8) rfl) rfl rfl) (c_takeNumber _ _ hL hN hSa (lo := 1) (hx := 501) (hi := nI 500) (by omega) (by omega) (by decide)) rfl rfl rfl rfl ⟨Nat.le_refl _, Nat.le_refl _⟩ (D 6 rfl) ?_
  rintro r w' ⟨rfl, I2, rfl, k0, k1⟩
  refine j_if_ne C  18 (D 7 rfl) (by decide) (fun h13 => ?_) (fun h13 => ?_)
  · obtain ⟨⟨a, j⟩, hq⟩ := okB_ne h13
    obtain ⟨⟨z0, zv⟩, zF⟩ := k1 _ hq
    have z0 : I2 4 4 = nI j := z0
    have zv : I2 4 5 = nI a := zv
    obtain ⟨b1, b2, b3, b4⟩ := pNum_go hN (by omega) hq
    have zF2 := adv_F.tr zF
    have hS2 := SE_go hP.1 zF2 (fun b k z => by have := z.1; omega) z0 (by omega)
    refine j_aload_n C (D 10 rfl) rfl ?_
    refine j_geti C f_X4_90 (lit (kd := 4) (n := 8) rfl) rfl rfl (D 11 rfl) ?_
    rw [zv]
    refine j_istore_n C (D 12 rfl) rfl ?_
    refine j_aload_n C (D 13 rfl) rfl ?_
    refine j_gsgn C (i := 15) (by decide) s_X4_265 (D 14 rfl) ?_
    refine j_callV C B k_X4_63 (rc_obj C (lit (kd := 4) (n := 8) rfl) rfl rfl) (c_take _ _ hL hN hS2 (by decide)) rfl rfl rfl rfl ⟨Nat.le_refl _, Nat.le_refl _⟩ (D 15 rfl) ?_
    rintro r w' ⟨rfl, I3, rfl, k2, k3⟩
    refine j_if_eq C  41 (D 16 rfl) (by decide) (fun h30 => ?_) (fun h30 => ?_)
    · obtain ⟨e2, hq2⟩ := okB_eq h30
      obtain ⟨x0, x1, x2⟩ := k2 e2 hq2
      refine j_iconst C (v := nI 0) (D 21 rfl) rfl ?_
      exact j_zret C P rfl (by first | exact Or.inl rfl | exact Or.inr rfl | assumption) (D 22 rfl) ⟨Nat.le_refl _, Nat.le_refl _⟩ (PX_e (e := e2) (by unfold pBon; rw [hq, bnd_r, hq2, bnd_l]) x0 x1 ((zF2.mo (rP0l1 c)).tr (x2.mo (rP1l c))))
    · obtain ⟨j2, hq2⟩ := okB_ne h30
      obtain ⟨x0, xF⟩ := k3 j2 hq2
      have x0 : I3 4 4 = nI j2 := x0
      obtain ⟨d1, d2⟩ := pTake_go hN (by omega) (by omega) hq2
      have hT3 := CT_r hc hT (zF2.tr xF) hE10
      have hP3 : PC I3 R T N c (vE V) (off (vts V) (vB V)) j2 := ⟨SE_go hS2 xF (fun b k z => by have := z.1; omega) x0 (by omega), hr3, hT3.2.2.2.2.2.2.2.2.2.1, by have := hP.2.2.2.2; omega, hT3.1⟩
      refine j_aload_n C (D 17 rfl) rfl ?_
      refine j_iconst C (v := nI 0) (D 18 rfl) rfl ?_
      refine j_callV C B k_X4_268 (rc_obj C (lit (kd := 4) (n := 8) rfl) rfl rfl) (c_readTest _ hc hL hN hE10 _ _ _ _ hP3) rfl rfl rfl rfl ⟨Nat.le_refl _, Nat.le_refl _⟩ (D 19 rfl) ?_
      rintro r w' ⟨rfl, I4, rfl, k4, k5⟩
      refine j_if_ne C  43 (D 20 rfl) (by decide) (fun h38 => ?_) (fun h38 => ?_)
      · obtain ⟨⟨o, j3⟩, hq3⟩ := okB_ne h38
        obtain ⟨⟨y0, yC⟩, yF⟩ := k5 _ hq3
        have y0 : I4 4 4 = nI j3 := y0
        have yC : CDE I3 I4 c (off (vts V) (vB V)) o := yC
        refine j_aload_n C (D 23 rfl) rfl ?_
        refine j_getr C f_X4_25 (lit (kd := 4) (n := 8) rfl) rfl rfl hr3 (D 24 rfl) ?_
        refine j_getr C f_X4_129 (sC0 hc) rfl rfl (hL _ _ _ (rC4 hc)) (D 25 rfl) ?_
        refine j_iload_n C (D 26 rfl) rfl ?_
        refine j_callV C B k_X4_271 (rc_obj C (sC5 hc) rfl rfl) (c_finish _ _ hc hL (show I4 (c + 5) 1 = nI (vB V) by rw [yF _ _ (fun z => by unfold eP0 at z; omega)]; exact hT3.2.2.2.1) hB _) rfl rfl rfl rfl ⟨Nat.le_refl _, Nat.le_refl _⟩ (D 27 rfl) ?_
        rintro r w' ⟨rfl, rfl⟩
        refine j_iconst C (v := nI 1) (D 28 rfl) rfl ?_
        exact j_zret C P rfl (by first | exact Or.inl rfl | exact Or.inr rfl | assumption) (D 29 rfl) ⟨Nat.le_refl _, Nat.le_refl _⟩ (PX_o (a := ((addBn V a o, tt), j3)) (by unfold pBon; rw [hq, bnd_r, hq2, bnd_r, hq3, bnd_r]) ⟨by rw [up2_i (by omega), up2_i (by omega), up2_i (by omega), up2_i (by omega)]; exact y0, CT_bn hc hV (CT_r hc hT (zF2.tr xF) hE10) yF yC, by rw [up2_i (by omega), up2_i (by omega), up2_i (by omega), up2_i (by omega), yF _ _ (fun z => by unfold eP0 at z; omega), (zF2.tr xF) _ _ (fun z => by unfold rP0 at z; omega)]; exact htt⟩ (Fx.up (Fx.up (Fx.up (Fx.up (((zF2.tr xF).mo (rP0l c)).tr (yF.mo (eP0l c))) (Or.inr (by omega))) (Or.inr (by omega))) (Or.inr (by omega))) (Or.inr (by omega))))
      · obtain ⟨e3, hq3⟩ := okB_eq h38
        obtain ⟨y0, y1, y2⟩ := k4 e3 hq3
        refine j_iconst C (v := nI 0) (D 21 rfl) rfl ?_
        exact j_zret C P rfl (by first | exact Or.inl rfl | exact Or.inr rfl | assumption) (D 22 rfl) ⟨Nat.le_refl _, Nat.le_refl _⟩ (PX_e (e := e3) (by unfold pBon; rw [hq, bnd_r, hq2, bnd_r, hq3, bnd_l]) y0 y1 (((zF2.tr xF).mo (rP0l1 c)).tr (y2.mo (eP1l c))))
  · obtain ⟨e, hq⟩ := okB_eq h13
    obtain ⟨z0, z1, z2⟩ := k0 e hq
    refine j_iconst C (v := nI 0) (D 8 rfl) rfl ?_
    exact j_zret C P rfl (by first | exact Or.inl rfl | exact Or.inr rfl | assumption) (D 9 rfl) ⟨Nat.le_refl _, Nat.le_refl _⟩ (PX_e (e := e) (by unfold pBon; rw [hq, bnd_l]) z0 z1 ((adv_F.mo (rP0l1 c)).tr (z2.mo (rP1l c))))
