theorem CT_s0 {I I' : Nat → Nat → Int32} {c : Nat} {V : VT} {s : SN} (h : CT I c V) (hE : vE V ≤ 10) (h0 : ∀ b k, ¬ (b = c ∧ (k = 6 ∨ k = 7)) → ¬ (b = c + 2 ∨ b = c + 3 ∨ b = c + 4) → I' b k = I b k) (h6 : I' c 6 = nI s.1.1) (h7 : I' c 7 = s.1.2)
    (hm : ∀ a e, a < s.1.1 → e < 10 → I' (c + 2) (a * 10 + e) = s.2.1 a e ∧ I' (c + 3) (a * 10 + e) = s.2.2.1 a e ∧ I' (c + 4) (a * 10 + e) = s.2.2.2 a e) : CT I' c (setV V s) :=
  CT_set h hE (fun j k q1 q2 q3 q4 q5 => h0 _ _ (by omega) (by omega)) h6 h7 hm
set_option maxRecDepth 20000 in
theorem c_addAthlete (l : Launch) (G : GT) {c : Nat} (hc : isC c) {I : Nat → Nat → Int32} {L : Nat → Nat → Int64} {R : Nat → Nat → Option Nat} (hL : Lay R) {V : VT} (hV : WV V) (hT : CT I c V) (hA : vA V < 8) : Mt l G mX1_addAthlete (1) 0 0 [.ref (ra G c)] (wd I L R) (fun r w' => r = some (.int (nI (vA V))) ∧ ∃ I', w' = wd I' L R ∧ CT I' c (atV V) ∧ ∀ b j, ¬ (b = c ∨ b = c + 2 ∨ b = c + 3 ∨ b = c + 4) → I' b j = I b j) := by
  refine mt_of (own := RX1) (by decide) rfl rfl (fun Z C P B => ?_)
  have D := @dc_of _ _ dX1_addAthlete
  have hE10 := hV.1
  have hA8 := hV.2.1
  have hcr := isC_rng hc
  have Lp : ∀ (m e : Nat) (x3 : Option Value) (I1 : Nat → Nat → Int32), e + m = 10 → (∀ b j, ¬ (b = c + 2 ∨ b = c + 3 ∨ b = c + 4) → I1 b j = I b j) → (∀ t x, (t = c + 2 ∨ t = c + 3 ∨ t = c + 4) → I1 t x = if vA V * 10 ≤ x ∧ x < vA V * 10 + e then -1 else I t x) → J Z (0, 0) 7 [some (.ref (ra G c)), some (.int (nI (vA V))), some (.int (nI e)), x3] [] (wd I1 L R) := by
    intro m
    induction m with
    | zero =>
      intro e x3 I1 he hO hR
      refine j_iload_n C (D 5 rfl) rfl ?_
      refine j_bipush C (v := nI 10) (D 6 rfl) rfl ?_
      refine j_icmp_ge C  46 (D 7 rfl) (by decide) (fun h10 => ?_) (fun h10 => absurd h10 (fun z => z ((nle (by omega) (by omega)).mpr (by omega))))
      refine j_aload_n C (D 29 rfl) rfl ?_
      refine j_dup C (D 30 rfl) rfl ?_
      refine j_geti C f_X1_39 (sC0 hc) rfl rfl (D 31 rfl) ?_
      rw [hO c 6 (by omega), hT.2.1]
      refine j_iconst C (v := nI 1) (D 32 rfl) rfl ?_
      refine j_iadd C (D 33 rfl) ?_
      rw [nI_add]
      refine j_puti C f_X1_39 (sC0 hc) rfl rfl (D 34 rfl) ?_
      refine j_iload_n C (D 35 rfl) rfl ?_
      exact j_iret C P rfl (D 36 rfl) ⟨Nat.le_refl _, Nat.le_refl _⟩ ⟨rfl, _, rfl, by
      refine CT_s0 hT hE10 (fun b k q1 q2 => by rw [up2_i (by omega)]; exact hO b k q2) (by rw [up2_same]) (by rw [up2_i (by omega), hO c 7 (by omega)]; exact hT.2.2.1) (fun b j hb hj => ?_)
      have hb : b < vA V + 1 := hb
      have cell : ∀ t, (t = c + 2 ∨ t = c + 3 ∨ t = c + 4) → up2 I1 c 6 (nI (vA V + 1)) t (b * 10 + j) = if b = vA V then -1 else I t (b * 10 + j) := fun t ht => by
        rw [up2_i (by omega), hR t _ ht]
        by_cases q : b = vA V
        · rw [if_pos (by omega), if_pos q]
        · rw [if_neg (by omega), if_neg q]
      rw [cell _ (Or.inl rfl), cell _ (Or.inr (Or.inl rfl)), cell _ (Or.inr (Or.inr rfl))]
      show _ = va_up (vmk V) (vA V) (fun _ => -1) b j ∧ _ = va_up (vgo V) (vA V) (fun _ => -1) b j ∧ _ = va_up (vgi V) (vA V) (fun _ => -1) b j
      rw [at_in, at_in, at_in]
      by_cases q : b = vA V
      · rw [if_pos q, if_pos q, if_pos q, if_pos q, if_pos q, if_pos q]; exact ⟨rfl, rfl, rfl⟩
      · rw [if_neg q, if_neg q, if_neg q, if_neg q, if_neg q, if_neg q]; exact hT.2.2.2.2.2.1 b j (by omega) hj, fun b j q => by rw [up2_i (by omega)]; exact hO b j (by omega)⟩
    | succ m ih =>
      intro e x3 I1 he hO hR
      refine j_iload_n C (D 5 rfl) rfl ?_
      refine j_bipush C (v := nI 10) (D 6 rfl) rfl ?_
      refine j_icmp_ge C  46 (D 7 rfl) (by decide) (fun h10 => absurd h10 (fun z => by rw [nle (by omega) (by omega)] at z; omega)) (fun h10 => ?_)
      refine j_iload_n C (D 8 rfl) rfl ?_
      refine j_iload_n C (D 9 rfl) rfl ?_
      refine j_cSNp C B k_X1_48 (c_cellOf _ _ _ _ _) rfl rfl rfl rfl ⟨Nat.le_refl _, Nat.le_refl _⟩ (D 10 rfl) ?_
      refine j_istore_n C (D 11 rfl) rfl ?_
      refine j_aload_n C (D 12 rfl) rfl ?_
      refine j_getr C f_X1_17 (sC0 hc) rfl rfl (hL _ _ _ (rC1 hc)) (D 13 rfl) ?_
      refine j_iload_n C (D 14 rfl) rfl ?_
      refine j_iconst C (v := (-1)) (D 15 rfl) rfl ?_
      refine j_iast C (sC2 hc) (ix_cell (by omega) (by omega)) (D 16 rfl) ?_
      refine j_aload_n C (D 17 rfl) rfl ?_
      refine j_getr C f_X1_21 (sC0 hc) rfl rfl (hL _ _ _ (rC2 hc)) (D 18 rfl) ?_
      refine j_iload_n C (D 19 rfl) rfl ?_
      refine j_iconst C (v := (-1)) (D 20 rfl) rfl ?_
      refine j_iast C (sC3 hc) (ix_cell (by omega) (by omega)) (D 21 rfl) ?_
      refine j_aload_n C (D 22 rfl) rfl ?_
      refine j_getr C f_X1_24 (sC0 hc) rfl rfl (hL _ _ _ (rC3 hc)) (D 23 rfl) ?_
      refine j_iload_n C (D 24 rfl) rfl ?_
      refine j_iconst C (v := (-1)) (D 25 rfl) rfl ?_
      refine j_iast C (sC4 hc) (ix_cell (by omega) (by omega)) (D 26 rfl) ?_
      first | refine j_iinc1 C (D 27 rfl) rfl rfl ?_ | refine j_iinc C (D 27 rfl) rfl rfl rfl ?_
      refine j_goto C 7 (D 28 rfl) (by decide) ?_
      exact ih (e + 1) _ _ (by omega) (fun b j q => by rw [up2_i (by omega), up2_i (by omega), up2_i (by omega)]; exact hO b j q) (fun t x ht => by
        by_cases q : x = vA V * 10 + e
        · rw [if_pos (by omega), q]
          rcases ht with rfl | rfl | rfl
          · rw [up2_i (by omega), up2_i (by omega), up2_same]
          · rw [up2_i (by omega), up2_same]
          · rw [up2_same]
        · rw [up2_i (by omega), up2_i (by omega), up2_i (by omega), hR t x ht]
          by_cases y : vA V * 10 ≤ x ∧ x < vA V * 10 + e
          · rw [if_pos y, if_pos (by omega)]
          · rw [if_neg y, if_neg (by omega)])
  refine j_aload_n C (D 0 rfl) rfl ?_
  refine j_geti C f_X1_39 (sC0 hc) rfl rfl (D 1 rfl) ?_
  rw [hT.2.1]
  refine j_istore_n C (D 2 rfl) rfl ?_
  refine j_iconst C (v := nI 0) (D 3 rfl) rfl ?_
  refine j_istore_n C (D 4 rfl) rfl ?_
  exact Lp 10 0 _ _ (by omega) (fun _ _ _ => rfl) (fun t x _ => by rw [if_neg (by omega)])
theorem und_at {V : VT} (x2 x3 x4 : Int32) : und (nI 1) x2 x3 x4 (atV V) (snV V) := by
  refine Or.inr (Or.inl ⟨rfl, rfl, rfl, fun b j hb hj => ?_, fun b j hb hj => ?_, fun b j hb hj => ?_⟩)
  · show vmk V b j = va_up (vmk V) (vA V) (fun _ => -1) b j
    rw [at_in, if_neg (Nat.ne_of_lt (show b < vA V from hb))]
  · show vgo V b j = va_up (vgo V) (vA V) (fun _ => -1) b j
    rw [at_in, if_neg (Nat.ne_of_lt (show b < vA V from hb))]
  · show vgi V b j = va_up (vgi V) (vA V) (fun _ => -1) b j
    rw [at_in, if_neg (Nat.ne_of_lt (show b < vA V from hb))]
def a_athlete (V : VT) (ld : Bool)  : Int32 := if ld = true then (if vA V < 8 then nI (vA V) else -5) else -2
theorem a_athlete_t {V : VT} {ld : Bool}  (hX : ld = true) : a_athlete V ld  = (if vA V < 8 then nI (vA V) else -5) := if_pos hX
theorem a_athlete_f {V : VT} {ld : Bool}  (hX : ¬ (ld = true)) : a_athlete V ld  = -2 := if_neg hX
def s_athlete (V : VT) (ld : Bool) (n : Nat) (h : Nat → SN)  : S3 := if ld = true then (if vA V < 8 then pushS V (atV V) n h else (V, n, h)) else (V, n, h)
theorem s_athlete_t {V : VT} {ld : Bool} {n : Nat} {h : Nat → SN}  (hX : ld = true) : s_athlete V ld n h  = (if vA V < 8 then pushS V (atV V) n h else (V, n, h)) := if_pos hX
theorem s_athlete_f {V : VT} {ld : Bool} {n : Nat} {h : Nat → SN}  (hX : ¬ (ld = true)) : s_athlete V ld n h  = (V, n, h) := if_neg hX
set_option maxRecDepth 20000 in
theorem c_athleteQ (l : Launch) (G : GT) {c : Nat} (hc : isC c) {I : Nat → Nat → Int32} {L : Nat → Nat → Int64} {R : Nat → Nat → Option Nat} (hL : Lay R) (hr5 : R 0 5 = some c) {V : VT} (hV : WV V) (hT : CT I c V) (ld : Bool) (hld : I 0 6 = b2 (ld = true)) {n : Nat} {h : Nat → SN} (hn : n ≤ 10) (hH : HC I V n h) : Mt l G mX11_athlete (4) 0 0 [.ref (ra G 0)] (wd I L R) (aC (a_athlete V ld ) I R c (s_athlete V ld n h )) := by
  refine mt_of (own := RX11) (by decide) rfl rfl (fun Z C P B => ?_)
  have D := @dc_of _ _ dX11_athlete
  have hE10 := hV.1
  have hA8 := hV.2.1
  have hcr := isC_rng hc
  refine j_aload_n C (D 0 rfl) rfl ?_
  refine j_geti C f_X11_85 (lit (kd := 11) (n := 12) rfl) rfl rfl (D 1 rfl) ?_
  rw [hld]
  refine j_if_ne C  10 (D 2 rfl) (by decide) (fun h4 => ?_) (fun h4 => ?_)
  · refine j_aload_n C (D 5 rfl) rfl ?_
    refine j_getr C f_X11_37 (lit (kd := 11) (n := 12) rfl) rfl rfl hr5 (D 6 rfl) ?_
    refine j_geti C f_X11_101 (sC0 hc) rfl rfl (D 7 rfl) ?_
    refine j_bipush C (v := nI 8) (D 8 rfl) rfl ?_
    rw [hT.2.1]
    refine j_icmp_lt C  25 (D 9 rfl) (by decide) (fun h19 => ?_) (fun h19 => ?_)
    · have hA : vA V < 8 := (nlt (by omega) (by omega)).mp h19
      refine j_aload_n C (D 12 rfl) rfl ?_
      refine j_getr C f_X11_30 (lit (kd := 11) (n := 12) rfl) rfl rfl (hL _ _ _ rfl) (D 13 rfl) ?_
      refine j_iconst C (v := nI 1) (D 14 rfl) rfl ?_
      refine j_iconst C (v := nI 0) (D 15 rfl) rfl ?_
      refine j_iconst C (v := nI 0) (D 16 rfl) rfl ?_
      refine j_iconst C (v := nI 0) (D 17 rfl) rfl ?_
      refine j_callV C B k_X11_291 (rc_obj C (lit (kd := 2) (n := 5) rfl) rfl rfl) (c_note _ _ hL n hn hH.1 (nI 1) _ _ _) rfl rfl rfl rfl ⟨Nat.le_refl _, Nat.le_refl _⟩ (D 18 rfl) ?_
      rintro r w' ⟨rfl, I2, rfl, k0, k1, k2, k3⟩
      have hT2 := CT_of (I' := I2) hT (fun j k q1 q2 q3 => k3 _ _ (by rcases hc with rfl | rfl <;> omega)) hV.1
      refine j_aload_n C (D 19 rfl) rfl ?_
      refine j_getr C f_X11_37 (lit (kd := 11) (n := 12) rfl) rfl rfl hr5 (D 20 rfl) ?_
      refine j_callV C B k_X11_295 (rc_obj C (sC0 hc) rfl rfl) (c_addAthlete _ _ hc hL hV hT2 hA) rfl rfl rfl rfl ⟨Nat.le_refl _, Nat.le_refl _⟩ (D 21 rfl) ?_
      rintro r w' ⟨rfl, I3, rfl, k5, k6⟩
      exact j_iret C P rfl (D 22 rfl) ⟨Nat.le_refl _, Nat.le_refl _⟩ ⟨by rw [a_athlete_t (b2_ne h4), if_pos hA], I3, L, rfl, by rw [s_athlete_t (b2_ne h4), if_pos hA]; exact k5, by rw [s_athlete_t (b2_ne h4), if_pos hA]; exact HC_fr (note_HC hn ⟨_, rfl⟩ hH (und_at (nI 0) (nI 0) (nI 0)) k0 k1 k2) (fun b j q1 q2 => k6 b j (by omega)), fun b j q => by rw [k6 b j (by omega)]; exact k3 b j (by omega)⟩
    · refine j_bipush C (v := (-5)) (D 10 rfl) rfl ?_
      exact j_iret C P rfl (D 11 rfl) ⟨Nat.le_refl _, Nat.le_refl _⟩ (ac0 hT hH (by rw [a_athlete_t (b2_ne h4), if_neg (fun z => h19 ((nlt (by omega) (by omega)).mpr z))]) (by rw [s_athlete_t (b2_ne h4), if_neg (fun z => h19 ((nlt (by omega) (by omega)).mpr z))]))
  · refine j_bipush C (v := (-2)) (D 3 rfl) rfl ?_
    exact j_iret C P rfl (D 4 rfl) ⟨Nat.le_refl _, Nat.le_refl _⟩ (ac0 hT hH (a_athlete_f (fun z => b2_eq h4 z)).symm (s_athlete_f (fun z => b2_eq h4 z)).symm)
