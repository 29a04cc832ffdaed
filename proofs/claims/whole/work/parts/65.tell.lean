theorem S0_c {I I' : Nat → Nat → Int32} {V : VT} {P : Nat → Nat → Int32} {g : Nat → Nat → Bool} (h : ∀ b j, 95 ≤ b → I' b j = I b j) (h0 : S0 I V P g) : S0 I' V P g := by
  refine ⟨by rw [h _ _ (by omega)]; exact h0.1, by rw [h _ _ (by omega)]; exact h0.2.1, by rw [h _ _ (by omega)]; exact h0.2.2.1, fun d hd => ?_⟩
  obtain ⟨⟨s1, s2⟩, k1, k2, k3, k4⟩ := h0.2.2.2 d hd
  exact ⟨⟨by rw [h _ _ (by omega)]; exact s1, fun j hj => by rw [h _ _ (by omega), h _ _ (by omega)]; exact s2 j hj⟩, by rw [h _ _ (by omega)]; exact k1, by rw [h _ _ (by omega)]; exact k2, by rw [h _ _ (by omega)]; exact k3, by rw [h _ _ (by omega)]; exact k4⟩
theorem SP_c {I I' : Nat → Nat → Int32} {V : VT} {P : Nat → Nat → Int32} {g : Nat → Nat → Bool} (h : ∀ b j, 95 ≤ b → I' b j = I b j) (h0 : SP I V P g) : SP I' V P g := fun a ha => by rw [h _ _ (by omega)]; exact h0 a ha
theorem SF_c {I I' : Nat → Nat → Int32} {V : VT} {P : Nat → Nat → Int32} (h : ∀ b j, 95 ≤ b → I' b j = I b j) (h0 : SF I V P) : SF I' V P := fun a ha => by rw [h _ _ (by omega)]; exact h0 a ha
def tlR (V : VT) (k : Nat) (b : BT) : BT := put1 (nmB (tn (totS V (ptM V (vmk V)) (gM (vmk V)) (tn (plS V (ptM V (vmk V)) (gM (vmk V)) (nI k))))) (put1 (nmB (tn (plS V (ptM V (vmk V)) (gM (vmk V)) (nI k))) b) (oc1 (nI 32)))) (oc1 (nI 10))
def tlN (V : VT) : Nat → BT → BT
  | 0, b => b
  | k + 1, b => tlR V k (tlN V k b)
def bt0 : BT := (0, fun _ => 0)
theorem tdN_0 {v : Nat} (h : v < 10) : tdN v = 0 := if_pos h
theorem tlN_1 {V : VT} (hA : vA V ≤ 8) : ∀ {k : Nat}, k ≤ vA V → (tlN V k bt0).1 ≤ 8 * k
  | 0, _ => Nat.le_refl _
  | k + 1, h => by
    have ih := tlN_1 hA (k := k) (by omega)
    obtain ⟨a, ha, e⟩ := pl_ex (V := V) (P := ptM V (vmk V)) (g := gM (vmk V)) hA (show k < vA V by omega)
    have h1 : (tlN V (k + 1) bt0).1 = (tlN V k bt0).1 + tdN a + 1 + 1 + tdN (tn (totS V (ptM V (vmk V)) (gM (vmk V)) a)) + 1 + 1 := by
      rw [tlN, tlR, e, tn_n (by omega)]
      show (nmB _ _).1 + 1 = _
      rw [nmB_1]
      show (nmB _ _).1 + 1 + _ + 1 + 1 = _
      rw [nmB_1]
    have h2 := tdN_le (tn (totS V (ptM V (vmk V)) (gM (vmk V)) a))
    rw [tdN_0 (show a < 10 by omega)] at h1
    omega
def FrO (o f t : Nat) (s : Nat → Nat → Prop) (I I' : Nat → Nat → Int32) : Prop := ∀ b j, ¬ s b j → ¬ b = t → ¬ (b = o ∧ j = f) → I' b j = I b j
set_option maxRecDepth 20000 in
theorem c_pclear (l : Launch) (G : GT) {I : Nat → Nat → Int32} {L : Nat → Nat → Int64} {R : Nat → Nat → Option Nat} (hL : Lay R) : Mt l G mX3_clear (0) 0 0 [.ref (ra G 2)] (wd I L R) (fun r w' => r = none ∧ ∃ I', w' = wd I' L R ∧ TP I' 2 1 3 bt0 ∧ FrT 2 1 3 I I') := by
  refine mt_of (own := RX3) (by decide) rfl rfl (fun Z C P B => ?_)
  have D := @dc_of _ _ dX3_clear
  refine j_aload_n C (D 0 rfl) rfl ?_
  refine j_iconst C (v := nI 0) (D 1 rfl) rfl ?_
  refine j_puti C f_X3_13 (lit (kd := 3) (n := 2) rfl) rfl rfl (D 2 rfl) ?_
  exact j_vret C P rfl (D 3 rfl) ⟨Nat.le_refl _, Nat.le_refl _⟩ ⟨rfl, _, rfl, ⟨by rw [up2_same]; rfl, fun i hi => absurd hi (Nat.not_lt_zero _)⟩, fun b j _ q => up2_i q⟩
def a_tell (V : VT) (ld : Bool)  : Int32 := if ld = true then nI (tlN V (vA V) bt0).1 else -2
theorem a_tell_t {V : VT} {ld : Bool}  (hX : ld = true) : a_tell V ld  = nI (tlN V (vA V) bt0).1 := if_pos hX
theorem a_tell_f {V : VT} {ld : Bool}  (hX : ¬ (ld = true)) : a_tell V ld  = -2 := if_neg hX
def s_tell (V : VT) (ld : Bool) (b : BT) : BT := if ld = true then tlN V (vA V) bt0 else b
set_option maxRecDepth 20000 in
theorem c_tellQ (l : Launch) (G : GT) {c : Nat} (hc : isC c) {I : Nat → Nat → Int32} {L : Nat → Nat → Int64} {R : Nat → Nat → Option Nat} (hL : Lay R) (hr5 : R 0 5 = some c) {V : VT} (hV : WV V) (hT : CT I c V) (ld : Bool) (hld : I 0 6 = b2 (ld = true)) (b : BT) (hTP : TP I 2 1 3 b) : Mt l G mX11_tell (6) 0 0 [.ref (ra G 0)] (wd I L R) (fun r w' => r = some (.int (a_tell V ld)) ∧ ∃ I' L', w' = wd I' L' R ∧ TP I' 2 1 3 (s_tell V ld b) ∧ FrO 2 1 3 scr I I') := by
  refine mt_of (own := RX11) (by decide) rfl rfl (fun Z C P B => ?_)
  have D := @dc_of _ _ dX11_tell
  have hE10 := hV.1
  have hA8 := hV.2.1
  refine j_aload_n C (D 0 rfl) rfl ?_
  refine j_geti C f_X11_85 (lit (kd := 11) (n := 12) rfl) rfl rfl (D 1 rfl) ?_
  rw [hld]
  refine j_if_ne C  10 (D 2 rfl) (by decide) (fun h4 => ?_) (fun h4 => ?_)
  · refine j_aload_n C (D 5 rfl) rfl ?_
    refine j_callV C B k_X11_187 (rc_obj C (lit (kd := 11) (n := 12) rfl) rfl rfl) (c_stNow _ _ hc hL hr5 hV hT) rfl rfl rfl rfl ⟨Nat.le_refl _, Nat.le_refl _⟩ (D 6 rfl) ?_
    rintro r w' ⟨rfl, I2, rfl, hF2, k0, kP, kF⟩
    have hT2 := CT_fr hc hT (hF2.S hc) hV.1
    have hz := pza_M hV (vmk V)
    refine j_astore_n C (D 7 rfl) rfl ?_
    refine j_aload_n C (D 8 rfl) rfl ?_
    refine j_getr C f_X11_16 (lit (kd := 11) (n := 12) rfl) rfl rfl (hL _ _ _ rfl) (D 9 rfl) ?_
    refine j_callV C B k_X11_302 (rc_obj C (lit (kd := 3) (n := 2) rfl) rfl rfl) (c_pclear _ _ hL) rfl rfl rfl rfl ⟨Nat.le_refl _, Nat.le_refl _⟩ (D 10 rfl) ?_
    rintro r w' ⟨rfl, I3, rfl, hTP3, hF3⟩
    refine j_iconst C (v := nI 0) (D 11 rfl) rfl ?_
    refine j_istore_n C (D 12 rfl) rfl ?_
    have Lp : ∀ (m k : Nat) (x3 : Option Value) (I1 : Nat → Nat → Int32), k + m = vA V → FrT 2 1 3 I2 I1 → TP I1 2 1 3 (tlN V k bt0) → J Z (0, 0) 24 [some (.ref (ra G 0)), some (.ref (ra G 98)), some (.int (nI k)), x3] [] (wd I1 L R) := by
      intro m
      induction m with
      | zero =>
        intro k x3 I1 hk hF hTP
        have h95 : ∀ b j, 95 ≤ b → I1 b j = I2 b j := fun b j q => hF b j (by omega) (by omega)
        have hT1 : CT I1 c V := CT_of hT2 (fun j k9 q1 q2 q3 => hF _ _ (by rcases hc with rfl | rfl <;> omega) (by rcases hc with rfl | rfl <;> omega)) hE10
        refine j_iload_n C (D 13 rfl) rfl ?_
        refine j_aload_n C (D 14 rfl) rfl ?_
        refine j_getr C f_X11_37 (lit (kd := 11) (n := 12) rfl) rfl rfl hr5 (D 15 rfl) ?_
        refine j_geti C f_X11_101 (sC0 hc) rfl rfl (D 16 rfl) ?_
        rw [hT1.2.1]
        refine j_icmp_ge C  85 (D 17 rfl) (by decide) (fun h32 => ?_) (fun h32 => absurd h32 (fun z => z ((nle (by omega) (by omega)).mpr (by omega))))
        refine j_aload_n C (D 42 rfl) rfl ?_
        refine j_getr C f_X11_16 (lit (kd := 11) (n := 12) rfl) rfl rfl (hL _ _ _ rfl) (D 43 rfl) ?_
        refine j_geti C f_X11_117 (lit (kd := 3) (n := 2) rfl) rfl rfl (D 44 rfl) ?_
        rw [hTP.1]
        exact j_iret C P rfl (D 45 rfl) ⟨Nat.le_refl _, Nat.le_refl _⟩ ⟨by rw [a_tell_t (b2_ne h4), show vA V = k by omega], I1, L, rfl, by rw [s_tell, if_pos (b2_ne h4), show vA V = k by omega]; exact hTP, fun b j q1 q2 q3 => by rw [hF b j q2 q3]; exact hF2.S hc b j q1⟩
      | succ m ih =>
        intro k x3 I1 hk hF hTP
        have h95 : ∀ b j, 95 ≤ b → I1 b j = I2 b j := fun b j q => hF b j (by omega) (by omega)
        have hT1 : CT I1 c V := CT_of hT2 (fun j k9 q1 q2 q3 => hF _ _ (by rcases hc with rfl | rfl <;> omega) (by rcases hc with rfl | rfl <;> omega)) hE10
        obtain ⟨a, ha, hae⟩ := pl_ex (V := V) (P := (ptM V (vmk V))) (g := (gM (vmk V))) hA8 (show k < vA V by omega)
        have hl := tlN_1 (V := V) hA8 (k := k) (by omega)
        refine j_iload_n C (D 13 rfl) rfl ?_
        refine j_aload_n C (D 14 rfl) rfl ?_
        refine j_getr C f_X11_37 (lit (kd := 11) (n := 12) rfl) rfl rfl hr5 (D 15 rfl) ?_
        refine j_geti C f_X11_101 (sC0 hc) rfl rfl (D 16 rfl) ?_
        rw [hT1.2.1]
        refine j_icmp_ge C  85 (D 17 rfl) (by decide) (fun h32 => absurd h32 (fun z => by rw [nle (by omega) (by omega)] at z; omega)) (fun h32 => ?_)
        refine j_aload_n C (D 18 rfl) rfl ?_
        refine j_iload_n C (D 19 rfl) rfl ?_
        refine j_cVp C B k_X11_227 (rc_obj C (lit (kd := 8) (n := 6) rfl) rfl rfl) (c_athleteAt _ _ hL hV hz (S0_c h95 k0) (SP_c h95 kP) (SF_c h95 kF) (nI k)) rfl rfl rfl rfl ⟨Nat.le_refl _, Nat.le_refl _⟩ (D 20 rfl) ?_
        rw [hae]
        obtain ⟨tt, _, htt, htv⟩ := i_nat (tot_rng hV hz ha).1
        have htl : tt ≤ 22000 := by have := (tot_rng hV hz ha).2; omega
        refine j_istore_n C (D 21 rfl) rfl ?_
        refine j_aload_n C (D 22 rfl) rfl ?_
        refine j_getr C f_X11_16 (lit (kd := 11) (n := 12) rfl) rfl rfl (hL _ _ _ rfl) (D 23 rfl) ?_
        refine j_iload_n C (D 24 rfl) rfl ?_
        refine j_callV C B k_X11_303 (rc_obj C (lit (kd := 3) (n := 2) rfl) rfl rfl) (c_putNumber _ _ hL (tlN V k bt0) a (by omega) (by omega) hTP) rfl rfl rfl rfl ⟨Nat.le_refl _, Nat.le_refl _⟩ (D 25 rfl) ?_
        rintro r w' ⟨rfl, I3, rfl, hTP3, hF3⟩
        refine j_aload_n C (D 26 rfl) rfl ?_
        refine j_getr C f_X11_16 (lit (kd := 11) (n := 12) rfl) rfl rfl (hL _ _ _ rfl) (D 27 rfl) ?_
        refine j_bipush C (v := nI 32) (D 28 rfl) rfl ?_
        refine j_callV C B k_X11_306 (rc_obj C (lit (kd := 3) (n := 2) rfl) rfl rfl) (c_pput _ _ hL (nmB a (tlN V k bt0)) (by rw [nmB_1, tdN_0 (by omega)]; omega) hTP3 (nI 32)) rfl rfl rfl rfl ⟨Nat.le_refl _, Nat.le_refl _⟩ (D 29 rfl) ?_
        rintro r w' ⟨rfl, I4, rfl, hTP4, hF4⟩
        have h95b : ∀ b j, 95 ≤ b → I4 b j = I2 b j := fun b j q => by rw [hF4 b j (by omega) (by omega), hF3 b j (by omega) (by omega)]; exact h95 b j q
        have hl2 : (put1 (nmB a (tlN V k bt0)) (oc1 (nI 32))).1 = (tlN V k bt0).1 + 2 := by show (nmB a _).1 + 1 = _; rw [nmB_1, tdN_0 (by omega)]
        refine j_aload_n C (D 30 rfl) rfl ?_
        refine j_getr C f_X11_16 (lit (kd := 11) (n := 12) rfl) rfl rfl (hL _ _ _ rfl) (D 31 rfl) ?_
        refine j_aload_n C (D 32 rfl) rfl ?_
        refine j_iload_n C (D 33 rfl) rfl ?_
        refine j_cVp C B k_X11_252 (rc_obj C (lit (kd := 8) (n := 6) rfl) rfl rfl) (c_totalOf _ _ hL hV hz (S0_c h95b k0) (SP_c h95b kP) a ha) rfl rfl rfl rfl ⟨Nat.le_refl _, Nat.le_refl _⟩ (D 34 rfl) ?_
        rw [htt]
        refine j_callV C B k_X11_303 (rc_obj C (lit (kd := 3) (n := 2) rfl) rfl rfl) (c_putNumber _ _ hL (put1 (nmB a (tlN V k bt0)) (oc1 (nI 32))) tt htl (by omega) hTP4) rfl rfl rfl rfl ⟨Nat.le_refl _, Nat.le_refl _⟩ (D 35 rfl) ?_
        rintro r w' ⟨rfl, I5, rfl, hTP5, hF5⟩
        refine j_aload_n C (D 36 rfl) rfl ?_
        refine j_getr C f_X11_16 (lit (kd := 11) (n := 12) rfl) rfl rfl (hL _ _ _ rfl) (D 37 rfl) ?_
        refine j_bipush C (v := nI 10) (D 38 rfl) rfl ?_
        refine j_callV C B k_X11_306 (rc_obj C (lit (kd := 3) (n := 2) rfl) rfl rfl) (c_pput _ _ hL (nmB tt (put1 (nmB a (tlN V k bt0)) (oc1 (nI 32)))) (by rw [nmB_1, hl2]; have := tdN_le tt; omega) hTP5 (nI 10)) rfl rfl rfl rfl ⟨Nat.le_refl _, Nat.le_refl _⟩ (D 39 rfl) ?_
        rintro r w' ⟨rfl, I6, rfl, hTP6, hF6⟩
        first | refine j_iinc1 C (D 40 rfl) rfl rfl ?_ | refine j_iinc C (D 40 rfl) rfl rfl rfl ?_
        refine j_goto C 24 (D 41 rfl) (by decide) ?_
        exact ih (k + 1) _ I6 (by omega) (hF.tr (hF3.tr (hF4.tr (hF5.tr hF6)))) (by rw [tlN, tlR, hae, tn_n (by omega), htt, tn_n (by omega)]; exact hTP6)
    exact Lp (vA V) 0 _ I3 (by omega) hF3 hTP3
  · refine j_bipush C (v := (-2)) (D 3 rfl) rfl ?_
    exact j_iret C P rfl (D 4 rfl) ⟨Nat.le_refl _, Nat.le_refl _⟩ ⟨by rw [a_tell_f (fun z => b2_eq h4 z)], I, L, rfl, by rw [s_tell, if_neg (fun z => b2_eq h4 z)]; exact hTP, fun _ _ _ _ _ => rfl⟩
