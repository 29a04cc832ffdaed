/-! an ATHLETE's points in an EVENT put otherwise -/
theorem vu_same {α : Type} (f : Nat → α) (k : Nat) (v : α) : va_up f k v k = v := va_up_self f k v
theorem vu_ne {α : Type} (f : Nat → α) {k j : Nat} (v : α) (h : ¬ j = k) : va_up f k v j = f j := va_up_ne f v h
def tw {α : Type} (P : Nat → Nat → α) (a e : Nat) (v : α) : Nat → Nat → α := va_up P a (va_up (P a) e v)
theorem tw_a {α : Type} (P : Nat → Nat → α) (a e : Nat) (v : α) : tw P a e v a = va_up (P a) e v := vu_same _ _ _
theorem tw_b {α : Type} (P : Nat → Nat → α) {a b : Nat} (e : Nat) (v : α) (h : ¬ b = a) : tw P a e v b = P b := vu_ne _ _ h
theorem vu_vu {α : Type} (f : Nat → α) (k : Nat) (v w : α) : va_up (va_up f k v) k w = va_up f k w := bx_uu f k v w
theorem tw_tw {α : Type} (P : Nat → Nat → α) (a e : Nat) (v w : α) : tw (tw P a e v) a e w = tw P a e w := by
  funext b
  by_cases h : b = a
  · subst h; rw [tw_a, tw_a, tw_a, vu_vu]
  · rw [tw_b _ _ _ h, tw_b _ _ _ h, tw_b _ _ _ h]
theorem pz_up {p : Nat → Int32} {g : Nat → Bool} {n e : Nat} {v : Int32} {b : Bool} (hp : pz p g n) (hv : (0 ≤ v.toInt ∧ v.toInt ≤ 2000) ∧ (b = false → v = 0)) : pz (va_up p e v) (va_up g e b) n := fun j hj => by
  by_cases q : j = e
  · subst q; rw [vu_same, vu_same]; exact hv
  · rw [vu_ne _ _ q, vu_ne _ _ q]; exact hp j hj
theorem pza_tw {V : VT} {P : Nat → Nat → Int32} {g : Nat → Nat → Bool} {a e : Nat} {v : Int32} {b : Bool} (hz : pza V P g) (hv : (0 ≤ v.toInt ∧ v.toInt ≤ 2000) ∧ (b = false → v = 0)) : pza V (tw P a e v) (tw g a e b) := fun j hj => by
  by_cases q : j = a
  · subst q; rw [tw_a, tw_a]; exact pz_up (hz j hj) hv
  · rw [tw_b _ _ _ q, tw_b _ _ _ q]; exact hz j hj
theorem SC_set {I : Nat → Nat → Int32} {o : Nat} {p : Nat → Int32} {g : Nat → Bool} {n e : Nat} {v x : Int32} {b : Bool} (hS : SC I o p g n) (hx : x = b2 (b = true)) : SC (up2 (up2 I (o + 1) e v) (o + 2) e x) o (va_up p e v) (va_up g e b) n := by
  refine ⟨by rw [up2_i (by omega), up2_i (by omega)]; exact hS.1, fun j hj => ?_⟩
  by_cases q : j = e
  · subst q
    rw [up2_i (by omega), up2_same, up2_same, vu_same, vu_same]; exact ⟨rfl, hx⟩
  · rw [up2_i (by omega), up2_i (by omega), up2_i (by omega), up2_i (by omega), vu_ne _ _ q, vu_ne _ _ q]
    exact hS.2 j hj
theorem ML_set {I : Nat → Nat → Int32} {V : VT} {P : Nat → Nat → Int32} {g : Nat → Nat → Bool} {a e : Nat} {v x : Int32} {b : Bool} (hE : vE V ≤ 10) (he : e < 10) (hl : ML I V P g) (hx : x = b2 (b = true)) : ML (up2 (up2 I 188 (10 * a + e) v) 189 (10 * a + e) x) V (tw P a e v) (tw g a e b) := fun a1 e1 h1 h2 => by
  by_cases q : a1 = a
  · subst q
    rw [tw_a, tw_a]
    by_cases q2 : e1 = e
    · subst q2
      rw [up2_i (by omega), up2_same, up2_same, vu_same, vu_same]; exact ⟨rfl, hx⟩
    · rw [up2_i (by omega), up2_i (by omega), up2_i (by omega), up2_i (by omega), vu_ne _ _ q2, vu_ne _ _ q2]; exact hl a1 e1 h1 h2
  · rw [tw_b _ _ _ q, tw_b _ _ _ q, up2_i (by omega), up2_i (by omega), up2_i (by omega), up2_i (by omega)]; exact hl a1 e1 h1 h2
theorem ML_fr {I I' : Nat → Nat → Int32} {V : VT} {P : Nat → Nat → Int32} {g : Nat → Nat → Bool} (hl : ML I V P g) (h : ∀ j, I' 188 j = I 188 j ∧ I' 189 j = I 189 j) : ML I' V P g := fun a e h1 h2 => by rw [(h _).1, (h _).2]; exact hl a e h1 h2
theorem gM_0 {V : VT} {o e : Nat} (h : vmk V o e = -1) : nI 0 = b2 (gM (vmk V) o e = true) := b2_f (by simp [gM, h])
theorem gM_1 {V : VT} {o e : Nat} (h : ¬ vmk V o e = -1) : nI 1 = b2 (gM (vmk V) o e = true) := b2_t (by simp [gM, h])
set_option maxRecDepth 20000 in
theorem d_puts0 (l : Launch) (G : GT) {I : Nat → Nat → Int32} {L : Nat → Nat → Int64} {R : Nat → Nat → Option Nat} (hL : Lay R) (a e : Nat) (v : Int32) (ha8 : a < 8) (he10 : e < 10) : Mt l G mX12_puts0 (0) 0 0 [.ref (ra G 172), .int (nI a), .int (nI e), .int v] (wd I L R) (pN (wd (up2 (up2 I 188 (10 * a + e) v) 189 (10 * a + e) (nI 1)) L R)) := by
  refine mt_of (own := RX12) (by decide) rfl rfl (fun Z C P B => ?_)
  have D := @dc_of _ _ dX12_puts0
  refine j_aload_n C (D 0 rfl) rfl ?_
  refine j_getr C f_X12_60 (lit (kd := 12) (n := 48) rfl) rfl rfl (hL _ _ _ rfl) (D 1 rfl) ?_
  refine j_bipush C (v := nI 10) (D 2 rfl) rfl ?_
  refine j_iload_n C (D 3 rfl) rfl ?_
  refine j_imul C (D 4 rfl) ?_
  refine j_iload_n C (D 5 rfl) rfl ?_
  refine j_iadd C (D 6 rfl) ?_
  refine j_iload_n C (D 7 rfl) rfl ?_
  refine j_iast C (lit (kd := 20) (n := 80) rfl) (ix_cell' ha8 he10) (D 8 rfl) ?_
  refine j_aload_n C (D 9 rfl) rfl ?_
  refine j_getr C f_X12_63 (lit (kd := 12) (n := 48) rfl) rfl rfl (hL _ _ _ rfl) (D 10 rfl) ?_
  refine j_bipush C (v := nI 10) (D 11 rfl) rfl ?_
  refine j_iload_n C (D 12 rfl) rfl ?_
  refine j_imul C (D 13 rfl) ?_
  refine j_iload_n C (D 14 rfl) rfl ?_
  refine j_iadd C (D 15 rfl) ?_
  refine j_iconst C (v := nI 1) (D 16 rfl) rfl ?_
  refine j_zast C (lit (kd := 22) (n := 80) rfl) (ix_cell' ha8 he10) (by first | exact Or.inl rfl | exact Or.inr rfl) (D 17 rfl) ?_
  exact j_vret C P rfl (D 18 rfl) ⟨Nat.le_refl _, Nat.le_refl _⟩ ⟨rfl, rfl⟩
def a_lent (V : VT) (ld : Bool) (a e o : Int32) : Int32 := if (inR (vA V) a ∧ inR (vE V) e) ∧ inR (vA V) o then totS V (tw (ptM V (vmk V)) (tn a) (tn e) (ptM V (vmk V) (tn o) (tn e))) (tw (gM (vmk V)) (tn a) (tn e) (gM (vmk V) (tn o) (tn e))) (tn a) else -2
theorem a_lent_t {V : VT} {ld : Bool} {a e o : Int32} (hX : (inR (vA V) a ∧ inR (vE V) e) ∧ inR (vA V) o) : a_lent V ld a e o = totS V (tw (ptM V (vmk V)) (tn a) (tn e) (ptM V (vmk V) (tn o) (tn e))) (tw (gM (vmk V)) (tn a) (tn e) (gM (vmk V) (tn o) (tn e))) (tn a) := if_pos hX
theorem a_lent_f {V : VT} {ld : Bool} {a e o : Int32} (hX : ¬ ((inR (vA V) a ∧ inR (vE V) e) ∧ inR (vA V) o)) : a_lent V ld a e o = -2 := if_neg hX
set_option maxRecDepth 20000 in
theorem c_lentQ (l : Launch) (G : GT) {c : Nat} (hc : isC c) {I : Nat → Nat → Int32} {L : Nat → Nat → Int64} {R : Nat → Nat → Option Nat} (hL : Lay R) (hr5 : R 0 5 = some c) {V : VT} (hV : WV V) (hT : CT I c V) (ld : Bool) (hld : I 0 6 = b2 (ld = true)) (a e o : Int32) : Mt l G mX11_lent (5) 0 0 [.ref (ra G 0), .int a, .int e, .int o] (wd I L R) (qC (a_lent V ld a e o) I R) := by
  refine mt_of (own := RX11) (by decide) rfl rfl (fun Z C P B => ?_)
  have D := @dc_of _ _ dX11_lent
  have hE10 := hV.1
  have hA8 := hV.2.1
  refine j_aload_n C (D 0 rfl) rfl ?_
  refine j_iload_n C (D 1 rfl) rfl ?_
  refine j_iload_n C (D 2 rfl) rfl ?_
  refine j_cVp C B k_X11_174 (rc_obj C (lit (kd := 11) (n := 12) rfl) rfl rfl) (c_hasCell _ _ hc hL hr5 hV hT ld hld _ _) rfl rfl rfl rfl ⟨Nat.le_refl _, Nat.le_refl _⟩ (D 3 rfl) ?_
  refine j_if_eq C  17 (D 4 rfl) (by decide) (fun h6 => ?_) (fun h6 => ?_)
  · refine j_bipush C (v := (-2)) (D 9 rfl) rfl ?_
    exact j_iret C P rfl (D 10 rfl) ⟨Nat.le_refl _, Nat.le_refl _⟩ (qc0 (a_lent_f (fun z => b2_eq h6 z.1)).symm)
  · refine j_aload_n C (D 5 rfl) rfl ?_
    refine j_iload_n C (D 6 rfl) rfl ?_
    refine j_cVp C B k_X11_184 (rc_obj C (lit (kd := 11) (n := 12) rfl) rfl rfl) (c_hasAthlete _ _ hc hL hr5 hV hT ld hld _) rfl rfl rfl rfl ⟨Nat.le_refl _, Nat.le_refl _⟩ (D 7 rfl) ?_
    refine j_if_ne C  20 (D 8 rfl) (by decide) (fun h14 => ?_) (fun h14 => ?_)
    · obtain ⟨⟨a, ha, rfl⟩, ⟨e, he, rfl⟩⟩ := And.intro (inR_n (b2_ne h6).1) (inR_n (b2_ne h6).2)
      have he10 : e < 10 := by omega
      have ha8 : a < 8 := by omega
      obtain ⟨o, ho, rfl⟩ := inR_n (b2_ne h14)
      have hz := pza_M hV (vmk V)
      have hzv := hz o ho e he
      refine j_aload_n C (D 11 rfl) rfl ?_
      refine j_iload_n C (D 12 rfl) rfl ?_
      refine j_callV C B k_X11_216 (rc_obj C (lit (kd := 11) (n := 12) rfl) rfl rfl) (c_scNow _ _ hc hL hr5 hV hT a ha) rfl rfl rfl rfl ⟨Nat.le_refl _, Nat.le_refl _⟩ (D 13 rfl) ?_
      rintro r w' ⟨rfl, I2, rfl, hF2, kS, kK⟩
      have hT2 := CT_fr hc hT (hF2.S (Or.inl rfl)) hV.1
      have hT3 := CT_fr hc hT2 ((FrS.rf I2).put (a := 96) (k := e) (v := pts (vev V e) (vmk V o e)) (by unfold scr; omega)) hV.1
      refine j_astore C (D 14 rfl) rfl ?_
      refine j_aload C (D 15 rfl) rfl ?_
      refine j_getr C f_X11_314 (lit (kd := 5) (n := 9) rfl) rfl rfl (hL _ _ _ rfl) (D 16 rfl) ?_
      refine j_iload_n C (D 17 rfl) rfl ?_
      refine j_aload_n C (D 18 rfl) rfl ?_
      refine j_getr C f_X11_37 (lit (kd := 11) (n := 12) rfl) rfl rfl hr5 (D 19 rfl) ?_
      refine j_iload_n C (D 20 rfl) rfl ?_
      refine j_iload_n C (D 21 rfl) rfl ?_
      refine j_cVp C B k_X11_182 (rc_obj C (sC0 hc) rfl rfl) (c_cvalueOf _ _ hc hL hV hT2 o e ho he) rfl rfl rfl rfl ⟨Nat.le_refl _, Nat.le_refl _⟩ (D 22 rfl) ?_
      refine j_iast C (lit (kd := 20) (n := 10) rfl) (ix_n (by omega) (by decide)) (D 23 rfl) ?_
      refine j_aload C (D 24 rfl) rfl ?_
      refine j_getr C f_X11_320 (lit (kd := 5) (n := 9) rfl) rfl rfl (hL _ _ _ rfl) (D 25 rfl) ?_
      refine j_iload_n C (D 26 rfl) rfl ?_
      refine j_aload_n C (D 27 rfl) rfl ?_
      refine j_getr C f_X11_37 (lit (kd := 11) (n := 12) rfl) rfl rfl hr5 (D 28 rfl) ?_
      refine j_iload_n C (D 29 rfl) rfl ?_
      refine j_iload_n C (D 30 rfl) rfl ?_
      refine j_cVp C B k_X11_178 (rc_obj C (sC0 hc) rfl rfl) (c_markOf _ _ hc hL hV hT3 o e ho he10) rfl rfl rfl rfl ⟨Nat.le_refl _, Nat.le_refl _⟩ (D 31 rfl) ?_
      refine j_iconst C (v := (-1)) (D 32 rfl) rfl ?_
      refine j_icmp_eq C  66 (D 33 rfl) (by decide) (fun h59 => ?_) (fun h59 => ?_)
      · refine j_iconst C (v := nI 0) (D 36 rfl) rfl ?_
        refine j_zast C (lit (kd := 22) (n := 10) rfl) (ix_n (by omega) (by decide)) (by first | exact Or.inl rfl | exact Or.inr rfl) (D 37 rfl) ?_
        refine j_aload C (D 38 rfl) rfl ?_
        have kS3 := SC_set (e := e) (v := ptM V (vmk V) o e) kS (gM_0 h59)
        refine j_callV C B k_X11_324 (rc_obj C (lit (kd := 5) (n := 9) rfl) rfl rfl) (c_reckon _ _ (Or.inl rfl) hL hE10 (pz_up (hz a ha) hzv) kS3) rfl rfl rfl rfl ⟨Nat.le_refl _, Nat.le_refl _⟩ (D 39 rfl) ?_
        rintro r w' ⟨rfl, I4, rfl, hF4, kK4⟩
        have kS4 := SC_R hF4 kS3
        have hT4 := CT_fr hc (CT_fr hc hT2 (((FrS.rf I2).put (by unfold scr; omega)).put (by unfold scr; omega)) hV.1) (hF4.Q.S (Or.inl rfl)) hV.1
        refine j_aload_n C (D 40 rfl) rfl ?_
        refine j_getr C f_X11_37 (lit (kd := 11) (n := 12) rfl) rfl rfl hr5 (D 41 rfl) ?_
        refine j_getr C f_X11_104 (sC0 hc) rfl rfl (hL _ _ _ (rC4 hc)) (D 42 rfl) ?_
        refine j_aload C (D 43 rfl) rfl ?_
        refine j_callV C B k_X11_327 (rc_obj C (sC5 hc) rfl rfl) (c_pay _ _ hc (Or.inl rfl) hL hV hT4 (pz_up (hz a ha) hzv) kS4 kK4) rfl rfl rfl rfl ⟨Nat.le_refl _, Nat.le_refl _⟩ (D 44 rfl) ?_
        rintro r w' ⟨rfl, I5, rfl, hF5, hp5⟩
        refine j_aload C (D 45 rfl) rfl ?_
        refine j_geti C f_X11_195 (lit (kd := 5) (n := 9) rfl) rfl rfl (D 46 rfl) ?_
        refine j_aload C (D 47 rfl) rfl ?_
        refine j_geti C f_X11_198 (lit (kd := 5) (n := 9) rfl) rfl rfl (D 48 rfl) ?_
        rw [hF5 95 3 (by rcases hc with rfl | rfl <;> decide) (by rcases hc with rfl | rfl <;> decide) (by decide), kK4.1, hp5]
        refine j_iadd C (D 49 rfl) ?_
        exact j_iret C P rfl (D 50 rfl) ⟨Nat.le_refl _, Nat.le_refl _⟩ (qc1 ((hF2.S (Or.inl rfl)).tr (((FrS.rf I2).put (by unfold scr; omega)).put (by unfold scr; omega) |>.tr ((hF4.Q.S (Or.inl rfl)).tr (hF5.S hc (Or.inl rfl))))) (by rw [a_lent_t ⟨(b2_ne h6), (b2_ne h14)⟩, tn_n (by omega), tn_n (by omega), tn_n (by omega), totS, tw_a, tw_a]))
      · refine j_iconst C (v := nI 1) (D 34 rfl) rfl ?_
        refine j_goto C 67 (D 35 rfl) (by decide) ?_
        refine j_zast C (lit (kd := 22) (n := 10) rfl) (ix_n (by omega) (by decide)) (by first | exact Or.inl rfl | exact Or.inr rfl) (D 37 rfl) ?_
        refine j_aload C (D 38 rfl) rfl ?_
        have kS3 := SC_set (e := e) (v := ptM V (vmk V) o e) kS (gM_1 h59)
        refine j_callV C B k_X11_324 (rc_obj C (lit (kd := 5) (n := 9) rfl) rfl rfl) (c_reckon _ _ (Or.inl rfl) hL hE10 (pz_up (hz a ha) hzv) kS3) rfl rfl rfl rfl ⟨Nat.le_refl _, Nat.le_refl _⟩ (D 39 rfl) ?_
        rintro r w' ⟨rfl, I4, rfl, hF4, kK4⟩
        have kS4 := SC_R hF4 kS3
        have hT4 := CT_fr hc (CT_fr hc hT2 (((FrS.rf I2).put (by unfold scr; omega)).put (by unfold scr; omega)) hV.1) (hF4.Q.S (Or.inl rfl)) hV.1
        refine j_aload_n C (D 40 rfl) rfl ?_
        refine j_getr C f_X11_37 (lit (kd := 11) (n := 12) rfl) rfl rfl hr5 (D 41 rfl) ?_
        refine j_getr C f_X11_104 (sC0 hc) rfl rfl (hL _ _ _ (rC4 hc)) (D 42 rfl) ?_
        refine j_aload C (D 43 rfl) rfl ?_
        refine j_callV C B k_X11_327 (rc_obj C (sC5 hc) rfl rfl) (c_pay _ _ hc (Or.inl rfl) hL hV hT4 (pz_up (hz a ha) hzv) kS4 kK4) rfl rfl rfl rfl ⟨Nat.le_refl _, Nat.le_refl _⟩ (D 44 rfl) ?_
        rintro r w' ⟨rfl, I5, rfl, hF5, hp5⟩
        refine j_aload C (D 45 rfl) rfl ?_
        refine j_geti C f_X11_195 (lit (kd := 5) (n := 9) rfl) rfl rfl (D 46 rfl) ?_
        refine j_aload C (D 47 rfl) rfl ?_
        refine j_geti C f_X11_198 (lit (kd := 5) (n := 9) rfl) rfl rfl (D 48 rfl) ?_
        rw [hF5 95 3 (by rcases hc with rfl | rfl <;> decide) (by rcases hc with rfl | rfl <;> decide) (by decide), kK4.1, hp5]
        refine j_iadd C (D 49 rfl) ?_
        exact j_iret C P rfl (D 50 rfl) ⟨Nat.le_refl _, Nat.le_refl _⟩ (qc1 ((hF2.S (Or.inl rfl)).tr (((FrS.rf I2).put (by unfold scr; omega)).put (by unfold scr; omega) |>.tr ((hF4.Q.S (Or.inl rfl)).tr (hF5.S hc (Or.inl rfl))))) (by rw [a_lent_t ⟨(b2_ne h6), (b2_ne h14)⟩, tn_n (by omega), tn_n (by omega), tn_n (by omega), totS, tw_a, tw_a]))
    · refine j_bipush C (v := (-2)) (D 9 rfl) rfl ?_
      exact j_iret C P rfl (D 10 rfl) ⟨Nat.le_refl _, Nat.le_refl _⟩ (qc0 (a_lent_f (fun z => b2_eq h14 z.2)).symm)
set_option maxRecDepth 20000 in
theorem d_lentQ (l : Launch) (G : GT) {I : Nat → Nat → Int32} {L : Nat → Nat → Int64} {R : Nat → Nat → Option Nat} (hL : Lay R) {V : VT} (hV : WV V) (hM : MT I V) (ld : Bool) (hld : I 172 1 = b2 (ld = true)) (a e o : Int32) : Mt l G mX12_lent (9) 0 0 [.ref (ra G 172), .int a, .int e, .int o] (wd I L R) (qM (a_lent V ld a e o) I R) := by
  refine mt_of (own := RX12) (by decide) rfl rfl (fun Z C P B => ?_)
  have D := @dc_of _ _ dX12_lent
  have hE10 := hV.1
  have hA8 := hV.2.1
  refine j_aload_n C (D 0 rfl) rfl ?_
  refine j_iload_n C (D 1 rfl) rfl ?_
  refine j_iload_n C (D 2 rfl) rfl ?_
  refine j_cVp C B k_X12_407 (rc_obj C (lit (kd := 12) (n := 48) rfl) rfl rfl) (d_isBoth _ _ hL (vA V) (vE V) hM.2.1 (by omega) hM.1 (by omega) _ _) rfl rfl rfl rfl ⟨Nat.le_refl _, Nat.le_refl _⟩ (D 3 rfl) ?_
  refine j_if_eq C  17 (D 4 rfl) (by decide) (fun h6 => ?_) (fun h6 => ?_)
  · refine j_bipush C (v := (-2)) (D 9 rfl) rfl ?_
    exact j_iret C P rfl (D 10 rfl) ⟨Nat.le_refl _, Nat.le_refl _⟩ (qm0 (a_lent_f (fun z => b2_eq h6 z.1)).symm)
  · refine j_aload_n C (D 5 rfl) rfl ?_
    refine j_iload_n C (D 6 rfl) rfl ?_
    refine j_cVp C B k_X12_317 (rc_obj C (lit (kd := 12) (n := 48) rfl) rfl rfl) (d_isOne _ _ hL (vA V) hM.2.1 (by omega) _) rfl rfl rfl rfl ⟨Nat.le_refl _, Nat.le_refl _⟩ (D 7 rfl) ?_
    refine j_if_ne C  20 (D 8 rfl) (by decide) (fun h14 => ?_) (fun h14 => ?_)
    · obtain ⟨⟨a, ha, rfl⟩, ⟨e, he, rfl⟩⟩ := And.intro (inR_n (b2_ne h6).1) (inR_n (b2_ne h6).2)
      have he10 : e < 10 := by omega
      have ha8 : a < 8 := by omega
      obtain ⟨o, ho, rfl⟩ := inR_n (b2_ne h14)
      have hz := pza_M hV (vmk V)
      have hzv := hz o ho e he
      have hme : mE I e = vev V e := hM.2.2.2.2.1 e he
      refine j_aload_n C (D 11 rfl) rfl ?_
      refine j_aload_n C (D 12 rfl) rfl ?_
      refine j_getr C f_X12_22 (lit (kd := 12) (n := 48) rfl) rfl rfl (hL _ _ _ rfl) (D 13 rfl) ?_
      refine j_callV C B k_X12_410 (rc_obj C (lit (kd := 12) (n := 48) rfl) rfl rfl) (d_lays _ _ hL hV hM 177 (vmk V) (lit (kd := 20) (n := 80) rfl) (Or.inl rfl) (fun b e hb he => ⟨(hM.2.2.2.2.2.1 b e hb (by omega)).1, (hV.2.2.2.2.2.1 b e hb (by omega)).1⟩)) rfl rfl rfl rfl ⟨Nat.le_refl _, Nat.le_refl _⟩ (D 14 rfl) ?_
      rintro r w' ⟨rfl, I2, rfl, hF2, hl⟩
      have hM2 := MT_fr hM hF2.M
      have hz := pza_M hV (vmk V)
      have hme2 : mE I2 e = vev V e := hM2.2.2.2.2.1 e he
      have hWE2 : WE (mE I2 e) := by rw [hme2]; exact hV.2.2.2.2.1 e he
      refine j_aload_n C (D 15 rfl) rfl ?_
      refine j_getr C f_X12_22 (lit (kd := 12) (n := 48) rfl) rfl rfl (hL _ _ _ rfl) (D 16 rfl) ?_
      refine j_bipush C (v := nI 10) (D 17 rfl) rfl ?_
      refine j_iload_n C (D 18 rfl) rfl ?_
      refine j_imul C (D 19 rfl) ?_
      refine j_iload_n C (D 20 rfl) rfl ?_
      refine j_iadd C (D 21 rfl) ?_
      refine j_iald C (lit (kd := 20) (n := 80) rfl) (ix_cell' (by omega) he10) (D 22 rfl) ?_
      rw [hF2 177 _ (by decide) (by decide), (hM.2.2.2.2.2.1 o e ho he10).1]
      refine j_istore C (D 23 rfl) rfl ?_
      refine j_aload_n C (D 24 rfl) rfl ?_
      refine j_getr C f_X12_60 (lit (kd := 12) (n := 48) rfl) rfl rfl (hL _ _ _ rfl) (D 25 rfl) ?_
      refine j_bipush C (v := nI 10) (D 26 rfl) rfl ?_
      refine j_iload_n C (D 27 rfl) rfl ?_
      refine j_imul C (D 28 rfl) ?_
      refine j_iload_n C (D 29 rfl) rfl ?_
      refine j_iadd C (D 30 rfl) ?_
      refine j_aload_n C (D 31 rfl) rfl ?_
      refine j_iload_n C (D 32 rfl) rfl ?_
      refine j_iload C (D 33 rfl) rfl ?_
      refine j_cVp C B k_X12_350 (rc_obj C (lit (kd := 12) (n := 48) rfl) rfl rfl) (d_pointsOf _ _ hL e he10 hWE2 _ (hV.2.2.2.2.2.1 o e ho he10).1) rfl rfl rfl rfl ⟨Nat.le_refl _, Nat.le_refl _⟩ (D 34 rfl) ?_
      rw [show pts (mE I2 e) (vmk V o e) = ptM V (vmk V) o e from by rw [hme2]; rfl]
      refine j_iast C (lit (kd := 20) (n := 80) rfl) (ix_cell' ha8 he10) (D 35 rfl) ?_
      refine j_aload_n C (D 36 rfl) rfl ?_
      refine j_getr C f_X12_63 (lit (kd := 12) (n := 48) rfl) rfl rfl (hL _ _ _ rfl) (D 37 rfl) ?_
      refine j_bipush C (v := nI 10) (D 38 rfl) rfl ?_
      refine j_iload_n C (D 39 rfl) rfl ?_
      refine j_imul C (D 40 rfl) ?_
      refine j_iload_n C (D 41 rfl) rfl ?_
      refine j_iadd C (D 42 rfl) ?_
      refine j_iload C (D 43 rfl) rfl ?_
      refine j_iconst C (v := (-1)) (D 44 rfl) rfl ?_
      refine j_icmp_eq C  79 (D 45 rfl) (by decide) (fun h72 => ?_) (fun h72 => ?_)
      · refine j_iconst C (v := nI 0) (D 48 rfl) rfl ?_
        refine j_zast C (lit (kd := 22) (n := 80) rfl) (ix_cell' ha8 he10) (by first | exact Or.inl rfl | exact Or.inr rfl) (D 49 rfl) ?_
        refine j_aload_n C (D 50 rfl) rfl ?_
        refine j_iload_n C (D 51 rfl) rfl ?_
        have hl3 := ML_set (a := a) (e := e) (v := ptM V (vmk V) o e) hE10 he10 hl (gM_0 h72)
        have hM3 := MT_fr hM2 (((FrM.rf I2).put (a := 188) (k := 10 * a + e) (v := ptM V (vmk V) o e) (by decide)).put (a := 189) (k := 10 * a + e) (v := nI 0) (by decide))
        refine j_callV C B k_X12_395 (rc_obj C (lit (kd := 12) (n := 48) rfl) rfl rfl) (d_totalOf _ _ hL hV hM3 (pza_tw hz hzv) hl3 a ha) rfl rfl rfl rfl ⟨Nat.le_refl _, Nat.le_refl _⟩ (D 52 rfl) ?_
        rintro r w' ⟨rfl, L3, rfl⟩
        exact j_iret C P rfl (D 53 rfl) ⟨Nat.le_refl _, Nat.le_refl _⟩ (qm1 (hF2.M.tr (((FrM.rf I2).put (by decide)).put (by decide))) (by rw [a_lent_t ⟨(b2_ne h6), (b2_ne h14)⟩, tn_n (by omega), tn_n (by omega), tn_n (by omega)]))
      · refine j_iconst C (v := nI 1) (D 46 rfl) rfl ?_
        refine j_goto C 80 (D 47 rfl) (by decide) ?_
        refine j_zast C (lit (kd := 22) (n := 80) rfl) (ix_cell' ha8 he10) (by first | exact Or.inl rfl | exact Or.inr rfl) (D 49 rfl) ?_
        refine j_aload_n C (D 50 rfl) rfl ?_
        refine j_iload_n C (D 51 rfl) rfl ?_
        have hl3 := ML_set (a := a) (e := e) (v := ptM V (vmk V) o e) hE10 he10 hl (gM_1 h72)
        have hM3 := MT_fr hM2 (((FrM.rf I2).put (a := 188) (k := 10 * a + e) (v := ptM V (vmk V) o e) (by decide)).put (a := 189) (k := 10 * a + e) (v := nI 1) (by decide))
        refine j_callV C B k_X12_395 (rc_obj C (lit (kd := 12) (n := 48) rfl) rfl rfl) (d_totalOf _ _ hL hV hM3 (pza_tw hz hzv) hl3 a ha) rfl rfl rfl rfl ⟨Nat.le_refl _, Nat.le_refl _⟩ (D 52 rfl) ?_
        rintro r w' ⟨rfl, L3, rfl⟩
        exact j_iret C P rfl (D 53 rfl) ⟨Nat.le_refl _, Nat.le_refl _⟩ (qm1 (hF2.M.tr (((FrM.rf I2).put (by decide)).put (by decide))) (by rw [a_lent_t ⟨(b2_ne h6), (b2_ne h14)⟩, tn_n (by omega), tn_n (by omega), tn_n (by omega)]))
    · refine j_bipush C (v := (-2)) (D 9 rfl) rfl ?_
      exact j_iret C P rfl (D 10 rfl) ⟨Nat.le_refl _, Nat.le_refl _⟩ (qm0 (a_lent_f (fun z => b2_eq h14 z.2)).symm)
