/-! ACTS -/
abbrev S3 : Type := VT × Nat × (Nat → SN)
def aC (v : Int32) (I : Nat → Nat → Int32) (R : Nat → Nat → Option Nat) (c : Nat) (s : S3) : Option Value → Wd → Prop := fun r w' => r = some (.int v) ∧ ∃ I' L', w' = wd I' L' R ∧ CT I' c s.1 ∧ HC I' s.1 s.2.1 s.2.2 ∧ ∀ b j, ¬ (b = c ∨ b = c + 2 ∨ b = c + 3 ∨ b = c + 4 ∨ (50 ≤ b ∧ b ≤ 54)) → I' b j = I b j
def aM (v : Int32) (I : Nat → Nat → Int32) (R : Nat → Nat → Option Nat) (s : S3) : Option Value → Wd → Prop := fun r w' => r = some (.int v) ∧ ∃ I' L', w' = wd I' L' R ∧ MT I' s.1 ∧ HMo I' s.2.1 s.2.2 ∧ ∀ b j, ¬ (b = 172 ∧ (j = 3 ∨ j = 5 ∨ j = 44)) → ¬ (177 ≤ b ∧ b ≤ 179) → ¬ b = 195 → I' b j = I b j
def pushS (V V' : VT) (n : Nat) (h : Nat → SN) : S3 := (V', cut n + 1, hpush V n h)
def mkV (V : VT) (a e : Nat) (m : Int32) : VT := setV V ((vA V, vt V), tw (vmk V) a e m, vgo V, vgi V)
def gnV (V : VT) (a e : Nat) (g h : Int32) : VT := setV V ((vA V, vt V), vmk V, tw (vgo V) a e g, tw (vgi V) a e h)
def tiV (V : VT) (t : Int32) : VT := setV V ((vA V, t), vmk V, vgo V, vgi V)
def atV (V : VT) : VT := setV V ((vA V + 1, vt V), va_up (vmk V) (vA V) (fun _ => -1), va_up (vgo V) (vA V) (fun _ => -1), va_up (vgi V) (vA V) (fun _ => -1))
def mkS (V : VT) (n : Nat) (h : Nat → SN) (a e : Nat) (m : Int32) : S3 := if vmk V a e = m then (V, n, h) else pushS V (mkV V a e m) n h
theorem CT_set {I I' : Nat → Nat → Int32} {c : Nat} {V : VT} {s : SN} (h : CT I c V) (hE : vE V ≤ 10) (h0 : ∀ j k, j < 40 → ¬ j = 9 → ¬ (j = 5 ∧ k = 7) → ¬ (j = 0 ∧ (k = 6 ∨ k = 7)) → ¬ (2 ≤ j ∧ j ≤ 4) → I' (c + j) k = I (c + j) k) (h6 : I' c 6 = nI s.1.1) (h7 : I' c 7 = s.1.2)
    (hm : ∀ a e, a < s.1.1 → e < 10 → I' (c + 2) (a * 10 + e) = s.2.1 a e ∧ I' (c + 3) (a * 10 + e) = s.2.2.1 a e ∧ I' (c + 4) (a * 10 + e) = s.2.2.2 a e) : CT I' c (setV V s) := by
  obtain ⟨a0, a1, a2, a3, a4, a5, a6, a7, a8, a9, a10⟩ := h
  refine ⟨?_, h6, h7, ?_, fun e he => ?_, hm, fun k hk => ?_, fun k hk => ?_, fun k hk i q hq => ?_, ?_, ?_⟩
  · have := h0 0 5 (by omega) (by omega) (by omega) (by omega) (by omega); rw [Nat.add_zero] at this; rw [this]; exact a0
  · rw [h0 5 1 (by omega) (by omega) (by omega) (by omega) (by omega)]; exact a3
  · have he : e < vE V := he
    refine TR_of (a4 e he) (fun k => ?_) (fun k => ?_) (fun k => ?_)
    · have := h0 (10 + 3 * e) k (by omega) (by omega) (by omega) (by omega) (by omega); rw [← Nat.add_assoc] at this; exact this
    · have := h0 (10 + 3 * e + 1) k (by omega) (by omega) (by omega) (by omega) (by omega); rw [← Nat.add_assoc, ← Nat.add_assoc] at this; exact this
    · have := h0 (10 + 3 * e + 2) k (by omega) (by omega) (by omega) (by omega) (by omega); rw [← Nat.add_assoc, ← Nat.add_assoc] at this; exact this
  · rw [h0 6 _ (by omega) (by omega) (by omega) (by omega) (by omega)]; exact a6 k hk
  · rw [h0 7 _ (by omega) (by omega) (by omega) (by omega) (by omega)]; exact a7 k hk
  · rw [h0 8 _ (by omega) (by omega) (by omega) (by omega) (by omega)]; exact a8 k hk i q hq
  · rw [h0 5 4 (by omega) (by omega) (by omega) (by omega) (by omega)]; exact a9
  · rw [h0 5 5 (by omega) (by omega) (by omega) (by omega) (by omega)]; exact a10
theorem MT_set {I I' : Nat → Nat → Int32} {V : VT} {s : SN} (h : MT I V) (h0 : ∀ b k, ¬ (b = 172 ∧ (k = 3 ∨ k = 5 ∨ k = 44)) → 172 ≤ b → b ≤ 176 → I' b k = I b k) (h6 : I' 172 3 = nI s.1.1) (h7 : I' 172 5 = s.1.2)
    (hm : ∀ a e, a < s.1.1 → e < 10 → I' 177 (10 * a + e) = s.2.1 a e ∧ I' 178 (10 * a + e) = s.2.2.1 a e ∧ I' 179 (10 * a + e) = s.2.2.2 a e) : MT I' (setV V s) := by
  obtain ⟨a0, a1, a2, a3, a4, a5, a6, a7, a8⟩ := h
  refine ⟨by rw [h0 _ _ (by omega) (by omega) (by omega)]; exact a0, h6, h7, by rw [h0 _ _ (by omega) (by omega) (by omega)]; exact a3, fun e he => ?_, hm, fun k hk => by rw [h0 _ _ (by omega) (by omega) (by omega)]; exact a6 k hk, fun k hk => by rw [h0 _ _ (by omega) (by omega) (by omega)]; exact a7 k hk, fun k hk i q hq => by rw [h0 _ _ (by omega) (by omega) (by omega)]; exact a8 k hk i q hq⟩
  have : mE I' e = mE I e := by funext k; exact h0 173 _ (by omega) (by omega) (by omega)
  rw [this]; exact a4 e he
theorem tw_at {P : Nat → Nat → Int32} {a e b j : Nat} {v : Int32} : tw P a e v b j = if b = a ∧ j = e then v else P b j := by
  by_cases h : b = a
  · subst h
    rw [tw_a]
    by_cases h2 : j = e
    · subst h2; rw [vu_same, if_pos ⟨rfl, rfl⟩]
    · rw [vu_ne _ _ h2, if_neg (fun z => h2 z.2)]
  · rw [tw_b _ _ _ h, if_neg (fun z => h z.1)]
theorem isC_rng {c : Nat} (h : isC c) : (c = 10 ∨ c = 55) := h
theorem und_mk {V : VT} {a e : Nat} {m : Int32} (ha : a < vA V) (he : e < 10) (x4 : Int32) : und (nI 0) (nI (a * 10 + e)) (vmk V a e) x4 (mkV V a e m) (snV V) := by
  refine Or.inl ⟨rfl, rfl, rfl, ⟨a, e, ha, he, rfl, fun b j hb hj => ?_⟩, agr.rf _ _, agr.rf _ _⟩
  show vmk V b j = tw (tw (vmk V) a e m) a e (vmk V a e) b j
  rw [tw_tw, tw_at]
  by_cases q : b = a ∧ j = e
  · rw [if_pos q, q.1, q.2]
  · rw [if_neg q]
set_option maxRecDepth 20000 in
theorem c_changeMark (l : Launch) (G : GT) {c : Nat} (hc : isC c) {I : Nat → Nat → Int32} {L : Nat → Nat → Int64} {R : Nat → Nat → Option Nat} (hL : Lay R) (hr5 : R 0 5 = some c) {V : VT} (hV : WV V) (hT : CT I c V) {n : Nat} {h : Nat → SN} (hn : n ≤ 10) (hH : HC I V n h) (a e : Nat) (ha : a < vA V) (he10 : e < 10) (m : Int32) : Mt l G mX11_changeMark (3) 0 0 [.ref (ra G 0), .int (nI (a * 10 + e)), .int m] (wd I L R) (aC (vmk V a e) I R c (mkS V n h a e m)) := by
  refine mt_of (own := RX11) (by decide) rfl rfl (fun Z C P B => ?_)
  have D := @dc_of _ _ dX11_changeMark
  have hE10 := hV.1
  have hA8 := hV.2.1
  have hcr := isC_rng hc
  refine j_aload_n C (D 0 rfl) rfl ?_
  refine j_getr C f_X11_37 (lit (kd := 11) (n := 12) rfl) rfl rfl hr5 (D 1 rfl) ?_
  refine j_getr C f_X11_334 (sC0 hc) rfl rfl (hL _ _ _ (rC1 hc)) (D 2 rfl) ?_
  refine j_iload_n C (D 3 rfl) rfl ?_
  refine j_iald C (sC2 hc) (ix_n (by omega) (by decide)) (D 4 rfl) ?_
  rw [(hT.2.2.2.2.2.1 a e ha he10).1]
  refine j_istore_n C (D 5 rfl) rfl ?_
  refine j_iload_n C (D 6 rfl) rfl ?_
  refine j_iload_n C (D 7 rfl) rfl ?_
  refine j_icmp_eq C  36 (D 8 rfl) (by decide) (fun h12 => ?_) (fun h12 => ?_)
  · refine j_iload_n C (D 22 rfl) rfl ?_
    exact j_iret C P rfl (D 23 rfl) ⟨Nat.le_refl _, Nat.le_refl _⟩ ⟨rfl, I, L, rfl, by rw [mkS, if_pos h12]; exact hT, by rw [mkS, if_pos h12]; exact hH, fun _ _ _ => rfl⟩
  · refine j_aload_n C (D 9 rfl) rfl ?_
    refine j_getr C f_X11_30 (lit (kd := 11) (n := 12) rfl) rfl rfl (hL _ _ _ rfl) (D 10 rfl) ?_
    refine j_iconst C (v := nI 0) (D 11 rfl) rfl ?_
    refine j_iload_n C (D 12 rfl) rfl ?_
    refine j_iload_n C (D 13 rfl) rfl ?_
    refine j_iconst C (v := nI 0) (D 14 rfl) rfl ?_
    refine j_callV C B k_X11_291 (rc_obj C (lit (kd := 2) (n := 5) rfl) rfl rfl) (c_note _ _ hL n hn hH.1 (nI 0) _ _ _) rfl rfl rfl rfl ⟨Nat.le_refl _, Nat.le_refl _⟩ (D 15 rfl) ?_
    rintro r w' ⟨rfl, I2, rfl, k0, k1, k2, k3⟩
    have hT2 := CT_of (I' := I2) hT (fun j k q1 q2 q3 => k3 _ _ (by rcases hc with rfl | rfl <;> omega)) hV.1
    refine j_aload_n C (D 16 rfl) rfl ?_
    refine j_getr C f_X11_37 (lit (kd := 11) (n := 12) rfl) rfl rfl hr5 (D 17 rfl) ?_
    refine j_getr C f_X11_334 (sC0 hc) rfl rfl (hL _ _ _ (rC1 hc)) (D 18 rfl) ?_
    refine j_iload_n C (D 19 rfl) rfl ?_
    refine j_iload_n C (D 20 rfl) rfl ?_
    refine j_iast C (sC2 hc) (ix_n (by omega) (by decide)) (D 21 rfl) ?_
    refine j_iload_n C (D 22 rfl) rfl ?_
    exact j_iret C P rfl (D 23 rfl) ⟨Nat.le_refl _, Nat.le_refl _⟩ ⟨rfl, _, L, rfl, by
    rw [mkS, if_neg h12]
    refine CT_set hT2 hE10 (fun j k q1 q2 q3 q4 q5 => up2_i (by omega)) (by rw [up2_i (by omega)]; exact hT2.2.1) (by rw [up2_i (by omega)]; exact hT2.2.2.1) (fun b j hb hj => ?_)
    have z := hT2.2.2.2.2.2.1 b j hb hj
    refine ⟨?_, by rw [up2_i (by omega)]; exact z.2.1, by rw [up2_i (by omega)]; exact z.2.2⟩
    show _ = tw (vmk V) a e m b j
    rw [tw_at]
    by_cases q : b = a ∧ j = e
    · rw [if_pos q, q.1, q.2, up2_same]
    · rw [if_neg q, up2_i (by omega)]; exact z.1, by
    rw [mkS, if_neg h12]
    exact HC_fr (note_HC hn ⟨_, rfl⟩ hH (und_mk (m := m) ha he10 (nI 0)) k0 k1 k2) (fun b j q1 q2 => up2_i (by omega)), fun b j q => by rw [up2_i (by omega)]; exact k3 b j (by omega)⟩
