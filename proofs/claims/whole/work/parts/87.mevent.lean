def evP (base b j : Nat) : Prop := nP b j ∨ (b = 180 ∧ base ≤ j ∧ j < base + 22) ∨ (b = 172 ∧ j = 13)
theorem nPe (base b j : Nat) (h : nP b j) : evP base b j := Or.inl h
theorem aPe (base b j : Nat) (h : aP b j) : evP base b j := Or.inl (aPn b j h)
theorem tPe (base b j : Nat) (h : tbP base b j) : evP base b j := by
  unfold tbP at h; unfold evP
  rcases h with h | h
  · exact Or.inl h
  · exact Or.inr (Or.inl ⟨h.1, by have := h.2; omega, by have := h.2; omega⟩)
def REL (I : Nat → Nat → Int32) (c base : Nat) (E : Nat → Int32) : Prop := (∀ k, k < 6 → I c (base + k) = E k) ∧ (E 2 = 3 → ∀ k : Nat, (k : Int) < (E 3).toInt → I c (base + 6 + 2 * k) = E (6 + 2 * k) ∧ I c (base + 6 + 2 * k + 1) = E (6 + 2 * k + 1))
def evO (f : Nat → Int32) (n base nE : Nat) (x : (Nat → Int32) × Nat) (I' : Nat → Nat → Int32) : Prop := MS I' f n x.2 ∧ REL I' 180 base x.1 ∧ I' 172 13 = nI (nE + 1)
/-- the sixes of an EVENT's row -/
theorem REL6 {I : Nat → Nat → Int32} {c base : Nat} {E : Nat → Int32} (h0 : I c (base + 0) = E 0) (h1 : I c (base + 1) = E 1) (h2 : I c (base + 2) = E 2) (h3 : I c (base + 3) = E 3) (h4 : I c (base + 4) = E 4) (h5 : I c (base + 5) = E 5) (ht : E 2 = 3 → ∀ k : Nat, (k : Int) < (E 3).toInt → I c (base + 6 + 2 * k) = E (6 + 2 * k) ∧ I c (base + 6 + 2 * k + 1) = E (6 + 2 * k + 1)) : REL I c base E :=
  ⟨fun k hk => by
    have : k = 0 ∨ k = 1 ∨ k = 2 ∨ k = 3 ∨ k = 4 ∨ k = 5 := by omega
    rcases this with rfl | rfl | rfl | rfl | rfl | rfl
    · exact h0
    · exact h1
    · exact h2
    · exact h3
    · exact h4
    · exact h5, ht⟩
theorem fb0 {s b : Nat} : fbE s b 0 = nI (if s = 2 then 1 else 0) := by unfold fbE; rw [vu_ne _ _ (by omega), vu_same]
theorem fb1 {s b : Nat} : fbE s b 1 = nI b := by unfold fbE; rw [vu_same]
theorem pTab_in {T : Nat → TK} {N i n2 j : Nat} {E E2 : Nat → Int32} (hT : TN T N) (hi : i < N) (h : pTab T 9 0 0 0 E i = .inr ((n2, E2), j)) : i < j ∧ j ≤ N ∧ n2 ≤ 8 ∧ ∀ k, k < 6 → E2 k = E k := by
  rcases pTab_go hT 9 0 0 0 E i n2 E2 j rfl hi ⟨by omega, by omega, by omega, fun k z => by omega, fun k z => by omega, fun _ => ⟨rfl, rfl⟩, fun k z => by omega⟩ h with z | ⟨z1, z2, -, ⟨a, b, z4⟩, z5⟩
  · omega
  · exact ⟨z1, z2, z4.1, z5⟩
theorem pTwo_er {T : Nat → TK} {n lw lx i : Nat} {e : Nat × Nat} (h : pTwo T n lw lx i = .inl e) : 1 ≤ e.1 ∧ e.1 ≤ 4 := by
  unfold pTwo at h
  rcases bnd_er h with z | ⟨a, z, h⟩
  · exact pNum_er z
  · by_cases c : n = 8
    · rw [if_pos c] at h; cases h; exact ⟨(by show 1 ≤ 4; omega), (by show 4 ≤ 4; omega)⟩
    · rw [if_neg c] at h
      rcases bnd_er h with z | ⟨a, z, h⟩
      · exact pTake_er z
      · rcases bnd_er h with z | ⟨a, z, h⟩
        · exact pNum_er z
        · cases h
theorem pTab_er {T : Nat → TK} : ∀ {f n lw lx : Nat} {E : Nat → Int32} {i : Nat} {e : Nat × Nat}, pTab T f n lw lx E i = .inl e → 1 ≤ e.1 ∧ e.1 ≤ 4
  | 0, _, _, _, _, _, _, h => by cases h
  | f + 1, n, lw, lx, E, i, e, h => by
    rw [pTab] at h
    rcases bnd_er h with z | ⟨a, z, h⟩
    · exact pTwo_er z
    · by_cases c : (T a.2).1 = 29
      · rw [if_pos c] at h; exact pTab_er h
      · rw [if_neg c] at h; cases h
set_option maxRecDepth 20000 in
theorem d_readEvent (l : Launch) (G : GT) {I : Nat → Nat → Int32} {L : Nat → Nat → Int64} {R : Nat → Nat → Option Nat} (hL : Lay R) {f : Nat → Int32} {n N i nE : Nat} (hb : BY f n) (hN : TN (tok f n) N) (hlt : i < N) (hsn : spo f n i < n) (hS : MS I f n i) (hg : I 172 34 = nI 0) (h13 : I 172 13 = nI nE) (hE10 : nE ≤ 10) : Mt l G mX12_readEvent (7) 0 0 [.ref (ra G 172)] (wd I L R) (MX I L R (evP (22 * nE)) (evO f n (22 * nE) nE) (if nE < 10 then pEv (tok f n) (i + 1) else .inl (fl (tok f n) i 4))) := by
  refine mt_of (own := RX12) (by decide) rfl rfl (fun Z C P B => ?_)
  have D := @dc_of _ _ dX12_readEvent
  have hnn := hb.1
  have hN1 := hN.1
  have D119 : ∀ (e : Nat × Nat) (I1 : Nat → Nat → Int32) (x2 : Option Value), nE < 10 → (if nE < 10 then pEv (tok f n) (i + 1) else .inl (fl (tok f n) i 4)) = .inl e → Fx (evP (22 * nE)) I I1 → I1 172 34 = nI e.1 → I1 172 35 = nI e.2 → ¬ I1 172 34 = 0 → J Z (0, 0) 119 [some (.ref (ra G 172)), some (.int (nI (22 * nE))), x2] [] (wd I1 L R) := by
    intro e I1 x2 hE9 hres hF e0 e1 hd
    refine j_aload_n C (D 64 rfl) rfl ?_
    refine j_ldcS C (i := 4) (by decide) rfl (D 65 rfl) ?_
    refine j_cVp C B k_X12_154 (rc_obj C (lit (kd := 12) (n := 48) rfl) rfl rfl) (d_isWordF _ _ hL hd 4 (by decide)) rfl rfl rfl rfl ⟨Nat.le_refl _, Nat.le_refl _⟩ (D 66 rfl) ?_
    refine j_if_eq C  132 (D 67 rfl) (by decide) (fun h125 => ?_) (fun h125 => absurd h125 (fun z => z rfl))
    refine j_aload_n C (D 70 rfl) rfl ?_
    refine j_ldcS C (i := 5) (by decide) rfl (D 71 rfl) ?_
    refine j_cVp C B k_X12_154 (rc_obj C (lit (kd := 12) (n := 48) rfl) rfl rfl) (d_isWordF _ _ hL hd 5 (by decide)) rfl rfl rfl rfl ⟨Nat.le_refl _, Nat.le_refl _⟩ (D 72 rfl) ?_
    refine j_if_eq C  145 (D 73 rfl) (by decide) (fun h138 => ?_) (fun h138 => absurd h138 (fun z => z rfl))
    refine j_aload_n C (D 76 rfl) rfl ?_
    refine j_ldcS C (i := 6) (by decide) rfl (D 77 rfl) ?_
    refine j_cVp C B k_X12_154 (rc_obj C (lit (kd := 12) (n := 48) rfl) rfl rfl) (d_isWordF _ _ hL hd 6 (by decide)) rfl rfl rfl rfl ⟨Nat.le_refl _, Nat.le_refl _⟩ (D 78 rfl) ?_
    refine j_if_eq C  158 (D 79 rfl) (by decide) (fun h151 => ?_) (fun h151 => absurd h151 (fun z => z rfl))
    refine j_aload_n C (D 82 rfl) rfl ?_
    refine j_ldcS C (i := 7) (by decide) rfl (D 83 rfl) ?_
    refine j_cVp C B k_X12_154 (rc_obj C (lit (kd := 12) (n := 48) rfl) rfl rfl) (d_isWordF _ _ hL hd 7 (by decide)) rfl rfl rfl rfl ⟨Nat.le_refl _, Nat.le_refl _⟩ (D 84 rfl) ?_
    refine j_if_eq C  171 (D 85 rfl) (by decide) (fun h164 => ?_) (fun h164 => absurd h164 (fun z => z rfl))
    refine j_iconst C (v := (-1)) (D 88 rfl) (by decide) ?_
    refine j_istore_n C (D 89 rfl) rfl ?_
    refine j_iload_n C (D 90 rfl) rfl ?_
    refine j_iconst C (v := (-1)) (D 91 rfl) (by decide) ?_
    refine j_icmp_ne C  187 (D 92 rfl) (by decide) (fun h175 => absurd h175 (fun z => z rfl)) (fun h175 => ?_)
    refine j_aload_n C (D 93 rfl) rfl ?_
    refine j_iconst C (v := nI 1) (D 94 rfl) rfl ?_
    refine j_aload_n C (D 95 rfl) rfl ?_
    refine j_geti C f_X12_120 (lit (kd := 12) (n := 48) rfl) rfl rfl (D 96 rfl) ?_
    refine j_callV C B k_X12_168 (rc_obj C (lit (kd := 12) (n := 48) rfl) rfl rfl) (d_errsF _ _ hL hd _ _) rfl rfl rfl rfl ⟨Nat.le_refl _, Nat.le_refl _⟩ (D 97 rfl) ?_
    rintro r w' ⟨rfl, rfl⟩
    refine j_aload_n C (D 98 rfl) rfl ?_
    refine j_cVp C B k_X12_106 (rc_obj C (lit (kd := 12) (n := 48) rfl) rfl rfl) (d_goodF _ _ hL hd) rfl rfl rfl rfl ⟨Nat.le_refl _, Nat.le_refl _⟩ (D 99 rfl) ?_
    refine j_if_ne C  195 (D 100 rfl) (by decide) (fun h191 => absurd h191 (fun z => z rfl)) (fun h191 => ?_)
    exact j_vret C P rfl (D 101 rfl) ⟨Nat.le_refl _, Nat.le_refl _⟩ (MX_e hres hF e0 e1)
  have D104 : ∀ (e : Nat × Nat) (I1 : Nat → Nat → Int32) (x2 : Option Value), nE < 10 → (if nE < 10 then pEv (tok f n) (i + 1) else .inl (fl (tok f n) i 4)) = .inl e → Fx (evP (22 * nE)) I I1 → I1 172 34 = nI e.1 → I1 172 35 = nI e.2 → ¬ I1 172 34 = 0 → J Z (0, 0) 104 [some (.ref (ra G 172)), some (.int (nI (22 * nE))), x2] [] (wd I1 L R) := by
    intro e I1 x2 hE9 hres hF e0 e1 hd
    refine j_aload_n C (D 54 rfl) rfl ?_
    refine j_getr C f_X12_31 (lit (kd := 12) (n := 48) rfl) rfl rfl (hL _ _ _ rfl) (D 55 rfl) ?_
    refine j_iload_n C (D 56 rfl) rfl ?_
    refine j_iconst C (v := nI 1) (D 57 rfl) rfl ?_
    refine j_iadd C (D 58 rfl) ?_
    refine j_aload_n C (D 59 rfl) rfl ?_
    refine j_iconst C (v := nI 0) (D 60 rfl) rfl ?_
    refine j_ldc C (v := 99999) (D 61 rfl) n_X12_177 ?_
    refine j_callV C B k_X12_178 (rc_obj C (lit (kd := 12) (n := 48) rfl) rfl rfl) (d_numberF _ _ hL hd _ _) rfl rfl rfl rfl ⟨Nat.le_refl _, Nat.le_refl _⟩ (D 62 rfl) ?_
    rintro r w' ⟨v9, rfl, rfl⟩
    rw [nI_add]
    refine j_iast C (lit (kd := 20) (n := 220) rfl) (ix_n (by omega) (by decide)) (D 63 rfl) ?_
    exact D119 e _ _ hE9 hres (Fx.up hF (Or.inr (Or.inl ⟨rfl, by omega, by omega⟩))) (by rw [up2_i (by omega)]; exact e0) (by rw [up2_i (by omega)]; exact e1) (by rw [up2_i (by omega)]; exact hd)
  have D98 : ∀ (e : Nat × Nat) (I1 : Nat → Nat → Int32) (x2 : Option Value), nE < 10 → (if nE < 10 then pEv (tok f n) (i + 1) else .inl (fl (tok f n) i 4)) = .inl e → Fx (evP (22 * nE)) I I1 → I1 172 34 = nI e.1 → I1 172 35 = nI e.2 → ¬ I1 172 34 = 0 → J Z (0, 0) 98 [some (.ref (ra G 172)), some (.int (nI (22 * nE))), x2] [] (wd I1 L R) := by
    intro e I1 x2 hE9 hres hF e0 e1 hd
    refine j_aload_n C (D 51 rfl) rfl ?_
    refine j_ldcS C (i := 3) (by decide) rfl (D 52 rfl) ?_
    refine j_callV C B k_X12_193 (rc_obj C (lit (kd := 12) (n := 48) rfl) rfl rfl) (d_passesF _ _ hL hd 3 (by decide)) rfl rfl rfl rfl ⟨Nat.le_refl _, Nat.le_refl _⟩ (D 53 rfl) ?_
    rintro r w' ⟨rfl, rfl⟩
    exact D104 e I1 _ hE9 hres hF e0 e1 hd
  have D258 : ∀ (e : Nat × Nat) (I1 : Nat → Nat → Int32) (cv : Int32), nE < 10 → (if nE < 10 then pEv (tok f n) (i + 1) else .inl (fl (tok f n) i 4)) = .inl e → Fx (evP (22 * nE)) I I1 → I1 172 34 = nI e.1 → I1 172 35 = nI e.2 → ¬ I1 172 34 = 0 → J Z (0, 0) 258 [some (.ref (ra G 172)), some (.int (nI (22 * nE))), some (.int cv)] [] (wd I1 L R) := by
    intro e I1 cv hE9 hres hF e0 e1 hd
    refine j_aload_n C (D 141 rfl) rfl ?_
    refine j_getr C f_X12_31 (lit (kd := 12) (n := 48) rfl) rfl rfl (hL _ _ _ rfl) (D 142 rfl) ?_
    refine j_iload_n C (D 143 rfl) rfl ?_
    refine j_iconst C (v := nI 5) (D 144 rfl) rfl ?_
    refine j_iadd C (D 145 rfl) ?_
    refine j_aload_n C (D 146 rfl) rfl ?_
    refine j_ldcS C (i := 9) (by decide) rfl (D 147 rfl) ?_
    refine j_cVp C B k_X12_165 (rc_obj C (lit (kd := 12) (n := 48) rfl) rfl rfl) (d_eatsF _ _ hL hd 9 (by decide)) rfl rfl rfl rfl ⟨Nat.le_refl _, Nat.le_refl _⟩ (D 148 rfl) ?_
    refine j_if_eq C  285 (D 149 rfl) (by decide) (fun h271 => ?_) (fun h271 => absurd h271 (fun z => z rfl))
    refine j_iconst C (v := nI 0) (D 155 rfl) rfl ?_
    rw [nI_add]
    refine j_iast C (lit (kd := 20) (n := 220) rfl) (ix_n (by omega) (by decide)) (D 156 rfl) ?_
    refine j_aload_n C (D 157 rfl) rfl ?_
    refine j_dup C (D 158 rfl) rfl ?_
    refine j_geti C f_X12_184 (lit (kd := 12) (n := 48) rfl) rfl rfl (D 159 rfl) ?_
    refine j_iconst C (v := nI 1) (D 160 rfl) rfl ?_
    refine j_iadd C (D 161 rfl) ?_
    refine j_puti C f_X12_184 (lit (kd := 12) (n := 48) rfl) rfl rfl (D 162 rfl) ?_
    exact j_vret C P rfl (D 163 rfl) ⟨Nat.le_refl _, Nat.le_refl _⟩ (MX_e hres (Fx.up (Fx.up hF (Or.inr (Or.inl ⟨rfl, by omega, by omega⟩))) (Or.inr (Or.inr ⟨rfl, rfl⟩))) (by rw [up2_i (by omega), up2_i (by omega)]; exact e0) (by rw [up2_i (by omega), up2_i (by omega)]; exact e1))
  have D243 : ∀ (e : Nat × Nat) (I1 : Nat → Nat → Int32) (cv : Int32), nE < 10 → (if nE < 10 then pEv (tok f n) (i + 1) else .inl (fl (tok f n) i 4)) = .inl e → Fx (evP (22 * nE)) I I1 → I1 172 34 = nI e.1 → I1 172 35 = nI e.2 → ¬ I1 172 34 = 0 → J Z (0, 0) 243 [some (.ref (ra G 172)), some (.int (nI (22 * nE))), some (.int cv)] [] (wd I1 L R) := by
    intro e I1 cv hE9 hres hF e0 e1 hd
    refine j_aload_n C (D 131 rfl) rfl ?_
    refine j_getr C f_X12_31 (lit (kd := 12) (n := 48) rfl) rfl rfl (hL _ _ _ rfl) (D 132 rfl) ?_
    refine j_iload_n C (D 133 rfl) rfl ?_
    refine j_iconst C (v := nI 4) (D 134 rfl) rfl ?_
    refine j_iadd C (D 135 rfl) ?_
    refine j_aload_n C (D 136 rfl) rfl ?_
    refine j_iconst C (v := nI 1) (D 137 rfl) rfl ?_
    refine j_ldc C (v := 99999) (D 138 rfl) n_X12_177 ?_
    refine j_callV C B k_X12_178 (rc_obj C (lit (kd := 12) (n := 48) rfl) rfl rfl) (d_numberF _ _ hL hd _ _) rfl rfl rfl rfl ⟨Nat.le_refl _, Nat.le_refl _⟩ (D 139 rfl) ?_
    rintro r w' ⟨v9, rfl, rfl⟩
    rw [nI_add]
    refine j_iast C (lit (kd := 20) (n := 220) rfl) (ix_n (by omega) (by decide)) (D 140 rfl) ?_
    exact D258 e _ _ hE9 hres (Fx.up hF (Or.inr (Or.inl ⟨rfl, by omega, by omega⟩))) (by rw [up2_i (by omega)]; exact e0) (by rw [up2_i (by omega)]; exact e1) (by rw [up2_i (by omega)]; exact hd)
  have D237 : ∀ (e : Nat × Nat) (I1 : Nat → Nat → Int32) (cv : Int32), nE < 10 → (if nE < 10 then pEv (tok f n) (i + 1) else .inl (fl (tok f n) i 4)) = .inl e → Fx (evP (22 * nE)) I I1 → I1 172 34 = nI e.1 → I1 172 35 = nI e.2 → ¬ I1 172 34 = 0 → J Z (0, 0) 237 [some (.ref (ra G 172)), some (.int (nI (22 * nE))), some (.int cv)] [] (wd I1 L R) := by
    intro e I1 cv hE9 hres hF e0 e1 hd
    refine j_aload_n C (D 128 rfl) rfl ?_
    refine j_ldcS C (i := 8) (by decide) rfl (D 129 rfl) ?_
    refine j_callV C B k_X12_193 (rc_obj C (lit (kd := 12) (n := 48) rfl) rfl rfl) (d_passesF _ _ hL hd 8 (by decide)) rfl rfl rfl rfl ⟨Nat.le_refl _, Nat.le_refl _⟩ (D 130 rfl) ?_
    rintro r w' ⟨rfl, rfl⟩
    exact D243 e I1 _ hE9 hres hF e0 e1 hd
  have G258 : ∀ (E2 : Nat → Int32) (j3 : Nat) (I1 : Nat → Nat → Int32) (cv : Int32), nE < 10 → j3 ≤ N → MS I1 f n j3 → I1 172 34 = nI 0 → I1 172 35 = I 172 35 → I1 172 13 = nI nE → Fx (evP (22 * nE)) I I1 → (∀ k, k < 5 → I1 180 (22 * nE + k) = E2 k) → (E2 2 = 3 → ∀ k : Nat, (k : Int) < (E2 3).toInt → I1 180 (22 * nE + 6 + 2 * k) = E2 (6 + 2 * k) ∧ I1 180 (22 * nE + 6 + 2 * k + 1) = E2 (6 + 2 * k + 1)) → (∀ e, pSpr (tok f n) j3 = .inl e → (if nE < 10 then pEv (tok f n) (i + 1) else .inl (fl (tok f n) i 4)) = .inl e) → (∀ s j, pSpr (tok f n) j3 = .inr (s, j) → (if nE < 10 then pEv (tok f n) (i + 1) else .inl (fl (tok f n) i 4)) = .inr (va_up E2 5 (nI s), j)) → J Z (0, 0) 258 [some (.ref (ra G 172)), some (.int (nI (22 * nE))), some (.int cv)] [] (wd I1 L R) := by
    intro E2 j3 I1 cv hE hj3 hS1 hg1 hz35 h13 hF h5 ht hpe hpo
    refine j_aload_n C (D 141 rfl) rfl ?_
    refine j_getr C f_X12_31 (lit (kd := 12) (n := 48) rfl) rfl rfl (hL _ _ _ rfl) (D 142 rfl) ?_
    refine j_iload_n C (D 143 rfl) rfl ?_
    refine j_iconst C (v := nI 5) (D 144 rfl) rfl ?_
    refine j_iadd C (D 145 rfl) ?_
    refine j_aload_n C (D 146 rfl) rfl ?_
    refine j_ldcS C (i := 9) (by decide) rfl (D 147 rfl) ?_
    refine j_callV C B k_X12_165 (rc_obj C (lit (kd := 12) (n := 48) rfl) rfl rfl) (d_eats _ _ hL hb hS1 hg1 9 (by decide)) rfl rfl rfl rfl ⟨Nat.le_refl _, Nat.le_refl _⟩ (D 148 rfl) ?_
    rintro r w' ⟨rfl, I2, rfl, hF2, y1, y2⟩
    refine j_if_eq C  285 (D 149 rfl) (by decide) (fun h271 => ?_) (fun h271 => ?_)
    · have n5 : ¬ (tok f n j3).1 = 5 := b2_eq h271
      refine j_iconst C (v := nI 0) (D 155 rfl) rfl ?_
      rw [nI_add]
      refine j_iast C (lit (kd := 20) (n := 220) rfl) (ix_n (by omega) (by decide)) (D 156 rfl) ?_
      refine j_aload_n C (D 157 rfl) rfl ?_
      refine j_dup C (D 158 rfl) rfl ?_
      refine j_geti C f_X12_184 (lit (kd := 12) (n := 48) rfl) rfl rfl (D 159 rfl) ?_
      rw [up2_i (by omega), hF2 _ _ (fun z => by unfold aP at z; omega), h13]
      refine j_iconst C (v := nI 1) (D 160 rfl) rfl ?_
      refine j_iadd C (D 161 rfl) ?_
      rw [nI_add]
      refine j_puti C f_X12_184 (lit (kd := 12) (n := 48) rfl) rfl rfl (D 162 rfl) ?_
      exact j_vret C P rfl (D 163 rfl) ⟨Nat.le_refl _, Nat.le_refl _⟩ (MX_o (hpo 0 j3 (by unfold pSpr; rw [if_neg n5])) (Fx.up (Fx.up (hF.tr (hF2.mo (aPe _))) (Or.inr (Or.inl ⟨rfl, by omega, by omega⟩))) (Or.inr (Or.inr ⟨rfl, rfl⟩))) (by rw [up2_i (by omega), up2_i (by omega)]; exact (by rw [hF2 _ _ (fun z => by unfold aP at z; omega)]; exact hg1)) (by rw [up2_i (by omega), up2_i (by omega)]; exact (by rw [hF2 _ _ (fun z => by unfold aP at z; omega)]; exact hz35)) ⟨MS_go (y2 n5) (Fx.up (Fx.up (Fx.rf (fun b j => b = 180 ∨ (b = 172 ∧ j = 13)) _) (Or.inl rfl)) (Or.inr ⟨rfl, rfl⟩)) (fun b j z => by omega), by
  have key : ∀ k, ¬ k = 5 → up2 (up2 I2 180 (22 * nE + 5) (nI 0)) 172 13 (nI (nE + 1)) 180 (22 * nE + k) = I1 180 (22 * nE + k) := fun k hk => by rw [up2_i (by omega), up2_i (by omega)]; exact hF2 _ _ (fun z => by unfold aP at z; omega)
  show REL _ 180 (22 * nE) (va_up E2 5 (nI 0))
  refine REL6 ?_ ?_ ?_ ?_ ?_ ?_ ?_
  · rw [key 0 (by omega), vu_ne _ _ (by omega)]; exact h5 0 (by omega)
  · rw [key 1 (by omega), vu_ne _ _ (by omega)]; exact h5 1 (by omega)
  · rw [key 2 (by omega), vu_ne _ _ (by omega)]; exact h5 2 (by omega)
  · rw [key 3 (by omega), vu_ne _ _ (by omega)]; exact h5 3 (by omega)
  · rw [key 4 (by omega), vu_ne _ _ (by omega)]; exact h5 4 (by omega)
  · rw [up2_i (by omega), up2_same, vu_same]
  · intro z k hk
    rw [vu_ne _ _ (by omega)] at z hk
    rw [vu_ne _ _ (by omega), vu_ne _ _ (by omega), show 22 * nE + 6 + 2 * k = 22 * nE + (6 + 2 * k) by omega, show 22 * nE + (6 + 2 * k) + 1 = 22 * nE + (6 + 2 * k + 1) by omega, key _ (by omega), key _ (by omega)]
    have := ht z k hk
    rw [show 22 * nE + 6 + 2 * k = 22 * nE + (6 + 2 * k) by omega, show 22 * nE + (6 + 2 * k) + 1 = 22 * nE + (6 + 2 * k + 1) by omega] at this
    exact this, up2_same _ _ _ _⟩)
    · have h5s : (tok f n j3).1 = 5 := b2_ne h271
      have hlt5 := lt_sg hN hj3 h5s (by decide)
      refine j_aload_n C (D 150 rfl) rfl ?_
      refine j_iconst C (v := nI 0) (D 151 rfl) rfl ?_
      refine j_sipush C (v := nI 999) (D 152 rfl) rfl ?_
      refine j_callV C B k_X12_178 (rc_obj C (lit (kd := 12) (n := 48) rfl) rfl rfl) (d_number _ _ hL hb (y1 h5s) (by rw [hF2 _ _ (fun z => by unfold aP at z; omega)]; exact hg1) (lo := 0) (hx := 1000) (hi := nI 999) (by omega) (by omega) (by decide)) rfl rfl rfl rfl ⟨Nat.le_refl _, Nat.le_refl _⟩ (D 153 rfl) ?_
      rintro r w' ⟨I3, v2, rfl, rfl, F3, k0, k1⟩
      obtain ⟨e, hq⟩ | ⟨⟨s, j⟩, hq⟩ := rs_c (pNum (tok f n) (j3 + 1) 0 1000)
      · obtain ⟨e0, e1⟩ := k0 e hq
        refine j_goto C 286 (D 154 rfl) (by decide) ?_
        rw [nI_add]
        refine j_iast C (lit (kd := 20) (n := 220) rfl) (ix_n (by omega) (by decide)) (D 156 rfl) ?_
        refine j_aload_n C (D 157 rfl) rfl ?_
        refine j_dup C (D 158 rfl) rfl ?_
        refine j_geti C f_X12_184 (lit (kd := 12) (n := 48) rfl) rfl rfl (D 159 rfl) ?_
        refine j_iconst C (v := nI 1) (D 160 rfl) rfl ?_
        refine j_iadd C (D 161 rfl) ?_
        refine j_puti C f_X12_184 (lit (kd := 12) (n := 48) rfl) rfl rfl (D 162 rfl) ?_
        exact j_vret C P rfl (D 163 rfl) ⟨Nat.le_refl _, Nat.le_refl _⟩ (MX_e (hpe e (by unfold pSpr; rw [if_pos h5s]; exact hq)) (Fx.up (Fx.up ((hF.tr (hF2.mo (aPe _))).tr (F3.mo (nPe _))) (Or.inr (Or.inl ⟨rfl, by omega, by omega⟩))) (Or.inr (Or.inr ⟨rfl, rfl⟩))) (by rw [up2_i (by omega), up2_i (by omega)]; exact e0) (by rw [up2_i (by omega), up2_i (by omega)]; exact e1))
      · obtain ⟨hv, g0, g1, g2⟩ := k1 _ hq
        have hv : v2 = nI s := hv
        subst hv
        have g2 : MS I3 f n j := g2
        refine j_goto C 286 (D 154 rfl) (by decide) ?_
        rw [nI_add]
        refine j_iast C (lit (kd := 20) (n := 220) rfl) (ix_n (by omega) (by decide)) (D 156 rfl) ?_
        refine j_aload_n C (D 157 rfl) rfl ?_
        refine j_dup C (D 158 rfl) rfl ?_
        refine j_geti C f_X12_184 (lit (kd := 12) (n := 48) rfl) rfl rfl (D 159 rfl) ?_
        rw [up2_i (by omega), F3 _ _ (fun z => by unfold nP at z; omega), hF2 _ _ (fun z => by unfold aP at z; omega), h13]
        refine j_iconst C (v := nI 1) (D 160 rfl) rfl ?_
        refine j_iadd C (D 161 rfl) ?_
        rw [nI_add]
        refine j_puti C f_X12_184 (lit (kd := 12) (n := 48) rfl) rfl rfl (D 162 rfl) ?_
        exact j_vret C P rfl (D 163 rfl) ⟨Nat.le_refl _, Nat.le_refl _⟩ (MX_o (hpo s j (by unfold pSpr; rw [if_pos h5s]; exact hq)) (Fx.up (Fx.up ((hF.tr (hF2.mo (aPe _))).tr (F3.mo (nPe _))) (Or.inr (Or.inl ⟨rfl, by omega, by omega⟩))) (Or.inr (Or.inr ⟨rfl, rfl⟩))) (by rw [up2_i (by omega), up2_i (by omega)]; exact g0) (by rw [up2_i (by omega), up2_i (by omega)]; exact (by rw [g1, hF2 _ _ (fun z => by unfold aP at z; omega)]; exact hz35)) ⟨MS_go g2 (Fx.up (Fx.up (Fx.rf (fun b j => b = 180 ∨ (b = 172 ∧ j = 13)) _) (Or.inl rfl)) (Or.inr ⟨rfl, rfl⟩)) (fun b j z => by omega), by
  have key : ∀ k, ¬ k = 5 → up2 (up2 I3 180 (22 * nE + 5) (nI s)) 172 13 (nI (nE + 1)) 180 (22 * nE + k) = I1 180 (22 * nE + k) := fun k hk => by rw [up2_i (by omega), up2_i (by omega)]; rw [F3 _ _ (fun z => by unfold nP at z; omega)]; exact hF2 _ _ (fun z => by unfold aP at z; omega)
  show REL _ 180 (22 * nE) (va_up E2 5 (nI s))
  refine REL6 ?_ ?_ ?_ ?_ ?_ ?_ ?_
  · rw [key 0 (by omega), vu_ne _ _ (by omega)]; exact h5 0 (by omega)
  · rw [key 1 (by omega), vu_ne _ _ (by omega)]; exact h5 1 (by omega)
  · rw [key 2 (by omega), vu_ne _ _ (by omega)]; exact h5 2 (by omega)
  · rw [key 3 (by omega), vu_ne _ _ (by omega)]; exact h5 3 (by omega)
  · rw [key 4 (by omega), vu_ne _ _ (by omega)]; exact h5 4 (by omega)
  · rw [up2_i (by omega), up2_same, vu_same]
  · intro z k hk
    rw [vu_ne _ _ (by omega)] at z hk
    rw [vu_ne _ _ (by omega), vu_ne _ _ (by omega), show 22 * nE + 6 + 2 * k = 22 * nE + (6 + 2 * k) by omega, show 22 * nE + (6 + 2 * k) + 1 = 22 * nE + (6 + 2 * k + 1) by omega, key _ (by omega), key _ (by omega)]
    have := ht z k hk
    rw [show 22 * nE + 6 + 2 * k = 22 * nE + (6 + 2 * k) by omega, show 22 * nE + (6 + 2 * k) + 1 = 22 * nE + (6 + 2 * k + 1) by omega] at this
    exact this, up2_same _ _ _ _⟩)
  refine j_aload_n C (D 0 rfl) rfl ?_
  refine j_geti C f_X12_184 (lit (kd := 12) (n := 48) rfl) rfl rfl (D 1 rfl) ?_
  rw [h13]
  refine j_bipush C (v := nI 10) (D 2 rfl) rfl ?_
  refine j_icmp_ne C  18 (D 3 rfl) (by decide) (fun h6 => ?_) (fun h6 => ?_)
  · have hE : nE < 10 := by
      by_cases z : nE = 10
      · exact absurd (by rw [z]) h6
      · omega
    refine j_aload_n C (D 9 rfl) rfl ?_
    refine j_cVp C B k_X12_106 (rc_obj C (lit (kd := 12) (n := 48) rfl) rfl rfl) (d_goodT _ _ hL hg) rfl rfl rfl rfl ⟨Nat.le_refl _, Nat.le_refl _⟩ (D 10 rfl) ?_
    refine j_if_ne C  26 (D 11 rfl) (by decide) (fun h22 => ?_) (fun h22 => absurd h22 (by decide))
    refine j_aload_n C (D 13 rfl) rfl ?_
    refine j_callV C B k_X12_158 (rc_obj C (lit (kd := 12) (n := 48) rfl) rfl rfl) (d_advance _ _ hL hb hS hsn) rfl rfl rfl rfl ⟨Nat.le_refl _, Nat.le_refl _⟩ (D 14 rfl) ?_
    rintro r w' ⟨rfl, I2, rfl, hF2, hS2⟩
    have hg2 : I2 172 34 = nI 0 := by rw [hF2 _ _ (fun z => by unfold aP at z; omega)]; exact hg
    refine j_aload_n C (D 15 rfl) rfl ?_
    refine j_geti C f_X12_184 (lit (kd := 12) (n := 48) rfl) rfl rfl (D 16 rfl) ?_
    rw [hF2 _ _ (fun z => by unfold aP at z; omega), h13]
    refine j_bipush C (v := nI 22) (D 17 rfl) rfl ?_
    refine j_imul C (D 18 rfl) ?_
    rw [pk_mul, Nat.mul_comm]
    refine j_istore_n C (D 19 rfl) rfl ?_
    refine j_aload_n C (D 20 rfl) rfl ?_
    refine j_getr C f_X12_31 (lit (kd := 12) (n := 48) rfl) rfl rfl (hL _ _ _ rfl) (D 21 rfl) ?_
    refine j_iload_n C (D 22 rfl) rfl ?_
    refine j_iconst C (v := nI 0) (D 23 rfl) rfl ?_
    refine j_iadd C (D 24 rfl) ?_
    refine j_aload_n C (D 25 rfl) rfl ?_
    refine j_ldcS C (i := 1) (by decide) rfl (D 26 rfl) ?_
    refine j_cVp C B k_X12_154 (rc_obj C (lit (kd := 12) (n := 48) rfl) rfl rfl) (d_isWord _ _ hL hb hS2 hg2 1 (by decide)) rfl rfl rfl rfl ⟨Nat.le_refl _, Nat.le_refl _⟩ (D 27 rfl) ?_
    refine j_if_eq C  58 (D 28 rfl) (by decide) (fun h51 => ?_) (fun h51 => ?_)
    · have n2w : ¬ (tok f n (i + 1)).1 = 2 := b2_eq h51
      refine j_iconst C (v := nI 0) (D 31 rfl) rfl ?_
      rw [nI_add]
      refine j_iast C (lit (kd := 20) (n := 220) rfl) (ix_n (by omega) (by decide)) (D 32 rfl) ?_
      have hSa : MS (up2 I2 180 (22 * nE + 0) (nI 0)) f n (i + 1) := MS_180 hS2 (Fx.up (Fx.rf _ _) rfl)
      have hga : up2 I2 180 (22 * nE + 0) (nI 0) 172 34 = nI 0 := by rw [up2_i (by omega)]; exact hg2
      have hFa : Fx (evP (22 * nE)) I (up2 I2 180 (22 * nE + 0) (nI 0)) := Fx.up (hF2.mo (aPe _)) (Or.inr (Or.inl ⟨rfl, by omega, by omega⟩))
      have hfv : nI 0 = nI (if (tok f n (i + 1)).1 = 2 then 1 else 0) := by rw [if_neg n2w]
      refine j_aload_n C (D 33 rfl) rfl ?_
      refine j_ldcS C (i := 2) (by decide) rfl (D 34 rfl) ?_
      refine j_cVp C B k_X12_154 (rc_obj C (lit (kd := 12) (n := 48) rfl) rfl rfl) (d_isWord _ _ hL hb hSa hga 2 (by decide)) rfl rfl rfl rfl ⟨Nat.le_refl _, Nat.le_refl _⟩ (D 35 rfl) ?_
      refine j_if_ne C  87 (D 36 rfl) (by decide) (fun h66 => ?_) (fun h66 => ?_)
      · refine j_aload_n C (D 46 rfl) rfl ?_
        refine j_cVp C B k_X12_106 (rc_obj C (lit (kd := 12) (n := 48) rfl) rfl rfl) (d_goodT _ _ hL hga) rfl rfl rfl rfl ⟨Nat.le_refl _, Nat.le_refl _⟩ (D 47 rfl) ?_
        refine j_if_eq C  98 (D 48 rfl) (by decide) (fun h91 => absurd h91 (by decide)) (fun h91 => ?_)
        have hs12 : (tok f n (i + 1)).1 = 2 ∨ (tok f n (i + 1)).1 = 1 := Or.inr (b2_ne h66)
        have hsn2 : spo f n (i + 1) < n := tok_lt_n (by rcases hs12 with z | z <;> rw [z] <;> decide)
        have hlt1 : i + 1 < N := lt_of_T hN.2.1 hlt (by rcases hs12 with z | z <;> rw [z] <;> decide)
        refine j_aload_n C (D 49 rfl) rfl ?_
        refine j_callV C B k_X12_158 (rc_obj C (lit (kd := 12) (n := 48) rfl) rfl rfl) (d_advance _ _ hL hb hSa hsn2) rfl rfl rfl rfl ⟨Nat.le_refl _, Nat.le_refl _⟩ (D 50 rfl) ?_
        rintro r w' ⟨rfl, I4, rfl, F4, hS4⟩
        have hg4 : I4 172 34 = nI 0 := by rw [F4 _ _ (fun z => by unfold aP at z; omega)]; exact hga
        have hF4 : Fx (evP (22 * nE)) I I4 := hFa.tr (F4.mo (aPe _))
        refine j_aload_n C (D 51 rfl) rfl ?_
        refine j_ldcS C (i := 3) (by decide) rfl (D 52 rfl) ?_
        refine j_callV C B k_X12_193 (rc_obj C (lit (kd := 12) (n := 48) rfl) rfl rfl) (d_passes _ _ hL hb hS4 hg4 3 (by decide)) rfl rfl rfl rfl ⟨Nat.le_refl _, Nat.le_refl _⟩ (D 53 rfl) ?_
        rintro r w' ⟨rfl, I5, rfl, F5, k0, k1⟩
        obtain ⟨e, hq1⟩ | ⟨j, hq1⟩ := rs_c (pTake (tok f n) (i + 1 + 1) 3)
        · obtain ⟨e0, e1⟩ := k0 e hq1
          have hd5 : ¬ I5 172 34 = 0 := dd_of e0 (pTake_er hq1)
          exact D104 e I5 _ hE (by rw [if_pos hE]; unfold pEv; rw [if_pos hs12, hq1, bnd_l]) (hF4.tr (F5.mo (nPe _))) e0 e1 hd5
        · obtain ⟨u0, u1, u2⟩ := k1 j hq1
          have u2 : MS I5 f n j := u2
          obtain ⟨c1, c2⟩ := pTake_go hN hlt1 (by omega) hq1
          refine j_aload_n C (D 54 rfl) rfl ?_
          refine j_getr C f_X12_31 (lit (kd := 12) (n := 48) rfl) rfl rfl (hL _ _ _ rfl) (D 55 rfl) ?_
          refine j_iload_n C (D 56 rfl) rfl ?_
          refine j_iconst C (v := nI 1) (D 57 rfl) rfl ?_
          refine j_iadd C (D 58 rfl) ?_
          refine j_aload_n C (D 59 rfl) rfl ?_
          refine j_iconst C (v := nI 0) (D 60 rfl) rfl ?_
          refine j_ldc C (v := 99999) (D 61 rfl) n_X12_177 ?_
          refine j_callV C B k_X12_178 (rc_obj C (lit (kd := 12) (n := 48) rfl) rfl rfl) (d_number _ _ hL hb u2 u0 (lo := 0) (hx := 100000) (hi := 99999) (by omega) (by omega) (by decide)) rfl rfl rfl rfl ⟨Nat.le_refl _, Nat.le_refl _⟩ (D 62 rfl) ?_
          rintro r w' ⟨I6, v6, rfl, rfl, F6, k2, k3⟩
          obtain ⟨e, hq2⟩ | ⟨⟨b, j2⟩, hq2⟩ := rs_c (pNum (tok f n) j 0 100000)
          · obtain ⟨e0, e1⟩ := k2 e hq2
            have hd6 : ¬ I6 172 34 = 0 := dd_of e0 (pNum_er hq2)
            rw [nI_add]
            refine j_iast C (lit (kd := 20) (n := 220) rfl) (ix_n (by omega) (by decide)) (D 63 rfl) ?_
            exact D119 e _ _ hE (by rw [if_pos hE]; unfold pEv; rw [if_pos hs12, hq1, bnd_r, hq2, bnd_l]) (Fx.up ((hF4.tr (F5.mo (nPe _))).tr (F6.mo (nPe _))) (Or.inr (Or.inl ⟨rfl, by omega, by omega⟩))) (by rw [up2_i (by omega)]; exact e0) (by rw [up2_i (by omega)]; exact e1) (by rw [up2_i (by omega)]; exact hd6)
          · obtain ⟨hv, x0, x1, x2⟩ := k3 _ hq2
            have hv : v6 = nI b := hv
            subst hv
            have x2 : MS I6 f n j2 := x2
            obtain ⟨d1, d2, d3, d4⟩ := pNum_go hN (by omega) hq2
            have hSd : MS (up2 I6 180 (22 * nE + 1) (nI b)) f n j2 := MS_180 x2 (Fx.up (Fx.rf _ _) rfl)
            have hgd : up2 I6 180 (22 * nE + 1) (nI b) 172 34 = nI 0 := by rw [up2_i (by omega)]; exact x0
            have hFd : Fx (evP (22 * nE)) I (up2 I6 180 (22 * nE + 1) (nI b)) := Fx.up ((hF4.tr (F5.mo (nPe _))).tr (F6.mo (nPe _))) (Or.inr (Or.inl ⟨rfl, by omega, by omega⟩))
            have hd0 : up2 I6 180 (22 * nE + 1) (nI b) 180 (22 * nE + 0) = fbE (tok f n (i + 1)).1 b 0 := by rw [up2_i (by omega), F6 _ _ (fun z => by unfold nP at z; omega), F5 _ _ (fun z => by unfold nP at z; omega), F4 _ _ (fun z => by unfold aP at z; omega), up2_same, fb0]; exact hfv
            have hd1 : up2 I6 180 (22 * nE + 1) (nI b) 180 (22 * nE + 1) = fbE (tok f n (i + 1)).1 b 1 := by rw [up2_same, fb1]
            have hd35 : up2 I6 180 (22 * nE + 1) (nI b) 172 35 = I 172 35 := by rw [up2_i (by omega), x1, u1, F4 _ _ (fun z => by unfold aP at z; omega), up2_i (by omega), hF2 _ _ (fun z => by unfold aP at z; omega)]
            have hd13 : up2 I6 180 (22 * nE + 1) (nI b) 172 13 = nI nE := by rw [up2_i (by omega), F6 _ _ (fun z => by unfold nP at z; omega), F5 _ _ (fun z => by unfold nP at z; omega), F4 _ _ (fun z => by unfold aP at z; omega), up2_i (by omega), hF2 _ _ (fun z => by unfold aP at z; omega)]; exact h13
            rw [nI_add]
            refine j_iast C (lit (kd := 20) (n := 220) rfl) (ix_n (by omega) (by decide)) (D 63 rfl) ?_
            refine j_aload_n C (D 64 rfl) rfl ?_
            refine j_ldcS C (i := 4) (by decide) rfl (D 65 rfl) ?_
            refine j_cVp C B k_X12_154 (rc_obj C (lit (kd := 12) (n := 48) rfl) rfl rfl) (d_isWord _ _ hL hb hSd hgd 4 (by decide)) rfl rfl rfl rfl ⟨Nat.le_refl _, Nat.le_refl _⟩ (D 66 rfl) ?_
            refine j_if_eq C  132 (D 67 rfl) (by decide) (fun h125 => ?_) (fun h125 => ?_)
            · refine j_aload_n C (D 70 rfl) rfl ?_
              refine j_ldcS C (i := 5) (by decide) rfl (D 71 rfl) ?_
              refine j_cVp C B k_X12_154 (rc_obj C (lit (kd := 12) (n := 48) rfl) rfl rfl) (d_isWord _ _ hL hb hSd hgd 5 (by decide)) rfl rfl rfl rfl ⟨Nat.le_refl _, Nat.le_refl _⟩ (D 72 rfl) ?_
              refine j_if_eq C  145 (D 73 rfl) (by decide) (fun h138 => ?_) (fun h138 => ?_)
              · refine j_aload_n C (D 76 rfl) rfl ?_
                refine j_ldcS C (i := 6) (by decide) rfl (D 77 rfl) ?_
                refine j_cVp C B k_X12_154 (rc_obj C (lit (kd := 12) (n := 48) rfl) rfl rfl) (d_isWord _ _ hL hb hSd hgd 6 (by decide)) rfl rfl rfl rfl ⟨Nat.le_refl _, Nat.le_refl _⟩ (D 78 rfl) ?_
                refine j_if_eq C  158 (D 79 rfl) (by decide) (fun h151 => ?_) (fun h151 => ?_)
                · refine j_aload_n C (D 82 rfl) rfl ?_
                  refine j_ldcS C (i := 7) (by decide) rfl (D 83 rfl) ?_
                  refine j_cVp C B k_X12_154 (rc_obj C (lit (kd := 12) (n := 48) rfl) rfl rfl) (d_isWord _ _ hL hb hSd hgd 7 (by decide)) rfl rfl rfl rfl ⟨Nat.le_refl _, Nat.le_refl _⟩ (D 84 rfl) ?_
                  refine j_if_eq C  171 (D 85 rfl) (by decide) (fun h164 => ?_) (fun h164 => ?_)
                  · refine j_iconst C (v := (-1)) (D 88 rfl) (by decide) ?_
                    have hcv : crv (tok f n j2).1 = 99 := by unfold crv; rw [if_neg (show ¬ (tok f n j2).1 = 6 from b2_eq h125), if_neg (show ¬ (tok f n j2).1 = 7 from b2_eq h138), if_neg (show ¬ (tok f n j2).1 = 8 from b2_eq h151)]
                    have n9 : ¬ (tok f n j2).1 = 9 := b2_eq h164
                    refine j_istore_n C (D 89 rfl) rfl ?_
                    refine j_iload_n C (D 90 rfl) rfl ?_
                    refine j_iconst C (v := (-1)) (D 91 rfl) (by decide) ?_
                    refine j_icmp_ne C  187 (D 92 rfl) (by decide) (fun h175 => absurd h175 (fun z => z rfl)) (fun h175 => ?_)
                    refine j_aload_n C (D 93 rfl) rfl ?_
                    refine j_iconst C (v := nI 1) (D 94 rfl) rfl ?_
                    refine j_aload_n C (D 95 rfl) rfl ?_
                    refine j_geti C f_X12_120 (lit (kd := 12) (n := 48) rfl) rfl rfl (D 96 rfl) ?_
                    rw [hSd.2.1]
                    refine j_callV C B k_X12_168 (rc_obj C (lit (kd := 12) (n := 48) rfl) rfl rfl) (d_errsT _ _ hL hgd _ _) rfl rfl rfl rfl ⟨Nat.le_refl _, Nat.le_refl _⟩ (D 97 rfl) ?_
                    rintro r w' ⟨rfl, rfl⟩
                    have hdd3 : ¬ up2 (up2 (up2 I6 180 (22 * nE + 1) (nI b)) 172 34 (nI 1)) 172 35 (nI (spo f n j2)) 172 34 = 0 := dd_of (k := 1) (by rw [up2_i (by omega), up2_same]) (by omega)
                    refine j_aload_n C (D 98 rfl) rfl ?_
                    refine j_cVp C B k_X12_106 (rc_obj C (lit (kd := 12) (n := 48) rfl) rfl rfl) (d_goodF _ _ hL hdd3) rfl rfl rfl rfl ⟨Nat.le_refl _, Nat.le_refl _⟩ (D 99 rfl) ?_
                    refine j_if_ne C  195 (D 100 rfl) (by decide) (fun h191 => absurd h191 (fun z => z rfl)) (fun h191 => ?_)
                    exact j_vret C P rfl (D 101 rfl) ⟨Nat.le_refl _, Nat.le_refl _⟩ (MX_e (e := fl (tok f n) j2 1) (by rw [if_pos hE]; unfold pEv; rw [if_pos hs12, hq1, bnd_r, hq2, bnd_r, show pCur (tok f n) j2 (fbE (tok f n (i + 1)).1 b) = .inl (fl (tok f n) j2 1) from by unfold pCur; rw [if_neg n9, if_pos hcv], bnd_l]) (Fx.up (Fx.up hFd (Or.inl ⟨rfl, by omega⟩)) (Or.inl ⟨rfl, by omega⟩)) (by rw [up2_i (by omega), up2_same]; rfl) (by rw [up2_same]; show _ = nI (tok f n j2).2.1; rw [tok_2]))
                  · refine j_iconst C (v := nI 3) (D 86 rfl) rfl ?_
                    refine j_goto C 172 (D 87 rfl) (by decide) ?_
                    have hs : (tok f n j2).1 = 9 := b2_ne h164
                    have hltj := lt_sg hN (by omega) hs (by decide)
                    refine j_istore_n C (D 89 rfl) rfl ?_
                    refine j_iload_n C (D 90 rfl) rfl ?_
                    refine j_iconst C (v := (-1)) (D 91 rfl) (by decide) ?_
                    refine j_icmp_ne C  187 (D 92 rfl) (by decide) (fun h175 => ?_) (fun h175 => absurd h175 (by decide))
                    refine j_aload_n C (D 98 rfl) rfl ?_
                    refine j_cVp C B k_X12_106 (rc_obj C (lit (kd := 12) (n := 48) rfl) rfl rfl) (d_goodT _ _ hL hgd) rfl rfl rfl rfl ⟨Nat.le_refl _, Nat.le_refl _⟩ (D 99 rfl) ?_
                    refine j_if_ne C  195 (D 100 rfl) (by decide) (fun h191 => ?_) (fun h191 => absurd h191 (by decide))
                    refine j_aload_n C (D 102 rfl) rfl ?_
                    refine j_callV C B k_X12_158 (rc_obj C (lit (kd := 12) (n := 48) rfl) rfl rfl) (d_advance _ _ hL hb hSd (tok_lt_n (by rw [hs]; decide))) rfl rfl rfl rfl ⟨Nat.le_refl _, Nat.le_refl _⟩ (D 103 rfl) ?_
                    rintro r w' ⟨rfl, I7, rfl, F7, S7⟩
                    have hS7 : MS (up2 I7 180 (22 * nE + 2) (nI 3)) f n (j2 + 1) := MS_180 S7 (Fx.up (Fx.rf _ _) rfl)
                    have hg7 : up2 I7 180 (22 * nE + 2) (nI 3) 172 34 = nI 0 := by rw [up2_i (by omega), F7 _ _ (fun z => by unfold aP at z; omega)]; exact hgd
                    have hF7 : Fx (evP (22 * nE)) I (up2 I7 180 (22 * nE + 2) (nI 3)) := Fx.up (hFd.tr (F7.mo (aPe _))) (Or.inr (Or.inl ⟨rfl, by omega, by omega⟩))
                    have h70 : up2 I7 180 (22 * nE + 2) (nI 3) 180 (22 * nE + 0) = fbE (tok f n (i + 1)).1 b 0 := by rw [up2_i (by omega), F7 _ _ (fun z => by unfold aP at z; omega)]; exact hd0
                    have h71 : up2 I7 180 (22 * nE + 2) (nI 3) 180 (22 * nE + 1) = fbE (tok f n (i + 1)).1 b 1 := by rw [up2_i (by omega), F7 _ _ (fun z => by unfold aP at z; omega)]; exact hd1
                    have h735 : up2 I7 180 (22 * nE + 2) (nI 3) 172 35 = I 172 35 := by rw [up2_i (by omega), F7 _ _ (fun z => by unfold aP at z; omega)]; exact hd35
                    have h713 : up2 I7 180 (22 * nE + 2) (nI 3) 172 13 = nI nE := by rw [up2_i (by omega), F7 _ _ (fun z => by unfold aP at z; omega)]; exact hd13
                    refine j_aload_n C (D 104 rfl) rfl ?_
                    refine j_getr C f_X12_31 (lit (kd := 12) (n := 48) rfl) rfl rfl (hL _ _ _ rfl) (D 105 rfl) ?_
                    refine j_iload_n C (D 106 rfl) rfl ?_
                    refine j_iconst C (v := nI 2) (D 107 rfl) rfl ?_
                    refine j_iadd C (D 108 rfl) ?_
                    rw [nI_add]
                    refine j_iload_n C (D 109 rfl) rfl ?_
                    refine j_iast C (lit (kd := 20) (n := 220) rfl) (ix_n (by omega) (by decide)) (D 110 rfl) ?_
                    refine j_iload_n C (D 111 rfl) rfl ?_
                    refine j_iconst C (v := nI 3) (D 112 rfl) rfl ?_
                    refine j_icmp_ne C  221 (D 113 rfl) (by decide) (fun h210 => absurd h210 (fun z => z rfl)) (fun h210 => ?_)
                    refine j_aload_n C (D 114 rfl) rfl ?_
                    refine j_iload_n C (D 115 rfl) rfl ?_
                    refine j_callV C B k_X12_205 (rc_obj C (lit (kd := 12) (n := 48) rfl) rfl rfl) (d_readTable _ _ hL hb hN hltj hS7 hg7 (by omega) (E := fbE (tok f n (i + 1)).1 b)) rfl rfl rfl rfl ⟨Nat.le_refl _, Nat.le_refl _⟩ (D 116 rfl) ?_
                    rintro r w' ⟨rfl, I8, rfl, F8, k4, k5⟩
                    obtain ⟨e, hq3⟩ | ⟨⟨⟨n2, E3⟩, j3⟩, hq3⟩ := rs_c (pTab (tok f n) 9 0 0 0 (fbE (tok f n (i + 1)).1 b) j2)
                    · obtain ⟨e0, e1⟩ := k4 e hq3
                      refine j_goto C 258 (D 117 rfl) (by decide) ?_
                      exact D258 e I8 _ hE (by rw [if_pos hE]; unfold pEv; rw [if_pos hs12, hq1, bnd_r, hq2, bnd_r, show pCur (tok f n) j2 (fbE (tok f n (i + 1)).1 b) = .inl e from by unfold pCur; rw [if_pos hs, hq3, bnd_l], bnd_l]) (hF7.tr (F8.mo (tPe _))) e0 e1 (dd_of e0 (pTab_er hq3))
                    · obtain ⟨y0, y1, y2, y3, y4, y5⟩ := k5 _ hq3
                      have y2 : MS I8 f n j3 := y2
                      have y3 : TBm I8 (22 * nE) n2 E3 := y3
                      have y4 : I8 180 (22 * nE + 3) = nI n2 := y4
                      obtain ⟨z1, z2, z3, z4⟩ := pTab_in hN hltj hq3
                      refine j_goto C 258 (D 117 rfl) (by decide) ?_
                      have hcu : pCur (tok f n) j2 (fbE (tok f n (i + 1)).1 b) = .inr (tbE (n2, E3), j3) := by unfold pCur; rw [if_pos hs, hq3, bnd_r]
                      have e3k : ∀ k, 6 ≤ k → tbE (n2, E3) k = E3 k := fun k hk => by unfold tbE; rw [vu_ne _ _ (by omega), vu_ne _ _ (by omega), vu_ne _ _ (by omega)]
                      have t2 : tbE (n2, E3) 2 = nI 3 := by unfold tbE; rw [vu_ne _ _ (by omega), vu_ne _ _ (by omega), vu_same]
                      have t3 : tbE (n2, E3) 3 = nI n2 := by unfold tbE; rw [vu_ne _ _ (by omega), vu_same]
                      have t4 : tbE (n2, E3) 4 = -1 := by unfold tbE; rw [vu_same]
                      have t0 : ∀ k, k < 2 → tbE (n2, E3) k = fbE (tok f n (i + 1)).1 b k := fun k hk => by unfold tbE; rw [vu_ne _ _ (by omega), vu_ne _ _ (by omega), vu_ne _ _ (by omega)]; exact z4 k (by omega)
                      refine G258 (tbE (n2, E3)) j3 I8 _ hE z2 y2 y0 (by rw [y1]; exact h735) (by rw [F8 _ _ (fun z => by unfold tbP nP at z; omega)]; exact h713) (hF7.tr (F8.mo (tPe _))) (fun k hk => ?_) (fun _ k hk => ?_) (fun e h => ?_) (fun s j h => ?_)
                      · have : k = 0 ∨ k = 1 ∨ k = 2 ∨ k = 3 ∨ k = 4 := by omega
                        rcases this with rfl | rfl | rfl | rfl | rfl
                        · rw [F8 _ _ (fun z => by unfold tbP nP at z; omega), t0 0 (by omega)]; exact h70
                        · rw [F8 _ _ (fun z => by unfold tbP nP at z; omega), t0 1 (by omega)]; exact h71
                        · rw [F8 _ _ (fun z => by unfold tbP nP at z; omega), t2, up2_same]
                        · rw [t3]; exact y4
                        · rw [t4]; exact y5
                      · rw [t3, nI_int (by omega)] at hk
                        rw [e3k _ (by omega), e3k _ (by omega)]
                        exact y3 k (by omega)
                      · rw [if_pos hE]; unfold pEv; rw [if_pos hs12, hq1, bnd_r, hq2, bnd_r, hcu, bnd_r, h, bnd_l]
                      · rw [if_pos hE]; unfold pEv; rw [if_pos hs12, hq1, bnd_r, hq2, bnd_r, hcu, bnd_r, h, bnd_r]
                · refine j_iconst C (v := nI 2) (D 80 rfl) rfl ?_
                  refine j_goto C 172 (D 81 rfl) (by decide) ?_
                  have hs : (tok f n j2).1 = 8 := b2_ne h151
                  have hltj := lt_sg hN (by omega) hs (by decide)
                  have hcv : crv (tok f n j2).1 = 2 := by rw [hs]; rfl
                  refine j_istore_n C (D 89 rfl) rfl ?_
                  refine j_iload_n C (D 90 rfl) rfl ?_
                  refine j_iconst C (v := (-1)) (D 91 rfl) (by decide) ?_
                  refine j_icmp_ne C  187 (D 92 rfl) (by decide) (fun h175 => ?_) (fun h175 => absurd h175 (by decide))
                  refine j_aload_n C (D 98 rfl) rfl ?_
                  refine j_cVp C B k_X12_106 (rc_obj C (lit (kd := 12) (n := 48) rfl) rfl rfl) (d_goodT _ _ hL hgd) rfl rfl rfl rfl ⟨Nat.le_refl _, Nat.le_refl _⟩ (D 99 rfl) ?_
                  refine j_if_ne C  195 (D 100 rfl) (by decide) (fun h191 => ?_) (fun h191 => absurd h191 (by decide))
                  refine j_aload_n C (D 102 rfl) rfl ?_
                  refine j_callV C B k_X12_158 (rc_obj C (lit (kd := 12) (n := 48) rfl) rfl rfl) (d_advance _ _ hL hb hSd (tok_lt_n (by rw [hs]; decide))) rfl rfl rfl rfl ⟨Nat.le_refl _, Nat.le_refl _⟩ (D 103 rfl) ?_
                  rintro r w' ⟨rfl, I7, rfl, F7, S7⟩
                  have hS7 : MS (up2 I7 180 (22 * nE + 2) (nI 2)) f n (j2 + 1) := MS_180 S7 (Fx.up (Fx.rf _ _) rfl)
                  have hg7 : up2 I7 180 (22 * nE + 2) (nI 2) 172 34 = nI 0 := by rw [up2_i (by omega), F7 _ _ (fun z => by unfold aP at z; omega)]; exact hgd
                  have hF7 : Fx (evP (22 * nE)) I (up2 I7 180 (22 * nE + 2) (nI 2)) := Fx.up (hFd.tr (F7.mo (aPe _))) (Or.inr (Or.inl ⟨rfl, by omega, by omega⟩))
                  have h70 : up2 I7 180 (22 * nE + 2) (nI 2) 180 (22 * nE + 0) = fbE (tok f n (i + 1)).1 b 0 := by rw [up2_i (by omega), F7 _ _ (fun z => by unfold aP at z; omega)]; exact hd0
                  have h71 : up2 I7 180 (22 * nE + 2) (nI 2) 180 (22 * nE + 1) = fbE (tok f n (i + 1)).1 b 1 := by rw [up2_i (by omega), F7 _ _ (fun z => by unfold aP at z; omega)]; exact hd1
                  have h735 : up2 I7 180 (22 * nE + 2) (nI 2) 172 35 = I 172 35 := by rw [up2_i (by omega), F7 _ _ (fun z => by unfold aP at z; omega)]; exact hd35
                  have h713 : up2 I7 180 (22 * nE + 2) (nI 2) 172 13 = nI nE := by rw [up2_i (by omega), F7 _ _ (fun z => by unfold aP at z; omega)]; exact hd13
                  refine j_aload_n C (D 104 rfl) rfl ?_
                  refine j_getr C f_X12_31 (lit (kd := 12) (n := 48) rfl) rfl rfl (hL _ _ _ rfl) (D 105 rfl) ?_
                  refine j_iload_n C (D 106 rfl) rfl ?_
                  refine j_iconst C (v := nI 2) (D 107 rfl) rfl ?_
                  refine j_iadd C (D 108 rfl) ?_
                  rw [nI_add]
                  refine j_iload_n C (D 109 rfl) rfl ?_
                  refine j_iast C (lit (kd := 20) (n := 220) rfl) (ix_n (by omega) (by decide)) (D 110 rfl) ?_
                  refine j_iload_n C (D 111 rfl) rfl ?_
                  refine j_iconst C (v := nI 3) (D 112 rfl) rfl ?_
                  refine j_icmp_ne C  221 (D 113 rfl) (by decide) (fun h210 => ?_) (fun h210 => absurd h210 (by decide))
                  refine j_aload_n C (D 118 rfl) rfl ?_
                  refine j_getr C f_X12_31 (lit (kd := 12) (n := 48) rfl) rfl rfl (hL _ _ _ rfl) (D 119 rfl) ?_
                  refine j_iload_n C (D 120 rfl) rfl ?_
                  refine j_iconst C (v := nI 3) (D 121 rfl) rfl ?_
                  refine j_iadd C (D 122 rfl) ?_
                  refine j_aload_n C (D 123 rfl) rfl ?_
                  refine j_iconst C (v := nI 1) (D 124 rfl) rfl ?_
                  refine j_sipush C (v := nI 9999) (D 125 rfl) rfl ?_
                  refine j_callV C B k_X12_178 (rc_obj C (lit (kd := 12) (n := 48) rfl) rfl rfl) (d_number _ _ hL hb hS7 hg7 (lo := 1) (hx := 10000) (hi := nI 9999) (by omega) (by omega) (by decide)) rfl rfl rfl rfl ⟨Nat.le_refl _, Nat.le_refl _⟩ (D 126 rfl) ?_
                  rintro r w' ⟨I8, v8, rfl, rfl, F8, k4, k5⟩
                  obtain ⟨e, hq3⟩ | ⟨⟨a, j4⟩, hq3⟩ := rs_c (pNum (tok f n) (j2 + 1) 1 10000)
                  · obtain ⟨e0, e1⟩ := k4 e hq3
                    have hd8 : ¬ I8 172 34 = 0 := dd_of e0 (pNum_er hq3)
                    rw [nI_add]
                    refine j_iast C (lit (kd := 20) (n := 220) rfl) (ix_n (by omega) (by decide)) (D 127 rfl) ?_
                    exact D237 e _ _ hE (by rw [if_pos hE]; unfold pEv; rw [if_pos hs12, hq1, bnd_r, hq2, bnd_r, show pCur (tok f n) j2 (fbE (tok f n (i + 1)).1 b) = .inl e from by unfold pCur; rw [if_neg (by rw [hs]; decide), hcv, if_neg (by decide)]; unfold pFor; rw [hq3, bnd_l], bnd_l]) (Fx.up (hF7.tr (F8.mo (nPe _))) (Or.inr (Or.inl ⟨rfl, by omega, by omega⟩))) (by rw [up2_i (by omega)]; exact e0) (by rw [up2_i (by omega)]; exact e1) (by rw [up2_i (by omega)]; exact hd8)
                  · obtain ⟨hv, y0, y1, y2⟩ := k5 _ hq3
                    have hv : v8 = nI a := hv
                    subst hv
                    have y2 : MS I8 f n j4 := y2
                    obtain ⟨m1, m2, m3, m4⟩ := pNum_go hN (by omega) hq3
                    have hS8 : MS (up2 I8 180 (22 * nE + 3) (nI a)) f n j4 := MS_180 y2 (Fx.up (Fx.rf _ _) rfl)
                    have hF8 : Fx (evP (22 * nE)) I (up2 I8 180 (22 * nE + 3) (nI a)) := Fx.up (hF7.tr (F8.mo (nPe _))) (Or.inr (Or.inl ⟨rfl, by omega, by omega⟩))
                    rw [nI_add]
                    refine j_iast C (lit (kd := 20) (n := 220) rfl) (ix_n (by omega) (by decide)) (D 127 rfl) ?_
                    refine j_aload_n C (D 128 rfl) rfl ?_
                    refine j_ldcS C (i := 8) (by decide) rfl (D 129 rfl) ?_
                    refine j_callV C B k_X12_193 (rc_obj C (lit (kd := 12) (n := 48) rfl) rfl rfl) (d_passes _ _ hL hb hS8 (by rw [up2_i (by omega)]; exact y0) 8 (by decide)) rfl rfl rfl rfl ⟨Nat.le_refl _, Nat.le_refl _⟩ (D 130 rfl) ?_
                    rintro r w' ⟨rfl, I9, rfl, F9, k6, k7⟩
                    obtain ⟨e, hq4⟩ | ⟨j5, hq4⟩ := rs_c (pTake (tok f n) j4 4)
                    · obtain ⟨e0, e1⟩ := k6 e hq4
                      have hd9 : ¬ I9 172 34 = 0 := dd_of e0 (pTake_er hq4)
                      exact D243 e I9 _ hE (by rw [if_pos hE]; unfold pEv; rw [if_pos hs12, hq1, bnd_r, hq2, bnd_r, show pCur (tok f n) j2 (fbE (tok f n (i + 1)).1 b) = .inl e from by unfold pCur; rw [if_neg (by rw [hs]; decide), hcv, if_neg (by decide)]; unfold pFor; rw [hq3, bnd_r, hq4, bnd_l], bnd_l]) (hF8.tr (F9.mo (nPe _))) e0 e1 hd9
                    · obtain ⟨w0, w1, w2⟩ := k7 j5 hq4
                      have w2 : MS I9 f n j5 := w2
                      obtain ⟨o1, o2⟩ := pTake_go hN (by omega) (by omega) hq4
                      refine j_aload_n C (D 131 rfl) rfl ?_
                      refine j_getr C f_X12_31 (lit (kd := 12) (n := 48) rfl) rfl rfl (hL _ _ _ rfl) (D 132 rfl) ?_
                      refine j_iload_n C (D 133 rfl) rfl ?_
                      refine j_iconst C (v := nI 4) (D 134 rfl) rfl ?_
                      refine j_iadd C (D 135 rfl) ?_
                      refine j_aload_n C (D 136 rfl) rfl ?_
                      refine j_iconst C (v := nI 1) (D 137 rfl) rfl ?_
                      refine j_ldc C (v := 99999) (D 138 rfl) n_X12_177 ?_
                      refine j_callV C B k_X12_178 (rc_obj C (lit (kd := 12) (n := 48) rfl) rfl rfl) (d_number _ _ hL hb w2 w0 (lo := 1) (hx := 100000) (hi := 99999) (by omega) (by omega) (by decide)) rfl rfl rfl rfl ⟨Nat.le_refl _, Nat.le_refl _⟩ (D 139 rfl) ?_
                      rintro r w' ⟨I10, v10, rfl, rfl, F10, k8, k9⟩
                      obtain ⟨e, hq5⟩ | ⟨⟨d, j6⟩, hq5⟩ := rs_c (pNum (tok f n) j5 1 100000)
                      · obtain ⟨e0, e1⟩ := k8 e hq5
                        have hd10 : ¬ I10 172 34 = 0 := dd_of e0 (pNum_er hq5)
                        rw [nI_add]
                        refine j_iast C (lit (kd := 20) (n := 220) rfl) (ix_n (by omega) (by decide)) (D 140 rfl) ?_
                        exact D258 e _ _ hE (by rw [if_pos hE]; unfold pEv; rw [if_pos hs12, hq1, bnd_r, hq2, bnd_r, show pCur (tok f n) j2 (fbE (tok f n (i + 1)).1 b) = .inl e from by unfold pCur; rw [if_neg (by rw [hs]; decide), hcv, if_neg (by decide)]; unfold pFor; rw [hq3, bnd_r, hq4, bnd_r, hq5, bnd_l], bnd_l]) (Fx.up ((hF8.tr (F9.mo (nPe _))).tr (F10.mo (nPe _))) (Or.inr (Or.inl ⟨rfl, by omega, by omega⟩))) (by rw [up2_i (by omega)]; exact e0) (by rw [up2_i (by omega)]; exact e1) (by rw [up2_i (by omega)]; exact hd10)
                      · obtain ⟨hv, r0, r1, r2⟩ := k9 _ hq5
                        have hv : v10 = nI d := hv
                        subst hv
                        have r2 : MS I10 f n j6 := r2
                        obtain ⟨s1, s2, s3, s4⟩ := pNum_go hN (by omega) hq5
                        rw [nI_add]
                        refine j_iast C (lit (kd := 20) (n := 220) rfl) (ix_n (by omega) (by decide)) (D 140 rfl) ?_
                        have hcu : pCur (tok f n) j2 (fbE (tok f n (i + 1)).1 b) = .inr ((va_up (va_up (va_up (fbE (tok f n (i + 1)).1 b) 2 (nI 2)) 3 (nI a)) 4 (nI d)), j6) := by unfold pCur; rw [if_neg (by rw [hs]; decide), hcv, if_neg (by decide)]; unfold pFor; rw [hq3, bnd_r, hq4, bnd_r, hq5, bnd_r]
                        refine G258 (va_up (va_up (va_up (fbE (tok f n (i + 1)).1 b) 2 (nI 2)) 3 (nI a)) 4 (nI d)) j6 _ _ hE (by omega) (MS_180 r2 (Fx.up (Fx.rf _ _) rfl)) (by rw [up2_i (by omega)]; exact r0) (by rw [up2_i (by omega), r1, w1, up2_i (by omega), y1]; exact h735) (by rw [up2_i (by omega), F10 _ _ (fun z => by unfold nP at z; omega), F9 _ _ (fun z => by unfold nP at z; omega), up2_i (by omega), F8 _ _ (fun z => by unfold nP at z; omega)]; exact h713) (Fx.up ((hF8.tr (F9.mo (nPe _))).tr (F10.mo (nPe _))) (Or.inr (Or.inl ⟨rfl, by omega, by omega⟩))) (fun k hk => ?_) (fun z => absurd z ?_) (fun e h => ?_) (fun s j h => ?_)
                        · have : k = 0 ∨ k = 1 ∨ k = 2 ∨ k = 3 ∨ k = 4 := by omega
                          rcases this with rfl | rfl | rfl | rfl | rfl
                          · rw [up2_i (by omega), F10 _ _ (fun z => by unfold nP at z; omega), F9 _ _ (fun z => by unfold nP at z; omega), up2_i (by omega), F8 _ _ (fun z => by unfold nP at z; omega), vu_ne _ _ (by omega), vu_ne _ _ (by omega), vu_ne _ _ (by omega)]; exact h70
                          · rw [up2_i (by omega), F10 _ _ (fun z => by unfold nP at z; omega), F9 _ _ (fun z => by unfold nP at z; omega), up2_i (by omega), F8 _ _ (fun z => by unfold nP at z; omega), vu_ne _ _ (by omega), vu_ne _ _ (by omega), vu_ne _ _ (by omega)]; exact h71
                          · rw [up2_i (by omega), F10 _ _ (fun z => by unfold nP at z; omega), F9 _ _ (fun z => by unfold nP at z; omega), up2_i (by omega), F8 _ _ (fun z => by unfold nP at z; omega), up2_same, vu_ne _ _ (by omega), vu_ne _ _ (by omega), vu_same]
                          · rw [up2_i (by omega), F10 _ _ (fun z => by unfold nP at z; omega), F9 _ _ (fun z => by unfold nP at z; omega), up2_same, vu_ne _ _ (by omega), vu_same]
                          · rw [up2_same, vu_same]
                        · rw [vu_ne _ _ (by omega), vu_ne _ _ (by omega), vu_same]; decide
                        · rw [if_pos hE]; unfold pEv; rw [if_pos hs12, hq1, bnd_r, hq2, bnd_r, hcu, bnd_r, h, bnd_l]
                        · rw [if_pos hE]; unfold pEv; rw [if_pos hs12, hq1, bnd_r, hq2, bnd_r, hcu, bnd_r, h, bnd_r]
              · refine j_iconst C (v := nI 1) (D 74 rfl) rfl ?_
                refine j_goto C 172 (D 75 rfl) (by decide) ?_
                have hs : (tok f n j2).1 = 7 := b2_ne h138
                have hltj := lt_sg hN (by omega) hs (by decide)
                have hcv : crv (tok f n j2).1 = 1 := by rw [hs]; rfl
                refine j_istore_n C (D 89 rfl) rfl ?_
                refine j_iload_n C (D 90 rfl) rfl ?_
                refine j_iconst C (v := (-1)) (D 91 rfl) (by decide) ?_
                refine j_icmp_ne C  187 (D 92 rfl) (by decide) (fun h175 => ?_) (fun h175 => absurd h175 (by decide))
                refine j_aload_n C (D 98 rfl) rfl ?_
                refine j_cVp C B k_X12_106 (rc_obj C (lit (kd := 12) (n := 48) rfl) rfl rfl) (d_goodT _ _ hL hgd) rfl rfl rfl rfl ⟨Nat.le_refl _, Nat.le_refl _⟩ (D 99 rfl) ?_
                refine j_if_ne C  195 (D 100 rfl) (by decide) (fun h191 => ?_) (fun h191 => absurd h191 (by decide))
                refine j_aload_n C (D 102 rfl) rfl ?_
                refine j_callV C B k_X12_158 (rc_obj C (lit (kd := 12) (n := 48) rfl) rfl rfl) (d_advance _ _ hL hb hSd (tok_lt_n (by rw [hs]; decide))) rfl rfl rfl rfl ⟨Nat.le_refl _, Nat.le_refl _⟩ (D 103 rfl) ?_
                rintro r w' ⟨rfl, I7, rfl, F7, S7⟩
                have hS7 : MS (up2 I7 180 (22 * nE + 2) (nI 1)) f n (j2 + 1) := MS_180 S7 (Fx.up (Fx.rf _ _) rfl)
                have hg7 : up2 I7 180 (22 * nE + 2) (nI 1) 172 34 = nI 0 := by rw [up2_i (by omega), F7 _ _ (fun z => by unfold aP at z; omega)]; exact hgd
                have hF7 : Fx (evP (22 * nE)) I (up2 I7 180 (22 * nE + 2) (nI 1)) := Fx.up (hFd.tr (F7.mo (aPe _))) (Or.inr (Or.inl ⟨rfl, by omega, by omega⟩))
                have h70 : up2 I7 180 (22 * nE + 2) (nI 1) 180 (22 * nE + 0) = fbE (tok f n (i + 1)).1 b 0 := by rw [up2_i (by omega), F7 _ _ (fun z => by unfold aP at z; omega)]; exact hd0
                have h71 : up2 I7 180 (22 * nE + 2) (nI 1) 180 (22 * nE + 1) = fbE (tok f n (i + 1)).1 b 1 := by rw [up2_i (by omega), F7 _ _ (fun z => by unfold aP at z; omega)]; exact hd1
                have h735 : up2 I7 180 (22 * nE + 2) (nI 1) 172 35 = I 172 35 := by rw [up2_i (by omega), F7 _ _ (fun z => by unfold aP at z; omega)]; exact hd35
                have h713 : up2 I7 180 (22 * nE + 2) (nI 1) 172 13 = nI nE := by rw [up2_i (by omega), F7 _ _ (fun z => by unfold aP at z; omega)]; exact hd13
                refine j_aload_n C (D 104 rfl) rfl ?_
                refine j_getr C f_X12_31 (lit (kd := 12) (n := 48) rfl) rfl rfl (hL _ _ _ rfl) (D 105 rfl) ?_
                refine j_iload_n C (D 106 rfl) rfl ?_
                refine j_iconst C (v := nI 2) (D 107 rfl) rfl ?_
                refine j_iadd C (D 108 rfl) ?_
                rw [nI_add]
                refine j_iload_n C (D 109 rfl) rfl ?_
                refine j_iast C (lit (kd := 20) (n := 220) rfl) (ix_n (by omega) (by decide)) (D 110 rfl) ?_
                refine j_iload_n C (D 111 rfl) rfl ?_
                refine j_iconst C (v := nI 3) (D 112 rfl) rfl ?_
                refine j_icmp_ne C  221 (D 113 rfl) (by decide) (fun h210 => ?_) (fun h210 => absurd h210 (by decide))
                refine j_aload_n C (D 118 rfl) rfl ?_
                refine j_getr C f_X12_31 (lit (kd := 12) (n := 48) rfl) rfl rfl (hL _ _ _ rfl) (D 119 rfl) ?_
                refine j_iload_n C (D 120 rfl) rfl ?_
                refine j_iconst C (v := nI 3) (D 121 rfl) rfl ?_
                refine j_iadd C (D 122 rfl) ?_
                refine j_aload_n C (D 123 rfl) rfl ?_
                refine j_iconst C (v := nI 1) (D 124 rfl) rfl ?_
                refine j_sipush C (v := nI 9999) (D 125 rfl) rfl ?_
                refine j_callV C B k_X12_178 (rc_obj C (lit (kd := 12) (n := 48) rfl) rfl rfl) (d_number _ _ hL hb hS7 hg7 (lo := 1) (hx := 10000) (hi := nI 9999) (by omega) (by omega) (by decide)) rfl rfl rfl rfl ⟨Nat.le_refl _, Nat.le_refl _⟩ (D 126 rfl) ?_
                rintro r w' ⟨I8, v8, rfl, rfl, F8, k4, k5⟩
                obtain ⟨e, hq3⟩ | ⟨⟨a, j4⟩, hq3⟩ := rs_c (pNum (tok f n) (j2 + 1) 1 10000)
                · obtain ⟨e0, e1⟩ := k4 e hq3
                  have hd8 : ¬ I8 172 34 = 0 := dd_of e0 (pNum_er hq3)
                  rw [nI_add]
                  refine j_iast C (lit (kd := 20) (n := 220) rfl) (ix_n (by omega) (by decide)) (D 127 rfl) ?_
                  exact D237 e _ _ hE (by rw [if_pos hE]; unfold pEv; rw [if_pos hs12, hq1, bnd_r, hq2, bnd_r, show pCur (tok f n) j2 (fbE (tok f n (i + 1)).1 b) = .inl e from by unfold pCur; rw [if_neg (by rw [hs]; decide), hcv, if_neg (by decide)]; unfold pFor; rw [hq3, bnd_l], bnd_l]) (Fx.up (hF7.tr (F8.mo (nPe _))) (Or.inr (Or.inl ⟨rfl, by omega, by omega⟩))) (by rw [up2_i (by omega)]; exact e0) (by rw [up2_i (by omega)]; exact e1) (by rw [up2_i (by omega)]; exact hd8)
                · obtain ⟨hv, y0, y1, y2⟩ := k5 _ hq3
                  have hv : v8 = nI a := hv
                  subst hv
                  have y2 : MS I8 f n j4 := y2
                  obtain ⟨m1, m2, m3, m4⟩ := pNum_go hN (by omega) hq3
                  have hS8 : MS (up2 I8 180 (22 * nE + 3) (nI a)) f n j4 := MS_180 y2 (Fx.up (Fx.rf _ _) rfl)
                  have hF8 : Fx (evP (22 * nE)) I (up2 I8 180 (22 * nE + 3) (nI a)) := Fx.up (hF7.tr (F8.mo (nPe _))) (Or.inr (Or.inl ⟨rfl, by omega, by omega⟩))
                  rw [nI_add]
                  refine j_iast C (lit (kd := 20) (n := 220) rfl) (ix_n (by omega) (by decide)) (D 127 rfl) ?_
                  refine j_aload_n C (D 128 rfl) rfl ?_
                  refine j_ldcS C (i := 8) (by decide) rfl (D 129 rfl) ?_
                  refine j_callV C B k_X12_193 (rc_obj C (lit (kd := 12) (n := 48) rfl) rfl rfl) (d_passes _ _ hL hb hS8 (by rw [up2_i (by omega)]; exact y0) 8 (by decide)) rfl rfl rfl rfl ⟨Nat.le_refl _, Nat.le_refl _⟩ (D 130 rfl) ?_
                  rintro r w' ⟨rfl, I9, rfl, F9, k6, k7⟩
                  obtain ⟨e, hq4⟩ | ⟨j5, hq4⟩ := rs_c (pTake (tok f n) j4 4)
                  · obtain ⟨e0, e1⟩ := k6 e hq4
                    have hd9 : ¬ I9 172 34 = 0 := dd_of e0 (pTake_er hq4)
                    exact D243 e I9 _ hE (by rw [if_pos hE]; unfold pEv; rw [if_pos hs12, hq1, bnd_r, hq2, bnd_r, show pCur (tok f n) j2 (fbE (tok f n (i + 1)).1 b) = .inl e from by unfold pCur; rw [if_neg (by rw [hs]; decide), hcv, if_neg (by decide)]; unfold pFor; rw [hq3, bnd_r, hq4, bnd_l], bnd_l]) (hF8.tr (F9.mo (nPe _))) e0 e1 hd9
                  · obtain ⟨w0, w1, w2⟩ := k7 j5 hq4
                    have w2 : MS I9 f n j5 := w2
                    obtain ⟨o1, o2⟩ := pTake_go hN (by omega) (by omega) hq4
                    refine j_aload_n C (D 131 rfl) rfl ?_
                    refine j_getr C f_X12_31 (lit (kd := 12) (n := 48) rfl) rfl rfl (hL _ _ _ rfl) (D 132 rfl) ?_
                    refine j_iload_n C (D 133 rfl) rfl ?_
                    refine j_iconst C (v := nI 4) (D 134 rfl) rfl ?_
                    refine j_iadd C (D 135 rfl) ?_
                    refine j_aload_n C (D 136 rfl) rfl ?_
                    refine j_iconst C (v := nI 1) (D 137 rfl) rfl ?_
                    refine j_ldc C (v := 99999) (D 138 rfl) n_X12_177 ?_
                    refine j_callV C B k_X12_178 (rc_obj C (lit (kd := 12) (n := 48) rfl) rfl rfl) (d_number _ _ hL hb w2 w0 (lo := 1) (hx := 100000) (hi := 99999) (by omega) (by omega) (by decide)) rfl rfl rfl rfl ⟨Nat.le_refl _, Nat.le_refl _⟩ (D 139 rfl) ?_
                    rintro r w' ⟨I10, v10, rfl, rfl, F10, k8, k9⟩
                    obtain ⟨e, hq5⟩ | ⟨⟨d, j6⟩, hq5⟩ := rs_c (pNum (tok f n) j5 1 100000)
                    · obtain ⟨e0, e1⟩ := k8 e hq5
                      have hd10 : ¬ I10 172 34 = 0 := dd_of e0 (pNum_er hq5)
                      rw [nI_add]
                      refine j_iast C (lit (kd := 20) (n := 220) rfl) (ix_n (by omega) (by decide)) (D 140 rfl) ?_
                      exact D258 e _ _ hE (by rw [if_pos hE]; unfold pEv; rw [if_pos hs12, hq1, bnd_r, hq2, bnd_r, show pCur (tok f n) j2 (fbE (tok f n (i + 1)).1 b) = .inl e from by unfold pCur; rw [if_neg (by rw [hs]; decide), hcv, if_neg (by decide)]; unfold pFor; rw [hq3, bnd_r, hq4, bnd_r, hq5, bnd_l], bnd_l]) (Fx.up ((hF8.tr (F9.mo (nPe _))).tr (F10.mo (nPe _))) (Or.inr (Or.inl ⟨rfl, by omega, by omega⟩))) (by rw [up2_i (by omega)]; exact e0) (by rw [up2_i (by omega)]; exact e1) (by rw [up2_i (by omega)]; exact hd10)
                    · obtain ⟨hv, r0, r1, r2⟩ := k9 _ hq5
                      have hv : v10 = nI d := hv
                      subst hv
                      have r2 : MS I10 f n j6 := r2
                      obtain ⟨s1, s2, s3, s4⟩ := pNum_go hN (by omega) hq5
                      rw [nI_add]
                      refine j_iast C (lit (kd := 20) (n := 220) rfl) (ix_n (by omega) (by decide)) (D 140 rfl) ?_
                      have hcu : pCur (tok f n) j2 (fbE (tok f n (i + 1)).1 b) = .inr ((va_up (va_up (va_up (fbE (tok f n (i + 1)).1 b) 2 (nI 1)) 3 (nI a)) 4 (nI d)), j6) := by unfold pCur; rw [if_neg (by rw [hs]; decide), hcv, if_neg (by decide)]; unfold pFor; rw [hq3, bnd_r, hq4, bnd_r, hq5, bnd_r]
                      refine G258 (va_up (va_up (va_up (fbE (tok f n (i + 1)).1 b) 2 (nI 1)) 3 (nI a)) 4 (nI d)) j6 _ _ hE (by omega) (MS_180 r2 (Fx.up (Fx.rf _ _) rfl)) (by rw [up2_i (by omega)]; exact r0) (by rw [up2_i (by omega), r1, w1, up2_i (by omega), y1]; exact h735) (by rw [up2_i (by omega), F10 _ _ (fun z => by unfold nP at z; omega), F9 _ _ (fun z => by unfold nP at z; omega), up2_i (by omega), F8 _ _ (fun z => by unfold nP at z; omega)]; exact h713) (Fx.up ((hF8.tr (F9.mo (nPe _))).tr (F10.mo (nPe _))) (Or.inr (Or.inl ⟨rfl, by omega, by omega⟩))) (fun k hk => ?_) (fun z => absurd z ?_) (fun e h => ?_) (fun s j h => ?_)
                      · have : k = 0 ∨ k = 1 ∨ k = 2 ∨ k = 3 ∨ k = 4 := by omega
                        rcases this with rfl | rfl | rfl | rfl | rfl
                        · rw [up2_i (by omega), F10 _ _ (fun z => by unfold nP at z; omega), F9 _ _ (fun z => by unfold nP at z; omega), up2_i (by omega), F8 _ _ (fun z => by unfold nP at z; omega), vu_ne _ _ (by omega), vu_ne _ _ (by omega), vu_ne _ _ (by omega)]; exact h70
                        · rw [up2_i (by omega), F10 _ _ (fun z => by unfold nP at z; omega), F9 _ _ (fun z => by unfold nP at z; omega), up2_i (by omega), F8 _ _ (fun z => by unfold nP at z; omega), vu_ne _ _ (by omega), vu_ne _ _ (by omega), vu_ne _ _ (by omega)]; exact h71
                        · rw [up2_i (by omega), F10 _ _ (fun z => by unfold nP at z; omega), F9 _ _ (fun z => by unfold nP at z; omega), up2_i (by omega), F8 _ _ (fun z => by unfold nP at z; omega), up2_same, vu_ne _ _ (by omega), vu_ne _ _ (by omega), vu_same]
                        · rw [up2_i (by omega), F10 _ _ (fun z => by unfold nP at z; omega), F9 _ _ (fun z => by unfold nP at z; omega), up2_same, vu_ne _ _ (by omega), vu_same]
                        · rw [up2_same, vu_same]
                      · rw [vu_ne _ _ (by omega), vu_ne _ _ (by omega), vu_same]; decide
                      · rw [if_pos hE]; unfold pEv; rw [if_pos hs12, hq1, bnd_r, hq2, bnd_r, hcu, bnd_r, h, bnd_l]
                      · rw [if_pos hE]; unfold pEv; rw [if_pos hs12, hq1, bnd_r, hq2, bnd_r, hcu, bnd_r, h, bnd_r]
            · refine j_iconst C (v := nI 0) (D 68 rfl) rfl ?_
              refine j_goto C 172 (D 69 rfl) (by decide) ?_
              have hs : (tok f n j2).1 = 6 := b2_ne h125
              have hltj := lt_sg hN (by omega) hs (by decide)
              have hcv : crv (tok f n j2).1 = 0 := by rw [hs]; rfl
              refine j_istore_n C (D 89 rfl) rfl ?_
              refine j_iload_n C (D 90 rfl) rfl ?_
              refine j_iconst C (v := (-1)) (D 91 rfl) (by decide) ?_
              refine j_icmp_ne C  187 (D 92 rfl) (by decide) (fun h175 => ?_) (fun h175 => absurd h175 (by decide))
              refine j_aload_n C (D 98 rfl) rfl ?_
              refine j_cVp C B k_X12_106 (rc_obj C (lit (kd := 12) (n := 48) rfl) rfl rfl) (d_goodT _ _ hL hgd) rfl rfl rfl rfl ⟨Nat.le_refl _, Nat.le_refl _⟩ (D 99 rfl) ?_
              refine j_if_ne C  195 (D 100 rfl) (by decide) (fun h191 => ?_) (fun h191 => absurd h191 (by decide))
              refine j_aload_n C (D 102 rfl) rfl ?_
              refine j_callV C B k_X12_158 (rc_obj C (lit (kd := 12) (n := 48) rfl) rfl rfl) (d_advance _ _ hL hb hSd (tok_lt_n (by rw [hs]; decide))) rfl rfl rfl rfl ⟨Nat.le_refl _, Nat.le_refl _⟩ (D 103 rfl) ?_
              rintro r w' ⟨rfl, I7, rfl, F7, S7⟩
              have hS7 : MS (up2 I7 180 (22 * nE + 2) (nI 0)) f n (j2 + 1) := MS_180 S7 (Fx.up (Fx.rf _ _) rfl)
              have hg7 : up2 I7 180 (22 * nE + 2) (nI 0) 172 34 = nI 0 := by rw [up2_i (by omega), F7 _ _ (fun z => by unfold aP at z; omega)]; exact hgd
              have hF7 : Fx (evP (22 * nE)) I (up2 I7 180 (22 * nE + 2) (nI 0)) := Fx.up (hFd.tr (F7.mo (aPe _))) (Or.inr (Or.inl ⟨rfl, by omega, by omega⟩))
              have h70 : up2 I7 180 (22 * nE + 2) (nI 0) 180 (22 * nE + 0) = fbE (tok f n (i + 1)).1 b 0 := by rw [up2_i (by omega), F7 _ _ (fun z => by unfold aP at z; omega)]; exact hd0
              have h71 : up2 I7 180 (22 * nE + 2) (nI 0) 180 (22 * nE + 1) = fbE (tok f n (i + 1)).1 b 1 := by rw [up2_i (by omega), F7 _ _ (fun z => by unfold aP at z; omega)]; exact hd1
              have h735 : up2 I7 180 (22 * nE + 2) (nI 0) 172 35 = I 172 35 := by rw [up2_i (by omega), F7 _ _ (fun z => by unfold aP at z; omega)]; exact hd35
              have h713 : up2 I7 180 (22 * nE + 2) (nI 0) 172 13 = nI nE := by rw [up2_i (by omega), F7 _ _ (fun z => by unfold aP at z; omega)]; exact hd13
              refine j_aload_n C (D 104 rfl) rfl ?_
              refine j_getr C f_X12_31 (lit (kd := 12) (n := 48) rfl) rfl rfl (hL _ _ _ rfl) (D 105 rfl) ?_
              refine j_iload_n C (D 106 rfl) rfl ?_
              refine j_iconst C (v := nI 2) (D 107 rfl) rfl ?_
              refine j_iadd C (D 108 rfl) ?_
              rw [nI_add]
              refine j_iload_n C (D 109 rfl) rfl ?_
              refine j_iast C (lit (kd := 20) (n := 220) rfl) (ix_n (by omega) (by decide)) (D 110 rfl) ?_
              refine j_iload_n C (D 111 rfl) rfl ?_
              refine j_iconst C (v := nI 3) (D 112 rfl) rfl ?_
              refine j_icmp_ne C  221 (D 113 rfl) (by decide) (fun h210 => ?_) (fun h210 => absurd h210 (by decide))
              refine j_aload_n C (D 118 rfl) rfl ?_
              refine j_getr C f_X12_31 (lit (kd := 12) (n := 48) rfl) rfl rfl (hL _ _ _ rfl) (D 119 rfl) ?_
              refine j_iload_n C (D 120 rfl) rfl ?_
              refine j_iconst C (v := nI 3) (D 121 rfl) rfl ?_
              refine j_iadd C (D 122 rfl) ?_
              refine j_aload_n C (D 123 rfl) rfl ?_
              refine j_iconst C (v := nI 1) (D 124 rfl) rfl ?_
              refine j_sipush C (v := nI 9999) (D 125 rfl) rfl ?_
              refine j_callV C B k_X12_178 (rc_obj C (lit (kd := 12) (n := 48) rfl) rfl rfl) (d_number _ _ hL hb hS7 hg7 (lo := 1) (hx := 10000) (hi := nI 9999) (by omega) (by omega) (by decide)) rfl rfl rfl rfl ⟨Nat.le_refl _, Nat.le_refl _⟩ (D 126 rfl) ?_
              rintro r w' ⟨I8, v8, rfl, rfl, F8, k4, k5⟩
              obtain ⟨e, hq3⟩ | ⟨⟨a, j4⟩, hq3⟩ := rs_c (pNum (tok f n) (j2 + 1) 1 10000)
              · obtain ⟨e0, e1⟩ := k4 e hq3
                have hd8 : ¬ I8 172 34 = 0 := dd_of e0 (pNum_er hq3)
                rw [nI_add]
                refine j_iast C (lit (kd := 20) (n := 220) rfl) (ix_n (by omega) (by decide)) (D 127 rfl) ?_
                exact D237 e _ _ hE (by rw [if_pos hE]; unfold pEv; rw [if_pos hs12, hq1, bnd_r, hq2, bnd_r, show pCur (tok f n) j2 (fbE (tok f n (i + 1)).1 b) = .inl e from by unfold pCur; rw [if_neg (by rw [hs]; decide), hcv, if_neg (by decide)]; unfold pFor; rw [hq3, bnd_l], bnd_l]) (Fx.up (hF7.tr (F8.mo (nPe _))) (Or.inr (Or.inl ⟨rfl, by omega, by omega⟩))) (by rw [up2_i (by omega)]; exact e0) (by rw [up2_i (by omega)]; exact e1) (by rw [up2_i (by omega)]; exact hd8)
              · obtain ⟨hv, y0, y1, y2⟩ := k5 _ hq3
                have hv : v8 = nI a := hv
                subst hv
                have y2 : MS I8 f n j4 := y2
                obtain ⟨m1, m2, m3, m4⟩ := pNum_go hN (by omega) hq3
                have hS8 : MS (up2 I8 180 (22 * nE + 3) (nI a)) f n j4 := MS_180 y2 (Fx.up (Fx.rf _ _) rfl)
                have hF8 : Fx (evP (22 * nE)) I (up2 I8 180 (22 * nE + 3) (nI a)) := Fx.up (hF7.tr (F8.mo (nPe _))) (Or.inr (Or.inl ⟨rfl, by omega, by omega⟩))
                rw [nI_add]
                refine j_iast C (lit (kd := 20) (n := 220) rfl) (ix_n (by omega) (by decide)) (D 127 rfl) ?_
                refine j_aload_n C (D 128 rfl) rfl ?_
                refine j_ldcS C (i := 8) (by decide) rfl (D 129 rfl) ?_
                refine j_callV C B k_X12_193 (rc_obj C (lit (kd := 12) (n := 48) rfl) rfl rfl) (d_passes _ _ hL hb hS8 (by rw [up2_i (by omega)]; exact y0) 8 (by decide)) rfl rfl rfl rfl ⟨Nat.le_refl _, Nat.le_refl _⟩ (D 130 rfl) ?_
                rintro r w' ⟨rfl, I9, rfl, F9, k6, k7⟩
                obtain ⟨e, hq4⟩ | ⟨j5, hq4⟩ := rs_c (pTake (tok f n) j4 4)
                · obtain ⟨e0, e1⟩ := k6 e hq4
                  have hd9 : ¬ I9 172 34 = 0 := dd_of e0 (pTake_er hq4)
                  exact D243 e I9 _ hE (by rw [if_pos hE]; unfold pEv; rw [if_pos hs12, hq1, bnd_r, hq2, bnd_r, show pCur (tok f n) j2 (fbE (tok f n (i + 1)).1 b) = .inl e from by unfold pCur; rw [if_neg (by rw [hs]; decide), hcv, if_neg (by decide)]; unfold pFor; rw [hq3, bnd_r, hq4, bnd_l], bnd_l]) (hF8.tr (F9.mo (nPe _))) e0 e1 hd9
                · obtain ⟨w0, w1, w2⟩ := k7 j5 hq4
                  have w2 : MS I9 f n j5 := w2
                  obtain ⟨o1, o2⟩ := pTake_go hN (by omega) (by omega) hq4
                  refine j_aload_n C (D 131 rfl) rfl ?_
                  refine j_getr C f_X12_31 (lit (kd := 12) (n := 48) rfl) rfl rfl (hL _ _ _ rfl) (D 132 rfl) ?_
                  refine j_iload_n C (D 133 rfl) rfl ?_
                  refine j_iconst C (v := nI 4) (D 134 rfl) rfl ?_
                  refine j_iadd C (D 135 rfl) ?_
                  refine j_aload_n C (D 136 rfl) rfl ?_
                  refine j_iconst C (v := nI 1) (D 137 rfl) rfl ?_
                  refine j_ldc C (v := 99999) (D 138 rfl) n_X12_177 ?_
                  refine j_callV C B k_X12_178 (rc_obj C (lit (kd := 12) (n := 48) rfl) rfl rfl) (d_number _ _ hL hb w2 w0 (lo := 1) (hx := 100000) (hi := 99999) (by omega) (by omega) (by decide)) rfl rfl rfl rfl ⟨Nat.le_refl _, Nat.le_refl _⟩ (D 139 rfl) ?_
                  rintro r w' ⟨I10, v10, rfl, rfl, F10, k8, k9⟩
                  obtain ⟨e, hq5⟩ | ⟨⟨d, j6⟩, hq5⟩ := rs_c (pNum (tok f n) j5 1 100000)
                  · obtain ⟨e0, e1⟩ := k8 e hq5
                    have hd10 : ¬ I10 172 34 = 0 := dd_of e0 (pNum_er hq5)
                    rw [nI_add]
                    refine j_iast C (lit (kd := 20) (n := 220) rfl) (ix_n (by omega) (by decide)) (D 140 rfl) ?_
                    exact D258 e _ _ hE (by rw [if_pos hE]; unfold pEv; rw [if_pos hs12, hq1, bnd_r, hq2, bnd_r, show pCur (tok f n) j2 (fbE (tok f n (i + 1)).1 b) = .inl e from by unfold pCur; rw [if_neg (by rw [hs]; decide), hcv, if_neg (by decide)]; unfold pFor; rw [hq3, bnd_r, hq4, bnd_r, hq5, bnd_l], bnd_l]) (Fx.up ((hF8.tr (F9.mo (nPe _))).tr (F10.mo (nPe _))) (Or.inr (Or.inl ⟨rfl, by omega, by omega⟩))) (by rw [up2_i (by omega)]; exact e0) (by rw [up2_i (by omega)]; exact e1) (by rw [up2_i (by omega)]; exact hd10)
                  · obtain ⟨hv, r0, r1, r2⟩ := k9 _ hq5
                    have hv : v10 = nI d := hv
                    subst hv
                    have r2 : MS I10 f n j6 := r2
                    obtain ⟨s1, s2, s3, s4⟩ := pNum_go hN (by omega) hq5
                    rw [nI_add]
                    refine j_iast C (lit (kd := 20) (n := 220) rfl) (ix_n (by omega) (by decide)) (D 140 rfl) ?_
                    have hcu : pCur (tok f n) j2 (fbE (tok f n (i + 1)).1 b) = .inr ((va_up (va_up (va_up (fbE (tok f n (i + 1)).1 b) 2 (nI 0)) 3 (nI a)) 4 (nI d)), j6) := by unfold pCur; rw [if_neg (by rw [hs]; decide), hcv, if_neg (by decide)]; unfold pFor; rw [hq3, bnd_r, hq4, bnd_r, hq5, bnd_r]
                    refine G258 (va_up (va_up (va_up (fbE (tok f n (i + 1)).1 b) 2 (nI 0)) 3 (nI a)) 4 (nI d)) j6 _ _ hE (by omega) (MS_180 r2 (Fx.up (Fx.rf _ _) rfl)) (by rw [up2_i (by omega)]; exact r0) (by rw [up2_i (by omega), r1, w1, up2_i (by omega), y1]; exact h735) (by rw [up2_i (by omega), F10 _ _ (fun z => by unfold nP at z; omega), F9 _ _ (fun z => by unfold nP at z; omega), up2_i (by omega), F8 _ _ (fun z => by unfold nP at z; omega)]; exact h713) (Fx.up ((hF8.tr (F9.mo (nPe _))).tr (F10.mo (nPe _))) (Or.inr (Or.inl ⟨rfl, by omega, by omega⟩))) (fun k hk => ?_) (fun z => absurd z ?_) (fun e h => ?_) (fun s j h => ?_)
                    · have : k = 0 ∨ k = 1 ∨ k = 2 ∨ k = 3 ∨ k = 4 := by omega
                      rcases this with rfl | rfl | rfl | rfl | rfl
                      · rw [up2_i (by omega), F10 _ _ (fun z => by unfold nP at z; omega), F9 _ _ (fun z => by unfold nP at z; omega), up2_i (by omega), F8 _ _ (fun z => by unfold nP at z; omega), vu_ne _ _ (by omega), vu_ne _ _ (by omega), vu_ne _ _ (by omega)]; exact h70
                      · rw [up2_i (by omega), F10 _ _ (fun z => by unfold nP at z; omega), F9 _ _ (fun z => by unfold nP at z; omega), up2_i (by omega), F8 _ _ (fun z => by unfold nP at z; omega), vu_ne _ _ (by omega), vu_ne _ _ (by omega), vu_ne _ _ (by omega)]; exact h71
                      · rw [up2_i (by omega), F10 _ _ (fun z => by unfold nP at z; omega), F9 _ _ (fun z => by unfold nP at z; omega), up2_i (by omega), F8 _ _ (fun z => by unfold nP at z; omega), up2_same, vu_ne _ _ (by omega), vu_ne _ _ (by omega), vu_same]
                      · rw [up2_i (by omega), F10 _ _ (fun z => by unfold nP at z; omega), F9 _ _ (fun z => by unfold nP at z; omega), up2_same, vu_ne _ _ (by omega), vu_same]
                      · rw [up2_same, vu_same]
                    · rw [vu_ne _ _ (by omega), vu_ne _ _ (by omega), vu_same]; decide
                    · rw [if_pos hE]; unfold pEv; rw [if_pos hs12, hq1, bnd_r, hq2, bnd_r, hcu, bnd_r, h, bnd_l]
                    · rw [if_pos hE]; unfold pEv; rw [if_pos hs12, hq1, bnd_r, hq2, bnd_r, hcu, bnd_r, h, bnd_r]
      · refine j_aload_n C (D 37 rfl) rfl ?_
        refine j_ldcS C (i := 1) (by decide) rfl (D 38 rfl) ?_
        refine j_cVp C B k_X12_154 (rc_obj C (lit (kd := 12) (n := 48) rfl) rfl rfl) (d_isWord _ _ hL hb hSa hga 1 (by decide)) rfl rfl rfl rfl ⟨Nat.le_refl _, Nat.le_refl _⟩ (D 39 rfl) ?_
        refine j_if_ne C  87 (D 40 rfl) (by decide) (fun h75 => ?_) (fun h75 => ?_)
        · refine j_aload_n C (D 46 rfl) rfl ?_
          refine j_cVp C B k_X12_106 (rc_obj C (lit (kd := 12) (n := 48) rfl) rfl rfl) (d_goodT _ _ hL hga) rfl rfl rfl rfl ⟨Nat.le_refl _, Nat.le_refl _⟩ (D 47 rfl) ?_
          refine j_if_eq C  98 (D 48 rfl) (by decide) (fun h91 => absurd h91 (by decide)) (fun h91 => ?_)
          have hs12 : (tok f n (i + 1)).1 = 2 ∨ (tok f n (i + 1)).1 = 1 := Or.inl (b2_ne h75)
          have hsn2 : spo f n (i + 1) < n := tok_lt_n (by rcases hs12 with z | z <;> rw [z] <;> decide)
          have hlt1 : i + 1 < N := lt_of_T hN.2.1 hlt (by rcases hs12 with z | z <;> rw [z] <;> decide)
          refine j_aload_n C (D 49 rfl) rfl ?_
          refine j_callV C B k_X12_158 (rc_obj C (lit (kd := 12) (n := 48) rfl) rfl rfl) (d_advance _ _ hL hb hSa hsn2) rfl rfl rfl rfl ⟨Nat.le_refl _, Nat.le_refl _⟩ (D 50 rfl) ?_
          rintro r w' ⟨rfl, I4, rfl, F4, hS4⟩
          have hg4 : I4 172 34 = nI 0 := by rw [F4 _ _ (fun z => by unfold aP at z; omega)]; exact hga
          have hF4 : Fx (evP (22 * nE)) I I4 := hFa.tr (F4.mo (aPe _))
          refine j_aload_n C (D 51 rfl) rfl ?_
          refine j_ldcS C (i := 3) (by decide) rfl (D 52 rfl) ?_
          refine j_callV C B k_X12_193 (rc_obj C (lit (kd := 12) (n := 48) rfl) rfl rfl) (d_passes _ _ hL hb hS4 hg4 3 (by decide)) rfl rfl rfl rfl ⟨Nat.le_refl _, Nat.le_refl _⟩ (D 53 rfl) ?_
          rintro r w' ⟨rfl, I5, rfl, F5, k0, k1⟩
          obtain ⟨e, hq1⟩ | ⟨j, hq1⟩ := rs_c (pTake (tok f n) (i + 1 + 1) 3)
          · obtain ⟨e0, e1⟩ := k0 e hq1
            have hd5 : ¬ I5 172 34 = 0 := dd_of e0 (pTake_er hq1)
            exact D104 e I5 _ hE (by rw [if_pos hE]; unfold pEv; rw [if_pos hs12, hq1, bnd_l]) (hF4.tr (F5.mo (nPe _))) e0 e1 hd5
          · obtain ⟨u0, u1, u2⟩ := k1 j hq1
            have u2 : MS I5 f n j := u2
            obtain ⟨c1, c2⟩ := pTake_go hN hlt1 (by omega) hq1
            refine j_aload_n C (D 54 rfl) rfl ?_
            refine j_getr C f_X12_31 (lit (kd := 12) (n := 48) rfl) rfl rfl (hL _ _ _ rfl) (D 55 rfl) ?_
            refine j_iload_n C (D 56 rfl) rfl ?_
            refine j_iconst C (v := nI 1) (D 57 rfl) rfl ?_
            refine j_iadd C (D 58 rfl) ?_
            refine j_aload_n C (D 59 rfl) rfl ?_
            refine j_iconst C (v := nI 0) (D 60 rfl) rfl ?_
            refine j_ldc C (v := 99999) (D 61 rfl) n_X12_177 ?_
            refine j_callV C B k_X12_178 (rc_obj C (lit (kd := 12) (n := 48) rfl) rfl rfl) (d_number _ _ hL hb u2 u0 (lo := 0) (hx := 100000) (hi := 99999) (by omega) (by omega) (by decide)) rfl rfl rfl rfl ⟨Nat.le_refl _, Nat.le_refl _⟩ (D 62 rfl) ?_
            rintro r w' ⟨I6, v6, rfl, rfl, F6, k2, k3⟩
            obtain ⟨e, hq2⟩ | ⟨⟨b, j2⟩, hq2⟩ := rs_c (pNum (tok f n) j 0 100000)
            · obtain ⟨e0, e1⟩ := k2 e hq2
              have hd6 : ¬ I6 172 34 = 0 := dd_of e0 (pNum_er hq2)
              rw [nI_add]
              refine j_iast C (lit (kd := 20) (n := 220) rfl) (ix_n (by omega) (by decide)) (D 63 rfl) ?_
              exact D119 e _ _ hE (by rw [if_pos hE]; unfold pEv; rw [if_pos hs12, hq1, bnd_r, hq2, bnd_l]) (Fx.up ((hF4.tr (F5.mo (nPe _))).tr (F6.mo (nPe _))) (Or.inr (Or.inl ⟨rfl, by omega, by omega⟩))) (by rw [up2_i (by omega)]; exact e0) (by rw [up2_i (by omega)]; exact e1) (by rw [up2_i (by omega)]; exact hd6)
            · obtain ⟨hv, x0, x1, x2⟩ := k3 _ hq2
              have hv : v6 = nI b := hv
              subst hv
              have x2 : MS I6 f n j2 := x2
              obtain ⟨d1, d2, d3, d4⟩ := pNum_go hN (by omega) hq2
              have hSd : MS (up2 I6 180 (22 * nE + 1) (nI b)) f n j2 := MS_180 x2 (Fx.up (Fx.rf _ _) rfl)
              have hgd : up2 I6 180 (22 * nE + 1) (nI b) 172 34 = nI 0 := by rw [up2_i (by omega)]; exact x0
              have hFd : Fx (evP (22 * nE)) I (up2 I6 180 (22 * nE + 1) (nI b)) := Fx.up ((hF4.tr (F5.mo (nPe _))).tr (F6.mo (nPe _))) (Or.inr (Or.inl ⟨rfl, by omega, by omega⟩))
              have hd0 : up2 I6 180 (22 * nE + 1) (nI b) 180 (22 * nE + 0) = fbE (tok f n (i + 1)).1 b 0 := by rw [up2_i (by omega), F6 _ _ (fun z => by unfold nP at z; omega), F5 _ _ (fun z => by unfold nP at z; omega), F4 _ _ (fun z => by unfold aP at z; omega), up2_same, fb0]; exact hfv
              have hd1 : up2 I6 180 (22 * nE + 1) (nI b) 180 (22 * nE + 1) = fbE (tok f n (i + 1)).1 b 1 := by rw [up2_same, fb1]
              have hd35 : up2 I6 180 (22 * nE + 1) (nI b) 172 35 = I 172 35 := by rw [up2_i (by omega), x1, u1, F4 _ _ (fun z => by unfold aP at z; omega), up2_i (by omega), hF2 _ _ (fun z => by unfold aP at z; omega)]
              have hd13 : up2 I6 180 (22 * nE + 1) (nI b) 172 13 = nI nE := by rw [up2_i (by omega), F6 _ _ (fun z => by unfold nP at z; omega), F5 _ _ (fun z => by unfold nP at z; omega), F4 _ _ (fun z => by unfold aP at z; omega), up2_i (by omega), hF2 _ _ (fun z => by unfold aP at z; omega)]; exact h13
              rw [nI_add]
              refine j_iast C (lit (kd := 20) (n := 220) rfl) (ix_n (by omega) (by decide)) (D 63 rfl) ?_
              refine j_aload_n C (D 64 rfl) rfl ?_
              refine j_ldcS C (i := 4) (by decide) rfl (D 65 rfl) ?_
              refine j_cVp C B k_X12_154 (rc_obj C (lit (kd := 12) (n := 48) rfl) rfl rfl) (d_isWord _ _ hL hb hSd hgd 4 (by decide)) rfl rfl rfl rfl ⟨Nat.le_refl _, Nat.le_refl _⟩ (D 66 rfl) ?_
              refine j_if_eq C  132 (D 67 rfl) (by decide) (fun h125 => ?_) (fun h125 => ?_)
              · refine j_aload_n C (D 70 rfl) rfl ?_
                refine j_ldcS C (i := 5) (by decide) rfl (D 71 rfl) ?_
                refine j_cVp C B k_X12_154 (rc_obj C (lit (kd := 12) (n := 48) rfl) rfl rfl) (d_isWord _ _ hL hb hSd hgd 5 (by decide)) rfl rfl rfl rfl ⟨Nat.le_refl _, Nat.le_refl _⟩ (D 72 rfl) ?_
                refine j_if_eq C  145 (D 73 rfl) (by decide) (fun h138 => ?_) (fun h138 => ?_)
                · refine j_aload_n C (D 76 rfl) rfl ?_
                  refine j_ldcS C (i := 6) (by decide) rfl (D 77 rfl) ?_
                  refine j_cVp C B k_X12_154 (rc_obj C (lit (kd := 12) (n := 48) rfl) rfl rfl) (d_isWord _ _ hL hb hSd hgd 6 (by decide)) rfl rfl rfl rfl ⟨Nat.le_refl _, Nat.le_refl _⟩ (D 78 rfl) ?_
                  refine j_if_eq C  158 (D 79 rfl) (by decide) (fun h151 => ?_) (fun h151 => ?_)
                  · refine j_aload_n C (D 82 rfl) rfl ?_
                    refine j_ldcS C (i := 7) (by decide) rfl (D 83 rfl) ?_
                    refine j_cVp C B k_X12_154 (rc_obj C (lit (kd := 12) (n := 48) rfl) rfl rfl) (d_isWord _ _ hL hb hSd hgd 7 (by decide)) rfl rfl rfl rfl ⟨Nat.le_refl _, Nat.le_refl _⟩ (D 84 rfl) ?_
                    refine j_if_eq C  171 (D 85 rfl) (by decide) (fun h164 => ?_) (fun h164 => ?_)
                    · refine j_iconst C (v := (-1)) (D 88 rfl) (by decide) ?_
                      have hcv : crv (tok f n j2).1 = 99 := by unfold crv; rw [if_neg (show ¬ (tok f n j2).1 = 6 from b2_eq h125), if_neg (show ¬ (tok f n j2).1 = 7 from b2_eq h138), if_neg (show ¬ (tok f n j2).1 = 8 from b2_eq h151)]
                      have n9 : ¬ (tok f n j2).1 = 9 := b2_eq h164
                      refine j_istore_n C (D 89 rfl) rfl ?_
                      refine j_iload_n C (D 90 rfl) rfl ?_
                      refine j_iconst C (v := (-1)) (D 91 rfl) (by decide) ?_
                      refine j_icmp_ne C  187 (D 92 rfl) (by decide) (fun h175 => absurd h175 (fun z => z rfl)) (fun h175 => ?_)
                      refine j_aload_n C (D 93 rfl) rfl ?_
                      refine j_iconst C (v := nI 1) (D 94 rfl) rfl ?_
                      refine j_aload_n C (D 95 rfl) rfl ?_
                      refine j_geti C f_X12_120 (lit (kd := 12) (n := 48) rfl) rfl rfl (D 96 rfl) ?_
                      rw [hSd.2.1]
                      refine j_callV C B k_X12_168 (rc_obj C (lit (kd := 12) (n := 48) rfl) rfl rfl) (d_errsT _ _ hL hgd _ _) rfl rfl rfl rfl ⟨Nat.le_refl _, Nat.le_refl _⟩ (D 97 rfl) ?_
                      rintro r w' ⟨rfl, rfl⟩
                      have hdd3 : ¬ up2 (up2 (up2 I6 180 (22 * nE + 1) (nI b)) 172 34 (nI 1)) 172 35 (nI (spo f n j2)) 172 34 = 0 := dd_of (k := 1) (by rw [up2_i (by omega), up2_same]) (by omega)
                      refine j_aload_n C (D 98 rfl) rfl ?_
                      refine j_cVp C B k_X12_106 (rc_obj C (lit (kd := 12) (n := 48) rfl) rfl rfl) (d_goodF _ _ hL hdd3) rfl rfl rfl rfl ⟨Nat.le_refl _, Nat.le_refl _⟩ (D 99 rfl) ?_
                      refine j_if_ne C  195 (D 100 rfl) (by decide) (fun h191 => absurd h191 (fun z => z rfl)) (fun h191 => ?_)
                      exact j_vret C P rfl (D 101 rfl) ⟨Nat.le_refl _, Nat.le_refl _⟩ (MX_e (e := fl (tok f n) j2 1) (by rw [if_pos hE]; unfold pEv; rw [if_pos hs12, hq1, bnd_r, hq2, bnd_r, show pCur (tok f n) j2 (fbE (tok f n (i + 1)).1 b) = .inl (fl (tok f n) j2 1) from by unfold pCur; rw [if_neg n9, if_pos hcv], bnd_l]) (Fx.up (Fx.up hFd (Or.inl ⟨rfl, by omega⟩)) (Or.inl ⟨rfl, by omega⟩)) (by rw [up2_i (by omega), up2_same]; rfl) (by rw [up2_same]; show _ = nI (tok f n j2).2.1; rw [tok_2]))
                    · refine j_iconst C (v := nI 3) (D 86 rfl) rfl ?_
                      refine j_goto C 172 (D 87 rfl) (by decide) ?_
                      have hs : (tok f n j2).1 = 9 := b2_ne h164
                      have hltj := lt_sg hN (by omega) hs (by decide)
                      refine j_istore_n C (D 89 rfl) rfl ?_
                      refine j_iload_n C (D 90 rfl) rfl ?_
                      refine j_iconst C (v := (-1)) (D 91 rfl) (by decide) ?_
                      refine j_icmp_ne C  187 (D 92 rfl) (by decide) (fun h175 => ?_) (fun h175 => absurd h175 (by decide))
                      refine j_aload_n C (D 98 rfl) rfl ?_
                      refine j_cVp C B k_X12_106 (rc_obj C (lit (kd := 12) (n := 48) rfl) rfl rfl) (d_goodT _ _ hL hgd) rfl rfl rfl rfl ⟨Nat.le_refl _, Nat.le_refl _⟩ (D 99 rfl) ?_
                      refine j_if_ne C  195 (D 100 rfl) (by decide) (fun h191 => ?_) (fun h191 => absurd h191 (by decide))
                      refine j_aload_n C (D 102 rfl) rfl ?_
                      refine j_callV C B k_X12_158 (rc_obj C (lit (kd := 12) (n := 48) rfl) rfl rfl) (d_advance _ _ hL hb hSd (tok_lt_n (by rw [hs]; decide))) rfl rfl rfl rfl ⟨Nat.le_refl _, Nat.le_refl _⟩ (D 103 rfl) ?_
                      rintro r w' ⟨rfl, I7, rfl, F7, S7⟩
                      have hS7 : MS (up2 I7 180 (22 * nE + 2) (nI 3)) f n (j2 + 1) := MS_180 S7 (Fx.up (Fx.rf _ _) rfl)
                      have hg7 : up2 I7 180 (22 * nE + 2) (nI 3) 172 34 = nI 0 := by rw [up2_i (by omega), F7 _ _ (fun z => by unfold aP at z; omega)]; exact hgd
                      have hF7 : Fx (evP (22 * nE)) I (up2 I7 180 (22 * nE + 2) (nI 3)) := Fx.up (hFd.tr (F7.mo (aPe _))) (Or.inr (Or.inl ⟨rfl, by omega, by omega⟩))
                      have h70 : up2 I7 180 (22 * nE + 2) (nI 3) 180 (22 * nE + 0) = fbE (tok f n (i + 1)).1 b 0 := by rw [up2_i (by omega), F7 _ _ (fun z => by unfold aP at z; omega)]; exact hd0
                      have h71 : up2 I7 180 (22 * nE + 2) (nI 3) 180 (22 * nE + 1) = fbE (tok f n (i + 1)).1 b 1 := by rw [up2_i (by omega), F7 _ _ (fun z => by unfold aP at z; omega)]; exact hd1
                      have h735 : up2 I7 180 (22 * nE + 2) (nI 3) 172 35 = I 172 35 := by rw [up2_i (by omega), F7 _ _ (fun z => by unfold aP at z; omega)]; exact hd35
                      have h713 : up2 I7 180 (22 * nE + 2) (nI 3) 172 13 = nI nE := by rw [up2_i (by omega), F7 _ _ (fun z => by unfold aP at z; omega)]; exact hd13
                      refine j_aload_n C (D 104 rfl) rfl ?_
                      refine j_getr C f_X12_31 (lit (kd := 12) (n := 48) rfl) rfl rfl (hL _ _ _ rfl) (D 105 rfl) ?_
                      refine j_iload_n C (D 106 rfl) rfl ?_
                      refine j_iconst C (v := nI 2) (D 107 rfl) rfl ?_
                      refine j_iadd C (D 108 rfl) ?_
                      rw [nI_add]
                      refine j_iload_n C (D 109 rfl) rfl ?_
                      refine j_iast C (lit (kd := 20) (n := 220) rfl) (ix_n (by omega) (by decide)) (D 110 rfl) ?_
                      refine j_iload_n C (D 111 rfl) rfl ?_
                      refine j_iconst C (v := nI 3) (D 112 rfl) rfl ?_
                      refine j_icmp_ne C  221 (D 113 rfl) (by decide) (fun h210 => absurd h210 (fun z => z rfl)) (fun h210 => ?_)
                      refine j_aload_n C (D 114 rfl) rfl ?_
                      refine j_iload_n C (D 115 rfl) rfl ?_
                      refine j_callV C B k_X12_205 (rc_obj C (lit (kd := 12) (n := 48) rfl) rfl rfl) (d_readTable _ _ hL hb hN hltj hS7 hg7 (by omega) (E := fbE (tok f n (i + 1)).1 b)) rfl rfl rfl rfl ⟨Nat.le_refl _, Nat.le_refl _⟩ (D 116 rfl) ?_
                      rintro r w' ⟨rfl, I8, rfl, F8, k4, k5⟩
                      obtain ⟨e, hq3⟩ | ⟨⟨⟨n2, E3⟩, j3⟩, hq3⟩ := rs_c (pTab (tok f n) 9 0 0 0 (fbE (tok f n (i + 1)).1 b) j2)
                      · obtain ⟨e0, e1⟩ := k4 e hq3
                        refine j_goto C 258 (D 117 rfl) (by decide) ?_
                        exact D258 e I8 _ hE (by rw [if_pos hE]; unfold pEv; rw [if_pos hs12, hq1, bnd_r, hq2, bnd_r, show pCur (tok f n) j2 (fbE (tok f n (i + 1)).1 b) = .inl e from by unfold pCur; rw [if_pos hs, hq3, bnd_l], bnd_l]) (hF7.tr (F8.mo (tPe _))) e0 e1 (dd_of e0 (pTab_er hq3))
                      · obtain ⟨y0, y1, y2, y3, y4, y5⟩ := k5 _ hq3
                        have y2 : MS I8 f n j3 := y2
                        have y3 : TBm I8 (22 * nE) n2 E3 := y3
                        have y4 : I8 180 (22 * nE + 3) = nI n2 := y4
                        obtain ⟨z1, z2, z3, z4⟩ := pTab_in hN hltj hq3
                        refine j_goto C 258 (D 117 rfl) (by decide) ?_
                        have hcu : pCur (tok f n) j2 (fbE (tok f n (i + 1)).1 b) = .inr (tbE (n2, E3), j3) := by unfold pCur; rw [if_pos hs, hq3, bnd_r]
                        have e3k : ∀ k, 6 ≤ k → tbE (n2, E3) k = E3 k := fun k hk => by unfold tbE; rw [vu_ne _ _ (by omega), vu_ne _ _ (by omega), vu_ne _ _ (by omega)]
                        have t2 : tbE (n2, E3) 2 = nI 3 := by unfold tbE; rw [vu_ne _ _ (by omega), vu_ne _ _ (by omega), vu_same]
                        have t3 : tbE (n2, E3) 3 = nI n2 := by unfold tbE; rw [vu_ne _ _ (by omega), vu_same]
                        have t4 : tbE (n2, E3) 4 = -1 := by unfold tbE; rw [vu_same]
                        have t0 : ∀ k, k < 2 → tbE (n2, E3) k = fbE (tok f n (i + 1)).1 b k := fun k hk => by unfold tbE; rw [vu_ne _ _ (by omega), vu_ne _ _ (by omega), vu_ne _ _ (by omega)]; exact z4 k (by omega)
                        refine G258 (tbE (n2, E3)) j3 I8 _ hE z2 y2 y0 (by rw [y1]; exact h735) (by rw [F8 _ _ (fun z => by unfold tbP nP at z; omega)]; exact h713) (hF7.tr (F8.mo (tPe _))) (fun k hk => ?_) (fun _ k hk => ?_) (fun e h => ?_) (fun s j h => ?_)
                        · have : k = 0 ∨ k = 1 ∨ k = 2 ∨ k = 3 ∨ k = 4 := by omega
                          rcases this with rfl | rfl | rfl | rfl | rfl
                          · rw [F8 _ _ (fun z => by unfold tbP nP at z; omega), t0 0 (by omega)]; exact h70
                          · rw [F8 _ _ (fun z => by unfold tbP nP at z; omega), t0 1 (by omega)]; exact h71
                          · rw [F8 _ _ (fun z => by unfold tbP nP at z; omega), t2, up2_same]
                          · rw [t3]; exact y4
                          · rw [t4]; exact y5
                        · rw [t3, nI_int (by omega)] at hk
                          rw [e3k _ (by omega), e3k _ (by omega)]
                          exact y3 k (by omega)
                        · rw [if_pos hE]; unfold pEv; rw [if_pos hs12, hq1, bnd_r, hq2, bnd_r, hcu, bnd_r, h, bnd_l]
                        · rw [if_pos hE]; unfold pEv; rw [if_pos hs12, hq1, bnd_r, hq2, bnd_r, hcu, bnd_r, h, bnd_r]
                  · refine j_iconst C (v := nI 2) (D 80 rfl) rfl ?_
                    refine j_goto C 172 (D 81 rfl) (by decide) ?_
                    have hs : (tok f n j2).1 = 8 := b2_ne h151
                    have hltj := lt_sg hN (by omega) hs (by decide)
                    have hcv : crv (tok f n j2).1 = 2 := by rw [hs]; rfl
                    refine j_istore_n C (D 89 rfl) rfl ?_
                    refine j_iload_n C (D 90 rfl) rfl ?_
                    refine j_iconst C (v := (-1)) (D 91 rfl) (by decide) ?_
                    refine j_icmp_ne C  187 (D 92 rfl) (by decide) (fun h175 => ?_) (fun h175 => absurd h175 (by decide))
                    refine j_aload_n C (D 98 rfl) rfl ?_
                    refine j_cVp C B k_X12_106 (rc_obj C (lit (kd := 12) (n := 48) rfl) rfl rfl) (d_goodT _ _ hL hgd) rfl rfl rfl rfl ⟨Nat.le_refl _, Nat.le_refl _⟩ (D 99 rfl) ?_
                    refine j_if_ne C  195 (D 100 rfl) (by decide) (fun h191 => ?_) (fun h191 => absurd h191 (by decide))
                    refine j_aload_n C (D 102 rfl) rfl ?_
                    refine j_callV C B k_X12_158 (rc_obj C (lit (kd := 12) (n := 48) rfl) rfl rfl) (d_advance _ _ hL hb hSd (tok_lt_n (by rw [hs]; decide))) rfl rfl rfl rfl ⟨Nat.le_refl _, Nat.le_refl _⟩ (D 103 rfl) ?_
                    rintro r w' ⟨rfl, I7, rfl, F7, S7⟩
                    have hS7 : MS (up2 I7 180 (22 * nE + 2) (nI 2)) f n (j2 + 1) := MS_180 S7 (Fx.up (Fx.rf _ _) rfl)
                    have hg7 : up2 I7 180 (22 * nE + 2) (nI 2) 172 34 = nI 0 := by rw [up2_i (by omega), F7 _ _ (fun z => by unfold aP at z; omega)]; exact hgd
                    have hF7 : Fx (evP (22 * nE)) I (up2 I7 180 (22 * nE + 2) (nI 2)) := Fx.up (hFd.tr (F7.mo (aPe _))) (Or.inr (Or.inl ⟨rfl, by omega, by omega⟩))
                    have h70 : up2 I7 180 (22 * nE + 2) (nI 2) 180 (22 * nE + 0) = fbE (tok f n (i + 1)).1 b 0 := by rw [up2_i (by omega), F7 _ _ (fun z => by unfold aP at z; omega)]; exact hd0
                    have h71 : up2 I7 180 (22 * nE + 2) (nI 2) 180 (22 * nE + 1) = fbE (tok f n (i + 1)).1 b 1 := by rw [up2_i (by omega), F7 _ _ (fun z => by unfold aP at z; omega)]; exact hd1
                    have h735 : up2 I7 180 (22 * nE + 2) (nI 2) 172 35 = I 172 35 := by rw [up2_i (by omega), F7 _ _ (fun z => by unfold aP at z; omega)]; exact hd35
                    have h713 : up2 I7 180 (22 * nE + 2) (nI 2) 172 13 = nI nE := by rw [up2_i (by omega), F7 _ _ (fun z => by unfold aP at z; omega)]; exact hd13
                    refine j_aload_n C (D 104 rfl) rfl ?_
                    refine j_getr C f_X12_31 (lit (kd := 12) (n := 48) rfl) rfl rfl (hL _ _ _ rfl) (D 105 rfl) ?_
                    refine j_iload_n C (D 106 rfl) rfl ?_
                    refine j_iconst C (v := nI 2) (D 107 rfl) rfl ?_
                    refine j_iadd C (D 108 rfl) ?_
                    rw [nI_add]
                    refine j_iload_n C (D 109 rfl) rfl ?_
                    refine j_iast C (lit (kd := 20) (n := 220) rfl) (ix_n (by omega) (by decide)) (D 110 rfl) ?_
                    refine j_iload_n C (D 111 rfl) rfl ?_
                    refine j_iconst C (v := nI 3) (D 112 rfl) rfl ?_
                    refine j_icmp_ne C  221 (D 113 rfl) (by decide) (fun h210 => ?_) (fun h210 => absurd h210 (by decide))
                    refine j_aload_n C (D 118 rfl) rfl ?_
                    refine j_getr C f_X12_31 (lit (kd := 12) (n := 48) rfl) rfl rfl (hL _ _ _ rfl) (D 119 rfl) ?_
                    refine j_iload_n C (D 120 rfl) rfl ?_
                    refine j_iconst C (v := nI 3) (D 121 rfl) rfl ?_
                    refine j_iadd C (D 122 rfl) ?_
                    refine j_aload_n C (D 123 rfl) rfl ?_
                    refine j_iconst C (v := nI 1) (D 124 rfl) rfl ?_
                    refine j_sipush C (v := nI 9999) (D 125 rfl) rfl ?_
                    refine j_callV C B k_X12_178 (rc_obj C (lit (kd := 12) (n := 48) rfl) rfl rfl) (d_number _ _ hL hb hS7 hg7 (lo := 1) (hx := 10000) (hi := nI 9999) (by omega) (by omega) (by decide)) rfl rfl rfl rfl ⟨Nat.le_refl _, Nat.le_refl _⟩ (D 126 rfl) ?_
                    rintro r w' ⟨I8, v8, rfl, rfl, F8, k4, k5⟩
                    obtain ⟨e, hq3⟩ | ⟨⟨a, j4⟩, hq3⟩ := rs_c (pNum (tok f n) (j2 + 1) 1 10000)
                    · obtain ⟨e0, e1⟩ := k4 e hq3
                      have hd8 : ¬ I8 172 34 = 0 := dd_of e0 (pNum_er hq3)
                      rw [nI_add]
                      refine j_iast C (lit (kd := 20) (n := 220) rfl) (ix_n (by omega) (by decide)) (D 127 rfl) ?_
                      exact D237 e _ _ hE (by rw [if_pos hE]; unfold pEv; rw [if_pos hs12, hq1, bnd_r, hq2, bnd_r, show pCur (tok f n) j2 (fbE (tok f n (i + 1)).1 b) = .inl e from by unfold pCur; rw [if_neg (by rw [hs]; decide), hcv, if_neg (by decide)]; unfold pFor; rw [hq3, bnd_l], bnd_l]) (Fx.up (hF7.tr (F8.mo (nPe _))) (Or.inr (Or.inl ⟨rfl, by omega, by omega⟩))) (by rw [up2_i (by omega)]; exact e0) (by rw [up2_i (by omega)]; exact e1) (by rw [up2_i (by omega)]; exact hd8)
                    · obtain ⟨hv, y0, y1, y2⟩ := k5 _ hq3
                      have hv : v8 = nI a := hv
                      subst hv
                      have y2 : MS I8 f n j4 := y2
                      obtain ⟨m1, m2, m3, m4⟩ := pNum_go hN (by omega) hq3
                      have hS8 : MS (up2 I8 180 (22 * nE + 3) (nI a)) f n j4 := MS_180 y2 (Fx.up (Fx.rf _ _) rfl)
                      have hF8 : Fx (evP (22 * nE)) I (up2 I8 180 (22 * nE + 3) (nI a)) := Fx.up (hF7.tr (F8.mo (nPe _))) (Or.inr (Or.inl ⟨rfl, by omega, by omega⟩))
                      rw [nI_add]
                      refine j_iast C (lit (kd := 20) (n := 220) rfl) (ix_n (by omega) (by decide)) (D 127 rfl) ?_
                      refine j_aload_n C (D 128 rfl) rfl ?_
                      refine j_ldcS C (i := 8) (by decide) rfl (D 129 rfl) ?_
                      refine j_callV C B k_X12_193 (rc_obj C (lit (kd := 12) (n := 48) rfl) rfl rfl) (d_passes _ _ hL hb hS8 (by rw [up2_i (by omega)]; exact y0) 8 (by decide)) rfl rfl rfl rfl ⟨Nat.le_refl _, Nat.le_refl _⟩ (D 130 rfl) ?_
                      rintro r w' ⟨rfl, I9, rfl, F9, k6, k7⟩
                      obtain ⟨e, hq4⟩ | ⟨j5, hq4⟩ := rs_c (pTake (tok f n) j4 4)
                      · obtain ⟨e0, e1⟩ := k6 e hq4
                        have hd9 : ¬ I9 172 34 = 0 := dd_of e0 (pTake_er hq4)
                        exact D243 e I9 _ hE (by rw [if_pos hE]; unfold pEv; rw [if_pos hs12, hq1, bnd_r, hq2, bnd_r, show pCur (tok f n) j2 (fbE (tok f n (i + 1)).1 b) = .inl e from by unfold pCur; rw [if_neg (by rw [hs]; decide), hcv, if_neg (by decide)]; unfold pFor; rw [hq3, bnd_r, hq4, bnd_l], bnd_l]) (hF8.tr (F9.mo (nPe _))) e0 e1 hd9
                      · obtain ⟨w0, w1, w2⟩ := k7 j5 hq4
                        have w2 : MS I9 f n j5 := w2
                        obtain ⟨o1, o2⟩ := pTake_go hN (by omega) (by omega) hq4
                        refine j_aload_n C (D 131 rfl) rfl ?_
                        refine j_getr C f_X12_31 (lit (kd := 12) (n := 48) rfl) rfl rfl (hL _ _ _ rfl) (D 132 rfl) ?_
                        refine j_iload_n C (D 133 rfl) rfl ?_
                        refine j_iconst C (v := nI 4) (D 134 rfl) rfl ?_
                        refine j_iadd C (D 135 rfl) ?_
                        refine j_aload_n C (D 136 rfl) rfl ?_
                        refine j_iconst C (v := nI 1) (D 137 rfl) rfl ?_
                        refine j_ldc C (v := 99999) (D 138 rfl) n_X12_177 ?_
                        refine j_callV C B k_X12_178 (rc_obj C (lit (kd := 12) (n := 48) rfl) rfl rfl) (d_number _ _ hL hb w2 w0 (lo := 1) (hx := 100000) (hi := 99999) (by omega) (by omega) (by decide)) rfl rfl rfl rfl ⟨Nat.le_refl _, Nat.le_refl _⟩ (D 139 rfl) ?_
                        rintro r w' ⟨I10, v10, rfl, rfl, F10, k8, k9⟩
                        obtain ⟨e, hq5⟩ | ⟨⟨d, j6⟩, hq5⟩ := rs_c (pNum (tok f n) j5 1 100000)
                        · obtain ⟨e0, e1⟩ := k8 e hq5
                          have hd10 : ¬ I10 172 34 = 0 := dd_of e0 (pNum_er hq5)
                          rw [nI_add]
                          refine j_iast C (lit (kd := 20) (n := 220) rfl) (ix_n (by omega) (by decide)) (D 140 rfl) ?_
                          exact D258 e _ _ hE (by rw [if_pos hE]; unfold pEv; rw [if_pos hs12, hq1, bnd_r, hq2, bnd_r, show pCur (tok f n) j2 (fbE (tok f n (i + 1)).1 b) = .inl e from by unfold pCur; rw [if_neg (by rw [hs]; decide), hcv, if_neg (by decide)]; unfold pFor; rw [hq3, bnd_r, hq4, bnd_r, hq5, bnd_l], bnd_l]) (Fx.up ((hF8.tr (F9.mo (nPe _))).tr (F10.mo (nPe _))) (Or.inr (Or.inl ⟨rfl, by omega, by omega⟩))) (by rw [up2_i (by omega)]; exact e0) (by rw [up2_i (by omega)]; exact e1) (by rw [up2_i (by omega)]; exact hd10)
                        · obtain ⟨hv, r0, r1, r2⟩ := k9 _ hq5
                          have hv : v10 = nI d := hv
                          subst hv
                          have r2 : MS I10 f n j6 := r2
                          obtain ⟨s1, s2, s3, s4⟩ := pNum_go hN (by omega) hq5
                          rw [nI_add]
                          refine j_iast C (lit (kd := 20) (n := 220) rfl) (ix_n (by omega) (by decide)) (D 140 rfl) ?_
                          have hcu : pCur (tok f n) j2 (fbE (tok f n (i + 1)).1 b) = .inr ((va_up (va_up (va_up (fbE (tok f n (i + 1)).1 b) 2 (nI 2)) 3 (nI a)) 4 (nI d)), j6) := by unfold pCur; rw [if_neg (by rw [hs]; decide), hcv, if_neg (by decide)]; unfold pFor; rw [hq3, bnd_r, hq4, bnd_r, hq5, bnd_r]
                          refine G258 (va_up (va_up (va_up (fbE (tok f n (i + 1)).1 b) 2 (nI 2)) 3 (nI a)) 4 (nI d)) j6 _ _ hE (by omega) (MS_180 r2 (Fx.up (Fx.rf _ _) rfl)) (by rw [up2_i (by omega)]; exact r0) (by rw [up2_i (by omega), r1, w1, up2_i (by omega), y1]; exact h735) (by rw [up2_i (by omega), F10 _ _ (fun z => by unfold nP at z; omega), F9 _ _ (fun z => by unfold nP at z; omega), up2_i (by omega), F8 _ _ (fun z => by unfold nP at z; omega)]; exact h713) (Fx.up ((hF8.tr (F9.mo (nPe _))).tr (F10.mo (nPe _))) (Or.inr (Or.inl ⟨rfl, by omega, by omega⟩))) (fun k hk => ?_) (fun z => absurd z ?_) (fun e h => ?_) (fun s j h => ?_)
                          · have : k = 0 ∨ k = 1 ∨ k = 2 ∨ k = 3 ∨ k = 4 := by omega
                            rcases this with rfl | rfl | rfl | rfl | rfl
                            · rw [up2_i (by omega), F10 _ _ (fun z => by unfold nP at z; omega), F9 _ _ (fun z => by unfold nP at z; omega), up2_i (by omega), F8 _ _ (fun z => by unfold nP at z; omega), vu_ne _ _ (by omega), vu_ne _ _ (by omega), vu_ne _ _ (by omega)]; exact h70
                            · rw [up2_i (by omega), F10 _ _ (fun z => by unfold nP at z; omega), F9 _ _ (fun z => by unfold nP at z; omega), up2_i (by omega), F8 _ _ (fun z => by unfold nP at z; omega), vu_ne _ _ (by omega), vu_ne _ _ (by omega), vu_ne _ _ (by omega)]; exact h71
                            · rw [up2_i (by omega), F10 _ _ (fun z => by unfold nP at z; omega), F9 _ _ (fun z => by unfold nP at z; omega), up2_i (by omega), F8 _ _ (fun z => by unfold nP at z; omega), up2_same, vu_ne _ _ (by omega), vu_ne _ _ (by omega), vu_same]
                            · rw [up2_i (by omega), F10 _ _ (fun z => by unfold nP at z; omega), F9 _ _ (fun z => by unfold nP at z; omega), up2_same, vu_ne _ _ (by omega), vu_same]
                            · rw [up2_same, vu_same]
                          · rw [vu_ne _ _ (by omega), vu_ne _ _ (by omega), vu_same]; decide
                          · rw [if_pos hE]; unfold pEv; rw [if_pos hs12, hq1, bnd_r, hq2, bnd_r, hcu, bnd_r, h, bnd_l]
                          · rw [if_pos hE]; unfold pEv; rw [if_pos hs12, hq1, bnd_r, hq2, bnd_r, hcu, bnd_r, h, bnd_r]
                · refine j_iconst C (v := nI 1) (D 74 rfl) rfl ?_
                  refine j_goto C 172 (D 75 rfl) (by decide) ?_
                  have hs : (tok f n j2).1 = 7 := b2_ne h138
                  have hltj := lt_sg hN (by omega) hs (by decide)
                  have hcv : crv (tok f n j2).1 = 1 := by rw [hs]; rfl
                  refine j_istore_n C (D 89 rfl) rfl ?_
                  refine j_iload_n C (D 90 rfl) rfl ?_
                  refine j_iconst C (v := (-1)) (D 91 rfl) (by decide) ?_
                  refine j_icmp_ne C  187 (D 92 rfl) (by decide) (fun h175 => ?_) (fun h175 => absurd h175 (by decide))
                  refine j_aload_n C (D 98 rfl) rfl ?_
                  refine j_cVp C B k_X12_106 (rc_obj C (lit (kd := 12) (n := 48) rfl) rfl rfl) (d_goodT _ _ hL hgd) rfl rfl rfl rfl ⟨Nat.le_refl _, Nat.le_refl _⟩ (D 99 rfl) ?_
                  refine j_if_ne C  195 (D 100 rfl) (by decide) (fun h191 => ?_) (fun h191 => absurd h191 (by decide))
                  refine j_aload_n C (D 102 rfl) rfl ?_
                  refine j_callV C B k_X12_158 (rc_obj C (lit (kd := 12) (n := 48) rfl) rfl rfl) (d_advance _ _ hL hb hSd (tok_lt_n (by rw [hs]; decide))) rfl rfl rfl rfl ⟨Nat.le_refl _, Nat.le_refl _⟩ (D 103 rfl) ?_
                  rintro r w' ⟨rfl, I7, rfl, F7, S7⟩
                  have hS7 : MS (up2 I7 180 (22 * nE + 2) (nI 1)) f n (j2 + 1) := MS_180 S7 (Fx.up (Fx.rf _ _) rfl)
                  have hg7 : up2 I7 180 (22 * nE + 2) (nI 1) 172 34 = nI 0 := by rw [up2_i (by omega), F7 _ _ (fun z => by unfold aP at z; omega)]; exact hgd
                  have hF7 : Fx (evP (22 * nE)) I (up2 I7 180 (22 * nE + 2) (nI 1)) := Fx.up (hFd.tr (F7.mo (aPe _))) (Or.inr (Or.inl ⟨rfl, by omega, by omega⟩))
                  have h70 : up2 I7 180 (22 * nE + 2) (nI 1) 180 (22 * nE + 0) = fbE (tok f n (i + 1)).1 b 0 := by rw [up2_i (by omega), F7 _ _ (fun z => by unfold aP at z; omega)]; exact hd0
                  have h71 : up2 I7 180 (22 * nE + 2) (nI 1) 180 (22 * nE + 1) = fbE (tok f n (i + 1)).1 b 1 := by rw [up2_i (by omega), F7 _ _ (fun z => by unfold aP at z; omega)]; exact hd1
                  have h735 : up2 I7 180 (22 * nE + 2) (nI 1) 172 35 = I 172 35 := by rw [up2_i (by omega), F7 _ _ (fun z => by unfold aP at z; omega)]; exact hd35
                  have h713 : up2 I7 180 (22 * nE + 2) (nI 1) 172 13 = nI nE := by rw [up2_i (by omega), F7 _ _ (fun z => by unfold aP at z; omega)]; exact hd13
                  refine j_aload_n C (D 104 rfl) rfl ?_
                  refine j_getr C f_X12_31 (lit (kd := 12) (n := 48) rfl) rfl rfl (hL _ _ _ rfl) (D 105 rfl) ?_
                  refine j_iload_n C (D 106 rfl) rfl ?_
                  refine j_iconst C (v := nI 2) (D 107 rfl) rfl ?_
                  refine j_iadd C (D 108 rfl) ?_
                  rw [nI_add]
                  refine j_iload_n C (D 109 rfl) rfl ?_
                  refine j_iast C (lit (kd := 20) (n := 220) rfl) (ix_n (by omega) (by decide)) (D 110 rfl) ?_
                  refine j_iload_n C (D 111 rfl) rfl ?_
                  refine j_iconst C (v := nI 3) (D 112 rfl) rfl ?_
                  refine j_icmp_ne C  221 (D 113 rfl) (by decide) (fun h210 => ?_) (fun h210 => absurd h210 (by decide))
                  refine j_aload_n C (D 118 rfl) rfl ?_
                  refine j_getr C f_X12_31 (lit (kd := 12) (n := 48) rfl) rfl rfl (hL _ _ _ rfl) (D 119 rfl) ?_
                  refine j_iload_n C (D 120 rfl) rfl ?_
                  refine j_iconst C (v := nI 3) (D 121 rfl) rfl ?_
                  refine j_iadd C (D 122 rfl) ?_
                  refine j_aload_n C (D 123 rfl) rfl ?_
                  refine j_iconst C (v := nI 1) (D 124 rfl) rfl ?_
                  refine j_sipush C (v := nI 9999) (D 125 rfl) rfl ?_
                  refine j_callV C B k_X12_178 (rc_obj C (lit (kd := 12) (n := 48) rfl) rfl rfl) (d_number _ _ hL hb hS7 hg7 (lo := 1) (hx := 10000) (hi := nI 9999) (by omega) (by omega) (by decide)) rfl rfl rfl rfl ⟨Nat.le_refl _, Nat.le_refl _⟩ (D 126 rfl) ?_
                  rintro r w' ⟨I8, v8, rfl, rfl, F8, k4, k5⟩
                  obtain ⟨e, hq3⟩ | ⟨⟨a, j4⟩, hq3⟩ := rs_c (pNum (tok f n) (j2 + 1) 1 10000)
                  · obtain ⟨e0, e1⟩ := k4 e hq3
                    have hd8 : ¬ I8 172 34 = 0 := dd_of e0 (pNum_er hq3)
                    rw [nI_add]
                    refine j_iast C (lit (kd := 20) (n := 220) rfl) (ix_n (by omega) (by decide)) (D 127 rfl) ?_
                    exact D237 e _ _ hE (by rw [if_pos hE]; unfold pEv; rw [if_pos hs12, hq1, bnd_r, hq2, bnd_r, show pCur (tok f n) j2 (fbE (tok f n (i + 1)).1 b) = .inl e from by unfold pCur; rw [if_neg (by rw [hs]; decide), hcv, if_neg (by decide)]; unfold pFor; rw [hq3, bnd_l], bnd_l]) (Fx.up (hF7.tr (F8.mo (nPe _))) (Or.inr (Or.inl ⟨rfl, by omega, by omega⟩))) (by rw [up2_i (by omega)]; exact e0) (by rw [up2_i (by omega)]; exact e1) (by rw [up2_i (by omega)]; exact hd8)
                  · obtain ⟨hv, y0, y1, y2⟩ := k5 _ hq3
                    have hv : v8 = nI a := hv
                    subst hv
                    have y2 : MS I8 f n j4 := y2
                    obtain ⟨m1, m2, m3, m4⟩ := pNum_go hN (by omega) hq3
                    have hS8 : MS (up2 I8 180 (22 * nE + 3) (nI a)) f n j4 := MS_180 y2 (Fx.up (Fx.rf _ _) rfl)
                    have hF8 : Fx (evP (22 * nE)) I (up2 I8 180 (22 * nE + 3) (nI a)) := Fx.up (hF7.tr (F8.mo (nPe _))) (Or.inr (Or.inl ⟨rfl, by omega, by omega⟩))
                    rw [nI_add]
                    refine j_iast C (lit (kd := 20) (n := 220) rfl) (ix_n (by omega) (by decide)) (D 127 rfl) ?_
                    refine j_aload_n C (D 128 rfl) rfl ?_
                    refine j_ldcS C (i := 8) (by decide) rfl (D 129 rfl) ?_
                    refine j_callV C B k_X12_193 (rc_obj C (lit (kd := 12) (n := 48) rfl) rfl rfl) (d_passes _ _ hL hb hS8 (by rw [up2_i (by omega)]; exact y0) 8 (by decide)) rfl rfl rfl rfl ⟨Nat.le_refl _, Nat.le_refl _⟩ (D 130 rfl) ?_
                    rintro r w' ⟨rfl, I9, rfl, F9, k6, k7⟩
                    obtain ⟨e, hq4⟩ | ⟨j5, hq4⟩ := rs_c (pTake (tok f n) j4 4)
                    · obtain ⟨e0, e1⟩ := k6 e hq4
                      have hd9 : ¬ I9 172 34 = 0 := dd_of e0 (pTake_er hq4)
                      exact D243 e I9 _ hE (by rw [if_pos hE]; unfold pEv; rw [if_pos hs12, hq1, bnd_r, hq2, bnd_r, show pCur (tok f n) j2 (fbE (tok f n (i + 1)).1 b) = .inl e from by unfold pCur; rw [if_neg (by rw [hs]; decide), hcv, if_neg (by decide)]; unfold pFor; rw [hq3, bnd_r, hq4, bnd_l], bnd_l]) (hF8.tr (F9.mo (nPe _))) e0 e1 hd9
                    · obtain ⟨w0, w1, w2⟩ := k7 j5 hq4
                      have w2 : MS I9 f n j5 := w2
                      obtain ⟨o1, o2⟩ := pTake_go hN (by omega) (by omega) hq4
                      refine j_aload_n C (D 131 rfl) rfl ?_
                      refine j_getr C f_X12_31 (lit (kd := 12) (n := 48) rfl) rfl rfl (hL _ _ _ rfl) (D 132 rfl) ?_
                      refine j_iload_n C (D 133 rfl) rfl ?_
                      refine j_iconst C (v := nI 4) (D 134 rfl) rfl ?_
                      refine j_iadd C (D 135 rfl) ?_
                      refine j_aload_n C (D 136 rfl) rfl ?_
                      refine j_iconst C (v := nI 1) (D 137 rfl) rfl ?_
                      refine j_ldc C (v := 99999) (D 138 rfl) n_X12_177 ?_
                      refine j_callV C B k_X12_178 (rc_obj C (lit (kd := 12) (n := 48) rfl) rfl rfl) (d_number _ _ hL hb w2 w0 (lo := 1) (hx := 100000) (hi := 99999) (by omega) (by omega) (by decide)) rfl rfl rfl rfl ⟨Nat.le_refl _, Nat.le_refl _⟩ (D 139 rfl) ?_
                      rintro r w' ⟨I10, v10, rfl, rfl, F10, k8, k9⟩
                      obtain ⟨e, hq5⟩ | ⟨⟨d, j6⟩, hq5⟩ := rs_c (pNum (tok f n) j5 1 100000)
                      · obtain ⟨e0, e1⟩ := k8 e hq5
                        have hd10 : ¬ I10 172 34 = 0 := dd_of e0 (pNum_er hq5)
                        rw [nI_add]
                        refine j_iast C (lit (kd := 20) (n := 220) rfl) (ix_n (by omega) (by decide)) (D 140 rfl) ?_
                        exact D258 e _ _ hE (by rw [if_pos hE]; unfold pEv; rw [if_pos hs12, hq1, bnd_r, hq2, bnd_r, show pCur (tok f n) j2 (fbE (tok f n (i + 1)).1 b) = .inl e from by unfold pCur; rw [if_neg (by rw [hs]; decide), hcv, if_neg (by decide)]; unfold pFor; rw [hq3, bnd_r, hq4, bnd_r, hq5, bnd_l], bnd_l]) (Fx.up ((hF8.tr (F9.mo (nPe _))).tr (F10.mo (nPe _))) (Or.inr (Or.inl ⟨rfl, by omega, by omega⟩))) (by rw [up2_i (by omega)]; exact e0) (by rw [up2_i (by omega)]; exact e1) (by rw [up2_i (by omega)]; exact hd10)
                      · obtain ⟨hv, r0, r1, r2⟩ := k9 _ hq5
                        have hv : v10 = nI d := hv
                        subst hv
                        have r2 : MS I10 f n j6 := r2
                        obtain ⟨s1, s2, s3, s4⟩ := pNum_go hN (by omega) hq5
                        rw [nI_add]
                        refine j_iast C (lit (kd := 20) (n := 220) rfl) (ix_n (by omega) (by decide)) (D 140 rfl) ?_
                        have hcu : pCur (tok f n) j2 (fbE (tok f n (i + 1)).1 b) = .inr ((va_up (va_up (va_up (fbE (tok f n (i + 1)).1 b) 2 (nI 1)) 3 (nI a)) 4 (nI d)), j6) := by unfold pCur; rw [if_neg (by rw [hs]; decide), hcv, if_neg (by decide)]; unfold pFor; rw [hq3, bnd_r, hq4, bnd_r, hq5, bnd_r]
                        refine G258 (va_up (va_up (va_up (fbE (tok f n (i + 1)).1 b) 2 (nI 1)) 3 (nI a)) 4 (nI d)) j6 _ _ hE (by omega) (MS_180 r2 (Fx.up (Fx.rf _ _) rfl)) (by rw [up2_i (by omega)]; exact r0) (by rw [up2_i (by omega), r1, w1, up2_i (by omega), y1]; exact h735) (by rw [up2_i (by omega), F10 _ _ (fun z => by unfold nP at z; omega), F9 _ _ (fun z => by unfold nP at z; omega), up2_i (by omega), F8 _ _ (fun z => by unfold nP at z; omega)]; exact h713) (Fx.up ((hF8.tr (F9.mo (nPe _))).tr (F10.mo (nPe _))) (Or.inr (Or.inl ⟨rfl, by omega, by omega⟩))) (fun k hk => ?_) (fun z => absurd z ?_) (fun e h => ?_) (fun s j h => ?_)
                        · have : k = 0 ∨ k = 1 ∨ k = 2 ∨ k = 3 ∨ k = 4 := by omega
                          rcases this with rfl | rfl | rfl | rfl | rfl
                          · rw [up2_i (by omega), F10 _ _ (fun z => by unfold nP at z; omega), F9 _ _ (fun z => by unfold nP at z; omega), up2_i (by omega), F8 _ _ (fun z => by unfold nP at z; omega), vu_ne _ _ (by omega), vu_ne _ _ (by omega), vu_ne _ _ (by omega)]; exact h70
                          · rw [up2_i (by omega), F10 _ _ (fun z => by unfold nP at z; omega), F9 _ _ (fun z => by unfold nP at z; omega), up2_i (by omega), F8 _ _ (fun z => by unfold nP at z; omega), vu_ne _ _ (by omega), vu_ne _ _ (by omega), vu_ne _ _ (by omega)]; exact h71
                          · rw [up2_i (by omega), F10 _ _ (fun z => by unfold nP at z; omega), F9 _ _ (fun z => by unfold nP at z; omega), up2_i (by omega), F8 _ _ (fun z => by unfold nP at z; omega), up2_same, vu_ne _ _ (by omega), vu_ne _ _ (by omega), vu_same]
                          · rw [up2_i (by omega), F10 _ _ (fun z => by unfold nP at z; omega), F9 _ _ (fun z => by unfold nP at z; omega), up2_same, vu_ne _ _ (by omega), vu_same]
                          · rw [up2_same, vu_same]
                        · rw [vu_ne _ _ (by omega), vu_ne _ _ (by omega), vu_same]; decide
                        · rw [if_pos hE]; unfold pEv; rw [if_pos hs12, hq1, bnd_r, hq2, bnd_r, hcu, bnd_r, h, bnd_l]
                        · rw [if_pos hE]; unfold pEv; rw [if_pos hs12, hq1, bnd_r, hq2, bnd_r, hcu, bnd_r, h, bnd_r]
              · refine j_iconst C (v := nI 0) (D 68 rfl) rfl ?_
                refine j_goto C 172 (D 69 rfl) (by decide) ?_
                have hs : (tok f n j2).1 = 6 := b2_ne h125
                have hltj := lt_sg hN (by omega) hs (by decide)
                have hcv : crv (tok f n j2).1 = 0 := by rw [hs]; rfl
                refine j_istore_n C (D 89 rfl) rfl ?_
                refine j_iload_n C (D 90 rfl) rfl ?_
                refine j_iconst C (v := (-1)) (D 91 rfl) (by decide) ?_
                refine j_icmp_ne C  187 (D 92 rfl) (by decide) (fun h175 => ?_) (fun h175 => absurd h175 (by decide))
                refine j_aload_n C (D 98 rfl) rfl ?_
                refine j_cVp C B k_X12_106 (rc_obj C (lit (kd := 12) (n := 48) rfl) rfl rfl) (d_goodT _ _ hL hgd) rfl rfl rfl rfl ⟨Nat.le_refl _, Nat.le_refl _⟩ (D 99 rfl) ?_
                refine j_if_ne C  195 (D 100 rfl) (by decide) (fun h191 => ?_) (fun h191 => absurd h191 (by decide))
                refine j_aload_n C (D 102 rfl) rfl ?_
                refine j_callV C B k_X12_158 (rc_obj C (lit (kd := 12) (n := 48) rfl) rfl rfl) (d_advance _ _ hL hb hSd (tok_lt_n (by rw [hs]; decide))) rfl rfl rfl rfl ⟨Nat.le_refl _, Nat.le_refl _⟩ (D 103 rfl) ?_
                rintro r w' ⟨rfl, I7, rfl, F7, S7⟩
                have hS7 : MS (up2 I7 180 (22 * nE + 2) (nI 0)) f n (j2 + 1) := MS_180 S7 (Fx.up (Fx.rf _ _) rfl)
                have hg7 : up2 I7 180 (22 * nE + 2) (nI 0) 172 34 = nI 0 := by rw [up2_i (by omega), F7 _ _ (fun z => by unfold aP at z; omega)]; exact hgd
                have hF7 : Fx (evP (22 * nE)) I (up2 I7 180 (22 * nE + 2) (nI 0)) := Fx.up (hFd.tr (F7.mo (aPe _))) (Or.inr (Or.inl ⟨rfl, by omega, by omega⟩))
                have h70 : up2 I7 180 (22 * nE + 2) (nI 0) 180 (22 * nE + 0) = fbE (tok f n (i + 1)).1 b 0 := by rw [up2_i (by omega), F7 _ _ (fun z => by unfold aP at z; omega)]; exact hd0
                have h71 : up2 I7 180 (22 * nE + 2) (nI 0) 180 (22 * nE + 1) = fbE (tok f n (i + 1)).1 b 1 := by rw [up2_i (by omega), F7 _ _ (fun z => by unfold aP at z; omega)]; exact hd1
                have h735 : up2 I7 180 (22 * nE + 2) (nI 0) 172 35 = I 172 35 := by rw [up2_i (by omega), F7 _ _ (fun z => by unfold aP at z; omega)]; exact hd35
                have h713 : up2 I7 180 (22 * nE + 2) (nI 0) 172 13 = nI nE := by rw [up2_i (by omega), F7 _ _ (fun z => by unfold aP at z; omega)]; exact hd13
                refine j_aload_n C (D 104 rfl) rfl ?_
                refine j_getr C f_X12_31 (lit (kd := 12) (n := 48) rfl) rfl rfl (hL _ _ _ rfl) (D 105 rfl) ?_
                refine j_iload_n C (D 106 rfl) rfl ?_
                refine j_iconst C (v := nI 2) (D 107 rfl) rfl ?_
                refine j_iadd C (D 108 rfl) ?_
                rw [nI_add]
                refine j_iload_n C (D 109 rfl) rfl ?_
                refine j_iast C (lit (kd := 20) (n := 220) rfl) (ix_n (by omega) (by decide)) (D 110 rfl) ?_
                refine j_iload_n C (D 111 rfl) rfl ?_
                refine j_iconst C (v := nI 3) (D 112 rfl) rfl ?_
                refine j_icmp_ne C  221 (D 113 rfl) (by decide) (fun h210 => ?_) (fun h210 => absurd h210 (by decide))
                refine j_aload_n C (D 118 rfl) rfl ?_
                refine j_getr C f_X12_31 (lit (kd := 12) (n := 48) rfl) rfl rfl (hL _ _ _ rfl) (D 119 rfl) ?_
                refine j_iload_n C (D 120 rfl) rfl ?_
                refine j_iconst C (v := nI 3) (D 121 rfl) rfl ?_
                refine j_iadd C (D 122 rfl) ?_
                refine j_aload_n C (D 123 rfl) rfl ?_
                refine j_iconst C (v := nI 1) (D 124 rfl) rfl ?_
                refine j_sipush C (v := nI 9999) (D 125 rfl) rfl ?_
                refine j_callV C B k_X12_178 (rc_obj C (lit (kd := 12) (n := 48) rfl) rfl rfl) (d_number _ _ hL hb hS7 hg7 (lo := 1) (hx := 10000) (hi := nI 9999) (by omega) (by omega) (by decide)) rfl rfl rfl rfl ⟨Nat.le_refl _, Nat.le_refl _⟩ (D 126 rfl) ?_
                rintro r w' ⟨I8, v8, rfl, rfl, F8, k4, k5⟩
                obtain ⟨e, hq3⟩ | ⟨⟨a, j4⟩, hq3⟩ := rs_c (pNum (tok f n) (j2 + 1) 1 10000)
                · obtain ⟨e0, e1⟩ := k4 e hq3
                  have hd8 : ¬ I8 172 34 = 0 := dd_of e0 (pNum_er hq3)
                  rw [nI_add]
                  refine j_iast C (lit (kd := 20) (n := 220) rfl) (ix_n (by omega) (by decide)) (D 127 rfl) ?_
                  exact D237 e _ _ hE (by rw [if_pos hE]; unfold pEv; rw [if_pos hs12, hq1, bnd_r, hq2, bnd_r, show pCur (tok f n) j2 (fbE (tok f n (i + 1)).1 b) = .inl e from by unfold pCur; rw [if_neg (by rw [hs]; decide), hcv, if_neg (by decide)]; unfold pFor; rw [hq3, bnd_l], bnd_l]) (Fx.up (hF7.tr (F8.mo (nPe _))) (Or.inr (Or.inl ⟨rfl, by omega, by omega⟩))) (by rw [up2_i (by omega)]; exact e0) (by rw [up2_i (by omega)]; exact e1) (by rw [up2_i (by omega)]; exact hd8)
                · obtain ⟨hv, y0, y1, y2⟩ := k5 _ hq3
                  have hv : v8 = nI a := hv
                  subst hv
                  have y2 : MS I8 f n j4 := y2
                  obtain ⟨m1, m2, m3, m4⟩ := pNum_go hN (by omega) hq3
                  have hS8 : MS (up2 I8 180 (22 * nE + 3) (nI a)) f n j4 := MS_180 y2 (Fx.up (Fx.rf _ _) rfl)
                  have hF8 : Fx (evP (22 * nE)) I (up2 I8 180 (22 * nE + 3) (nI a)) := Fx.up (hF7.tr (F8.mo (nPe _))) (Or.inr (Or.inl ⟨rfl, by omega, by omega⟩))
                  rw [nI_add]
                  refine j_iast C (lit (kd := 20) (n := 220) rfl) (ix_n (by omega) (by decide)) (D 127 rfl) ?_
                  refine j_aload_n C (D 128 rfl) rfl ?_
                  refine j_ldcS C (i := 8) (by decide) rfl (D 129 rfl) ?_
                  refine j_callV C B k_X12_193 (rc_obj C (lit (kd := 12) (n := 48) rfl) rfl rfl) (d_passes _ _ hL hb hS8 (by rw [up2_i (by omega)]; exact y0) 8 (by decide)) rfl rfl rfl rfl ⟨Nat.le_refl _, Nat.le_refl _⟩ (D 130 rfl) ?_
                  rintro r w' ⟨rfl, I9, rfl, F9, k6, k7⟩
                  obtain ⟨e, hq4⟩ | ⟨j5, hq4⟩ := rs_c (pTake (tok f n) j4 4)
                  · obtain ⟨e0, e1⟩ := k6 e hq4
                    have hd9 : ¬ I9 172 34 = 0 := dd_of e0 (pTake_er hq4)
                    exact D243 e I9 _ hE (by rw [if_pos hE]; unfold pEv; rw [if_pos hs12, hq1, bnd_r, hq2, bnd_r, show pCur (tok f n) j2 (fbE (tok f n (i + 1)).1 b) = .inl e from by unfold pCur; rw [if_neg (by rw [hs]; decide), hcv, if_neg (by decide)]; unfold pFor; rw [hq3, bnd_r, hq4, bnd_l], bnd_l]) (hF8.tr (F9.mo (nPe _))) e0 e1 hd9
                  · obtain ⟨w0, w1, w2⟩ := k7 j5 hq4
                    have w2 : MS I9 f n j5 := w2
                    obtain ⟨o1, o2⟩ := pTake_go hN (by omega) (by omega) hq4
                    refine j_aload_n C (D 131 rfl) rfl ?_
                    refine j_getr C f_X12_31 (lit (kd := 12) (n := 48) rfl) rfl rfl (hL _ _ _ rfl) (D 132 rfl) ?_
                    refine j_iload_n C (D 133 rfl) rfl ?_
                    refine j_iconst C (v := nI 4) (D 134 rfl) rfl ?_
                    refine j_iadd C (D 135 rfl) ?_
                    refine j_aload_n C (D 136 rfl) rfl ?_
                    refine j_iconst C (v := nI 1) (D 137 rfl) rfl ?_
                    refine j_ldc C (v := 99999) (D 138 rfl) n_X12_177 ?_
                    refine j_callV C B k_X12_178 (rc_obj C (lit (kd := 12) (n := 48) rfl) rfl rfl) (d_number _ _ hL hb w2 w0 (lo := 1) (hx := 100000) (hi := 99999) (by omega) (by omega) (by decide)) rfl rfl rfl rfl ⟨Nat.le_refl _, Nat.le_refl _⟩ (D 139 rfl) ?_
                    rintro r w' ⟨I10, v10, rfl, rfl, F10, k8, k9⟩
                    obtain ⟨e, hq5⟩ | ⟨⟨d, j6⟩, hq5⟩ := rs_c (pNum (tok f n) j5 1 100000)
                    · obtain ⟨e0, e1⟩ := k8 e hq5
                      have hd10 : ¬ I10 172 34 = 0 := dd_of e0 (pNum_er hq5)
                      rw [nI_add]
                      refine j_iast C (lit (kd := 20) (n := 220) rfl) (ix_n (by omega) (by decide)) (D 140 rfl) ?_
                      exact D258 e _ _ hE (by rw [if_pos hE]; unfold pEv; rw [if_pos hs12, hq1, bnd_r, hq2, bnd_r, show pCur (tok f n) j2 (fbE (tok f n (i + 1)).1 b) = .inl e from by unfold pCur; rw [if_neg (by rw [hs]; decide), hcv, if_neg (by decide)]; unfold pFor; rw [hq3, bnd_r, hq4, bnd_r, hq5, bnd_l], bnd_l]) (Fx.up ((hF8.tr (F9.mo (nPe _))).tr (F10.mo (nPe _))) (Or.inr (Or.inl ⟨rfl, by omega, by omega⟩))) (by rw [up2_i (by omega)]; exact e0) (by rw [up2_i (by omega)]; exact e1) (by rw [up2_i (by omega)]; exact hd10)
                    · obtain ⟨hv, r0, r1, r2⟩ := k9 _ hq5
                      have hv : v10 = nI d := hv
                      subst hv
                      have r2 : MS I10 f n j6 := r2
                      obtain ⟨s1, s2, s3, s4⟩ := pNum_go hN (by omega) hq5
                      rw [nI_add]
                      refine j_iast C (lit (kd := 20) (n := 220) rfl) (ix_n (by omega) (by decide)) (D 140 rfl) ?_
                      have hcu : pCur (tok f n) j2 (fbE (tok f n (i + 1)).1 b) = .inr ((va_up (va_up (va_up (fbE (tok f n (i + 1)).1 b) 2 (nI 0)) 3 (nI a)) 4 (nI d)), j6) := by unfold pCur; rw [if_neg (by rw [hs]; decide), hcv, if_neg (by decide)]; unfold pFor; rw [hq3, bnd_r, hq4, bnd_r, hq5, bnd_r]
                      refine G258 (va_up (va_up (va_up (fbE (tok f n (i + 1)).1 b) 2 (nI 0)) 3 (nI a)) 4 (nI d)) j6 _ _ hE (by omega) (MS_180 r2 (Fx.up (Fx.rf _ _) rfl)) (by rw [up2_i (by omega)]; exact r0) (by rw [up2_i (by omega), r1, w1, up2_i (by omega), y1]; exact h735) (by rw [up2_i (by omega), F10 _ _ (fun z => by unfold nP at z; omega), F9 _ _ (fun z => by unfold nP at z; omega), up2_i (by omega), F8 _ _ (fun z => by unfold nP at z; omega)]; exact h713) (Fx.up ((hF8.tr (F9.mo (nPe _))).tr (F10.mo (nPe _))) (Or.inr (Or.inl ⟨rfl, by omega, by omega⟩))) (fun k hk => ?_) (fun z => absurd z ?_) (fun e h => ?_) (fun s j h => ?_)
                      · have : k = 0 ∨ k = 1 ∨ k = 2 ∨ k = 3 ∨ k = 4 := by omega
                        rcases this with rfl | rfl | rfl | rfl | rfl
                        · rw [up2_i (by omega), F10 _ _ (fun z => by unfold nP at z; omega), F9 _ _ (fun z => by unfold nP at z; omega), up2_i (by omega), F8 _ _ (fun z => by unfold nP at z; omega), vu_ne _ _ (by omega), vu_ne _ _ (by omega), vu_ne _ _ (by omega)]; exact h70
                        · rw [up2_i (by omega), F10 _ _ (fun z => by unfold nP at z; omega), F9 _ _ (fun z => by unfold nP at z; omega), up2_i (by omega), F8 _ _ (fun z => by unfold nP at z; omega), vu_ne _ _ (by omega), vu_ne _ _ (by omega), vu_ne _ _ (by omega)]; exact h71
                        · rw [up2_i (by omega), F10 _ _ (fun z => by unfold nP at z; omega), F9 _ _ (fun z => by unfold nP at z; omega), up2_i (by omega), F8 _ _ (fun z => by unfold nP at z; omega), up2_same, vu_ne _ _ (by omega), vu_ne _ _ (by omega), vu_same]
                        · rw [up2_i (by omega), F10 _ _ (fun z => by unfold nP at z; omega), F9 _ _ (fun z => by unfold nP at z; omega), up2_same, vu_ne _ _ (by omega), vu_same]
                        · rw [up2_same, vu_same]
                      · rw [vu_ne _ _ (by omega), vu_ne _ _ (by omega), vu_same]; decide
                      · rw [if_pos hE]; unfold pEv; rw [if_pos hs12, hq1, bnd_r, hq2, bnd_r, hcu, bnd_r, h, bnd_l]
                      · rw [if_pos hE]; unfold pEv; rw [if_pos hs12, hq1, bnd_r, hq2, bnd_r, hcu, bnd_r, h, bnd_r]
        · refine j_aload_n C (D 41 rfl) rfl ?_
          refine j_iconst C (v := nI 1) (D 42 rfl) rfl ?_
          refine j_aload_n C (D 43 rfl) rfl ?_
          refine j_geti C f_X12_120 (lit (kd := 12) (n := 48) rfl) rfl rfl (D 44 rfl) ?_
          rw [hSa.2.1]
          refine j_callV C B k_X12_168 (rc_obj C (lit (kd := 12) (n := 48) rfl) rfl rfl) (d_errsT _ _ hL hga _ _) rfl rfl rfl rfl ⟨Nat.le_refl _, Nat.le_refl _⟩ (D 45 rfl) ?_
          rintro r w' ⟨rfl, rfl⟩
          have hdd2 : ¬ up2 (up2 (up2 I2 180 (22 * nE + 0) (nI 0)) 172 34 (nI 1)) 172 35 (nI (spo f n (i + 1))) 172 34 = 0 := dd_of (k := 1) (by rw [up2_i (by omega), up2_same]) (by omega)
          refine j_aload_n C (D 46 rfl) rfl ?_
          refine j_cVp C B k_X12_106 (rc_obj C (lit (kd := 12) (n := 48) rfl) rfl rfl) (d_goodF _ _ hL hdd2) rfl rfl rfl rfl ⟨Nat.le_refl _, Nat.le_refl _⟩ (D 47 rfl) ?_
          refine j_if_eq C  98 (D 48 rfl) (by decide) (fun h91 => ?_) (fun h91 => absurd h91 (fun z => z rfl))
          exact D98 (fl (tok f n) (i + 1) 1) _ _ hE (by rw [if_pos hE]; unfold pEv; rw [if_neg (fun z => z.elim (b2_eq h75) (b2_eq h66))]) (Fx.up (Fx.up hFa (Or.inl ⟨rfl, by omega⟩)) (Or.inl ⟨rfl, by omega⟩)) (by rw [up2_i (by omega), up2_same]; rfl) (by rw [up2_same]; show _ = nI (tok f n (i + 1)).2.1; rw [tok_2]) hdd2
    · have h2w : (tok f n (i + 1)).1 = 2 := b2_ne h51
      refine j_iconst C (v := nI 1) (D 29 rfl) rfl ?_
      refine j_goto C 59 (D 30 rfl) (by decide) ?_
      rw [nI_add]
      refine j_iast C (lit (kd := 20) (n := 220) rfl) (ix_n (by omega) (by decide)) (D 32 rfl) ?_
      have hSa : MS (up2 I2 180 (22 * nE + 0) (nI 1)) f n (i + 1) := MS_180 hS2 (Fx.up (Fx.rf _ _) rfl)
      have hga : up2 I2 180 (22 * nE + 0) (nI 1) 172 34 = nI 0 := by rw [up2_i (by omega)]; exact hg2
      have hFa : Fx (evP (22 * nE)) I (up2 I2 180 (22 * nE + 0) (nI 1)) := Fx.up (hF2.mo (aPe _)) (Or.inr (Or.inl ⟨rfl, by omega, by omega⟩))
      have hfv : nI 1 = nI (if (tok f n (i + 1)).1 = 2 then 1 else 0) := by rw [if_pos h2w]
      refine j_aload_n C (D 33 rfl) rfl ?_
      refine j_ldcS C (i := 2) (by decide) rfl (D 34 rfl) ?_
      refine j_cVp C B k_X12_154 (rc_obj C (lit (kd := 12) (n := 48) rfl) rfl rfl) (d_isWord _ _ hL hb hSa hga 2 (by decide)) rfl rfl rfl rfl ⟨Nat.le_refl _, Nat.le_refl _⟩ (D 35 rfl) ?_
      refine j_if_ne C  87 (D 36 rfl) (by decide) (fun h66 => ?_) (fun h66 => ?_)
      · refine j_aload_n C (D 46 rfl) rfl ?_
        refine j_cVp C B k_X12_106 (rc_obj C (lit (kd := 12) (n := 48) rfl) rfl rfl) (d_goodT _ _ hL hga) rfl rfl rfl rfl ⟨Nat.le_refl _, Nat.le_refl _⟩ (D 47 rfl) ?_
        refine j_if_eq C  98 (D 48 rfl) (by decide) (fun h91 => absurd h91 (by decide)) (fun h91 => ?_)
        have hs12 : (tok f n (i + 1)).1 = 2 ∨ (tok f n (i + 1)).1 = 1 := Or.inr (b2_ne h66)
        have hsn2 : spo f n (i + 1) < n := tok_lt_n (by rcases hs12 with z | z <;> rw [z] <;> decide)
        have hlt1 : i + 1 < N := lt_of_T hN.2.1 hlt (by rcases hs12 with z | z <;> rw [z] <;> decide)
        refine j_aload_n C (D 49 rfl) rfl ?_
        refine j_callV C B k_X12_158 (rc_obj C (lit (kd := 12) (n := 48) rfl) rfl rfl) (d_advance _ _ hL hb hSa hsn2) rfl rfl rfl rfl ⟨Nat.le_refl _, Nat.le_refl _⟩ (D 50 rfl) ?_
        rintro r w' ⟨rfl, I4, rfl, F4, hS4⟩
        have hg4 : I4 172 34 = nI 0 := by rw [F4 _ _ (fun z => by unfold aP at z; omega)]; exact hga
        have hF4 : Fx (evP (22 * nE)) I I4 := hFa.tr (F4.mo (aPe _))
        refine j_aload_n C (D 51 rfl) rfl ?_
        refine j_ldcS C (i := 3) (by decide) rfl (D 52 rfl) ?_
        refine j_callV C B k_X12_193 (rc_obj C (lit (kd := 12) (n := 48) rfl) rfl rfl) (d_passes _ _ hL hb hS4 hg4 3 (by decide)) rfl rfl rfl rfl ⟨Nat.le_refl _, Nat.le_refl _⟩ (D 53 rfl) ?_
        rintro r w' ⟨rfl, I5, rfl, F5, k0, k1⟩
        obtain ⟨e, hq1⟩ | ⟨j, hq1⟩ := rs_c (pTake (tok f n) (i + 1 + 1) 3)
        · obtain ⟨e0, e1⟩ := k0 e hq1
          have hd5 : ¬ I5 172 34 = 0 := dd_of e0 (pTake_er hq1)
          exact D104 e I5 _ hE (by rw [if_pos hE]; unfold pEv; rw [if_pos hs12, hq1, bnd_l]) (hF4.tr (F5.mo (nPe _))) e0 e1 hd5
        · obtain ⟨u0, u1, u2⟩ := k1 j hq1
          have u2 : MS I5 f n j := u2
          obtain ⟨c1, c2⟩ := pTake_go hN hlt1 (by omega) hq1
          refine j_aload_n C (D 54 rfl) rfl ?_
          refine j_getr C f_X12_31 (lit (kd := 12) (n := 48) rfl) rfl rfl (hL _ _ _ rfl) (D 55 rfl) ?_
          refine j_iload_n C (D 56 rfl) rfl ?_
          refine j_iconst C (v := nI 1) (D 57 rfl) rfl ?_
          refine j_iadd C (D 58 rfl) ?_
          refine j_aload_n C (D 59 rfl) rfl ?_
          refine j_iconst C (v := nI 0) (D 60 rfl) rfl ?_
          refine j_ldc C (v := 99999) (D 61 rfl) n_X12_177 ?_
          refine j_callV C B k_X12_178 (rc_obj C (lit (kd := 12) (n := 48) rfl) rfl rfl) (d_number _ _ hL hb u2 u0 (lo := 0) (hx := 100000) (hi := 99999) (by omega) (by omega) (by decide)) rfl rfl rfl rfl ⟨Nat.le_refl _, Nat.le_refl _⟩ (D 62 rfl) ?_
          rintro r w' ⟨I6, v6, rfl, rfl, F6, k2, k3⟩
          obtain ⟨e, hq2⟩ | ⟨⟨b, j2⟩, hq2⟩ := rs_c (pNum (tok f n) j 0 100000)
          · obtain ⟨e0, e1⟩ := k2 e hq2
            have hd6 : ¬ I6 172 34 = 0 := dd_of e0 (pNum_er hq2)
            rw [nI_add]
            refine j_iast C (lit (kd := 20) (n := 220) rfl) (ix_n (by omega) (by decide)) (D 63 rfl) ?_
            exact D119 e _ _ hE (by rw [if_pos hE]; unfold pEv; rw [if_pos hs12, hq1, bnd_r, hq2, bnd_l]) (Fx.up ((hF4.tr (F5.mo (nPe _))).tr (F6.mo (nPe _))) (Or.inr (Or.inl ⟨rfl, by omega, by omega⟩))) (by rw [up2_i (by omega)]; exact e0) (by rw [up2_i (by omega)]; exact e1) (by rw [up2_i (by omega)]; exact hd6)
          · obtain ⟨hv, x0, x1, x2⟩ := k3 _ hq2
            have hv : v6 = nI b := hv
            subst hv
            have x2 : MS I6 f n j2 := x2
            obtain ⟨d1, d2, d3, d4⟩ := pNum_go hN (by omega) hq2
            have hSd : MS (up2 I6 180 (22 * nE + 1) (nI b)) f n j2 := MS_180 x2 (Fx.up (Fx.rf _ _) rfl)
            have hgd : up2 I6 180 (22 * nE + 1) (nI b) 172 34 = nI 0 := by rw [up2_i (by omega)]; exact x0
            have hFd : Fx (evP (22 * nE)) I (up2 I6 180 (22 * nE + 1) (nI b)) := Fx.up ((hF4.tr (F5.mo (nPe _))).tr (F6.mo (nPe _))) (Or.inr (Or.inl ⟨rfl, by omega, by omega⟩))
            have hd0 : up2 I6 180 (22 * nE + 1) (nI b) 180 (22 * nE + 0) = fbE (tok f n (i + 1)).1 b 0 := by rw [up2_i (by omega), F6 _ _ (fun z => by unfold nP at z; omega), F5 _ _ (fun z => by unfold nP at z; omega), F4 _ _ (fun z => by unfold aP at z; omega), up2_same, fb0]; exact hfv
            have hd1 : up2 I6 180 (22 * nE + 1) (nI b) 180 (22 * nE + 1) = fbE (tok f n (i + 1)).1 b 1 := by rw [up2_same, fb1]
            have hd35 : up2 I6 180 (22 * nE + 1) (nI b) 172 35 = I 172 35 := by rw [up2_i (by omega), x1, u1, F4 _ _ (fun z => by unfold aP at z; omega), up2_i (by omega), hF2 _ _ (fun z => by unfold aP at z; omega)]
            have hd13 : up2 I6 180 (22 * nE + 1) (nI b) 172 13 = nI nE := by rw [up2_i (by omega), F6 _ _ (fun z => by unfold nP at z; omega), F5 _ _ (fun z => by unfold nP at z; omega), F4 _ _ (fun z => by unfold aP at z; omega), up2_i (by omega), hF2 _ _ (fun z => by unfold aP at z; omega)]; exact h13
            rw [nI_add]
            refine j_iast C (lit (kd := 20) (n := 220) rfl) (ix_n (by omega) (by decide)) (D 63 rfl) ?_
            refine j_aload_n C (D 64 rfl) rfl ?_
            refine j_ldcS C (i := 4) (by decide) rfl (D 65 rfl) ?_
            refine j_cVp C B k_X12_154 (rc_obj C (lit (kd := 12) (n := 48) rfl) rfl rfl) (d_isWord _ _ hL hb hSd hgd 4 (by decide)) rfl rfl rfl rfl ⟨Nat.le_refl _, Nat.le_refl _⟩ (D 66 rfl) ?_
            refine j_if_eq C  132 (D 67 rfl) (by decide) (fun h125 => ?_) (fun h125 => ?_)
            · refine j_aload_n C (D 70 rfl) rfl ?_
              refine j_ldcS C (i := 5) (by decide) rfl (D 71 rfl) ?_
              refine j_cVp C B k_X12_154 (rc_obj C (lit (kd := 12) (n := 48) rfl) rfl rfl) (d_isWord _ _ hL hb hSd hgd 5 (by decide)) rfl rfl rfl rfl ⟨Nat.le_refl _, Nat.le_refl _⟩ (D 72 rfl) ?_
              refine j_if_eq C  145 (D 73 rfl) (by decide) (fun h138 => ?_) (fun h138 => ?_)
              · refine j_aload_n C (D 76 rfl) rfl ?_
                refine j_ldcS C (i := 6) (by decide) rfl (D 77 rfl) ?_
                refine j_cVp C B k_X12_154 (rc_obj C (lit (kd := 12) (n := 48) rfl) rfl rfl) (d_isWord _ _ hL hb hSd hgd 6 (by decide)) rfl rfl rfl rfl ⟨Nat.le_refl _, Nat.le_refl _⟩ (D 78 rfl) ?_
                refine j_if_eq C  158 (D 79 rfl) (by decide) (fun h151 => ?_) (fun h151 => ?_)
                · refine j_aload_n C (D 82 rfl) rfl ?_
                  refine j_ldcS C (i := 7) (by decide) rfl (D 83 rfl) ?_
                  refine j_cVp C B k_X12_154 (rc_obj C (lit (kd := 12) (n := 48) rfl) rfl rfl) (d_isWord _ _ hL hb hSd hgd 7 (by decide)) rfl rfl rfl rfl ⟨Nat.le_refl _, Nat.le_refl _⟩ (D 84 rfl) ?_
                  refine j_if_eq C  171 (D 85 rfl) (by decide) (fun h164 => ?_) (fun h164 => ?_)
                  · refine j_iconst C (v := (-1)) (D 88 rfl) (by decide) ?_
                    have hcv : crv (tok f n j2).1 = 99 := by unfold crv; rw [if_neg (show ¬ (tok f n j2).1 = 6 from b2_eq h125), if_neg (show ¬ (tok f n j2).1 = 7 from b2_eq h138), if_neg (show ¬ (tok f n j2).1 = 8 from b2_eq h151)]
                    have n9 : ¬ (tok f n j2).1 = 9 := b2_eq h164
                    refine j_istore_n C (D 89 rfl) rfl ?_
                    refine j_iload_n C (D 90 rfl) rfl ?_
                    refine j_iconst C (v := (-1)) (D 91 rfl) (by decide) ?_
                    refine j_icmp_ne C  187 (D 92 rfl) (by decide) (fun h175 => absurd h175 (fun z => z rfl)) (fun h175 => ?_)
                    refine j_aload_n C (D 93 rfl) rfl ?_
                    refine j_iconst C (v := nI 1) (D 94 rfl) rfl ?_
                    refine j_aload_n C (D 95 rfl) rfl ?_
                    refine j_geti C f_X12_120 (lit (kd := 12) (n := 48) rfl) rfl rfl (D 96 rfl) ?_
                    rw [hSd.2.1]
                    refine j_callV C B k_X12_168 (rc_obj C (lit (kd := 12) (n := 48) rfl) rfl rfl) (d_errsT _ _ hL hgd _ _) rfl rfl rfl rfl ⟨Nat.le_refl _, Nat.le_refl _⟩ (D 97 rfl) ?_
                    rintro r w' ⟨rfl, rfl⟩
                    have hdd3 : ¬ up2 (up2 (up2 I6 180 (22 * nE + 1) (nI b)) 172 34 (nI 1)) 172 35 (nI (spo f n j2)) 172 34 = 0 := dd_of (k := 1) (by rw [up2_i (by omega), up2_same]) (by omega)
                    refine j_aload_n C (D 98 rfl) rfl ?_
                    refine j_cVp C B k_X12_106 (rc_obj C (lit (kd := 12) (n := 48) rfl) rfl rfl) (d_goodF _ _ hL hdd3) rfl rfl rfl rfl ⟨Nat.le_refl _, Nat.le_refl _⟩ (D 99 rfl) ?_
                    refine j_if_ne C  195 (D 100 rfl) (by decide) (fun h191 => absurd h191 (fun z => z rfl)) (fun h191 => ?_)
                    exact j_vret C P rfl (D 101 rfl) ⟨Nat.le_refl _, Nat.le_refl _⟩ (MX_e (e := fl (tok f n) j2 1) (by rw [if_pos hE]; unfold pEv; rw [if_pos hs12, hq1, bnd_r, hq2, bnd_r, show pCur (tok f n) j2 (fbE (tok f n (i + 1)).1 b) = .inl (fl (tok f n) j2 1) from by unfold pCur; rw [if_neg n9, if_pos hcv], bnd_l]) (Fx.up (Fx.up hFd (Or.inl ⟨rfl, by omega⟩)) (Or.inl ⟨rfl, by omega⟩)) (by rw [up2_i (by omega), up2_same]; rfl) (by rw [up2_same]; show _ = nI (tok f n j2).2.1; rw [tok_2]))
                  · refine j_iconst C (v := nI 3) (D 86 rfl) rfl ?_
                    refine j_goto C 172 (D 87 rfl) (by decide) ?_
                    have hs : (tok f n j2).1 = 9 := b2_ne h164
                    have hltj := lt_sg hN (by omega) hs (by decide)
                    refine j_istore_n C (D 89 rfl) rfl ?_
                    refine j_iload_n C (D 90 rfl) rfl ?_
                    refine j_iconst C (v := (-1)) (D 91 rfl) (by decide) ?_
                    refine j_icmp_ne C  187 (D 92 rfl) (by decide) (fun h175 => ?_) (fun h175 => absurd h175 (by decide))
                    refine j_aload_n C (D 98 rfl) rfl ?_
                    refine j_cVp C B k_X12_106 (rc_obj C (lit (kd := 12) (n := 48) rfl) rfl rfl) (d_goodT _ _ hL hgd) rfl rfl rfl rfl ⟨Nat.le_refl _, Nat.le_refl _⟩ (D 99 rfl) ?_
                    refine j_if_ne C  195 (D 100 rfl) (by decide) (fun h191 => ?_) (fun h191 => absurd h191 (by decide))
                    refine j_aload_n C (D 102 rfl) rfl ?_
                    refine j_callV C B k_X12_158 (rc_obj C (lit (kd := 12) (n := 48) rfl) rfl rfl) (d_advance _ _ hL hb hSd (tok_lt_n (by rw [hs]; decide))) rfl rfl rfl rfl ⟨Nat.le_refl _, Nat.le_refl _⟩ (D 103 rfl) ?_
                    rintro r w' ⟨rfl, I7, rfl, F7, S7⟩
                    have hS7 : MS (up2 I7 180 (22 * nE + 2) (nI 3)) f n (j2 + 1) := MS_180 S7 (Fx.up (Fx.rf _ _) rfl)
                    have hg7 : up2 I7 180 (22 * nE + 2) (nI 3) 172 34 = nI 0 := by rw [up2_i (by omega), F7 _ _ (fun z => by unfold aP at z; omega)]; exact hgd
                    have hF7 : Fx (evP (22 * nE)) I (up2 I7 180 (22 * nE + 2) (nI 3)) := Fx.up (hFd.tr (F7.mo (aPe _))) (Or.inr (Or.inl ⟨rfl, by omega, by omega⟩))
                    have h70 : up2 I7 180 (22 * nE + 2) (nI 3) 180 (22 * nE + 0) = fbE (tok f n (i + 1)).1 b 0 := by rw [up2_i (by omega), F7 _ _ (fun z => by unfold aP at z; omega)]; exact hd0
                    have h71 : up2 I7 180 (22 * nE + 2) (nI 3) 180 (22 * nE + 1) = fbE (tok f n (i + 1)).1 b 1 := by rw [up2_i (by omega), F7 _ _ (fun z => by unfold aP at z; omega)]; exact hd1
                    have h735 : up2 I7 180 (22 * nE + 2) (nI 3) 172 35 = I 172 35 := by rw [up2_i (by omega), F7 _ _ (fun z => by unfold aP at z; omega)]; exact hd35
                    have h713 : up2 I7 180 (22 * nE + 2) (nI 3) 172 13 = nI nE := by rw [up2_i (by omega), F7 _ _ (fun z => by unfold aP at z; omega)]; exact hd13
                    refine j_aload_n C (D 104 rfl) rfl ?_
                    refine j_getr C f_X12_31 (lit (kd := 12) (n := 48) rfl) rfl rfl (hL _ _ _ rfl) (D 105 rfl) ?_
                    refine j_iload_n C (D 106 rfl) rfl ?_
                    refine j_iconst C (v := nI 2) (D 107 rfl) rfl ?_
                    refine j_iadd C (D 108 rfl) ?_
                    rw [nI_add]
                    refine j_iload_n C (D 109 rfl) rfl ?_
                    refine j_iast C (lit (kd := 20) (n := 220) rfl) (ix_n (by omega) (by decide)) (D 110 rfl) ?_
                    refine j_iload_n C (D 111 rfl) rfl ?_
                    refine j_iconst C (v := nI 3) (D 112 rfl) rfl ?_
                    refine j_icmp_ne C  221 (D 113 rfl) (by decide) (fun h210 => absurd h210 (fun z => z rfl)) (fun h210 => ?_)
                    refine j_aload_n C (D 114 rfl) rfl ?_
                    refine j_iload_n C (D 115 rfl) rfl ?_
                    refine j_callV C B k_X12_205 (rc_obj C (lit (kd := 12) (n := 48) rfl) rfl rfl) (d_readTable _ _ hL hb hN hltj hS7 hg7 (by omega) (E := fbE (tok f n (i + 1)).1 b)) rfl rfl rfl rfl ⟨Nat.le_refl _, Nat.le_refl _⟩ (D 116 rfl) ?_
                    rintro r w' ⟨rfl, I8, rfl, F8, k4, k5⟩
                    obtain ⟨e, hq3⟩ | ⟨⟨⟨n2, E3⟩, j3⟩, hq3⟩ := rs_c (pTab (tok f n) 9 0 0 0 (fbE (tok f n (i + 1)).1 b) j2)
                    · obtain ⟨e0, e1⟩ := k4 e hq3
                      refine j_goto C 258 (D 117 rfl) (by decide) ?_
                      exact D258 e I8 _ hE (by rw [if_pos hE]; unfold pEv; rw [if_pos hs12, hq1, bnd_r, hq2, bnd_r, show pCur (tok f n) j2 (fbE (tok f n (i + 1)).1 b) = .inl e from by unfold pCur; rw [if_pos hs, hq3, bnd_l], bnd_l]) (hF7.tr (F8.mo (tPe _))) e0 e1 (dd_of e0 (pTab_er hq3))
                    · obtain ⟨y0, y1, y2, y3, y4, y5⟩ := k5 _ hq3
                      have y2 : MS I8 f n j3 := y2
                      have y3 : TBm I8 (22 * nE) n2 E3 := y3
                      have y4 : I8 180 (22 * nE + 3) = nI n2 := y4
                      obtain ⟨z1, z2, z3, z4⟩ := pTab_in hN hltj hq3
                      refine j_goto C 258 (D 117 rfl) (by decide) ?_
                      have hcu : pCur (tok f n) j2 (fbE (tok f n (i + 1)).1 b) = .inr (tbE (n2, E3), j3) := by unfold pCur; rw [if_pos hs, hq3, bnd_r]
                      have e3k : ∀ k, 6 ≤ k → tbE (n2, E3) k = E3 k := fun k hk => by unfold tbE; rw [vu_ne _ _ (by omega), vu_ne _ _ (by omega), vu_ne _ _ (by omega)]
                      have t2 : tbE (n2, E3) 2 = nI 3 := by unfold tbE; rw [vu_ne _ _ (by omega), vu_ne _ _ (by omega), vu_same]
                      have t3 : tbE (n2, E3) 3 = nI n2 := by unfold tbE; rw [vu_ne _ _ (by omega), vu_same]
                      have t4 : tbE (n2, E3) 4 = -1 := by unfold tbE; rw [vu_same]
                      have t0 : ∀ k, k < 2 → tbE (n2, E3) k = fbE (tok f n (i + 1)).1 b k := fun k hk => by unfold tbE; rw [vu_ne _ _ (by omega), vu_ne _ _ (by omega), vu_ne _ _ (by omega)]; exact z4 k (by omega)
                      refine G258 (tbE (n2, E3)) j3 I8 _ hE z2 y2 y0 (by rw [y1]; exact h735) (by rw [F8 _ _ (fun z => by unfold tbP nP at z; omega)]; exact h713) (hF7.tr (F8.mo (tPe _))) (fun k hk => ?_) (fun _ k hk => ?_) (fun e h => ?_) (fun s j h => ?_)
                      · have : k = 0 ∨ k = 1 ∨ k = 2 ∨ k = 3 ∨ k = 4 := by omega
                        rcases this with rfl | rfl | rfl | rfl | rfl
                        · rw [F8 _ _ (fun z => by unfold tbP nP at z; omega), t0 0 (by omega)]; exact h70
                        · rw [F8 _ _ (fun z => by unfold tbP nP at z; omega), t0 1 (by omega)]; exact h71
                        · rw [F8 _ _ (fun z => by unfold tbP nP at z; omega), t2, up2_same]
                        · rw [t3]; exact y4
                        · rw [t4]; exact y5
                      · rw [t3, nI_int (by omega)] at hk
                        rw [e3k _ (by omega), e3k _ (by omega)]
                        exact y3 k (by omega)
                      · rw [if_pos hE]; unfold pEv; rw [if_pos hs12, hq1, bnd_r, hq2, bnd_r, hcu, bnd_r, h, bnd_l]
                      · rw [if_pos hE]; unfold pEv; rw [if_pos hs12, hq1, bnd_r, hq2, bnd_r, hcu, bnd_r, h, bnd_r]
                · refine j_iconst C (v := nI 2) (D 80 rfl) rfl ?_
                  refine j_goto C 172 (D 81 rfl) (by decide) ?_
                  have hs : (tok f n j2).1 = 8 := b2_ne h151
                  have hltj := lt_sg hN (by omega) hs (by decide)
                  have hcv : crv (tok f n j2).1 = 2 := by rw [hs]; rfl
                  refine j_istore_n C (D 89 rfl) rfl ?_
                  refine j_iload_n C (D 90 rfl) rfl ?_
                  refine j_iconst C (v := (-1)) (D 91 rfl) (by decide) ?_
                  refine j_icmp_ne C  187 (D 92 rfl) (by decide) (fun h175 => ?_) (fun h175 => absurd h175 (by decide))
                  refine j_aload_n C (D 98 rfl) rfl ?_
                  refine j_cVp C B k_X12_106 (rc_obj C (lit (kd := 12) (n := 48) rfl) rfl rfl) (d_goodT _ _ hL hgd) rfl rfl rfl rfl ⟨Nat.le_refl _, Nat.le_refl _⟩ (D 99 rfl) ?_
                  refine j_if_ne C  195 (D 100 rfl) (by decide) (fun h191 => ?_) (fun h191 => absurd h191 (by decide))
                  refine j_aload_n C (D 102 rfl) rfl ?_
                  refine j_callV C B k_X12_158 (rc_obj C (lit (kd := 12) (n := 48) rfl) rfl rfl) (d_advance _ _ hL hb hSd (tok_lt_n (by rw [hs]; decide))) rfl rfl rfl rfl ⟨Nat.le_refl _, Nat.le_refl _⟩ (D 103 rfl) ?_
                  rintro r w' ⟨rfl, I7, rfl, F7, S7⟩
                  have hS7 : MS (up2 I7 180 (22 * nE + 2) (nI 2)) f n (j2 + 1) := MS_180 S7 (Fx.up (Fx.rf _ _) rfl)
                  have hg7 : up2 I7 180 (22 * nE + 2) (nI 2) 172 34 = nI 0 := by rw [up2_i (by omega), F7 _ _ (fun z => by unfold aP at z; omega)]; exact hgd
                  have hF7 : Fx (evP (22 * nE)) I (up2 I7 180 (22 * nE + 2) (nI 2)) := Fx.up (hFd.tr (F7.mo (aPe _))) (Or.inr (Or.inl ⟨rfl, by omega, by omega⟩))
                  have h70 : up2 I7 180 (22 * nE + 2) (nI 2) 180 (22 * nE + 0) = fbE (tok f n (i + 1)).1 b 0 := by rw [up2_i (by omega), F7 _ _ (fun z => by unfold aP at z; omega)]; exact hd0
                  have h71 : up2 I7 180 (22 * nE + 2) (nI 2) 180 (22 * nE + 1) = fbE (tok f n (i + 1)).1 b 1 := by rw [up2_i (by omega), F7 _ _ (fun z => by unfold aP at z; omega)]; exact hd1
                  have h735 : up2 I7 180 (22 * nE + 2) (nI 2) 172 35 = I 172 35 := by rw [up2_i (by omega), F7 _ _ (fun z => by unfold aP at z; omega)]; exact hd35
                  have h713 : up2 I7 180 (22 * nE + 2) (nI 2) 172 13 = nI nE := by rw [up2_i (by omega), F7 _ _ (fun z => by unfold aP at z; omega)]; exact hd13
                  refine j_aload_n C (D 104 rfl) rfl ?_
                  refine j_getr C f_X12_31 (lit (kd := 12) (n := 48) rfl) rfl rfl (hL _ _ _ rfl) (D 105 rfl) ?_
                  refine j_iload_n C (D 106 rfl) rfl ?_
                  refine j_iconst C (v := nI 2) (D 107 rfl) rfl ?_
                  refine j_iadd C (D 108 rfl) ?_
                  rw [nI_add]
                  refine j_iload_n C (D 109 rfl) rfl ?_
                  refine j_iast C (lit (kd := 20) (n := 220) rfl) (ix_n (by omega) (by decide)) (D 110 rfl) ?_
                  refine j_iload_n C (D 111 rfl) rfl ?_
                  refine j_iconst C (v := nI 3) (D 112 rfl) rfl ?_
                  refine j_icmp_ne C  221 (D 113 rfl) (by decide) (fun h210 => ?_) (fun h210 => absurd h210 (by decide))
                  refine j_aload_n C (D 118 rfl) rfl ?_
                  refine j_getr C f_X12_31 (lit (kd := 12) (n := 48) rfl) rfl rfl (hL _ _ _ rfl) (D 119 rfl) ?_
                  refine j_iload_n C (D 120 rfl) rfl ?_
                  refine j_iconst C (v := nI 3) (D 121 rfl) rfl ?_
                  refine j_iadd C (D 122 rfl) ?_
                  refine j_aload_n C (D 123 rfl) rfl ?_
                  refine j_iconst C (v := nI 1) (D 124 rfl) rfl ?_
                  refine j_sipush C (v := nI 9999) (D 125 rfl) rfl ?_
                  refine j_callV C B k_X12_178 (rc_obj C (lit (kd := 12) (n := 48) rfl) rfl rfl) (d_number _ _ hL hb hS7 hg7 (lo := 1) (hx := 10000) (hi := nI 9999) (by omega) (by omega) (by decide)) rfl rfl rfl rfl ⟨Nat.le_refl _, Nat.le_refl _⟩ (D 126 rfl) ?_
                  rintro r w' ⟨I8, v8, rfl, rfl, F8, k4, k5⟩
                  obtain ⟨e, hq3⟩ | ⟨⟨a, j4⟩, hq3⟩ := rs_c (pNum (tok f n) (j2 + 1) 1 10000)
                  · obtain ⟨e0, e1⟩ := k4 e hq3
                    have hd8 : ¬ I8 172 34 = 0 := dd_of e0 (pNum_er hq3)
                    rw [nI_add]
                    refine j_iast C (lit (kd := 20) (n := 220) rfl) (ix_n (by omega) (by decide)) (D 127 rfl) ?_
                    exact D237 e _ _ hE (by rw [if_pos hE]; unfold pEv; rw [if_pos hs12, hq1, bnd_r, hq2, bnd_r, show pCur (tok f n) j2 (fbE (tok f n (i + 1)).1 b) = .inl e from by unfold pCur; rw [if_neg (by rw [hs]; decide), hcv, if_neg (by decide)]; unfold pFor; rw [hq3, bnd_l], bnd_l]) (Fx.up (hF7.tr (F8.mo (nPe _))) (Or.inr (Or.inl ⟨rfl, by omega, by omega⟩))) (by rw [up2_i (by omega)]; exact e0) (by rw [up2_i (by omega)]; exact e1) (by rw [up2_i (by omega)]; exact hd8)
                  · obtain ⟨hv, y0, y1, y2⟩ := k5 _ hq3
                    have hv : v8 = nI a := hv
                    subst hv
                    have y2 : MS I8 f n j4 := y2
                    obtain ⟨m1, m2, m3, m4⟩ := pNum_go hN (by omega) hq3
                    have hS8 : MS (up2 I8 180 (22 * nE + 3) (nI a)) f n j4 := MS_180 y2 (Fx.up (Fx.rf _ _) rfl)
                    have hF8 : Fx (evP (22 * nE)) I (up2 I8 180 (22 * nE + 3) (nI a)) := Fx.up (hF7.tr (F8.mo (nPe _))) (Or.inr (Or.inl ⟨rfl, by omega, by omega⟩))
                    rw [nI_add]
                    refine j_iast C (lit (kd := 20) (n := 220) rfl) (ix_n (by omega) (by decide)) (D 127 rfl) ?_
                    refine j_aload_n C (D 128 rfl) rfl ?_
                    refine j_ldcS C (i := 8) (by decide) rfl (D 129 rfl) ?_
                    refine j_callV C B k_X12_193 (rc_obj C (lit (kd := 12) (n := 48) rfl) rfl rfl) (d_passes _ _ hL hb hS8 (by rw [up2_i (by omega)]; exact y0) 8 (by decide)) rfl rfl rfl rfl ⟨Nat.le_refl _, Nat.le_refl _⟩ (D 130 rfl) ?_
                    rintro r w' ⟨rfl, I9, rfl, F9, k6, k7⟩
                    obtain ⟨e, hq4⟩ | ⟨j5, hq4⟩ := rs_c (pTake (tok f n) j4 4)
                    · obtain ⟨e0, e1⟩ := k6 e hq4
                      have hd9 : ¬ I9 172 34 = 0 := dd_of e0 (pTake_er hq4)
                      exact D243 e I9 _ hE (by rw [if_pos hE]; unfold pEv; rw [if_pos hs12, hq1, bnd_r, hq2, bnd_r, show pCur (tok f n) j2 (fbE (tok f n (i + 1)).1 b) = .inl e from by unfold pCur; rw [if_neg (by rw [hs]; decide), hcv, if_neg (by decide)]; unfold pFor; rw [hq3, bnd_r, hq4, bnd_l], bnd_l]) (hF8.tr (F9.mo (nPe _))) e0 e1 hd9
                    · obtain ⟨w0, w1, w2⟩ := k7 j5 hq4
                      have w2 : MS I9 f n j5 := w2
                      obtain ⟨o1, o2⟩ := pTake_go hN (by omega) (by omega) hq4
                      refine j_aload_n C (D 131 rfl) rfl ?_
                      refine j_getr C f_X12_31 (lit (kd := 12) (n := 48) rfl) rfl rfl (hL _ _ _ rfl) (D 132 rfl) ?_
                      refine j_iload_n C (D 133 rfl) rfl ?_
                      refine j_iconst C (v := nI 4) (D 134 rfl) rfl ?_
                      refine j_iadd C (D 135 rfl) ?_
                      refine j_aload_n C (D 136 rfl) rfl ?_
                      refine j_iconst C (v := nI 1) (D 137 rfl) rfl ?_
                      refine j_ldc C (v := 99999) (D 138 rfl) n_X12_177 ?_
                      refine j_callV C B k_X12_178 (rc_obj C (lit (kd := 12) (n := 48) rfl) rfl rfl) (d_number _ _ hL hb w2 w0 (lo := 1) (hx := 100000) (hi := 99999) (by omega) (by omega) (by decide)) rfl rfl rfl rfl ⟨Nat.le_refl _, Nat.le_refl _⟩ (D 139 rfl) ?_
                      rintro r w' ⟨I10, v10, rfl, rfl, F10, k8, k9⟩
                      obtain ⟨e, hq5⟩ | ⟨⟨d, j6⟩, hq5⟩ := rs_c (pNum (tok f n) j5 1 100000)
                      · obtain ⟨e0, e1⟩ := k8 e hq5
                        have hd10 : ¬ I10 172 34 = 0 := dd_of e0 (pNum_er hq5)
                        rw [nI_add]
                        refine j_iast C (lit (kd := 20) (n := 220) rfl) (ix_n (by omega) (by decide)) (D 140 rfl) ?_
                        exact D258 e _ _ hE (by rw [if_pos hE]; unfold pEv; rw [if_pos hs12, hq1, bnd_r, hq2, bnd_r, show pCur (tok f n) j2 (fbE (tok f n (i + 1)).1 b) = .inl e from by unfold pCur; rw [if_neg (by rw [hs]; decide), hcv, if_neg (by decide)]; unfold pFor; rw [hq3, bnd_r, hq4, bnd_r, hq5, bnd_l], bnd_l]) (Fx.up ((hF8.tr (F9.mo (nPe _))).tr (F10.mo (nPe _))) (Or.inr (Or.inl ⟨rfl, by omega, by omega⟩))) (by rw [up2_i (by omega)]; exact e0) (by rw [up2_i (by omega)]; exact e1) (by rw [up2_i (by omega)]; exact hd10)
                      · obtain ⟨hv, r0, r1, r2⟩ := k9 _ hq5
                        have hv : v10 = nI d := hv
                        subst hv
                        have r2 : MS I10 f n j6 := r2
                        obtain ⟨s1, s2, s3, s4⟩ := pNum_go hN (by omega) hq5
                        rw [nI_add]
                        refine j_iast C (lit (kd := 20) (n := 220) rfl) (ix_n (by omega) (by decide)) (D 140 rfl) ?_
                        have hcu : pCur (tok f n) j2 (fbE (tok f n (i + 1)).1 b) = .inr ((va_up (va_up (va_up (fbE (tok f n (i + 1)).1 b) 2 (nI 2)) 3 (nI a)) 4 (nI d)), j6) := by unfold pCur; rw [if_neg (by rw [hs]; decide), hcv, if_neg (by decide)]; unfold pFor; rw [hq3, bnd_r, hq4, bnd_r, hq5, bnd_r]
                        refine G258 (va_up (va_up (va_up (fbE (tok f n (i + 1)).1 b) 2 (nI 2)) 3 (nI a)) 4 (nI d)) j6 _ _ hE (by omega) (MS_180 r2 (Fx.up (Fx.rf _ _) rfl)) (by rw [up2_i (by omega)]; exact r0) (by rw [up2_i (by omega), r1, w1, up2_i (by omega), y1]; exact h735) (by rw [up2_i (by omega), F10 _ _ (fun z => by unfold nP at z; omega), F9 _ _ (fun z => by unfold nP at z; omega), up2_i (by omega), F8 _ _ (fun z => by unfold nP at z; omega)]; exact h713) (Fx.up ((hF8.tr (F9.mo (nPe _))).tr (F10.mo (nPe _))) (Or.inr (Or.inl ⟨rfl, by omega, by omega⟩))) (fun k hk => ?_) (fun z => absurd z ?_) (fun e h => ?_) (fun s j h => ?_)
                        · have : k = 0 ∨ k = 1 ∨ k = 2 ∨ k = 3 ∨ k = 4 := by omega
                          rcases this with rfl | rfl | rfl | rfl | rfl
                          · rw [up2_i (by omega), F10 _ _ (fun z => by unfold nP at z; omega), F9 _ _ (fun z => by unfold nP at z; omega), up2_i (by omega), F8 _ _ (fun z => by unfold nP at z; omega), vu_ne _ _ (by omega), vu_ne _ _ (by omega), vu_ne _ _ (by omega)]; exact h70
                          · rw [up2_i (by omega), F10 _ _ (fun z => by unfold nP at z; omega), F9 _ _ (fun z => by unfold nP at z; omega), up2_i (by omega), F8 _ _ (fun z => by unfold nP at z; omega), vu_ne _ _ (by omega), vu_ne _ _ (by omega), vu_ne _ _ (by omega)]; exact h71
                          · rw [up2_i (by omega), F10 _ _ (fun z => by unfold nP at z; omega), F9 _ _ (fun z => by unfold nP at z; omega), up2_i (by omega), F8 _ _ (fun z => by unfold nP at z; omega), up2_same, vu_ne _ _ (by omega), vu_ne _ _ (by omega), vu_same]
                          · rw [up2_i (by omega), F10 _ _ (fun z => by unfold nP at z; omega), F9 _ _ (fun z => by unfold nP at z; omega), up2_same, vu_ne _ _ (by omega), vu_same]
                          · rw [up2_same, vu_same]
                        · rw [vu_ne _ _ (by omega), vu_ne _ _ (by omega), vu_same]; decide
                        · rw [if_pos hE]; unfold pEv; rw [if_pos hs12, hq1, bnd_r, hq2, bnd_r, hcu, bnd_r, h, bnd_l]
                        · rw [if_pos hE]; unfold pEv; rw [if_pos hs12, hq1, bnd_r, hq2, bnd_r, hcu, bnd_r, h, bnd_r]
              · refine j_iconst C (v := nI 1) (D 74 rfl) rfl ?_
                refine j_goto C 172 (D 75 rfl) (by decide) ?_
                have hs : (tok f n j2).1 = 7 := b2_ne h138
                have hltj := lt_sg hN (by omega) hs (by decide)
                have hcv : crv (tok f n j2).1 = 1 := by rw [hs]; rfl
                refine j_istore_n C (D 89 rfl) rfl ?_
                refine j_iload_n C (D 90 rfl) rfl ?_
                refine j_iconst C (v := (-1)) (D 91 rfl) (by decide) ?_
                refine j_icmp_ne C  187 (D 92 rfl) (by decide) (fun h175 => ?_) (fun h175 => absurd h175 (by decide))
                refine j_aload_n C (D 98 rfl) rfl ?_
                refine j_cVp C B k_X12_106 (rc_obj C (lit (kd := 12) (n := 48) rfl) rfl rfl) (d_goodT _ _ hL hgd) rfl rfl rfl rfl ⟨Nat.le_refl _, Nat.le_refl _⟩ (D 99 rfl) ?_
                refine j_if_ne C  195 (D 100 rfl) (by decide) (fun h191 => ?_) (fun h191 => absurd h191 (by decide))
                refine j_aload_n C (D 102 rfl) rfl ?_
                refine j_callV C B k_X12_158 (rc_obj C (lit (kd := 12) (n := 48) rfl) rfl rfl) (d_advance _ _ hL hb hSd (tok_lt_n (by rw [hs]; decide))) rfl rfl rfl rfl ⟨Nat.le_refl _, Nat.le_refl _⟩ (D 103 rfl) ?_
                rintro r w' ⟨rfl, I7, rfl, F7, S7⟩
                have hS7 : MS (up2 I7 180 (22 * nE + 2) (nI 1)) f n (j2 + 1) := MS_180 S7 (Fx.up (Fx.rf _ _) rfl)
                have hg7 : up2 I7 180 (22 * nE + 2) (nI 1) 172 34 = nI 0 := by rw [up2_i (by omega), F7 _ _ (fun z => by unfold aP at z; omega)]; exact hgd
                have hF7 : Fx (evP (22 * nE)) I (up2 I7 180 (22 * nE + 2) (nI 1)) := Fx.up (hFd.tr (F7.mo (aPe _))) (Or.inr (Or.inl ⟨rfl, by omega, by omega⟩))
                have h70 : up2 I7 180 (22 * nE + 2) (nI 1) 180 (22 * nE + 0) = fbE (tok f n (i + 1)).1 b 0 := by rw [up2_i (by omega), F7 _ _ (fun z => by unfold aP at z; omega)]; exact hd0
                have h71 : up2 I7 180 (22 * nE + 2) (nI 1) 180 (22 * nE + 1) = fbE (tok f n (i + 1)).1 b 1 := by rw [up2_i (by omega), F7 _ _ (fun z => by unfold aP at z; omega)]; exact hd1
                have h735 : up2 I7 180 (22 * nE + 2) (nI 1) 172 35 = I 172 35 := by rw [up2_i (by omega), F7 _ _ (fun z => by unfold aP at z; omega)]; exact hd35
                have h713 : up2 I7 180 (22 * nE + 2) (nI 1) 172 13 = nI nE := by rw [up2_i (by omega), F7 _ _ (fun z => by unfold aP at z; omega)]; exact hd13
                refine j_aload_n C (D 104 rfl) rfl ?_
                refine j_getr C f_X12_31 (lit (kd := 12) (n := 48) rfl) rfl rfl (hL _ _ _ rfl) (D 105 rfl) ?_
                refine j_iload_n C (D 106 rfl) rfl ?_
                refine j_iconst C (v := nI 2) (D 107 rfl) rfl ?_
                refine j_iadd C (D 108 rfl) ?_
                rw [nI_add]
                refine j_iload_n C (D 109 rfl) rfl ?_
                refine j_iast C (lit (kd := 20) (n := 220) rfl) (ix_n (by omega) (by decide)) (D 110 rfl) ?_
                refine j_iload_n C (D 111 rfl) rfl ?_
                refine j_iconst C (v := nI 3) (D 112 rfl) rfl ?_
                refine j_icmp_ne C  221 (D 113 rfl) (by decide) (fun h210 => ?_) (fun h210 => absurd h210 (by decide))
                refine j_aload_n C (D 118 rfl) rfl ?_
                refine j_getr C f_X12_31 (lit (kd := 12) (n := 48) rfl) rfl rfl (hL _ _ _ rfl) (D 119 rfl) ?_
                refine j_iload_n C (D 120 rfl) rfl ?_
                refine j_iconst C (v := nI 3) (D 121 rfl) rfl ?_
                refine j_iadd C (D 122 rfl) ?_
                refine j_aload_n C (D 123 rfl) rfl ?_
                refine j_iconst C (v := nI 1) (D 124 rfl) rfl ?_
                refine j_sipush C (v := nI 9999) (D 125 rfl) rfl ?_
                refine j_callV C B k_X12_178 (rc_obj C (lit (kd := 12) (n := 48) rfl) rfl rfl) (d_number _ _ hL hb hS7 hg7 (lo := 1) (hx := 10000) (hi := nI 9999) (by omega) (by omega) (by decide)) rfl rfl rfl rfl ⟨Nat.le_refl _, Nat.le_refl _⟩ (D 126 rfl) ?_
                rintro r w' ⟨I8, v8, rfl, rfl, F8, k4, k5⟩
                obtain ⟨e, hq3⟩ | ⟨⟨a, j4⟩, hq3⟩ := rs_c (pNum (tok f n) (j2 + 1) 1 10000)
                · obtain ⟨e0, e1⟩ := k4 e hq3
                  have hd8 : ¬ I8 172 34 = 0 := dd_of e0 (pNum_er hq3)
                  rw [nI_add]
                  refine j_iast C (lit (kd := 20) (n := 220) rfl) (ix_n (by omega) (by decide)) (D 127 rfl) ?_
                  exact D237 e _ _ hE (by rw [if_pos hE]; unfold pEv; rw [if_pos hs12, hq1, bnd_r, hq2, bnd_r, show pCur (tok f n) j2 (fbE (tok f n (i + 1)).1 b) = .inl e from by unfold pCur; rw [if_neg (by rw [hs]; decide), hcv, if_neg (by decide)]; unfold pFor; rw [hq3, bnd_l], bnd_l]) (Fx.up (hF7.tr (F8.mo (nPe _))) (Or.inr (Or.inl ⟨rfl, by omega, by omega⟩))) (by rw [up2_i (by omega)]; exact e0) (by rw [up2_i (by omega)]; exact e1) (by rw [up2_i (by omega)]; exact hd8)
                · obtain ⟨hv, y0, y1, y2⟩ := k5 _ hq3
                  have hv : v8 = nI a := hv
                  subst hv
                  have y2 : MS I8 f n j4 := y2
                  obtain ⟨m1, m2, m3, m4⟩ := pNum_go hN (by omega) hq3
                  have hS8 : MS (up2 I8 180 (22 * nE + 3) (nI a)) f n j4 := MS_180 y2 (Fx.up (Fx.rf _ _) rfl)
                  have hF8 : Fx (evP (22 * nE)) I (up2 I8 180 (22 * nE + 3) (nI a)) := Fx.up (hF7.tr (F8.mo (nPe _))) (Or.inr (Or.inl ⟨rfl, by omega, by omega⟩))
                  rw [nI_add]
                  refine j_iast C (lit (kd := 20) (n := 220) rfl) (ix_n (by omega) (by decide)) (D 127 rfl) ?_
                  refine j_aload_n C (D 128 rfl) rfl ?_
                  refine j_ldcS C (i := 8) (by decide) rfl (D 129 rfl) ?_
                  refine j_callV C B k_X12_193 (rc_obj C (lit (kd := 12) (n := 48) rfl) rfl rfl) (d_passes _ _ hL hb hS8 (by rw [up2_i (by omega)]; exact y0) 8 (by decide)) rfl rfl rfl rfl ⟨Nat.le_refl _, Nat.le_refl _⟩ (D 130 rfl) ?_
                  rintro r w' ⟨rfl, I9, rfl, F9, k6, k7⟩
                  obtain ⟨e, hq4⟩ | ⟨j5, hq4⟩ := rs_c (pTake (tok f n) j4 4)
                  · obtain ⟨e0, e1⟩ := k6 e hq4
                    have hd9 : ¬ I9 172 34 = 0 := dd_of e0 (pTake_er hq4)
                    exact D243 e I9 _ hE (by rw [if_pos hE]; unfold pEv; rw [if_pos hs12, hq1, bnd_r, hq2, bnd_r, show pCur (tok f n) j2 (fbE (tok f n (i + 1)).1 b) = .inl e from by unfold pCur; rw [if_neg (by rw [hs]; decide), hcv, if_neg (by decide)]; unfold pFor; rw [hq3, bnd_r, hq4, bnd_l], bnd_l]) (hF8.tr (F9.mo (nPe _))) e0 e1 hd9
                  · obtain ⟨w0, w1, w2⟩ := k7 j5 hq4
                    have w2 : MS I9 f n j5 := w2
                    obtain ⟨o1, o2⟩ := pTake_go hN (by omega) (by omega) hq4
                    refine j_aload_n C (D 131 rfl) rfl ?_
                    refine j_getr C f_X12_31 (lit (kd := 12) (n := 48) rfl) rfl rfl (hL _ _ _ rfl) (D 132 rfl) ?_
                    refine j_iload_n C (D 133 rfl) rfl ?_
                    refine j_iconst C (v := nI 4) (D 134 rfl) rfl ?_
                    refine j_iadd C (D 135 rfl) ?_
                    refine j_aload_n C (D 136 rfl) rfl ?_
                    refine j_iconst C (v := nI 1) (D 137 rfl) rfl ?_
                    refine j_ldc C (v := 99999) (D 138 rfl) n_X12_177 ?_
                    refine j_callV C B k_X12_178 (rc_obj C (lit (kd := 12) (n := 48) rfl) rfl rfl) (d_number _ _ hL hb w2 w0 (lo := 1) (hx := 100000) (hi := 99999) (by omega) (by omega) (by decide)) rfl rfl rfl rfl ⟨Nat.le_refl _, Nat.le_refl _⟩ (D 139 rfl) ?_
                    rintro r w' ⟨I10, v10, rfl, rfl, F10, k8, k9⟩
                    obtain ⟨e, hq5⟩ | ⟨⟨d, j6⟩, hq5⟩ := rs_c (pNum (tok f n) j5 1 100000)
                    · obtain ⟨e0, e1⟩ := k8 e hq5
                      have hd10 : ¬ I10 172 34 = 0 := dd_of e0 (pNum_er hq5)
                      rw [nI_add]
                      refine j_iast C (lit (kd := 20) (n := 220) rfl) (ix_n (by omega) (by decide)) (D 140 rfl) ?_
                      exact D258 e _ _ hE (by rw [if_pos hE]; unfold pEv; rw [if_pos hs12, hq1, bnd_r, hq2, bnd_r, show pCur (tok f n) j2 (fbE (tok f n (i + 1)).1 b) = .inl e from by unfold pCur; rw [if_neg (by rw [hs]; decide), hcv, if_neg (by decide)]; unfold pFor; rw [hq3, bnd_r, hq4, bnd_r, hq5, bnd_l], bnd_l]) (Fx.up ((hF8.tr (F9.mo (nPe _))).tr (F10.mo (nPe _))) (Or.inr (Or.inl ⟨rfl, by omega, by omega⟩))) (by rw [up2_i (by omega)]; exact e0) (by rw [up2_i (by omega)]; exact e1) (by rw [up2_i (by omega)]; exact hd10)
                    · obtain ⟨hv, r0, r1, r2⟩ := k9 _ hq5
                      have hv : v10 = nI d := hv
                      subst hv
                      have r2 : MS I10 f n j6 := r2
                      obtain ⟨s1, s2, s3, s4⟩ := pNum_go hN (by omega) hq5
                      rw [nI_add]
                      refine j_iast C (lit (kd := 20) (n := 220) rfl) (ix_n (by omega) (by decide)) (D 140 rfl) ?_
                      have hcu : pCur (tok f n) j2 (fbE (tok f n (i + 1)).1 b) = .inr ((va_up (va_up (va_up (fbE (tok f n (i + 1)).1 b) 2 (nI 1)) 3 (nI a)) 4 (nI d)), j6) := by unfold pCur; rw [if_neg (by rw [hs]; decide), hcv, if_neg (by decide)]; unfold pFor; rw [hq3, bnd_r, hq4, bnd_r, hq5, bnd_r]
                      refine G258 (va_up (va_up (va_up (fbE (tok f n (i + 1)).1 b) 2 (nI 1)) 3 (nI a)) 4 (nI d)) j6 _ _ hE (by omega) (MS_180 r2 (Fx.up (Fx.rf _ _) rfl)) (by rw [up2_i (by omega)]; exact r0) (by rw [up2_i (by omega), r1, w1, up2_i (by omega), y1]; exact h735) (by rw [up2_i (by omega), F10 _ _ (fun z => by unfold nP at z; omega), F9 _ _ (fun z => by unfold nP at z; omega), up2_i (by omega), F8 _ _ (fun z => by unfold nP at z; omega)]; exact h713) (Fx.up ((hF8.tr (F9.mo (nPe _))).tr (F10.mo (nPe _))) (Or.inr (Or.inl ⟨rfl, by omega, by omega⟩))) (fun k hk => ?_) (fun z => absurd z ?_) (fun e h => ?_) (fun s j h => ?_)
                      · have : k = 0 ∨ k = 1 ∨ k = 2 ∨ k = 3 ∨ k = 4 := by omega
                        rcases this with rfl | rfl | rfl | rfl | rfl
                        · rw [up2_i (by omega), F10 _ _ (fun z => by unfold nP at z; omega), F9 _ _ (fun z => by unfold nP at z; omega), up2_i (by omega), F8 _ _ (fun z => by unfold nP at z; omega), vu_ne _ _ (by omega), vu_ne _ _ (by omega), vu_ne _ _ (by omega)]; exact h70
                        · rw [up2_i (by omega), F10 _ _ (fun z => by unfold nP at z; omega), F9 _ _ (fun z => by unfold nP at z; omega), up2_i (by omega), F8 _ _ (fun z => by unfold nP at z; omega), vu_ne _ _ (by omega), vu_ne _ _ (by omega), vu_ne _ _ (by omega)]; exact h71
                        · rw [up2_i (by omega), F10 _ _ (fun z => by unfold nP at z; omega), F9 _ _ (fun z => by unfold nP at z; omega), up2_i (by omega), F8 _ _ (fun z => by unfold nP at z; omega), up2_same, vu_ne _ _ (by omega), vu_ne _ _ (by omega), vu_same]
                        · rw [up2_i (by omega), F10 _ _ (fun z => by unfold nP at z; omega), F9 _ _ (fun z => by unfold nP at z; omega), up2_same, vu_ne _ _ (by omega), vu_same]
                        · rw [up2_same, vu_same]
                      · rw [vu_ne _ _ (by omega), vu_ne _ _ (by omega), vu_same]; decide
                      · rw [if_pos hE]; unfold pEv; rw [if_pos hs12, hq1, bnd_r, hq2, bnd_r, hcu, bnd_r, h, bnd_l]
                      · rw [if_pos hE]; unfold pEv; rw [if_pos hs12, hq1, bnd_r, hq2, bnd_r, hcu, bnd_r, h, bnd_r]
            · refine j_iconst C (v := nI 0) (D 68 rfl) rfl ?_
              refine j_goto C 172 (D 69 rfl) (by decide) ?_
              have hs : (tok f n j2).1 = 6 := b2_ne h125
              have hltj := lt_sg hN (by omega) hs (by decide)
              have hcv : crv (tok f n j2).1 = 0 := by rw [hs]; rfl
              refine j_istore_n C (D 89 rfl) rfl ?_
              refine j_iload_n C (D 90 rfl) rfl ?_
              refine j_iconst C (v := (-1)) (D 91 rfl) (by decide) ?_
              refine j_icmp_ne C  187 (D 92 rfl) (by decide) (fun h175 => ?_) (fun h175 => absurd h175 (by decide))
              refine j_aload_n C (D 98 rfl) rfl ?_
              refine j_cVp C B k_X12_106 (rc_obj C (lit (kd := 12) (n := 48) rfl) rfl rfl) (d_goodT _ _ hL hgd) rfl rfl rfl rfl ⟨Nat.le_refl _, Nat.le_refl _⟩ (D 99 rfl) ?_
              refine j_if_ne C  195 (D 100 rfl) (by decide) (fun h191 => ?_) (fun h191 => absurd h191 (by decide))
              refine j_aload_n C (D 102 rfl) rfl ?_
              refine j_callV C B k_X12_158 (rc_obj C (lit (kd := 12) (n := 48) rfl) rfl rfl) (d_advance _ _ hL hb hSd (tok_lt_n (by rw [hs]; decide))) rfl rfl rfl rfl ⟨Nat.le_refl _, Nat.le_refl _⟩ (D 103 rfl) ?_
              rintro r w' ⟨rfl, I7, rfl, F7, S7⟩
              have hS7 : MS (up2 I7 180 (22 * nE + 2) (nI 0)) f n (j2 + 1) := MS_180 S7 (Fx.up (Fx.rf _ _) rfl)
              have hg7 : up2 I7 180 (22 * nE + 2) (nI 0) 172 34 = nI 0 := by rw [up2_i (by omega), F7 _ _ (fun z => by unfold aP at z; omega)]; exact hgd
              have hF7 : Fx (evP (22 * nE)) I (up2 I7 180 (22 * nE + 2) (nI 0)) := Fx.up (hFd.tr (F7.mo (aPe _))) (Or.inr (Or.inl ⟨rfl, by omega, by omega⟩))
              have h70 : up2 I7 180 (22 * nE + 2) (nI 0) 180 (22 * nE + 0) = fbE (tok f n (i + 1)).1 b 0 := by rw [up2_i (by omega), F7 _ _ (fun z => by unfold aP at z; omega)]; exact hd0
              have h71 : up2 I7 180 (22 * nE + 2) (nI 0) 180 (22 * nE + 1) = fbE (tok f n (i + 1)).1 b 1 := by rw [up2_i (by omega), F7 _ _ (fun z => by unfold aP at z; omega)]; exact hd1
              have h735 : up2 I7 180 (22 * nE + 2) (nI 0) 172 35 = I 172 35 := by rw [up2_i (by omega), F7 _ _ (fun z => by unfold aP at z; omega)]; exact hd35
              have h713 : up2 I7 180 (22 * nE + 2) (nI 0) 172 13 = nI nE := by rw [up2_i (by omega), F7 _ _ (fun z => by unfold aP at z; omega)]; exact hd13
              refine j_aload_n C (D 104 rfl) rfl ?_
              refine j_getr C f_X12_31 (lit (kd := 12) (n := 48) rfl) rfl rfl (hL _ _ _ rfl) (D 105 rfl) ?_
              refine j_iload_n C (D 106 rfl) rfl ?_
              refine j_iconst C (v := nI 2) (D 107 rfl) rfl ?_
              refine j_iadd C (D 108 rfl) ?_
              rw [nI_add]
              refine j_iload_n C (D 109 rfl) rfl ?_
              refine j_iast C (lit (kd := 20) (n := 220) rfl) (ix_n (by omega) (by decide)) (D 110 rfl) ?_
              refine j_iload_n C (D 111 rfl) rfl ?_
              refine j_iconst C (v := nI 3) (D 112 rfl) rfl ?_
              refine j_icmp_ne C  221 (D 113 rfl) (by decide) (fun h210 => ?_) (fun h210 => absurd h210 (by decide))
              refine j_aload_n C (D 118 rfl) rfl ?_
              refine j_getr C f_X12_31 (lit (kd := 12) (n := 48) rfl) rfl rfl (hL _ _ _ rfl) (D 119 rfl) ?_
              refine j_iload_n C (D 120 rfl) rfl ?_
              refine j_iconst C (v := nI 3) (D 121 rfl) rfl ?_
              refine j_iadd C (D 122 rfl) ?_
              refine j_aload_n C (D 123 rfl) rfl ?_
              refine j_iconst C (v := nI 1) (D 124 rfl) rfl ?_
              refine j_sipush C (v := nI 9999) (D 125 rfl) rfl ?_
              refine j_callV C B k_X12_178 (rc_obj C (lit (kd := 12) (n := 48) rfl) rfl rfl) (d_number _ _ hL hb hS7 hg7 (lo := 1) (hx := 10000) (hi := nI 9999) (by omega) (by omega) (by decide)) rfl rfl rfl rfl ⟨Nat.le_refl _, Nat.le_refl _⟩ (D 126 rfl) ?_
              rintro r w' ⟨I8, v8, rfl, rfl, F8, k4, k5⟩
              obtain ⟨e, hq3⟩ | ⟨⟨a, j4⟩, hq3⟩ := rs_c (pNum (tok f n) (j2 + 1) 1 10000)
              · obtain ⟨e0, e1⟩ := k4 e hq3
                have hd8 : ¬ I8 172 34 = 0 := dd_of e0 (pNum_er hq3)
                rw [nI_add]
                refine j_iast C (lit (kd := 20) (n := 220) rfl) (ix_n (by omega) (by decide)) (D 127 rfl) ?_
                exact D237 e _ _ hE (by rw [if_pos hE]; unfold pEv; rw [if_pos hs12, hq1, bnd_r, hq2, bnd_r, show pCur (tok f n) j2 (fbE (tok f n (i + 1)).1 b) = .inl e from by unfold pCur; rw [if_neg (by rw [hs]; decide), hcv, if_neg (by decide)]; unfold pFor; rw [hq3, bnd_l], bnd_l]) (Fx.up (hF7.tr (F8.mo (nPe _))) (Or.inr (Or.inl ⟨rfl, by omega, by omega⟩))) (by rw [up2_i (by omega)]; exact e0) (by rw [up2_i (by omega)]; exact e1) (by rw [up2_i (by omega)]; exact hd8)
              · obtain ⟨hv, y0, y1, y2⟩ := k5 _ hq3
                have hv : v8 = nI a := hv
                subst hv
                have y2 : MS I8 f n j4 := y2
                obtain ⟨m1, m2, m3, m4⟩ := pNum_go hN (by omega) hq3
                have hS8 : MS (up2 I8 180 (22 * nE + 3) (nI a)) f n j4 := MS_180 y2 (Fx.up (Fx.rf _ _) rfl)
                have hF8 : Fx (evP (22 * nE)) I (up2 I8 180 (22 * nE + 3) (nI a)) := Fx.up (hF7.tr (F8.mo (nPe _))) (Or.inr (Or.inl ⟨rfl, by omega, by omega⟩))
                rw [nI_add]
                refine j_iast C (lit (kd := 20) (n := 220) rfl) (ix_n (by omega) (by decide)) (D 127 rfl) ?_
                refine j_aload_n C (D 128 rfl) rfl ?_
                refine j_ldcS C (i := 8) (by decide) rfl (D 129 rfl) ?_
                refine j_callV C B k_X12_193 (rc_obj C (lit (kd := 12) (n := 48) rfl) rfl rfl) (d_passes _ _ hL hb hS8 (by rw [up2_i (by omega)]; exact y0) 8 (by decide)) rfl rfl rfl rfl ⟨Nat.le_refl _, Nat.le_refl _⟩ (D 130 rfl) ?_
                rintro r w' ⟨rfl, I9, rfl, F9, k6, k7⟩
                obtain ⟨e, hq4⟩ | ⟨j5, hq4⟩ := rs_c (pTake (tok f n) j4 4)
                · obtain ⟨e0, e1⟩ := k6 e hq4
                  have hd9 : ¬ I9 172 34 = 0 := dd_of e0 (pTake_er hq4)
                  exact D243 e I9 _ hE (by rw [if_pos hE]; unfold pEv; rw [if_pos hs12, hq1, bnd_r, hq2, bnd_r, show pCur (tok f n) j2 (fbE (tok f n (i + 1)).1 b) = .inl e from by unfold pCur; rw [if_neg (by rw [hs]; decide), hcv, if_neg (by decide)]; unfold pFor; rw [hq3, bnd_r, hq4, bnd_l], bnd_l]) (hF8.tr (F9.mo (nPe _))) e0 e1 hd9
                · obtain ⟨w0, w1, w2⟩ := k7 j5 hq4
                  have w2 : MS I9 f n j5 := w2
                  obtain ⟨o1, o2⟩ := pTake_go hN (by omega) (by omega) hq4
                  refine j_aload_n C (D 131 rfl) rfl ?_
                  refine j_getr C f_X12_31 (lit (kd := 12) (n := 48) rfl) rfl rfl (hL _ _ _ rfl) (D 132 rfl) ?_
                  refine j_iload_n C (D 133 rfl) rfl ?_
                  refine j_iconst C (v := nI 4) (D 134 rfl) rfl ?_
                  refine j_iadd C (D 135 rfl) ?_
                  refine j_aload_n C (D 136 rfl) rfl ?_
                  refine j_iconst C (v := nI 1) (D 137 rfl) rfl ?_
                  refine j_ldc C (v := 99999) (D 138 rfl) n_X12_177 ?_
                  refine j_callV C B k_X12_178 (rc_obj C (lit (kd := 12) (n := 48) rfl) rfl rfl) (d_number _ _ hL hb w2 w0 (lo := 1) (hx := 100000) (hi := 99999) (by omega) (by omega) (by decide)) rfl rfl rfl rfl ⟨Nat.le_refl _, Nat.le_refl _⟩ (D 139 rfl) ?_
                  rintro r w' ⟨I10, v10, rfl, rfl, F10, k8, k9⟩
                  obtain ⟨e, hq5⟩ | ⟨⟨d, j6⟩, hq5⟩ := rs_c (pNum (tok f n) j5 1 100000)
                  · obtain ⟨e0, e1⟩ := k8 e hq5
                    have hd10 : ¬ I10 172 34 = 0 := dd_of e0 (pNum_er hq5)
                    rw [nI_add]
                    refine j_iast C (lit (kd := 20) (n := 220) rfl) (ix_n (by omega) (by decide)) (D 140 rfl) ?_
                    exact D258 e _ _ hE (by rw [if_pos hE]; unfold pEv; rw [if_pos hs12, hq1, bnd_r, hq2, bnd_r, show pCur (tok f n) j2 (fbE (tok f n (i + 1)).1 b) = .inl e from by unfold pCur; rw [if_neg (by rw [hs]; decide), hcv, if_neg (by decide)]; unfold pFor; rw [hq3, bnd_r, hq4, bnd_r, hq5, bnd_l], bnd_l]) (Fx.up ((hF8.tr (F9.mo (nPe _))).tr (F10.mo (nPe _))) (Or.inr (Or.inl ⟨rfl, by omega, by omega⟩))) (by rw [up2_i (by omega)]; exact e0) (by rw [up2_i (by omega)]; exact e1) (by rw [up2_i (by omega)]; exact hd10)
                  · obtain ⟨hv, r0, r1, r2⟩ := k9 _ hq5
                    have hv : v10 = nI d := hv
                    subst hv
                    have r2 : MS I10 f n j6 := r2
                    obtain ⟨s1, s2, s3, s4⟩ := pNum_go hN (by omega) hq5
                    rw [nI_add]
                    refine j_iast C (lit (kd := 20) (n := 220) rfl) (ix_n (by omega) (by decide)) (D 140 rfl) ?_
                    have hcu : pCur (tok f n) j2 (fbE (tok f n (i + 1)).1 b) = .inr ((va_up (va_up (va_up (fbE (tok f n (i + 1)).1 b) 2 (nI 0)) 3 (nI a)) 4 (nI d)), j6) := by unfold pCur; rw [if_neg (by rw [hs]; decide), hcv, if_neg (by decide)]; unfold pFor; rw [hq3, bnd_r, hq4, bnd_r, hq5, bnd_r]
                    refine G258 (va_up (va_up (va_up (fbE (tok f n (i + 1)).1 b) 2 (nI 0)) 3 (nI a)) 4 (nI d)) j6 _ _ hE (by omega) (MS_180 r2 (Fx.up (Fx.rf _ _) rfl)) (by rw [up2_i (by omega)]; exact r0) (by rw [up2_i (by omega), r1, w1, up2_i (by omega), y1]; exact h735) (by rw [up2_i (by omega), F10 _ _ (fun z => by unfold nP at z; omega), F9 _ _ (fun z => by unfold nP at z; omega), up2_i (by omega), F8 _ _ (fun z => by unfold nP at z; omega)]; exact h713) (Fx.up ((hF8.tr (F9.mo (nPe _))).tr (F10.mo (nPe _))) (Or.inr (Or.inl ⟨rfl, by omega, by omega⟩))) (fun k hk => ?_) (fun z => absurd z ?_) (fun e h => ?_) (fun s j h => ?_)
                    · have : k = 0 ∨ k = 1 ∨ k = 2 ∨ k = 3 ∨ k = 4 := by omega
                      rcases this with rfl | rfl | rfl | rfl | rfl
                      · rw [up2_i (by omega), F10 _ _ (fun z => by unfold nP at z; omega), F9 _ _ (fun z => by unfold nP at z; omega), up2_i (by omega), F8 _ _ (fun z => by unfold nP at z; omega), vu_ne _ _ (by omega), vu_ne _ _ (by omega), vu_ne _ _ (by omega)]; exact h70
                      · rw [up2_i (by omega), F10 _ _ (fun z => by unfold nP at z; omega), F9 _ _ (fun z => by unfold nP at z; omega), up2_i (by omega), F8 _ _ (fun z => by unfold nP at z; omega), vu_ne _ _ (by omega), vu_ne _ _ (by omega), vu_ne _ _ (by omega)]; exact h71
                      · rw [up2_i (by omega), F10 _ _ (fun z => by unfold nP at z; omega), F9 _ _ (fun z => by unfold nP at z; omega), up2_i (by omega), F8 _ _ (fun z => by unfold nP at z; omega), up2_same, vu_ne _ _ (by omega), vu_ne _ _ (by omega), vu_same]
                      · rw [up2_i (by omega), F10 _ _ (fun z => by unfold nP at z; omega), F9 _ _ (fun z => by unfold nP at z; omega), up2_same, vu_ne _ _ (by omega), vu_same]
                      · rw [up2_same, vu_same]
                    · rw [vu_ne _ _ (by omega), vu_ne _ _ (by omega), vu_same]; decide
                    · rw [if_pos hE]; unfold pEv; rw [if_pos hs12, hq1, bnd_r, hq2, bnd_r, hcu, bnd_r, h, bnd_l]
                    · rw [if_pos hE]; unfold pEv; rw [if_pos hs12, hq1, bnd_r, hq2, bnd_r, hcu, bnd_r, h, bnd_r]
      · refine j_aload_n C (D 37 rfl) rfl ?_
        refine j_ldcS C (i := 1) (by decide) rfl (D 38 rfl) ?_
        refine j_cVp C B k_X12_154 (rc_obj C (lit (kd := 12) (n := 48) rfl) rfl rfl) (d_isWord _ _ hL hb hSa hga 1 (by decide)) rfl rfl rfl rfl ⟨Nat.le_refl _, Nat.le_refl _⟩ (D 39 rfl) ?_
        refine j_if_ne C  87 (D 40 rfl) (by decide) (fun h75 => ?_) (fun h75 => ?_)
        · refine j_aload_n C (D 46 rfl) rfl ?_
          refine j_cVp C B k_X12_106 (rc_obj C (lit (kd := 12) (n := 48) rfl) rfl rfl) (d_goodT _ _ hL hga) rfl rfl rfl rfl ⟨Nat.le_refl _, Nat.le_refl _⟩ (D 47 rfl) ?_
          refine j_if_eq C  98 (D 48 rfl) (by decide) (fun h91 => absurd h91 (by decide)) (fun h91 => ?_)
          have hs12 : (tok f n (i + 1)).1 = 2 ∨ (tok f n (i + 1)).1 = 1 := Or.inl (b2_ne h75)
          have hsn2 : spo f n (i + 1) < n := tok_lt_n (by rcases hs12 with z | z <;> rw [z] <;> decide)
          have hlt1 : i + 1 < N := lt_of_T hN.2.1 hlt (by rcases hs12 with z | z <;> rw [z] <;> decide)
          refine j_aload_n C (D 49 rfl) rfl ?_
          refine j_callV C B k_X12_158 (rc_obj C (lit (kd := 12) (n := 48) rfl) rfl rfl) (d_advance _ _ hL hb hSa hsn2) rfl rfl rfl rfl ⟨Nat.le_refl _, Nat.le_refl _⟩ (D 50 rfl) ?_
          rintro r w' ⟨rfl, I4, rfl, F4, hS4⟩
          have hg4 : I4 172 34 = nI 0 := by rw [F4 _ _ (fun z => by unfold aP at z; omega)]; exact hga
          have hF4 : Fx (evP (22 * nE)) I I4 := hFa.tr (F4.mo (aPe _))
          refine j_aload_n C (D 51 rfl) rfl ?_
          refine j_ldcS C (i := 3) (by decide) rfl (D 52 rfl) ?_
          refine j_callV C B k_X12_193 (rc_obj C (lit (kd := 12) (n := 48) rfl) rfl rfl) (d_passes _ _ hL hb hS4 hg4 3 (by decide)) rfl rfl rfl rfl ⟨Nat.le_refl _, Nat.le_refl _⟩ (D 53 rfl) ?_
          rintro r w' ⟨rfl, I5, rfl, F5, k0, k1⟩
          obtain ⟨e, hq1⟩ | ⟨j, hq1⟩ := rs_c (pTake (tok f n) (i + 1 + 1) 3)
          · obtain ⟨e0, e1⟩ := k0 e hq1
            have hd5 : ¬ I5 172 34 = 0 := dd_of e0 (pTake_er hq1)
            exact D104 e I5 _ hE (by rw [if_pos hE]; unfold pEv; rw [if_pos hs12, hq1, bnd_l]) (hF4.tr (F5.mo (nPe _))) e0 e1 hd5
          · obtain ⟨u0, u1, u2⟩ := k1 j hq1
            have u2 : MS I5 f n j := u2
            obtain ⟨c1, c2⟩ := pTake_go hN hlt1 (by omega) hq1
            refine j_aload_n C (D 54 rfl) rfl ?_
            refine j_getr C f_X12_31 (lit (kd := 12) (n := 48) rfl) rfl rfl (hL _ _ _ rfl) (D 55 rfl) ?_
            refine j_iload_n C (D 56 rfl) rfl ?_
            refine j_iconst C (v := nI 1) (D 57 rfl) rfl ?_
            refine j_iadd C (D 58 rfl) ?_
            refine j_aload_n C (D 59 rfl) rfl ?_
            refine j_iconst C (v := nI 0) (D 60 rfl) rfl ?_
            refine j_ldc C (v := 99999) (D 61 rfl) n_X12_177 ?_
            refine j_callV C B k_X12_178 (rc_obj C (lit (kd := 12) (n := 48) rfl) rfl rfl) (d_number _ _ hL hb u2 u0 (lo := 0) (hx := 100000) (hi := 99999) (by omega) (by omega) (by decide)) rfl rfl rfl rfl ⟨Nat.le_refl _, Nat.le_refl _⟩ (D 62 rfl) ?_
            rintro r w' ⟨I6, v6, rfl, rfl, F6, k2, k3⟩
            obtain ⟨e, hq2⟩ | ⟨⟨b, j2⟩, hq2⟩ := rs_c (pNum (tok f n) j 0 100000)
            · obtain ⟨e0, e1⟩ := k2 e hq2
              have hd6 : ¬ I6 172 34 = 0 := dd_of e0 (pNum_er hq2)
              rw [nI_add]
              refine j_iast C (lit (kd := 20) (n := 220) rfl) (ix_n (by omega) (by decide)) (D 63 rfl) ?_
              exact D119 e _ _ hE (by rw [if_pos hE]; unfold pEv; rw [if_pos hs12, hq1, bnd_r, hq2, bnd_l]) (Fx.up ((hF4.tr (F5.mo (nPe _))).tr (F6.mo (nPe _))) (Or.inr (Or.inl ⟨rfl, by omega, by omega⟩))) (by rw [up2_i (by omega)]; exact e0) (by rw [up2_i (by omega)]; exact e1) (by rw [up2_i (by omega)]; exact hd6)
            · obtain ⟨hv, x0, x1, x2⟩ := k3 _ hq2
              have hv : v6 = nI b := hv
              subst hv
              have x2 : MS I6 f n j2 := x2
              obtain ⟨d1, d2, d3, d4⟩ := pNum_go hN (by omega) hq2
              have hSd : MS (up2 I6 180 (22 * nE + 1) (nI b)) f n j2 := MS_180 x2 (Fx.up (Fx.rf _ _) rfl)
              have hgd : up2 I6 180 (22 * nE + 1) (nI b) 172 34 = nI 0 := by rw [up2_i (by omega)]; exact x0
              have hFd : Fx (evP (22 * nE)) I (up2 I6 180 (22 * nE + 1) (nI b)) := Fx.up ((hF4.tr (F5.mo (nPe _))).tr (F6.mo (nPe _))) (Or.inr (Or.inl ⟨rfl, by omega, by omega⟩))
              have hd0 : up2 I6 180 (22 * nE + 1) (nI b) 180 (22 * nE + 0) = fbE (tok f n (i + 1)).1 b 0 := by rw [up2_i (by omega), F6 _ _ (fun z => by unfold nP at z; omega), F5 _ _ (fun z => by unfold nP at z; omega), F4 _ _ (fun z => by unfold aP at z; omega), up2_same, fb0]; exact hfv
              have hd1 : up2 I6 180 (22 * nE + 1) (nI b) 180 (22 * nE + 1) = fbE (tok f n (i + 1)).1 b 1 := by rw [up2_same, fb1]
              have hd35 : up2 I6 180 (22 * nE + 1) (nI b) 172 35 = I 172 35 := by rw [up2_i (by omega), x1, u1, F4 _ _ (fun z => by unfold aP at z; omega), up2_i (by omega), hF2 _ _ (fun z => by unfold aP at z; omega)]
              have hd13 : up2 I6 180 (22 * nE + 1) (nI b) 172 13 = nI nE := by rw [up2_i (by omega), F6 _ _ (fun z => by unfold nP at z; omega), F5 _ _ (fun z => by unfold nP at z; omega), F4 _ _ (fun z => by unfold aP at z; omega), up2_i (by omega), hF2 _ _ (fun z => by unfold aP at z; omega)]; exact h13
              rw [nI_add]
              refine j_iast C (lit (kd := 20) (n := 220) rfl) (ix_n (by omega) (by decide)) (D 63 rfl) ?_
              refine j_aload_n C (D 64 rfl) rfl ?_
              refine j_ldcS C (i := 4) (by decide) rfl (D 65 rfl) ?_
              refine j_cVp C B k_X12_154 (rc_obj C (lit (kd := 12) (n := 48) rfl) rfl rfl) (d_isWord _ _ hL hb hSd hgd 4 (by decide)) rfl rfl rfl rfl ⟨Nat.le_refl _, Nat.le_refl _⟩ (D 66 rfl) ?_
              refine j_if_eq C  132 (D 67 rfl) (by decide) (fun h125 => ?_) (fun h125 => ?_)
              · refine j_aload_n C (D 70 rfl) rfl ?_
                refine j_ldcS C (i := 5) (by decide) rfl (D 71 rfl) ?_
                refine j_cVp C B k_X12_154 (rc_obj C (lit (kd := 12) (n := 48) rfl) rfl rfl) (d_isWord _ _ hL hb hSd hgd 5 (by decide)) rfl rfl rfl rfl ⟨Nat.le_refl _, Nat.le_refl _⟩ (D 72 rfl) ?_
                refine j_if_eq C  145 (D 73 rfl) (by decide) (fun h138 => ?_) (fun h138 => ?_)
                · refine j_aload_n C (D 76 rfl) rfl ?_
                  refine j_ldcS C (i := 6) (by decide) rfl (D 77 rfl) ?_
                  refine j_cVp C B k_X12_154 (rc_obj C (lit (kd := 12) (n := 48) rfl) rfl rfl) (d_isWord _ _ hL hb hSd hgd 6 (by decide)) rfl rfl rfl rfl ⟨Nat.le_refl _, Nat.le_refl _⟩ (D 78 rfl) ?_
                  refine j_if_eq C  158 (D 79 rfl) (by decide) (fun h151 => ?_) (fun h151 => ?_)
                  · refine j_aload_n C (D 82 rfl) rfl ?_
                    refine j_ldcS C (i := 7) (by decide) rfl (D 83 rfl) ?_
                    refine j_cVp C B k_X12_154 (rc_obj C (lit (kd := 12) (n := 48) rfl) rfl rfl) (d_isWord _ _ hL hb hSd hgd 7 (by decide)) rfl rfl rfl rfl ⟨Nat.le_refl _, Nat.le_refl _⟩ (D 84 rfl) ?_
                    refine j_if_eq C  171 (D 85 rfl) (by decide) (fun h164 => ?_) (fun h164 => ?_)
                    · refine j_iconst C (v := (-1)) (D 88 rfl) (by decide) ?_
                      have hcv : crv (tok f n j2).1 = 99 := by unfold crv; rw [if_neg (show ¬ (tok f n j2).1 = 6 from b2_eq h125), if_neg (show ¬ (tok f n j2).1 = 7 from b2_eq h138), if_neg (show ¬ (tok f n j2).1 = 8 from b2_eq h151)]
                      have n9 : ¬ (tok f n j2).1 = 9 := b2_eq h164
                      refine j_istore_n C (D 89 rfl) rfl ?_
                      refine j_iload_n C (D 90 rfl) rfl ?_
                      refine j_iconst C (v := (-1)) (D 91 rfl) (by decide) ?_
                      refine j_icmp_ne C  187 (D 92 rfl) (by decide) (fun h175 => absurd h175 (fun z => z rfl)) (fun h175 => ?_)
                      refine j_aload_n C (D 93 rfl) rfl ?_
                      refine j_iconst C (v := nI 1) (D 94 rfl) rfl ?_
                      refine j_aload_n C (D 95 rfl) rfl ?_
                      refine j_geti C f_X12_120 (lit (kd := 12) (n := 48) rfl) rfl rfl (D 96 rfl) ?_
                      rw [hSd.2.1]
                      refine j_callV C B k_X12_168 (rc_obj C (lit (kd := 12) (n := 48) rfl) rfl rfl) (d_errsT _ _ hL hgd _ _) rfl rfl rfl rfl ⟨Nat.le_refl _, Nat.le_refl _⟩ (D 97 rfl) ?_
                      rintro r w' ⟨rfl, rfl⟩
                      have hdd3 : ¬ up2 (up2 (up2 I6 180 (22 * nE + 1) (nI b)) 172 34 (nI 1)) 172 35 (nI (spo f n j2)) 172 34 = 0 := dd_of (k := 1) (by rw [up2_i (by omega), up2_same]) (by omega)
                      refine j_aload_n C (D 98 rfl) rfl ?_
                      refine j_cVp C B k_X12_106 (rc_obj C (lit (kd := 12) (n := 48) rfl) rfl rfl) (d_goodF _ _ hL hdd3) rfl rfl rfl rfl ⟨Nat.le_refl _, Nat.le_refl _⟩ (D 99 rfl) ?_
                      refine j_if_ne C  195 (D 100 rfl) (by decide) (fun h191 => absurd h191 (fun z => z rfl)) (fun h191 => ?_)
                      exact j_vret C P rfl (D 101 rfl) ⟨Nat.le_refl _, Nat.le_refl _⟩ (MX_e (e := fl (tok f n) j2 1) (by rw [if_pos hE]; unfold pEv; rw [if_pos hs12, hq1, bnd_r, hq2, bnd_r, show pCur (tok f n) j2 (fbE (tok f n (i + 1)).1 b) = .inl (fl (tok f n) j2 1) from by unfold pCur; rw [if_neg n9, if_pos hcv], bnd_l]) (Fx.up (Fx.up hFd (Or.inl ⟨rfl, by omega⟩)) (Or.inl ⟨rfl, by omega⟩)) (by rw [up2_i (by omega), up2_same]; rfl) (by rw [up2_same]; show _ = nI (tok f n j2).2.1; rw [tok_2]))
                    · refine j_iconst C (v := nI 3) (D 86 rfl) rfl ?_
                      refine j_goto C 172 (D 87 rfl) (by decide) ?_
                      have hs : (tok f n j2).1 = 9 := b2_ne h164
                      have hltj := lt_sg hN (by omega) hs (by decide)
                      refine j_istore_n C (D 89 rfl) rfl ?_
                      refine j_iload_n C (D 90 rfl) rfl ?_
                      refine j_iconst C (v := (-1)) (D 91 rfl) (by decide) ?_
                      refine j_icmp_ne C  187 (D 92 rfl) (by decide) (fun h175 => ?_) (fun h175 => absurd h175 (by decide))
                      refine j_aload_n C (D 98 rfl) rfl ?_
                      refine j_cVp C B k_X12_106 (rc_obj C (lit (kd := 12) (n := 48) rfl) rfl rfl) (d_goodT _ _ hL hgd) rfl rfl rfl rfl ⟨Nat.le_refl _, Nat.le_refl _⟩ (D 99 rfl) ?_
                      refine j_if_ne C  195 (D 100 rfl) (by decide) (fun h191 => ?_) (fun h191 => absurd h191 (by decide))
                      refine j_aload_n C (D 102 rfl) rfl ?_
                      refine j_callV C B k_X12_158 (rc_obj C (lit (kd := 12) (n := 48) rfl) rfl rfl) (d_advance _ _ hL hb hSd (tok_lt_n (by rw [hs]; decide))) rfl rfl rfl rfl ⟨Nat.le_refl _, Nat.le_refl _⟩ (D 103 rfl) ?_
                      rintro r w' ⟨rfl, I7, rfl, F7, S7⟩
                      have hS7 : MS (up2 I7 180 (22 * nE + 2) (nI 3)) f n (j2 + 1) := MS_180 S7 (Fx.up (Fx.rf _ _) rfl)
                      have hg7 : up2 I7 180 (22 * nE + 2) (nI 3) 172 34 = nI 0 := by rw [up2_i (by omega), F7 _ _ (fun z => by unfold aP at z; omega)]; exact hgd
                      have hF7 : Fx (evP (22 * nE)) I (up2 I7 180 (22 * nE + 2) (nI 3)) := Fx.up (hFd.tr (F7.mo (aPe _))) (Or.inr (Or.inl ⟨rfl, by omega, by omega⟩))
                      have h70 : up2 I7 180 (22 * nE + 2) (nI 3) 180 (22 * nE + 0) = fbE (tok f n (i + 1)).1 b 0 := by rw [up2_i (by omega), F7 _ _ (fun z => by unfold aP at z; omega)]; exact hd0
                      have h71 : up2 I7 180 (22 * nE + 2) (nI 3) 180 (22 * nE + 1) = fbE (tok f n (i + 1)).1 b 1 := by rw [up2_i (by omega), F7 _ _ (fun z => by unfold aP at z; omega)]; exact hd1
                      have h735 : up2 I7 180 (22 * nE + 2) (nI 3) 172 35 = I 172 35 := by rw [up2_i (by omega), F7 _ _ (fun z => by unfold aP at z; omega)]; exact hd35
                      have h713 : up2 I7 180 (22 * nE + 2) (nI 3) 172 13 = nI nE := by rw [up2_i (by omega), F7 _ _ (fun z => by unfold aP at z; omega)]; exact hd13
                      refine j_aload_n C (D 104 rfl) rfl ?_
                      refine j_getr C f_X12_31 (lit (kd := 12) (n := 48) rfl) rfl rfl (hL _ _ _ rfl) (D 105 rfl) ?_
                      refine j_iload_n C (D 106 rfl) rfl ?_
                      refine j_iconst C (v := nI 2) (D 107 rfl) rfl ?_
                      refine j_iadd C (D 108 rfl) ?_
                      rw [nI_add]
                      refine j_iload_n C (D 109 rfl) rfl ?_
                      refine j_iast C (lit (kd := 20) (n := 220) rfl) (ix_n (by omega) (by decide)) (D 110 rfl) ?_
                      refine j_iload_n C (D 111 rfl) rfl ?_
                      refine j_iconst C (v := nI 3) (D 112 rfl) rfl ?_
                      refine j_icmp_ne C  221 (D 113 rfl) (by decide) (fun h210 => absurd h210 (fun z => z rfl)) (fun h210 => ?_)
                      refine j_aload_n C (D 114 rfl) rfl ?_
                      refine j_iload_n C (D 115 rfl) rfl ?_
                      refine j_callV C B k_X12_205 (rc_obj C (lit (kd := 12) (n := 48) rfl) rfl rfl) (d_readTable _ _ hL hb hN hltj hS7 hg7 (by omega) (E := fbE (tok f n (i + 1)).1 b)) rfl rfl rfl rfl ⟨Nat.le_refl _, Nat.le_refl _⟩ (D 116 rfl) ?_
                      rintro r w' ⟨rfl, I8, rfl, F8, k4, k5⟩
                      obtain ⟨e, hq3⟩ | ⟨⟨⟨n2, E3⟩, j3⟩, hq3⟩ := rs_c (pTab (tok f n) 9 0 0 0 (fbE (tok f n (i + 1)).1 b) j2)
                      · obtain ⟨e0, e1⟩ := k4 e hq3
                        refine j_goto C 258 (D 117 rfl) (by decide) ?_
                        exact D258 e I8 _ hE (by rw [if_pos hE]; unfold pEv; rw [if_pos hs12, hq1, bnd_r, hq2, bnd_r, show pCur (tok f n) j2 (fbE (tok f n (i + 1)).1 b) = .inl e from by unfold pCur; rw [if_pos hs, hq3, bnd_l], bnd_l]) (hF7.tr (F8.mo (tPe _))) e0 e1 (dd_of e0 (pTab_er hq3))
                      · obtain ⟨y0, y1, y2, y3, y4, y5⟩ := k5 _ hq3
                        have y2 : MS I8 f n j3 := y2
                        have y3 : TBm I8 (22 * nE) n2 E3 := y3
                        have y4 : I8 180 (22 * nE + 3) = nI n2 := y4
                        obtain ⟨z1, z2, z3, z4⟩ := pTab_in hN hltj hq3
                        refine j_goto C 258 (D 117 rfl) (by decide) ?_
                        have hcu : pCur (tok f n) j2 (fbE (tok f n (i + 1)).1 b) = .inr (tbE (n2, E3), j3) := by unfold pCur; rw [if_pos hs, hq3, bnd_r]
                        have e3k : ∀ k, 6 ≤ k → tbE (n2, E3) k = E3 k := fun k hk => by unfold tbE; rw [vu_ne _ _ (by omega), vu_ne _ _ (by omega), vu_ne _ _ (by omega)]
                        have t2 : tbE (n2, E3) 2 = nI 3 := by unfold tbE; rw [vu_ne _ _ (by omega), vu_ne _ _ (by omega), vu_same]
                        have t3 : tbE (n2, E3) 3 = nI n2 := by unfold tbE; rw [vu_ne _ _ (by omega), vu_same]
                        have t4 : tbE (n2, E3) 4 = -1 := by unfold tbE; rw [vu_same]
                        have t0 : ∀ k, k < 2 → tbE (n2, E3) k = fbE (tok f n (i + 1)).1 b k := fun k hk => by unfold tbE; rw [vu_ne _ _ (by omega), vu_ne _ _ (by omega), vu_ne _ _ (by omega)]; exact z4 k (by omega)
                        refine G258 (tbE (n2, E3)) j3 I8 _ hE z2 y2 y0 (by rw [y1]; exact h735) (by rw [F8 _ _ (fun z => by unfold tbP nP at z; omega)]; exact h713) (hF7.tr (F8.mo (tPe _))) (fun k hk => ?_) (fun _ k hk => ?_) (fun e h => ?_) (fun s j h => ?_)
                        · have : k = 0 ∨ k = 1 ∨ k = 2 ∨ k = 3 ∨ k = 4 := by omega
                          rcases this with rfl | rfl | rfl | rfl | rfl
                          · rw [F8 _ _ (fun z => by unfold tbP nP at z; omega), t0 0 (by omega)]; exact h70
                          · rw [F8 _ _ (fun z => by unfold tbP nP at z; omega), t0 1 (by omega)]; exact h71
                          · rw [F8 _ _ (fun z => by unfold tbP nP at z; omega), t2, up2_same]
                          · rw [t3]; exact y4
                          · rw [t4]; exact y5
                        · rw [t3, nI_int (by omega)] at hk
                          rw [e3k _ (by omega), e3k _ (by omega)]
                          exact y3 k (by omega)
                        · rw [if_pos hE]; unfold pEv; rw [if_pos hs12, hq1, bnd_r, hq2, bnd_r, hcu, bnd_r, h, bnd_l]
                        · rw [if_pos hE]; unfold pEv; rw [if_pos hs12, hq1, bnd_r, hq2, bnd_r, hcu, bnd_r, h, bnd_r]
                  · refine j_iconst C (v := nI 2) (D 80 rfl) rfl ?_
                    refine j_goto C 172 (D 81 rfl) (by decide) ?_
                    have hs : (tok f n j2).1 = 8 := b2_ne h151
                    have hltj := lt_sg hN (by omega) hs (by decide)
                    have hcv : crv (tok f n j2).1 = 2 := by rw [hs]; rfl
                    refine j_istore_n C (D 89 rfl) rfl ?_
                    refine j_iload_n C (D 90 rfl) rfl ?_
                    refine j_iconst C (v := (-1)) (D 91 rfl) (by decide) ?_
                    refine j_icmp_ne C  187 (D 92 rfl) (by decide) (fun h175 => ?_) (fun h175 => absurd h175 (by decide))
                    refine j_aload_n C (D 98 rfl) rfl ?_
                    refine j_cVp C B k_X12_106 (rc_obj C (lit (kd := 12) (n := 48) rfl) rfl rfl) (d_goodT _ _ hL hgd) rfl rfl rfl rfl ⟨Nat.le_refl _, Nat.le_refl _⟩ (D 99 rfl) ?_
                    refine j_if_ne C  195 (D 100 rfl) (by decide) (fun h191 => ?_) (fun h191 => absurd h191 (by decide))
                    refine j_aload_n C (D 102 rfl) rfl ?_
                    refine j_callV C B k_X12_158 (rc_obj C (lit (kd := 12) (n := 48) rfl) rfl rfl) (d_advance _ _ hL hb hSd (tok_lt_n (by rw [hs]; decide))) rfl rfl rfl rfl ⟨Nat.le_refl _, Nat.le_refl _⟩ (D 103 rfl) ?_
                    rintro r w' ⟨rfl, I7, rfl, F7, S7⟩
                    have hS7 : MS (up2 I7 180 (22 * nE + 2) (nI 2)) f n (j2 + 1) := MS_180 S7 (Fx.up (Fx.rf _ _) rfl)
                    have hg7 : up2 I7 180 (22 * nE + 2) (nI 2) 172 34 = nI 0 := by rw [up2_i (by omega), F7 _ _ (fun z => by unfold aP at z; omega)]; exact hgd
                    have hF7 : Fx (evP (22 * nE)) I (up2 I7 180 (22 * nE + 2) (nI 2)) := Fx.up (hFd.tr (F7.mo (aPe _))) (Or.inr (Or.inl ⟨rfl, by omega, by omega⟩))
                    have h70 : up2 I7 180 (22 * nE + 2) (nI 2) 180 (22 * nE + 0) = fbE (tok f n (i + 1)).1 b 0 := by rw [up2_i (by omega), F7 _ _ (fun z => by unfold aP at z; omega)]; exact hd0
                    have h71 : up2 I7 180 (22 * nE + 2) (nI 2) 180 (22 * nE + 1) = fbE (tok f n (i + 1)).1 b 1 := by rw [up2_i (by omega), F7 _ _ (fun z => by unfold aP at z; omega)]; exact hd1
                    have h735 : up2 I7 180 (22 * nE + 2) (nI 2) 172 35 = I 172 35 := by rw [up2_i (by omega), F7 _ _ (fun z => by unfold aP at z; omega)]; exact hd35
                    have h713 : up2 I7 180 (22 * nE + 2) (nI 2) 172 13 = nI nE := by rw [up2_i (by omega), F7 _ _ (fun z => by unfold aP at z; omega)]; exact hd13
                    refine j_aload_n C (D 104 rfl) rfl ?_
                    refine j_getr C f_X12_31 (lit (kd := 12) (n := 48) rfl) rfl rfl (hL _ _ _ rfl) (D 105 rfl) ?_
                    refine j_iload_n C (D 106 rfl) rfl ?_
                    refine j_iconst C (v := nI 2) (D 107 rfl) rfl ?_
                    refine j_iadd C (D 108 rfl) ?_
                    rw [nI_add]
                    refine j_iload_n C (D 109 rfl) rfl ?_
                    refine j_iast C (lit (kd := 20) (n := 220) rfl) (ix_n (by omega) (by decide)) (D 110 rfl) ?_
                    refine j_iload_n C (D 111 rfl) rfl ?_
                    refine j_iconst C (v := nI 3) (D 112 rfl) rfl ?_
                    refine j_icmp_ne C  221 (D 113 rfl) (by decide) (fun h210 => ?_) (fun h210 => absurd h210 (by decide))
                    refine j_aload_n C (D 118 rfl) rfl ?_
                    refine j_getr C f_X12_31 (lit (kd := 12) (n := 48) rfl) rfl rfl (hL _ _ _ rfl) (D 119 rfl) ?_
                    refine j_iload_n C (D 120 rfl) rfl ?_
                    refine j_iconst C (v := nI 3) (D 121 rfl) rfl ?_
                    refine j_iadd C (D 122 rfl) ?_
                    refine j_aload_n C (D 123 rfl) rfl ?_
                    refine j_iconst C (v := nI 1) (D 124 rfl) rfl ?_
                    refine j_sipush C (v := nI 9999) (D 125 rfl) rfl ?_
                    refine j_callV C B k_X12_178 (rc_obj C (lit (kd := 12) (n := 48) rfl) rfl rfl) (d_number _ _ hL hb hS7 hg7 (lo := 1) (hx := 10000) (hi := nI 9999) (by omega) (by omega) (by decide)) rfl rfl rfl rfl ⟨Nat.le_refl _, Nat.le_refl _⟩ (D 126 rfl) ?_
                    rintro r w' ⟨I8, v8, rfl, rfl, F8, k4, k5⟩
                    obtain ⟨e, hq3⟩ | ⟨⟨a, j4⟩, hq3⟩ := rs_c (pNum (tok f n) (j2 + 1) 1 10000)
                    · obtain ⟨e0, e1⟩ := k4 e hq3
                      have hd8 : ¬ I8 172 34 = 0 := dd_of e0 (pNum_er hq3)
                      rw [nI_add]
                      refine j_iast C (lit (kd := 20) (n := 220) rfl) (ix_n (by omega) (by decide)) (D 127 rfl) ?_
                      exact D237 e _ _ hE (by rw [if_pos hE]; unfold pEv; rw [if_pos hs12, hq1, bnd_r, hq2, bnd_r, show pCur (tok f n) j2 (fbE (tok f n (i + 1)).1 b) = .inl e from by unfold pCur; rw [if_neg (by rw [hs]; decide), hcv, if_neg (by decide)]; unfold pFor; rw [hq3, bnd_l], bnd_l]) (Fx.up (hF7.tr (F8.mo (nPe _))) (Or.inr (Or.inl ⟨rfl, by omega, by omega⟩))) (by rw [up2_i (by omega)]; exact e0) (by rw [up2_i (by omega)]; exact e1) (by rw [up2_i (by omega)]; exact hd8)
                    · obtain ⟨hv, y0, y1, y2⟩ := k5 _ hq3
                      have hv : v8 = nI a := hv
                      subst hv
                      have y2 : MS I8 f n j4 := y2
                      obtain ⟨m1, m2, m3, m4⟩ := pNum_go hN (by omega) hq3
                      have hS8 : MS (up2 I8 180 (22 * nE + 3) (nI a)) f n j4 := MS_180 y2 (Fx.up (Fx.rf _ _) rfl)
                      have hF8 : Fx (evP (22 * nE)) I (up2 I8 180 (22 * nE + 3) (nI a)) := Fx.up (hF7.tr (F8.mo (nPe _))) (Or.inr (Or.inl ⟨rfl, by omega, by omega⟩))
                      rw [nI_add]
                      refine j_iast C (lit (kd := 20) (n := 220) rfl) (ix_n (by omega) (by decide)) (D 127 rfl) ?_
                      refine j_aload_n C (D 128 rfl) rfl ?_
                      refine j_ldcS C (i := 8) (by decide) rfl (D 129 rfl) ?_
                      refine j_callV C B k_X12_193 (rc_obj C (lit (kd := 12) (n := 48) rfl) rfl rfl) (d_passes _ _ hL hb hS8 (by rw [up2_i (by omega)]; exact y0) 8 (by decide)) rfl rfl rfl rfl ⟨Nat.le_refl _, Nat.le_refl _⟩ (D 130 rfl) ?_
                      rintro r w' ⟨rfl, I9, rfl, F9, k6, k7⟩
                      obtain ⟨e, hq4⟩ | ⟨j5, hq4⟩ := rs_c (pTake (tok f n) j4 4)
                      · obtain ⟨e0, e1⟩ := k6 e hq4
                        have hd9 : ¬ I9 172 34 = 0 := dd_of e0 (pTake_er hq4)
                        exact D243 e I9 _ hE (by rw [if_pos hE]; unfold pEv; rw [if_pos hs12, hq1, bnd_r, hq2, bnd_r, show pCur (tok f n) j2 (fbE (tok f n (i + 1)).1 b) = .inl e from by unfold pCur; rw [if_neg (by rw [hs]; decide), hcv, if_neg (by decide)]; unfold pFor; rw [hq3, bnd_r, hq4, bnd_l], bnd_l]) (hF8.tr (F9.mo (nPe _))) e0 e1 hd9
                      · obtain ⟨w0, w1, w2⟩ := k7 j5 hq4
                        have w2 : MS I9 f n j5 := w2
                        obtain ⟨o1, o2⟩ := pTake_go hN (by omega) (by omega) hq4
                        refine j_aload_n C (D 131 rfl) rfl ?_
                        refine j_getr C f_X12_31 (lit (kd := 12) (n := 48) rfl) rfl rfl (hL _ _ _ rfl) (D 132 rfl) ?_
                        refine j_iload_n C (D 133 rfl) rfl ?_
                        refine j_iconst C (v := nI 4) (D 134 rfl) rfl ?_
                        refine j_iadd C (D 135 rfl) ?_
                        refine j_aload_n C (D 136 rfl) rfl ?_
                        refine j_iconst C (v := nI 1) (D 137 rfl) rfl ?_
                        refine j_ldc C (v := 99999) (D 138 rfl) n_X12_177 ?_
                        refine j_callV C B k_X12_178 (rc_obj C (lit (kd := 12) (n := 48) rfl) rfl rfl) (d_number _ _ hL hb w2 w0 (lo := 1) (hx := 100000) (hi := 99999) (by omega) (by omega) (by decide)) rfl rfl rfl rfl ⟨Nat.le_refl _, Nat.le_refl _⟩ (D 139 rfl) ?_
                        rintro r w' ⟨I10, v10, rfl, rfl, F10, k8, k9⟩
                        obtain ⟨e, hq5⟩ | ⟨⟨d, j6⟩, hq5⟩ := rs_c (pNum (tok f n) j5 1 100000)
                        · obtain ⟨e0, e1⟩ := k8 e hq5
                          have hd10 : ¬ I10 172 34 = 0 := dd_of e0 (pNum_er hq5)
                          rw [nI_add]
                          refine j_iast C (lit (kd := 20) (n := 220) rfl) (ix_n (by omega) (by decide)) (D 140 rfl) ?_
                          exact D258 e _ _ hE (by rw [if_pos hE]; unfold pEv; rw [if_pos hs12, hq1, bnd_r, hq2, bnd_r, show pCur (tok f n) j2 (fbE (tok f n (i + 1)).1 b) = .inl e from by unfold pCur; rw [if_neg (by rw [hs]; decide), hcv, if_neg (by decide)]; unfold pFor; rw [hq3, bnd_r, hq4, bnd_r, hq5, bnd_l], bnd_l]) (Fx.up ((hF8.tr (F9.mo (nPe _))).tr (F10.mo (nPe _))) (Or.inr (Or.inl ⟨rfl, by omega, by omega⟩))) (by rw [up2_i (by omega)]; exact e0) (by rw [up2_i (by omega)]; exact e1) (by rw [up2_i (by omega)]; exact hd10)
                        · obtain ⟨hv, r0, r1, r2⟩ := k9 _ hq5
                          have hv : v10 = nI d := hv
                          subst hv
                          have r2 : MS I10 f n j6 := r2
                          obtain ⟨s1, s2, s3, s4⟩ := pNum_go hN (by omega) hq5
                          rw [nI_add]
                          refine j_iast C (lit (kd := 20) (n := 220) rfl) (ix_n (by omega) (by decide)) (D 140 rfl) ?_
                          have hcu : pCur (tok f n) j2 (fbE (tok f n (i + 1)).1 b) = .inr ((va_up (va_up (va_up (fbE (tok f n (i + 1)).1 b) 2 (nI 2)) 3 (nI a)) 4 (nI d)), j6) := by unfold pCur; rw [if_neg (by rw [hs]; decide), hcv, if_neg (by decide)]; unfold pFor; rw [hq3, bnd_r, hq4, bnd_r, hq5, bnd_r]
                          refine G258 (va_up (va_up (va_up (fbE (tok f n (i + 1)).1 b) 2 (nI 2)) 3 (nI a)) 4 (nI d)) j6 _ _ hE (by omega) (MS_180 r2 (Fx.up (Fx.rf _ _) rfl)) (by rw [up2_i (by omega)]; exact r0) (by rw [up2_i (by omega), r1, w1, up2_i (by omega), y1]; exact h735) (by rw [up2_i (by omega), F10 _ _ (fun z => by unfold nP at z; omega), F9 _ _ (fun z => by unfold nP at z; omega), up2_i (by omega), F8 _ _ (fun z => by unfold nP at z; omega)]; exact h713) (Fx.up ((hF8.tr (F9.mo (nPe _))).tr (F10.mo (nPe _))) (Or.inr (Or.inl ⟨rfl, by omega, by omega⟩))) (fun k hk => ?_) (fun z => absurd z ?_) (fun e h => ?_) (fun s j h => ?_)
                          · have : k = 0 ∨ k = 1 ∨ k = 2 ∨ k = 3 ∨ k = 4 := by omega
                            rcases this with rfl | rfl | rfl | rfl | rfl
                            · rw [up2_i (by omega), F10 _ _ (fun z => by unfold nP at z; omega), F9 _ _ (fun z => by unfold nP at z; omega), up2_i (by omega), F8 _ _ (fun z => by unfold nP at z; omega), vu_ne _ _ (by omega), vu_ne _ _ (by omega), vu_ne _ _ (by omega)]; exact h70
                            · rw [up2_i (by omega), F10 _ _ (fun z => by unfold nP at z; omega), F9 _ _ (fun z => by unfold nP at z; omega), up2_i (by omega), F8 _ _ (fun z => by unfold nP at z; omega), vu_ne _ _ (by omega), vu_ne _ _ (by omega), vu_ne _ _ (by omega)]; exact h71
                            · rw [up2_i (by omega), F10 _ _ (fun z => by unfold nP at z; omega), F9 _ _ (fun z => by unfold nP at z; omega), up2_i (by omega), F8 _ _ (fun z => by unfold nP at z; omega), up2_same, vu_ne _ _ (by omega), vu_ne _ _ (by omega), vu_same]
                            · rw [up2_i (by omega), F10 _ _ (fun z => by unfold nP at z; omega), F9 _ _ (fun z => by unfold nP at z; omega), up2_same, vu_ne _ _ (by omega), vu_same]
                            · rw [up2_same, vu_same]
                          · rw [vu_ne _ _ (by omega), vu_ne _ _ (by omega), vu_same]; decide
                          · rw [if_pos hE]; unfold pEv; rw [if_pos hs12, hq1, bnd_r, hq2, bnd_r, hcu, bnd_r, h, bnd_l]
                          · rw [if_pos hE]; unfold pEv; rw [if_pos hs12, hq1, bnd_r, hq2, bnd_r, hcu, bnd_r, h, bnd_r]
                · refine j_iconst C (v := nI 1) (D 74 rfl) rfl ?_
                  refine j_goto C 172 (D 75 rfl) (by decide) ?_
                  have hs : (tok f n j2).1 = 7 := b2_ne h138
                  have hltj := lt_sg hN (by omega) hs (by decide)
                  have hcv : crv (tok f n j2).1 = 1 := by rw [hs]; rfl
                  refine j_istore_n C (D 89 rfl) rfl ?_
                  refine j_iload_n C (D 90 rfl) rfl ?_
                  refine j_iconst C (v := (-1)) (D 91 rfl) (by decide) ?_
                  refine j_icmp_ne C  187 (D 92 rfl) (by decide) (fun h175 => ?_) (fun h175 => absurd h175 (by decide))
                  refine j_aload_n C (D 98 rfl) rfl ?_
                  refine j_cVp C B k_X12_106 (rc_obj C (lit (kd := 12) (n := 48) rfl) rfl rfl) (d_goodT _ _ hL hgd) rfl rfl rfl rfl ⟨Nat.le_refl _, Nat.le_refl _⟩ (D 99 rfl) ?_
                  refine j_if_ne C  195 (D 100 rfl) (by decide) (fun h191 => ?_) (fun h191 => absurd h191 (by decide))
                  refine j_aload_n C (D 102 rfl) rfl ?_
                  refine j_callV C B k_X12_158 (rc_obj C (lit (kd := 12) (n := 48) rfl) rfl rfl) (d_advance _ _ hL hb hSd (tok_lt_n (by rw [hs]; decide))) rfl rfl rfl rfl ⟨Nat.le_refl _, Nat.le_refl _⟩ (D 103 rfl) ?_
                  rintro r w' ⟨rfl, I7, rfl, F7, S7⟩
                  have hS7 : MS (up2 I7 180 (22 * nE + 2) (nI 1)) f n (j2 + 1) := MS_180 S7 (Fx.up (Fx.rf _ _) rfl)
                  have hg7 : up2 I7 180 (22 * nE + 2) (nI 1) 172 34 = nI 0 := by rw [up2_i (by omega), F7 _ _ (fun z => by unfold aP at z; omega)]; exact hgd
                  have hF7 : Fx (evP (22 * nE)) I (up2 I7 180 (22 * nE + 2) (nI 1)) := Fx.up (hFd.tr (F7.mo (aPe _))) (Or.inr (Or.inl ⟨rfl, by omega, by omega⟩))
                  have h70 : up2 I7 180 (22 * nE + 2) (nI 1) 180 (22 * nE + 0) = fbE (tok f n (i + 1)).1 b 0 := by rw [up2_i (by omega), F7 _ _ (fun z => by unfold aP at z; omega)]; exact hd0
                  have h71 : up2 I7 180 (22 * nE + 2) (nI 1) 180 (22 * nE + 1) = fbE (tok f n (i + 1)).1 b 1 := by rw [up2_i (by omega), F7 _ _ (fun z => by unfold aP at z; omega)]; exact hd1
                  have h735 : up2 I7 180 (22 * nE + 2) (nI 1) 172 35 = I 172 35 := by rw [up2_i (by omega), F7 _ _ (fun z => by unfold aP at z; omega)]; exact hd35
                  have h713 : up2 I7 180 (22 * nE + 2) (nI 1) 172 13 = nI nE := by rw [up2_i (by omega), F7 _ _ (fun z => by unfold aP at z; omega)]; exact hd13
                  refine j_aload_n C (D 104 rfl) rfl ?_
                  refine j_getr C f_X12_31 (lit (kd := 12) (n := 48) rfl) rfl rfl (hL _ _ _ rfl) (D 105 rfl) ?_
                  refine j_iload_n C (D 106 rfl) rfl ?_
                  refine j_iconst C (v := nI 2) (D 107 rfl) rfl ?_
                  refine j_iadd C (D 108 rfl) ?_
                  rw [nI_add]
                  refine j_iload_n C (D 109 rfl) rfl ?_
                  refine j_iast C (lit (kd := 20) (n := 220) rfl) (ix_n (by omega) (by decide)) (D 110 rfl) ?_
                  refine j_iload_n C (D 111 rfl) rfl ?_
                  refine j_iconst C (v := nI 3) (D 112 rfl) rfl ?_
                  refine j_icmp_ne C  221 (D 113 rfl) (by decide) (fun h210 => ?_) (fun h210 => absurd h210 (by decide))
                  refine j_aload_n C (D 118 rfl) rfl ?_
                  refine j_getr C f_X12_31 (lit (kd := 12) (n := 48) rfl) rfl rfl (hL _ _ _ rfl) (D 119 rfl) ?_
                  refine j_iload_n C (D 120 rfl) rfl ?_
                  refine j_iconst C (v := nI 3) (D 121 rfl) rfl ?_
                  refine j_iadd C (D 122 rfl) ?_
                  refine j_aload_n C (D 123 rfl) rfl ?_
                  refine j_iconst C (v := nI 1) (D 124 rfl) rfl ?_
                  refine j_sipush C (v := nI 9999) (D 125 rfl) rfl ?_
                  refine j_callV C B k_X12_178 (rc_obj C (lit (kd := 12) (n := 48) rfl) rfl rfl) (d_number _ _ hL hb hS7 hg7 (lo := 1) (hx := 10000) (hi := nI 9999) (by omega) (by omega) (by decide)) rfl rfl rfl rfl ⟨Nat.le_refl _, Nat.le_refl _⟩ (D 126 rfl) ?_
                  rintro r w' ⟨I8, v8, rfl, rfl, F8, k4, k5⟩
                  obtain ⟨e, hq3⟩ | ⟨⟨a, j4⟩, hq3⟩ := rs_c (pNum (tok f n) (j2 + 1) 1 10000)
                  · obtain ⟨e0, e1⟩ := k4 e hq3
                    have hd8 : ¬ I8 172 34 = 0 := dd_of e0 (pNum_er hq3)
                    rw [nI_add]
                    refine j_iast C (lit (kd := 20) (n := 220) rfl) (ix_n (by omega) (by decide)) (D 127 rfl) ?_
                    exact D237 e _ _ hE (by rw [if_pos hE]; unfold pEv; rw [if_pos hs12, hq1, bnd_r, hq2, bnd_r, show pCur (tok f n) j2 (fbE (tok f n (i + 1)).1 b) = .inl e from by unfold pCur; rw [if_neg (by rw [hs]; decide), hcv, if_neg (by decide)]; unfold pFor; rw [hq3, bnd_l], bnd_l]) (Fx.up (hF7.tr (F8.mo (nPe _))) (Or.inr (Or.inl ⟨rfl, by omega, by omega⟩))) (by rw [up2_i (by omega)]; exact e0) (by rw [up2_i (by omega)]; exact e1) (by rw [up2_i (by omega)]; exact hd8)
                  · obtain ⟨hv, y0, y1, y2⟩ := k5 _ hq3
                    have hv : v8 = nI a := hv
                    subst hv
                    have y2 : MS I8 f n j4 := y2
                    obtain ⟨m1, m2, m3, m4⟩ := pNum_go hN (by omega) hq3
                    have hS8 : MS (up2 I8 180 (22 * nE + 3) (nI a)) f n j4 := MS_180 y2 (Fx.up (Fx.rf _ _) rfl)
                    have hF8 : Fx (evP (22 * nE)) I (up2 I8 180 (22 * nE + 3) (nI a)) := Fx.up (hF7.tr (F8.mo (nPe _))) (Or.inr (Or.inl ⟨rfl, by omega, by omega⟩))
                    rw [nI_add]
                    refine j_iast C (lit (kd := 20) (n := 220) rfl) (ix_n (by omega) (by decide)) (D 127 rfl) ?_
                    refine j_aload_n C (D 128 rfl) rfl ?_
                    refine j_ldcS C (i := 8) (by decide) rfl (D 129 rfl) ?_
                    refine j_callV C B k_X12_193 (rc_obj C (lit (kd := 12) (n := 48) rfl) rfl rfl) (d_passes _ _ hL hb hS8 (by rw [up2_i (by omega)]; exact y0) 8 (by decide)) rfl rfl rfl rfl ⟨Nat.le_refl _, Nat.le_refl _⟩ (D 130 rfl) ?_
                    rintro r w' ⟨rfl, I9, rfl, F9, k6, k7⟩
                    obtain ⟨e, hq4⟩ | ⟨j5, hq4⟩ := rs_c (pTake (tok f n) j4 4)
                    · obtain ⟨e0, e1⟩ := k6 e hq4
                      have hd9 : ¬ I9 172 34 = 0 := dd_of e0 (pTake_er hq4)
                      exact D243 e I9 _ hE (by rw [if_pos hE]; unfold pEv; rw [if_pos hs12, hq1, bnd_r, hq2, bnd_r, show pCur (tok f n) j2 (fbE (tok f n (i + 1)).1 b) = .inl e from by unfold pCur; rw [if_neg (by rw [hs]; decide), hcv, if_neg (by decide)]; unfold pFor; rw [hq3, bnd_r, hq4, bnd_l], bnd_l]) (hF8.tr (F9.mo (nPe _))) e0 e1 hd9
                    · obtain ⟨w0, w1, w2⟩ := k7 j5 hq4
                      have w2 : MS I9 f n j5 := w2
                      obtain ⟨o1, o2⟩ := pTake_go hN (by omega) (by omega) hq4
                      refine j_aload_n C (D 131 rfl) rfl ?_
                      refine j_getr C f_X12_31 (lit (kd := 12) (n := 48) rfl) rfl rfl (hL _ _ _ rfl) (D 132 rfl) ?_
                      refine j_iload_n C (D 133 rfl) rfl ?_
                      refine j_iconst C (v := nI 4) (D 134 rfl) rfl ?_
                      refine j_iadd C (D 135 rfl) ?_
                      refine j_aload_n C (D 136 rfl) rfl ?_
                      refine j_iconst C (v := nI 1) (D 137 rfl) rfl ?_
                      refine j_ldc C (v := 99999) (D 138 rfl) n_X12_177 ?_
                      refine j_callV C B k_X12_178 (rc_obj C (lit (kd := 12) (n := 48) rfl) rfl rfl) (d_number _ _ hL hb w2 w0 (lo := 1) (hx := 100000) (hi := 99999) (by omega) (by omega) (by decide)) rfl rfl rfl rfl ⟨Nat.le_refl _, Nat.le_refl _⟩ (D 139 rfl) ?_
                      rintro r w' ⟨I10, v10, rfl, rfl, F10, k8, k9⟩
                      obtain ⟨e, hq5⟩ | ⟨⟨d, j6⟩, hq5⟩ := rs_c (pNum (tok f n) j5 1 100000)
                      · obtain ⟨e0, e1⟩ := k8 e hq5
                        have hd10 : ¬ I10 172 34 = 0 := dd_of e0 (pNum_er hq5)
                        rw [nI_add]
                        refine j_iast C (lit (kd := 20) (n := 220) rfl) (ix_n (by omega) (by decide)) (D 140 rfl) ?_
                        exact D258 e _ _ hE (by rw [if_pos hE]; unfold pEv; rw [if_pos hs12, hq1, bnd_r, hq2, bnd_r, show pCur (tok f n) j2 (fbE (tok f n (i + 1)).1 b) = .inl e from by unfold pCur; rw [if_neg (by rw [hs]; decide), hcv, if_neg (by decide)]; unfold pFor; rw [hq3, bnd_r, hq4, bnd_r, hq5, bnd_l], bnd_l]) (Fx.up ((hF8.tr (F9.mo (nPe _))).tr (F10.mo (nPe _))) (Or.inr (Or.inl ⟨rfl, by omega, by omega⟩))) (by rw [up2_i (by omega)]; exact e0) (by rw [up2_i (by omega)]; exact e1) (by rw [up2_i (by omega)]; exact hd10)
                      · obtain ⟨hv, r0, r1, r2⟩ := k9 _ hq5
                        have hv : v10 = nI d := hv
                        subst hv
                        have r2 : MS I10 f n j6 := r2
                        obtain ⟨s1, s2, s3, s4⟩ := pNum_go hN (by omega) hq5
                        rw [nI_add]
                        refine j_iast C (lit (kd := 20) (n := 220) rfl) (ix_n (by omega) (by decide)) (D 140 rfl) ?_
                        have hcu : pCur (tok f n) j2 (fbE (tok f n (i + 1)).1 b) = .inr ((va_up (va_up (va_up (fbE (tok f n (i + 1)).1 b) 2 (nI 1)) 3 (nI a)) 4 (nI d)), j6) := by unfold pCur; rw [if_neg (by rw [hs]; decide), hcv, if_neg (by decide)]; unfold pFor; rw [hq3, bnd_r, hq4, bnd_r, hq5, bnd_r]
                        refine G258 (va_up (va_up (va_up (fbE (tok f n (i + 1)).1 b) 2 (nI 1)) 3 (nI a)) 4 (nI d)) j6 _ _ hE (by omega) (MS_180 r2 (Fx.up (Fx.rf _ _) rfl)) (by rw [up2_i (by omega)]; exact r0) (by rw [up2_i (by omega), r1, w1, up2_i (by omega), y1]; exact h735) (by rw [up2_i (by omega), F10 _ _ (fun z => by unfold nP at z; omega), F9 _ _ (fun z => by unfold nP at z; omega), up2_i (by omega), F8 _ _ (fun z => by unfold nP at z; omega)]; exact h713) (Fx.up ((hF8.tr (F9.mo (nPe _))).tr (F10.mo (nPe _))) (Or.inr (Or.inl ⟨rfl, by omega, by omega⟩))) (fun k hk => ?_) (fun z => absurd z ?_) (fun e h => ?_) (fun s j h => ?_)
                        · have : k = 0 ∨ k = 1 ∨ k = 2 ∨ k = 3 ∨ k = 4 := by omega
                          rcases this with rfl | rfl | rfl | rfl | rfl
                          · rw [up2_i (by omega), F10 _ _ (fun z => by unfold nP at z; omega), F9 _ _ (fun z => by unfold nP at z; omega), up2_i (by omega), F8 _ _ (fun z => by unfold nP at z; omega), vu_ne _ _ (by omega), vu_ne _ _ (by omega), vu_ne _ _ (by omega)]; exact h70
                          · rw [up2_i (by omega), F10 _ _ (fun z => by unfold nP at z; omega), F9 _ _ (fun z => by unfold nP at z; omega), up2_i (by omega), F8 _ _ (fun z => by unfold nP at z; omega), vu_ne _ _ (by omega), vu_ne _ _ (by omega), vu_ne _ _ (by omega)]; exact h71
                          · rw [up2_i (by omega), F10 _ _ (fun z => by unfold nP at z; omega), F9 _ _ (fun z => by unfold nP at z; omega), up2_i (by omega), F8 _ _ (fun z => by unfold nP at z; omega), up2_same, vu_ne _ _ (by omega), vu_ne _ _ (by omega), vu_same]
                          · rw [up2_i (by omega), F10 _ _ (fun z => by unfold nP at z; omega), F9 _ _ (fun z => by unfold nP at z; omega), up2_same, vu_ne _ _ (by omega), vu_same]
                          · rw [up2_same, vu_same]
                        · rw [vu_ne _ _ (by omega), vu_ne _ _ (by omega), vu_same]; decide
                        · rw [if_pos hE]; unfold pEv; rw [if_pos hs12, hq1, bnd_r, hq2, bnd_r, hcu, bnd_r, h, bnd_l]
                        · rw [if_pos hE]; unfold pEv; rw [if_pos hs12, hq1, bnd_r, hq2, bnd_r, hcu, bnd_r, h, bnd_r]
              · refine j_iconst C (v := nI 0) (D 68 rfl) rfl ?_
                refine j_goto C 172 (D 69 rfl) (by decide) ?_
                have hs : (tok f n j2).1 = 6 := b2_ne h125
                have hltj := lt_sg hN (by omega) hs (by decide)
                have hcv : crv (tok f n j2).1 = 0 := by rw [hs]; rfl
                refine j_istore_n C (D 89 rfl) rfl ?_
                refine j_iload_n C (D 90 rfl) rfl ?_
                refine j_iconst C (v := (-1)) (D 91 rfl) (by decide) ?_
                refine j_icmp_ne C  187 (D 92 rfl) (by decide) (fun h175 => ?_) (fun h175 => absurd h175 (by decide))
                refine j_aload_n C (D 98 rfl) rfl ?_
                refine j_cVp C B k_X12_106 (rc_obj C (lit (kd := 12) (n := 48) rfl) rfl rfl) (d_goodT _ _ hL hgd) rfl rfl rfl rfl ⟨Nat.le_refl _, Nat.le_refl _⟩ (D 99 rfl) ?_
                refine j_if_ne C  195 (D 100 rfl) (by decide) (fun h191 => ?_) (fun h191 => absurd h191 (by decide))
                refine j_aload_n C (D 102 rfl) rfl ?_
                refine j_callV C B k_X12_158 (rc_obj C (lit (kd := 12) (n := 48) rfl) rfl rfl) (d_advance _ _ hL hb hSd (tok_lt_n (by rw [hs]; decide))) rfl rfl rfl rfl ⟨Nat.le_refl _, Nat.le_refl _⟩ (D 103 rfl) ?_
                rintro r w' ⟨rfl, I7, rfl, F7, S7⟩
                have hS7 : MS (up2 I7 180 (22 * nE + 2) (nI 0)) f n (j2 + 1) := MS_180 S7 (Fx.up (Fx.rf _ _) rfl)
                have hg7 : up2 I7 180 (22 * nE + 2) (nI 0) 172 34 = nI 0 := by rw [up2_i (by omega), F7 _ _ (fun z => by unfold aP at z; omega)]; exact hgd
                have hF7 : Fx (evP (22 * nE)) I (up2 I7 180 (22 * nE + 2) (nI 0)) := Fx.up (hFd.tr (F7.mo (aPe _))) (Or.inr (Or.inl ⟨rfl, by omega, by omega⟩))
                have h70 : up2 I7 180 (22 * nE + 2) (nI 0) 180 (22 * nE + 0) = fbE (tok f n (i + 1)).1 b 0 := by rw [up2_i (by omega), F7 _ _ (fun z => by unfold aP at z; omega)]; exact hd0
                have h71 : up2 I7 180 (22 * nE + 2) (nI 0) 180 (22 * nE + 1) = fbE (tok f n (i + 1)).1 b 1 := by rw [up2_i (by omega), F7 _ _ (fun z => by unfold aP at z; omega)]; exact hd1
                have h735 : up2 I7 180 (22 * nE + 2) (nI 0) 172 35 = I 172 35 := by rw [up2_i (by omega), F7 _ _ (fun z => by unfold aP at z; omega)]; exact hd35
                have h713 : up2 I7 180 (22 * nE + 2) (nI 0) 172 13 = nI nE := by rw [up2_i (by omega), F7 _ _ (fun z => by unfold aP at z; omega)]; exact hd13
                refine j_aload_n C (D 104 rfl) rfl ?_
                refine j_getr C f_X12_31 (lit (kd := 12) (n := 48) rfl) rfl rfl (hL _ _ _ rfl) (D 105 rfl) ?_
                refine j_iload_n C (D 106 rfl) rfl ?_
                refine j_iconst C (v := nI 2) (D 107 rfl) rfl ?_
                refine j_iadd C (D 108 rfl) ?_
                rw [nI_add]
                refine j_iload_n C (D 109 rfl) rfl ?_
                refine j_iast C (lit (kd := 20) (n := 220) rfl) (ix_n (by omega) (by decide)) (D 110 rfl) ?_
                refine j_iload_n C (D 111 rfl) rfl ?_
                refine j_iconst C (v := nI 3) (D 112 rfl) rfl ?_
                refine j_icmp_ne C  221 (D 113 rfl) (by decide) (fun h210 => ?_) (fun h210 => absurd h210 (by decide))
                refine j_aload_n C (D 118 rfl) rfl ?_
                refine j_getr C f_X12_31 (lit (kd := 12) (n := 48) rfl) rfl rfl (hL _ _ _ rfl) (D 119 rfl) ?_
                refine j_iload_n C (D 120 rfl) rfl ?_
                refine j_iconst C (v := nI 3) (D 121 rfl) rfl ?_
                refine j_iadd C (D 122 rfl) ?_
                refine j_aload_n C (D 123 rfl) rfl ?_
                refine j_iconst C (v := nI 1) (D 124 rfl) rfl ?_
                refine j_sipush C (v := nI 9999) (D 125 rfl) rfl ?_
                refine j_callV C B k_X12_178 (rc_obj C (lit (kd := 12) (n := 48) rfl) rfl rfl) (d_number _ _ hL hb hS7 hg7 (lo := 1) (hx := 10000) (hi := nI 9999) (by omega) (by omega) (by decide)) rfl rfl rfl rfl ⟨Nat.le_refl _, Nat.le_refl _⟩ (D 126 rfl) ?_
                rintro r w' ⟨I8, v8, rfl, rfl, F8, k4, k5⟩
                obtain ⟨e, hq3⟩ | ⟨⟨a, j4⟩, hq3⟩ := rs_c (pNum (tok f n) (j2 + 1) 1 10000)
                · obtain ⟨e0, e1⟩ := k4 e hq3
                  have hd8 : ¬ I8 172 34 = 0 := dd_of e0 (pNum_er hq3)
                  rw [nI_add]
                  refine j_iast C (lit (kd := 20) (n := 220) rfl) (ix_n (by omega) (by decide)) (D 127 rfl) ?_
                  exact D237 e _ _ hE (by rw [if_pos hE]; unfold pEv; rw [if_pos hs12, hq1, bnd_r, hq2, bnd_r, show pCur (tok f n) j2 (fbE (tok f n (i + 1)).1 b) = .inl e from by unfold pCur; rw [if_neg (by rw [hs]; decide), hcv, if_neg (by decide)]; unfold pFor; rw [hq3, bnd_l], bnd_l]) (Fx.up (hF7.tr (F8.mo (nPe _))) (Or.inr (Or.inl ⟨rfl, by omega, by omega⟩))) (by rw [up2_i (by omega)]; exact e0) (by rw [up2_i (by omega)]; exact e1) (by rw [up2_i (by omega)]; exact hd8)
                · obtain ⟨hv, y0, y1, y2⟩ := k5 _ hq3
                  have hv : v8 = nI a := hv
                  subst hv
                  have y2 : MS I8 f n j4 := y2
                  obtain ⟨m1, m2, m3, m4⟩ := pNum_go hN (by omega) hq3
                  have hS8 : MS (up2 I8 180 (22 * nE + 3) (nI a)) f n j4 := MS_180 y2 (Fx.up (Fx.rf _ _) rfl)
                  have hF8 : Fx (evP (22 * nE)) I (up2 I8 180 (22 * nE + 3) (nI a)) := Fx.up (hF7.tr (F8.mo (nPe _))) (Or.inr (Or.inl ⟨rfl, by omega, by omega⟩))
                  rw [nI_add]
                  refine j_iast C (lit (kd := 20) (n := 220) rfl) (ix_n (by omega) (by decide)) (D 127 rfl) ?_
                  refine j_aload_n C (D 128 rfl) rfl ?_
                  refine j_ldcS C (i := 8) (by decide) rfl (D 129 rfl) ?_
                  refine j_callV C B k_X12_193 (rc_obj C (lit (kd := 12) (n := 48) rfl) rfl rfl) (d_passes _ _ hL hb hS8 (by rw [up2_i (by omega)]; exact y0) 8 (by decide)) rfl rfl rfl rfl ⟨Nat.le_refl _, Nat.le_refl _⟩ (D 130 rfl) ?_
                  rintro r w' ⟨rfl, I9, rfl, F9, k6, k7⟩
                  obtain ⟨e, hq4⟩ | ⟨j5, hq4⟩ := rs_c (pTake (tok f n) j4 4)
                  · obtain ⟨e0, e1⟩ := k6 e hq4
                    have hd9 : ¬ I9 172 34 = 0 := dd_of e0 (pTake_er hq4)
                    exact D243 e I9 _ hE (by rw [if_pos hE]; unfold pEv; rw [if_pos hs12, hq1, bnd_r, hq2, bnd_r, show pCur (tok f n) j2 (fbE (tok f n (i + 1)).1 b) = .inl e from by unfold pCur; rw [if_neg (by rw [hs]; decide), hcv, if_neg (by decide)]; unfold pFor; rw [hq3, bnd_r, hq4, bnd_l], bnd_l]) (hF8.tr (F9.mo (nPe _))) e0 e1 hd9
                  · obtain ⟨w0, w1, w2⟩ := k7 j5 hq4
                    have w2 : MS I9 f n j5 := w2
                    obtain ⟨o1, o2⟩ := pTake_go hN (by omega) (by omega) hq4
                    refine j_aload_n C (D 131 rfl) rfl ?_
                    refine j_getr C f_X12_31 (lit (kd := 12) (n := 48) rfl) rfl rfl (hL _ _ _ rfl) (D 132 rfl) ?_
                    refine j_iload_n C (D 133 rfl) rfl ?_
                    refine j_iconst C (v := nI 4) (D 134 rfl) rfl ?_
                    refine j_iadd C (D 135 rfl) ?_
                    refine j_aload_n C (D 136 rfl) rfl ?_
                    refine j_iconst C (v := nI 1) (D 137 rfl) rfl ?_
                    refine j_ldc C (v := 99999) (D 138 rfl) n_X12_177 ?_
                    refine j_callV C B k_X12_178 (rc_obj C (lit (kd := 12) (n := 48) rfl) rfl rfl) (d_number _ _ hL hb w2 w0 (lo := 1) (hx := 100000) (hi := 99999) (by omega) (by omega) (by decide)) rfl rfl rfl rfl ⟨Nat.le_refl _, Nat.le_refl _⟩ (D 139 rfl) ?_
                    rintro r w' ⟨I10, v10, rfl, rfl, F10, k8, k9⟩
                    obtain ⟨e, hq5⟩ | ⟨⟨d, j6⟩, hq5⟩ := rs_c (pNum (tok f n) j5 1 100000)
                    · obtain ⟨e0, e1⟩ := k8 e hq5
                      have hd10 : ¬ I10 172 34 = 0 := dd_of e0 (pNum_er hq5)
                      rw [nI_add]
                      refine j_iast C (lit (kd := 20) (n := 220) rfl) (ix_n (by omega) (by decide)) (D 140 rfl) ?_
                      exact D258 e _ _ hE (by rw [if_pos hE]; unfold pEv; rw [if_pos hs12, hq1, bnd_r, hq2, bnd_r, show pCur (tok f n) j2 (fbE (tok f n (i + 1)).1 b) = .inl e from by unfold pCur; rw [if_neg (by rw [hs]; decide), hcv, if_neg (by decide)]; unfold pFor; rw [hq3, bnd_r, hq4, bnd_r, hq5, bnd_l], bnd_l]) (Fx.up ((hF8.tr (F9.mo (nPe _))).tr (F10.mo (nPe _))) (Or.inr (Or.inl ⟨rfl, by omega, by omega⟩))) (by rw [up2_i (by omega)]; exact e0) (by rw [up2_i (by omega)]; exact e1) (by rw [up2_i (by omega)]; exact hd10)
                    · obtain ⟨hv, r0, r1, r2⟩ := k9 _ hq5
                      have hv : v10 = nI d := hv
                      subst hv
                      have r2 : MS I10 f n j6 := r2
                      obtain ⟨s1, s2, s3, s4⟩ := pNum_go hN (by omega) hq5
                      rw [nI_add]
                      refine j_iast C (lit (kd := 20) (n := 220) rfl) (ix_n (by omega) (by decide)) (D 140 rfl) ?_
                      have hcu : pCur (tok f n) j2 (fbE (tok f n (i + 1)).1 b) = .inr ((va_up (va_up (va_up (fbE (tok f n (i + 1)).1 b) 2 (nI 0)) 3 (nI a)) 4 (nI d)), j6) := by unfold pCur; rw [if_neg (by rw [hs]; decide), hcv, if_neg (by decide)]; unfold pFor; rw [hq3, bnd_r, hq4, bnd_r, hq5, bnd_r]
                      refine G258 (va_up (va_up (va_up (fbE (tok f n (i + 1)).1 b) 2 (nI 0)) 3 (nI a)) 4 (nI d)) j6 _ _ hE (by omega) (MS_180 r2 (Fx.up (Fx.rf _ _) rfl)) (by rw [up2_i (by omega)]; exact r0) (by rw [up2_i (by omega), r1, w1, up2_i (by omega), y1]; exact h735) (by rw [up2_i (by omega), F10 _ _ (fun z => by unfold nP at z; omega), F9 _ _ (fun z => by unfold nP at z; omega), up2_i (by omega), F8 _ _ (fun z => by unfold nP at z; omega)]; exact h713) (Fx.up ((hF8.tr (F9.mo (nPe _))).tr (F10.mo (nPe _))) (Or.inr (Or.inl ⟨rfl, by omega, by omega⟩))) (fun k hk => ?_) (fun z => absurd z ?_) (fun e h => ?_) (fun s j h => ?_)
                      · have : k = 0 ∨ k = 1 ∨ k = 2 ∨ k = 3 ∨ k = 4 := by omega
                        rcases this with rfl | rfl | rfl | rfl | rfl
                        · rw [up2_i (by omega), F10 _ _ (fun z => by unfold nP at z; omega), F9 _ _ (fun z => by unfold nP at z; omega), up2_i (by omega), F8 _ _ (fun z => by unfold nP at z; omega), vu_ne _ _ (by omega), vu_ne _ _ (by omega), vu_ne _ _ (by omega)]; exact h70
                        · rw [up2_i (by omega), F10 _ _ (fun z => by unfold nP at z; omega), F9 _ _ (fun z => by unfold nP at z; omega), up2_i (by omega), F8 _ _ (fun z => by unfold nP at z; omega), vu_ne _ _ (by omega), vu_ne _ _ (by omega), vu_ne _ _ (by omega)]; exact h71
                        · rw [up2_i (by omega), F10 _ _ (fun z => by unfold nP at z; omega), F9 _ _ (fun z => by unfold nP at z; omega), up2_i (by omega), F8 _ _ (fun z => by unfold nP at z; omega), up2_same, vu_ne _ _ (by omega), vu_ne _ _ (by omega), vu_same]
                        · rw [up2_i (by omega), F10 _ _ (fun z => by unfold nP at z; omega), F9 _ _ (fun z => by unfold nP at z; omega), up2_same, vu_ne _ _ (by omega), vu_same]
                        · rw [up2_same, vu_same]
                      · rw [vu_ne _ _ (by omega), vu_ne _ _ (by omega), vu_same]; decide
                      · rw [if_pos hE]; unfold pEv; rw [if_pos hs12, hq1, bnd_r, hq2, bnd_r, hcu, bnd_r, h, bnd_l]
                      · rw [if_pos hE]; unfold pEv; rw [if_pos hs12, hq1, bnd_r, hq2, bnd_r, hcu, bnd_r, h, bnd_r]
        · refine j_aload_n C (D 41 rfl) rfl ?_
          refine j_iconst C (v := nI 1) (D 42 rfl) rfl ?_
          refine j_aload_n C (D 43 rfl) rfl ?_
          refine j_geti C f_X12_120 (lit (kd := 12) (n := 48) rfl) rfl rfl (D 44 rfl) ?_
          rw [hSa.2.1]
          refine j_callV C B k_X12_168 (rc_obj C (lit (kd := 12) (n := 48) rfl) rfl rfl) (d_errsT _ _ hL hga _ _) rfl rfl rfl rfl ⟨Nat.le_refl _, Nat.le_refl _⟩ (D 45 rfl) ?_
          rintro r w' ⟨rfl, rfl⟩
          have hdd2 : ¬ up2 (up2 (up2 I2 180 (22 * nE + 0) (nI 1)) 172 34 (nI 1)) 172 35 (nI (spo f n (i + 1))) 172 34 = 0 := dd_of (k := 1) (by rw [up2_i (by omega), up2_same]) (by omega)
          refine j_aload_n C (D 46 rfl) rfl ?_
          refine j_cVp C B k_X12_106 (rc_obj C (lit (kd := 12) (n := 48) rfl) rfl rfl) (d_goodF _ _ hL hdd2) rfl rfl rfl rfl ⟨Nat.le_refl _, Nat.le_refl _⟩ (D 47 rfl) ?_
          refine j_if_eq C  98 (D 48 rfl) (by decide) (fun h91 => ?_) (fun h91 => absurd h91 (fun z => z rfl))
          exact D98 (fl (tok f n) (i + 1) 1) _ _ hE (by rw [if_pos hE]; unfold pEv; rw [if_neg (fun z => z.elim (b2_eq h75) (b2_eq h66))]) (Fx.up (Fx.up hFa (Or.inl ⟨rfl, by omega⟩)) (Or.inl ⟨rfl, by omega⟩)) (by rw [up2_i (by omega), up2_same]; rfl) (by rw [up2_same]; show _ = nI (tok f n (i + 1)).2.1; rw [tok_2]) hdd2
  · have hE : ¬ nE < 10 := by have := nI_inj (by omega) (by omega) h6; omega
    refine j_aload_n C (D 4 rfl) rfl ?_
    refine j_iconst C (v := nI 4) (D 5 rfl) rfl ?_
    refine j_aload_n C (D 6 rfl) rfl ?_
    refine j_geti C f_X12_120 (lit (kd := 12) (n := 48) rfl) rfl rfl (D 7 rfl) ?_
    rw [hS.2.1]
    refine j_callV C B k_X12_168 (rc_obj C (lit (kd := 12) (n := 48) rfl) rfl rfl) (d_errsT _ _ hL hg _ _) rfl rfl rfl rfl ⟨Nat.le_refl _, Nat.le_refl _⟩ (D 8 rfl) ?_
    rintro r w' ⟨rfl, rfl⟩
    have hdd : ¬ up2 (up2 I 172 34 (nI 4)) 172 35 (nI (spo f n i)) 172 34 = 0 := dd_of (k := 4) (by rw [up2_i (by omega), up2_same]) (by omega)
    refine j_aload_n C (D 9 rfl) rfl ?_
    refine j_cVp C B k_X12_106 (rc_obj C (lit (kd := 12) (n := 48) rfl) rfl rfl) (d_goodF _ _ hL hdd) rfl rfl rfl rfl ⟨Nat.le_refl _, Nat.le_refl _⟩ (D 10 rfl) ?_
    refine j_if_ne C  26 (D 11 rfl) (by decide) (fun h22 => absurd h22 (fun z => z rfl)) (fun h22 => ?_)
    exact j_vret C P rfl (D 12 rfl) ⟨Nat.le_refl _, Nat.le_refl _⟩ (MX_e (e := fl (tok f n) i 4) (by rw [if_neg hE]) (Fx.up (Fx.up (Fx.rf _ _) (Or.inl ⟨rfl, by omega⟩)) (Or.inl ⟨rfl, by omega⟩)) (by rw [up2_i (by omega), up2_same]; rfl) (by rw [up2_same]; show _ = nI (tok f n i).2.1; rw [tok_2]))
