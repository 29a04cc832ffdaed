theorem HC_pop {I I' : Nat → Nat → Int32} {V : VT} {n : Nat} {h : Nat → SN} (h0 : 0 < n) (hC : HC I V n h) (k0 : I' 50 4 = nI (n - 1)) (k1 : ∀ t i, 51 ≤ t → t ≤ 54 → I' t i = I t i) : HC I' (setV V (h (n - 1))) (n - 1) h := by
  refine ⟨k0, fun i hi => ?_⟩
  rw [k1 51 i (by omega) (by omega), k1 52 i (by omega) (by omega), k1 53 i (by omega) (by omega), k1 54 i (by omega) (by omega), setV_setV]
  have := hC.2 i (by omega)
  have e : nxt (setV V (h (n - 1))) (n - 1) h (i + 1) = nxt V n h (i + 1) := by
    unfold nxt
    rw [if_pos (show i + 1 < n by omega)]
    by_cases q : i + 1 < n - 1
    · rw [if_pos q]
    · rw [if_neg q, snV_setV, show n - 1 = i + 1 by omega]
  rw [e]; exact this
def a_undo (n : Nat) : Int32 := if n = 0 then -1 else nI (n - 1)
def s_undo (V : VT) (n : Nat) (h : Nat → SN) : S3 := if n = 0 then (V, n, h) else (setV V (h (n - 1)), n - 1, h)
set_option maxRecDepth 20000 in
theorem c_takeBack (l : Launch) (G : GT) {c : Nat} (hc : isC c) {I : Nat → Nat → Int32} {L : Nat → Nat → Int64} {R : Nat → Nat → Option Nat} (hL : Lay R) {V : VT} (hV : WV V) (hT : CT I c V) {n : Nat} {h : Nat → SN} (hn : n ≤ 10) (hH : HC I V n h) : Mt l G mX2_takeBack (0) 0 0 [.ref (ra G 50), .ref (ra G c)] (wd I L R) (fun r w' => r = some (.int (b2 (0 < n))) ∧ ∃ I', w' = wd I' L R ∧ CT I' c (s_undo V n h).1 ∧ HC I' (s_undo V n h).1 (s_undo V n h).2.1 (s_undo V n h).2.2 ∧ ∀ b j, ¬ (b = c ∨ b = c + 2 ∨ b = c + 3 ∨ b = c + 4 ∨ (50 ≤ b ∧ b ≤ 54)) → I' b j = I b j) := by
  refine mt_of (own := RX2) (by decide) rfl rfl (fun Z C P B => ?_)
  have D := @dc_of _ _ dX2_takeBack
  have hE10 := hV.1
  have hA8 := hV.2.1
  have hcr := isC_rng hc
  by_cases h0 : n = 0
  · refine j_aload_n C (D 0 rfl) rfl ?_
    refine j_geti C f_X2_24 (lit (kd := 2) (n := 5) rfl) rfl rfl (D 1 rfl) ?_
    refine j_iconst C (v := nI 1) (D 2 rfl) rfl ?_
    rw [hH.1]
    refine j_icmp_ge C  10 (D 3 rfl) (by decide) (fun h5 => absurd h5 (fun z => by rw [nle (by omega) (by omega)] at z; omega)) (fun h5 => ?_)
    refine j_iconst C (v := nI 0) (D 4 rfl) rfl ?_
    exact j_zret C P rfl (by first | exact Or.inl rfl | exact Or.inr rfl | assumption) (D 5 rfl) ⟨Nat.le_refl _, Nat.le_refl _⟩ ⟨by rw [← b2_f (show ¬ 0 < n by omega)], I, rfl, by rw [s_undo, if_pos h0]; exact hT, by rw [s_undo, if_pos h0]; exact hH, fun _ _ _ => rfl⟩
  have hu := hH.2 (n - 1) (by omega)
  rw [show nxt V n h (n - 1 + 1) = snV V from if_neg (by omega), setV_snV] at hu
  rcases hu with ⟨e1, eA, eT, ⟨a, e, ha, he, ex2, hm⟩, hg, hi⟩ | ⟨e1, eA, eT, hm, hg, hi⟩ | ⟨e1, eA, eT, hm, ⟨a, e, ha, he, ex2, hg, hi⟩⟩ | ⟨e1, eA, eT, hm, hg, hi⟩
  · rw [← eA] at hm hg hi
    refine j_aload_n C (D 0 rfl) rfl ?_
    refine j_geti C f_X2_24 (lit (kd := 2) (n := 5) rfl) rfl rfl (D 1 rfl) ?_
    refine j_iconst C (v := nI 1) (D 2 rfl) rfl ?_
    rw [hH.1]
    refine j_icmp_ge C  10 (D 3 rfl) (by decide) (fun h5 => ?_) (fun h5 => absurd h5 (fun z => z ((nle (by omega) (by omega)).mpr (by omega))))
    refine j_aload_n C (D 6 rfl) rfl ?_
    refine j_dup C (D 7 rfl) rfl ?_
    refine j_geti C f_X2_24 (lit (kd := 2) (n := 5) rfl) rfl rfl (D 8 rfl) ?_
    rw [hH.1]
    refine j_iconst C (v := nI 1) (D 9 rfl) rfl ?_
    refine j_isub C (D 10 rfl) ?_
    rw [pk_sub (by omega)]
    refine j_puti C f_X2_24 (lit (kd := 2) (n := 5) rfl) rfl rfl (D 11 rfl) ?_
    refine j_aload_n C (D 12 rfl) rfl ?_
    refine j_getr C f_X2_15 (lit (kd := 2) (n := 5) rfl) rfl rfl (hL _ _ _ rfl) (D 13 rfl) ?_
    refine j_aload_n C (D 14 rfl) rfl ?_
    refine j_geti C f_X2_24 (lit (kd := 2) (n := 5) rfl) rfl rfl (D 15 rfl) ?_
    rw [up2_same]
    refine j_iald C (lit (kd := 20) (n := 10) rfl) (ix_n (by omega) (by decide)) (D 16 rfl) ?_
    rw [up2_i (show ¬ ((52 : Nat) = 50 ∧ n - 1 = 4) by omega)]
    rw [ex2]
    refine j_istore_n C (D 17 rfl) rfl ?_
    refine j_aload_n C (D 18 rfl) rfl ?_
    refine j_getr C f_X2_9 (lit (kd := 2) (n := 5) rfl) rfl rfl (hL _ _ _ rfl) (D 19 rfl) ?_
    refine j_aload_n C (D 20 rfl) rfl ?_
    refine j_geti C f_X2_24 (lit (kd := 2) (n := 5) rfl) rfl rfl (D 21 rfl) ?_
    rw [up2_same]
    refine j_iald C (lit (kd := 20) (n := 10) rfl) (ix_n (by omega) (by decide)) (D 22 rfl) ?_
    rw [up2_i (show ¬ ((51 : Nat) = 50 ∧ n - 1 = 4) by omega), e1]
    refine j_if_ne C  60 (D 23 rfl) (by decide) (fun h39 => absurd h39 (fun z => z rfl)) (fun h39 => ?_)
    refine j_aload_n C (D 24 rfl) rfl ?_
    refine j_getr C f_X2_37 (sC0 hc) rfl rfl (hL _ _ _ (rC1 hc)) (D 25 rfl) ?_
    refine j_iload_n C (D 26 rfl) rfl ?_
    refine j_aload_n C (D 27 rfl) rfl ?_
    refine j_getr C f_X2_18 (lit (kd := 2) (n := 5) rfl) rfl rfl (hL _ _ _ rfl) (D 28 rfl) ?_
    refine j_aload_n C (D 29 rfl) rfl ?_
    refine j_geti C f_X2_24 (lit (kd := 2) (n := 5) rfl) rfl rfl (D 30 rfl) ?_
    rw [up2_same]
    refine j_iald C (lit (kd := 20) (n := 10) rfl) (ix_n (by omega) (by decide)) (D 31 rfl) ?_
    rw [up2_i (show ¬ ((53 : Nat) = 50 ∧ n - 1 = 4) by omega)]
    refine j_iast C (sC2 hc) (ix_n (by omega) (by decide)) (D 32 rfl) ?_
    refine j_goto C 152 (D 33 rfl) (by decide) ?_
    refine j_iconst C (v := nI 1) (D 84 rfl) rfl ?_
    exact j_zret C P rfl (by first | exact Or.inl rfl | exact Or.inr rfl | assumption) (D 85 rfl) ⟨Nat.le_refl _, Nat.le_refl _⟩ ⟨by rw [← b2_t (show 0 < n by omega)], _, rfl, by
    rw [s_undo, if_neg (by omega)]
    refine CT_set hT hE10 (fun j k q1 q2 q3 q4 q5 => by rw [up2_i (by omega), up2_i (by omega)]) (by rw [up2_i (by omega), up2_i (by omega)]; rw [hT.2.1, eA]) (by rw [up2_i (by omega), up2_i (by omega)]; rw [hT.2.2.1, eT]) (fun b j hb hj => ?_)
    have z := hT.2.2.2.2.2.1 b j (by omega) hj
    refine ⟨?_, by rw [up2_i (by omega), up2_i (by omega)]; rw [z.2.1]; exact (hg b j hb hj).symm, by rw [up2_i (by omega), up2_i (by omega)]; rw [z.2.2]; exact (hi b j hb hj).symm⟩
    rw [hm b j hb hj, tw_at]
    by_cases q : b = a ∧ j = e
    · rw [if_pos q, q.1, q.2, up2_same]
    · rw [if_neg q, up2_i (by omega), up2_i (by omega)]; exact z.1, by
    rw [s_undo, if_neg (by omega)]
    exact HC_pop (by omega) hH (by rw [up2_i (by omega), up2_same]) (fun t i q1 q2 => by rw [up2_i (by omega), up2_i (by omega)]), fun b j q => by rw [up2_i (by omega), up2_i (by omega)]⟩
  · refine j_aload_n C (D 0 rfl) rfl ?_
    refine j_geti C f_X2_24 (lit (kd := 2) (n := 5) rfl) rfl rfl (D 1 rfl) ?_
    refine j_iconst C (v := nI 1) (D 2 rfl) rfl ?_
    rw [hH.1]
    refine j_icmp_ge C  10 (D 3 rfl) (by decide) (fun h5 => ?_) (fun h5 => absurd h5 (fun z => z ((nle (by omega) (by omega)).mpr (by omega))))
    refine j_aload_n C (D 6 rfl) rfl ?_
    refine j_dup C (D 7 rfl) rfl ?_
    refine j_geti C f_X2_24 (lit (kd := 2) (n := 5) rfl) rfl rfl (D 8 rfl) ?_
    rw [hH.1]
    refine j_iconst C (v := nI 1) (D 9 rfl) rfl ?_
    refine j_isub C (D 10 rfl) ?_
    rw [pk_sub (by omega)]
    refine j_puti C f_X2_24 (lit (kd := 2) (n := 5) rfl) rfl rfl (D 11 rfl) ?_
    refine j_aload_n C (D 12 rfl) rfl ?_
    refine j_getr C f_X2_15 (lit (kd := 2) (n := 5) rfl) rfl rfl (hL _ _ _ rfl) (D 13 rfl) ?_
    refine j_aload_n C (D 14 rfl) rfl ?_
    refine j_geti C f_X2_24 (lit (kd := 2) (n := 5) rfl) rfl rfl (D 15 rfl) ?_
    rw [up2_same]
    refine j_iald C (lit (kd := 20) (n := 10) rfl) (ix_n (by omega) (by decide)) (D 16 rfl) ?_
    rw [up2_i (show ¬ ((52 : Nat) = 50 ∧ n - 1 = 4) by omega)]
    refine j_istore_n C (D 17 rfl) rfl ?_
    refine j_aload_n C (D 18 rfl) rfl ?_
    refine j_getr C f_X2_9 (lit (kd := 2) (n := 5) rfl) rfl rfl (hL _ _ _ rfl) (D 19 rfl) ?_
    refine j_aload_n C (D 20 rfl) rfl ?_
    refine j_geti C f_X2_24 (lit (kd := 2) (n := 5) rfl) rfl rfl (D 21 rfl) ?_
    rw [up2_same]
    refine j_iald C (lit (kd := 20) (n := 10) rfl) (ix_n (by omega) (by decide)) (D 22 rfl) ?_
    rw [up2_i (show ¬ ((51 : Nat) = 50 ∧ n - 1 = 4) by omega), e1]
    refine j_if_ne C  60 (D 23 rfl) (by decide) (fun h39 => ?_) (fun h39 => absurd h39 (fun z => absurd z (by decide)))
    refine j_aload_n C (D 34 rfl) rfl ?_
    refine j_getr C f_X2_9 (lit (kd := 2) (n := 5) rfl) rfl rfl (hL _ _ _ rfl) (D 35 rfl) ?_
    refine j_aload_n C (D 36 rfl) rfl ?_
    refine j_geti C f_X2_24 (lit (kd := 2) (n := 5) rfl) rfl rfl (D 37 rfl) ?_
    rw [up2_same]
    refine j_iald C (lit (kd := 20) (n := 10) rfl) (ix_n (by omega) (by decide)) (D 38 rfl) ?_
    rw [up2_i (show ¬ ((51 : Nat) = 50 ∧ n - 1 = 4) by omega), e1]
    refine j_iconst C (v := nI 2) (D 39 rfl) rfl ?_
    refine j_icmp_ne C  106 (D 40 rfl) (by decide) (fun h70 => ?_) (fun h70 => absurd h70 (fun z => absurd z (by decide)))
    refine j_aload_n C (D 60 rfl) rfl ?_
    refine j_getr C f_X2_9 (lit (kd := 2) (n := 5) rfl) rfl rfl (hL _ _ _ rfl) (D 61 rfl) ?_
    refine j_aload_n C (D 62 rfl) rfl ?_
    refine j_geti C f_X2_24 (lit (kd := 2) (n := 5) rfl) rfl rfl (D 63 rfl) ?_
    rw [up2_same]
    refine j_iald C (lit (kd := 20) (n := 10) rfl) (ix_n (by omega) (by decide)) (D 64 rfl) ?_
    rw [up2_i (show ¬ ((51 : Nat) = 50 ∧ n - 1 = 4) by omega), e1]
    refine j_iconst C (v := nI 3) (D 65 rfl) rfl ?_
    refine j_icmp_ne C  135 (D 66 rfl) (by decide) (fun h116 => ?_) (fun h116 => absurd h116 (fun z => absurd z (by decide)))
    refine j_aload_n C (D 75 rfl) rfl ?_
    refine j_geti C f_X2_51 (sC0 hc) rfl rfl (D 76 rfl) ?_
    rw [up2_i (show ¬ (c = 50 ∧ 6 = 4) by omega), hT.2.1]
    refine j_if_le C  152 (D 77 rfl) (by decide) (fun h139 => absurd h139 (fun z => by rw [i_le, nI_int (by omega), i0] at z; omega)) (fun h139 => ?_)
    refine j_aload_n C (D 78 rfl) rfl ?_
    refine j_dup C (D 79 rfl) rfl ?_
    refine j_geti C f_X2_51 (sC0 hc) rfl rfl (D 80 rfl) ?_
    rw [up2_i (show ¬ (c = 50 ∧ 6 = 4) by omega), hT.2.1]
    refine j_iconst C (v := nI 1) (D 81 rfl) rfl ?_
    refine j_isub C (D 82 rfl) ?_
    rw [pk_sub (by omega)]
    refine j_puti C f_X2_51 (sC0 hc) rfl rfl (D 83 rfl) ?_
    refine j_iconst C (v := nI 1) (D 84 rfl) rfl ?_
    exact j_zret C P rfl (by first | exact Or.inl rfl | exact Or.inr rfl | assumption) (D 85 rfl) ⟨Nat.le_refl _, Nat.le_refl _⟩ ⟨by rw [← b2_t (show 0 < n by omega)], _, rfl, by
    rw [s_undo, if_neg (by omega)]
    refine CT_set hT hE10 (fun j k q1 q2 q3 q4 q5 => by rw [up2_i (by omega), up2_i (by omega)]) (by rw [up2_same, show vA V - 1 = (h (n - 1)).1.1 by omega]) (by rw [up2_i (by omega), up2_i (by omega)]; rw [hT.2.2.1, eT]) (fun b j hb hj => ?_)
    have z := hT.2.2.2.2.2.1 b j (by omega) hj
    exact ⟨by rw [up2_i (by omega), up2_i (by omega)]; rw [z.1]; exact (hm b j hb hj).symm, by rw [up2_i (by omega), up2_i (by omega)]; rw [z.2.1]; exact (hg b j hb hj).symm, by rw [up2_i (by omega), up2_i (by omega)]; rw [z.2.2]; exact (hi b j hb hj).symm⟩, by
    rw [s_undo, if_neg (by omega)]
    exact HC_pop (by omega) hH (by rw [up2_i (by omega), up2_same]) (fun t i q1 q2 => by rw [up2_i (by omega), up2_i (by omega)]), fun b j q => by rw [up2_i (by omega), up2_i (by omega)]⟩
  · rw [← eA] at hm hg hi
    refine j_aload_n C (D 0 rfl) rfl ?_
    refine j_geti C f_X2_24 (lit (kd := 2) (n := 5) rfl) rfl rfl (D 1 rfl) ?_
    refine j_iconst C (v := nI 1) (D 2 rfl) rfl ?_
    rw [hH.1]
    refine j_icmp_ge C  10 (D 3 rfl) (by decide) (fun h5 => ?_) (fun h5 => absurd h5 (fun z => z ((nle (by omega) (by omega)).mpr (by omega))))
    refine j_aload_n C (D 6 rfl) rfl ?_
    refine j_dup C (D 7 rfl) rfl ?_
    refine j_geti C f_X2_24 (lit (kd := 2) (n := 5) rfl) rfl rfl (D 8 rfl) ?_
    rw [hH.1]
    refine j_iconst C (v := nI 1) (D 9 rfl) rfl ?_
    refine j_isub C (D 10 rfl) ?_
    rw [pk_sub (by omega)]
    refine j_puti C f_X2_24 (lit (kd := 2) (n := 5) rfl) rfl rfl (D 11 rfl) ?_
    refine j_aload_n C (D 12 rfl) rfl ?_
    refine j_getr C f_X2_15 (lit (kd := 2) (n := 5) rfl) rfl rfl (hL _ _ _ rfl) (D 13 rfl) ?_
    refine j_aload_n C (D 14 rfl) rfl ?_
    refine j_geti C f_X2_24 (lit (kd := 2) (n := 5) rfl) rfl rfl (D 15 rfl) ?_
    rw [up2_same]
    refine j_iald C (lit (kd := 20) (n := 10) rfl) (ix_n (by omega) (by decide)) (D 16 rfl) ?_
    rw [up2_i (show ¬ ((52 : Nat) = 50 ∧ n - 1 = 4) by omega)]
    rw [ex2]
    refine j_istore_n C (D 17 rfl) rfl ?_
    refine j_aload_n C (D 18 rfl) rfl ?_
    refine j_getr C f_X2_9 (lit (kd := 2) (n := 5) rfl) rfl rfl (hL _ _ _ rfl) (D 19 rfl) ?_
    refine j_aload_n C (D 20 rfl) rfl ?_
    refine j_geti C f_X2_24 (lit (kd := 2) (n := 5) rfl) rfl rfl (D 21 rfl) ?_
    rw [up2_same]
    refine j_iald C (lit (kd := 20) (n := 10) rfl) (ix_n (by omega) (by decide)) (D 22 rfl) ?_
    rw [up2_i (show ¬ ((51 : Nat) = 50 ∧ n - 1 = 4) by omega), e1]
    refine j_if_ne C  60 (D 23 rfl) (by decide) (fun h39 => ?_) (fun h39 => absurd h39 (fun z => absurd z (by decide)))
    refine j_aload_n C (D 34 rfl) rfl ?_
    refine j_getr C f_X2_9 (lit (kd := 2) (n := 5) rfl) rfl rfl (hL _ _ _ rfl) (D 35 rfl) ?_
    refine j_aload_n C (D 36 rfl) rfl ?_
    refine j_geti C f_X2_24 (lit (kd := 2) (n := 5) rfl) rfl rfl (D 37 rfl) ?_
    rw [up2_same]
    refine j_iald C (lit (kd := 20) (n := 10) rfl) (ix_n (by omega) (by decide)) (D 38 rfl) ?_
    rw [up2_i (show ¬ ((51 : Nat) = 50 ∧ n - 1 = 4) by omega), e1]
    refine j_iconst C (v := nI 2) (D 39 rfl) rfl ?_
    refine j_icmp_ne C  106 (D 40 rfl) (by decide) (fun h70 => absurd h70 (fun z => z rfl)) (fun h70 => ?_)
    refine j_aload_n C (D 41 rfl) rfl ?_
    refine j_getr C f_X2_42 (sC0 hc) rfl rfl (hL _ _ _ (rC2 hc)) (D 42 rfl) ?_
    refine j_iload_n C (D 43 rfl) rfl ?_
    refine j_aload_n C (D 44 rfl) rfl ?_
    refine j_getr C f_X2_18 (lit (kd := 2) (n := 5) rfl) rfl rfl (hL _ _ _ rfl) (D 45 rfl) ?_
    refine j_aload_n C (D 46 rfl) rfl ?_
    refine j_geti C f_X2_24 (lit (kd := 2) (n := 5) rfl) rfl rfl (D 47 rfl) ?_
    rw [up2_same]
    refine j_iald C (lit (kd := 20) (n := 10) rfl) (ix_n (by omega) (by decide)) (D 48 rfl) ?_
    rw [up2_i (show ¬ ((53 : Nat) = 50 ∧ n - 1 = 4) by omega)]
    refine j_iast C (sC3 hc) (ix_n (by omega) (by decide)) (D 49 rfl) ?_
    refine j_aload_n C (D 50 rfl) rfl ?_
    refine j_getr C f_X2_45 (sC0 hc) rfl rfl (hL _ _ _ (rC3 hc)) (D 51 rfl) ?_
    refine j_iload_n C (D 52 rfl) rfl ?_
    refine j_aload_n C (D 53 rfl) rfl ?_
    refine j_getr C f_X2_21 (lit (kd := 2) (n := 5) rfl) rfl rfl (hL _ _ _ rfl) (D 54 rfl) ?_
    refine j_aload_n C (D 55 rfl) rfl ?_
    refine j_geti C f_X2_24 (lit (kd := 2) (n := 5) rfl) rfl rfl (D 56 rfl) ?_
    rw [up2_i (show ¬ ((50 : Nat) = c + 3 ∧ 4 = a * 10 + e) by omega), up2_same]
    refine j_iald C (lit (kd := 20) (n := 10) rfl) (ix_n (by omega) (by decide)) (D 57 rfl) ?_
    rw [up2_i (show ¬ ((54 : Nat) = c + 3 ∧ n - 1 = a * 10 + e) by omega), up2_i (show ¬ ((54 : Nat) = 50 ∧ n - 1 = 4) by omega)]
    refine j_iast C (sC4 hc) (ix_n (by omega) (by decide)) (D 58 rfl) ?_
    refine j_goto C 152 (D 59 rfl) (by decide) ?_
    refine j_iconst C (v := nI 1) (D 84 rfl) rfl ?_
    exact j_zret C P rfl (by first | exact Or.inl rfl | exact Or.inr rfl | assumption) (D 85 rfl) ⟨Nat.le_refl _, Nat.le_refl _⟩ ⟨by rw [← b2_t (show 0 < n by omega)], _, rfl, by
    rw [s_undo, if_neg (by omega)]
    refine CT_set hT hE10 (fun j k q1 q2 q3 q4 q5 => by rw [up2_i (by omega), up2_i (by omega), up2_i (by omega)]) (by rw [up2_i (by omega), up2_i (by omega), up2_i (by omega)]; rw [hT.2.1, eA]) (by rw [up2_i (by omega), up2_i (by omega), up2_i (by omega)]; rw [hT.2.2.1, eT]) (fun b j hb hj => ?_)
    have z := hT.2.2.2.2.2.1 b j (by omega) hj
    refine ⟨by rw [up2_i (by omega), up2_i (by omega), up2_i (by omega)]; rw [z.1]; exact (hm b j hb hj).symm, ?_, ?_⟩
    · rw [hg b j hb hj, tw_at]
      by_cases q : b = a ∧ j = e
      · rw [if_pos q, q.1, q.2, up2_i (by omega), up2_same]
      · rw [if_neg q, up2_i (by omega), up2_i (by omega), up2_i (by omega)]; exact z.2.1
    · rw [hi b j hb hj, tw_at]
      by_cases q : b = a ∧ j = e
      · rw [if_pos q, q.1, q.2, up2_same]
      · rw [if_neg q, up2_i (by omega), up2_i (by omega), up2_i (by omega)]; exact z.2.2, by
    rw [s_undo, if_neg (by omega)]
    exact HC_pop (by omega) hH (by rw [up2_i (by omega), up2_i (by omega), up2_same]) (fun t i q1 q2 => by rw [up2_i (by omega), up2_i (by omega), up2_i (by omega)]), fun b j q => by rw [up2_i (by omega), up2_i (by omega), up2_i (by omega)]⟩
  · rw [← eA] at hm hg hi
    refine j_aload_n C (D 0 rfl) rfl ?_
    refine j_geti C f_X2_24 (lit (kd := 2) (n := 5) rfl) rfl rfl (D 1 rfl) ?_
    refine j_iconst C (v := nI 1) (D 2 rfl) rfl ?_
    rw [hH.1]
    refine j_icmp_ge C  10 (D 3 rfl) (by decide) (fun h5 => ?_) (fun h5 => absurd h5 (fun z => z ((nle (by omega) (by omega)).mpr (by omega))))
    refine j_aload_n C (D 6 rfl) rfl ?_
    refine j_dup C (D 7 rfl) rfl ?_
    refine j_geti C f_X2_24 (lit (kd := 2) (n := 5) rfl) rfl rfl (D 8 rfl) ?_
    rw [hH.1]
    refine j_iconst C (v := nI 1) (D 9 rfl) rfl ?_
    refine j_isub C (D 10 rfl) ?_
    rw [pk_sub (by omega)]
    refine j_puti C f_X2_24 (lit (kd := 2) (n := 5) rfl) rfl rfl (D 11 rfl) ?_
    refine j_aload_n C (D 12 rfl) rfl ?_
    refine j_getr C f_X2_15 (lit (kd := 2) (n := 5) rfl) rfl rfl (hL _ _ _ rfl) (D 13 rfl) ?_
    refine j_aload_n C (D 14 rfl) rfl ?_
    refine j_geti C f_X2_24 (lit (kd := 2) (n := 5) rfl) rfl rfl (D 15 rfl) ?_
    rw [up2_same]
    refine j_iald C (lit (kd := 20) (n := 10) rfl) (ix_n (by omega) (by decide)) (D 16 rfl) ?_
    rw [up2_i (show ¬ ((52 : Nat) = 50 ∧ n - 1 = 4) by omega)]
    refine j_istore_n C (D 17 rfl) rfl ?_
    refine j_aload_n C (D 18 rfl) rfl ?_
    refine j_getr C f_X2_9 (lit (kd := 2) (n := 5) rfl) rfl rfl (hL _ _ _ rfl) (D 19 rfl) ?_
    refine j_aload_n C (D 20 rfl) rfl ?_
    refine j_geti C f_X2_24 (lit (kd := 2) (n := 5) rfl) rfl rfl (D 21 rfl) ?_
    rw [up2_same]
    refine j_iald C (lit (kd := 20) (n := 10) rfl) (ix_n (by omega) (by decide)) (D 22 rfl) ?_
    rw [up2_i (show ¬ ((51 : Nat) = 50 ∧ n - 1 = 4) by omega), e1]
    refine j_if_ne C  60 (D 23 rfl) (by decide) (fun h39 => ?_) (fun h39 => absurd h39 (fun z => absurd z (by decide)))
    refine j_aload_n C (D 34 rfl) rfl ?_
    refine j_getr C f_X2_9 (lit (kd := 2) (n := 5) rfl) rfl rfl (hL _ _ _ rfl) (D 35 rfl) ?_
    refine j_aload_n C (D 36 rfl) rfl ?_
    refine j_geti C f_X2_24 (lit (kd := 2) (n := 5) rfl) rfl rfl (D 37 rfl) ?_
    rw [up2_same]
    refine j_iald C (lit (kd := 20) (n := 10) rfl) (ix_n (by omega) (by decide)) (D 38 rfl) ?_
    rw [up2_i (show ¬ ((51 : Nat) = 50 ∧ n - 1 = 4) by omega), e1]
    refine j_iconst C (v := nI 2) (D 39 rfl) rfl ?_
    refine j_icmp_ne C  106 (D 40 rfl) (by decide) (fun h70 => ?_) (fun h70 => absurd h70 (fun z => absurd z (by decide)))
    refine j_aload_n C (D 60 rfl) rfl ?_
    refine j_getr C f_X2_9 (lit (kd := 2) (n := 5) rfl) rfl rfl (hL _ _ _ rfl) (D 61 rfl) ?_
    refine j_aload_n C (D 62 rfl) rfl ?_
    refine j_geti C f_X2_24 (lit (kd := 2) (n := 5) rfl) rfl rfl (D 63 rfl) ?_
    rw [up2_same]
    refine j_iald C (lit (kd := 20) (n := 10) rfl) (ix_n (by omega) (by decide)) (D 64 rfl) ?_
    rw [up2_i (show ¬ ((51 : Nat) = 50 ∧ n - 1 = 4) by omega), e1]
    refine j_iconst C (v := nI 3) (D 65 rfl) rfl ?_
    refine j_icmp_ne C  135 (D 66 rfl) (by decide) (fun h116 => absurd h116 (fun z => z rfl)) (fun h116 => ?_)
    refine j_aload_n C (D 67 rfl) rfl ?_
    refine j_aload_n C (D 68 rfl) rfl ?_
    refine j_getr C f_X2_18 (lit (kd := 2) (n := 5) rfl) rfl rfl (hL _ _ _ rfl) (D 69 rfl) ?_
    refine j_aload_n C (D 70 rfl) rfl ?_
    refine j_geti C f_X2_24 (lit (kd := 2) (n := 5) rfl) rfl rfl (D 71 rfl) ?_
    rw [up2_same]
    refine j_iald C (lit (kd := 20) (n := 10) rfl) (ix_n (by omega) (by decide)) (D 72 rfl) ?_
    rw [up2_i (show ¬ ((53 : Nat) = 50 ∧ n - 1 = 4) by omega)]
    refine j_puti C f_X2_48 (sC0 hc) rfl rfl (D 73 rfl) ?_
    refine j_goto C 152 (D 74 rfl) (by decide) ?_
    refine j_iconst C (v := nI 1) (D 84 rfl) rfl ?_
    exact j_zret C P rfl (by first | exact Or.inl rfl | exact Or.inr rfl | assumption) (D 85 rfl) ⟨Nat.le_refl _, Nat.le_refl _⟩ ⟨by rw [← b2_t (show 0 < n by omega)], _, rfl, by
    rw [s_undo, if_neg (by omega)]
    refine CT_set hT hE10 (fun j k q1 q2 q3 q4 q5 => by rw [up2_i (by omega), up2_i (by omega)]) (by rw [up2_i (by omega), up2_i (by omega)]; rw [hT.2.1, eA]) (by rw [up2_same, eT]) (fun b j hb hj => ?_)
    have z := hT.2.2.2.2.2.1 b j (by omega) hj
    exact ⟨by rw [up2_i (by omega), up2_i (by omega)]; rw [z.1]; exact (hm b j hb hj).symm, by rw [up2_i (by omega), up2_i (by omega)]; rw [z.2.1]; exact (hg b j hb hj).symm, by rw [up2_i (by omega), up2_i (by omega)]; rw [z.2.2]; exact (hi b j hb hj).symm⟩, by
    rw [s_undo, if_neg (by omega)]
    exact HC_pop (by omega) hH (by rw [up2_i (by omega), up2_same]) (fun t i q1 q2 => by rw [up2_i (by omega), up2_i (by omega)]), fun b j q => by rw [up2_i (by omega), up2_i (by omega)]⟩
set_option maxRecDepth 20000 in
theorem c_undoQ (l : Launch) (G : GT) {c : Nat} (hc : isC c) {I : Nat → Nat → Int32} {L : Nat → Nat → Int64} {R : Nat → Nat → Option Nat} (hL : Lay R) (hr5 : R 0 5 = some c) {V : VT} (hV : WV V) (hT : CT I c V) (ld : Bool) (hld : I 0 6 = b2 (ld = true)) {n : Nat} {h : Nat → SN} (hn : n ≤ 10) (hH : HC I V n h) : Mt l G mX11_undo (1) 0 0 [.ref (ra G 0)] (wd I L R) (aC (a_undo n) I R c (s_undo V n h)) := by
  refine mt_of (own := RX11) (by decide) rfl rfl (fun Z C P B => ?_)
  have D := @dc_of _ _ dX11_undo
  refine j_aload_n C (D 0 rfl) rfl ?_
  refine j_getr C f_X11_30 (lit (kd := 11) (n := 12) rfl) rfl rfl (hL _ _ _ rfl) (D 1 rfl) ?_
  refine j_aload_n C (D 2 rfl) rfl ?_
  refine j_getr C f_X11_37 (lit (kd := 11) (n := 12) rfl) rfl rfl hr5 (D 3 rfl) ?_
  refine j_callV C B k_X11_298 (rc_obj C (lit (kd := 2) (n := 5) rfl) rfl rfl) (c_takeBack _ _ hc hL hV hT hn hH) rfl rfl rfl rfl ⟨Nat.le_refl _, Nat.le_refl _⟩ (D 4 rfl) ?_
  rintro r w' ⟨rfl, I2, rfl, k1, k2, k3⟩
  refine j_if_eq C  24 (D 5 rfl) (by decide) (fun h11 => ?_) (fun h11 => ?_)
  · refine j_iconst C (v := (-1)) (D 10 rfl) rfl ?_
    exact j_iret C P rfl (D 11 rfl) ⟨Nat.le_refl _, Nat.le_refl _⟩ ⟨by have z := b2_eq h11; rw [a_undo, if_pos (by omega)], I2, L, rfl, k1, k2, k3⟩
  · refine j_aload_n C (D 6 rfl) rfl ?_
    refine j_getr C f_X11_30 (lit (kd := 11) (n := 12) rfl) rfl rfl (hL _ _ _ rfl) (D 7 rfl) ?_
    refine j_geti C f_X11_116 (lit (kd := 2) (n := 5) rfl) rfl rfl (D 8 rfl) ?_
    refine j_goto C 25 (D 9 rfl) (by decide) ?_
    exact j_iret C P rfl (D 11 rfl) ⟨Nat.le_refl _, Nat.le_refl _⟩ ⟨by have z := b2_ne h11; have y := k2.1; rw [y, s_undo, if_neg (by omega), a_undo, if_neg (by omega)], I2, L, rfl, k1, k2, k3⟩
theorem at_in {P : Nat → Nat → Int32} {n b j : Nat} : va_up P n (fun _ => (-1 : Int32)) b j = if b = n then -1 else P b j := by
  by_cases q : b = n
  · subst q; rw [vu_same, if_pos rfl]
  · rw [vu_ne _ _ q, if_neg q]
