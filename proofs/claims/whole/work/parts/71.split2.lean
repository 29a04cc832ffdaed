def tsg (f : Nat → Int32) (q e : Nat) : Nat := if dgt (f q) then 39 else sgOf f q e
/-- one TOKEN more -/
def add1 (f : Nat → Int32) (i q e : Nat) (I I' : Nat → Nat → Int32) (R R' : Nat → Nat → Option Nat) : Prop :=
  I' 5 3 = nI (i + 1) ∧ R' 6 i = some (1000 + tsg f q e) ∧ I' 7 i = nI q ∧ (tsg f q e = 39 → I' 8 i = nI (min 1000000 (vlN f q (e - q)))) ∧ (∀ j, ¬ j = i → R' 6 j = R 6 j ∧ I' 7 j = I 7 j ∧ I' 8 j = I 8 j) ∧ (∀ b j, ¬ (b = 5 ∧ j = 3) → ¬ b = 7 → ¬ b = 8 → I' b j = I b j) ∧ (∀ b j, ¬ b = 6 → R' b j = R b j)
theorem up2_r {R : Nat → Nat → Option Nat} {a k : Nat} {v : Option Nat} {b j : Nat} (h : ¬ (b = a ∧ j = k)) : up2 R a k v b j = R b j := by
  unfold up2
  by_cases h1 : b = a
  · rw [if_pos h1]
    by_cases h2 : j = k
    · exact absurd ⟨h1, h2⟩ h
    · rw [if_neg h2]
  · rw [if_neg h1]
set_option maxRecDepth 20000 in
theorem c_add (l : Launch) (G : GT) {I : Nat → Nat → Int32} {L : Nat → Nat → Int64} {R : Nat → Nat → Option Nat} (hL : Lay R) (f : Nat → Int32) (n : Nat) (hn : n ≤ 1200) (hf : ∀ j, j < n → I 1 j = f j) (i q0 e : Nat) (hi : I 5 3 = nI i) (hi2 : i < 1200) (he : q0 < e) (hen : e ≤ n) (hdg : dgt (f q0) = true → ∀ k, q0 ≤ k → k < e → dgt (f k) = true) : Mt l G mX9_add (6) 0 0 [.ref (ra G 5), .ref (ra G 1), .int (nI q0), .int (nI e)] (wd I L R) (fun r w' => r = none ∧ ∃ I' R', w' = wd I' L R' ∧ add1 f i q0 e I I' R R') := by
  refine mt_of (own := RX9) (by decide) rfl rfl (fun Z C P B => ?_)
  have D := @dc_of _ _ dX9_add
  have hf2 : ∀ j, j < n → up2 I 7 i (nI q0) 1 j = f j := fun j hj => by rw [up2_i (by omega)]; exact hf j hj
  refine j_aload_n C (D 0 rfl) rfl ?_
  refine j_geti C f_X9_31 (lit (kd := 9) (n := 5) rfl) rfl rfl (D 1 rfl) ?_
  rw [hi]
  refine j_sipush C (v := nI 1200) (D 2 rfl) rfl ?_
  refine j_icmp_lt C  11 (D 3 rfl) (by decide) (fun h7 => ?_) (fun h7 => absurd h7 (fun z => z ((nlt (by omega) (by omega)).mpr (by omega))))
  refine j_aload_n C (D 5 rfl) rfl ?_
  refine j_getr C f_X9_17 (lit (kd := 9) (n := 5) rfl) rfl rfl (hL _ _ _ rfl) (D 6 rfl) ?_
  refine j_aload_n C (D 7 rfl) rfl ?_
  refine j_geti C f_X9_31 (lit (kd := 9) (n := 5) rfl) rfl rfl (D 8 rfl) ?_
  rw [hi]
  refine j_iload_n C (D 9 rfl) rfl ?_
  refine j_iast C (lit (kd := 20) (n := 1201) rfl) (ix_n (by omega) (by decide)) (D 10 rfl) ?_
  refine j_aload_n C (D 11 rfl) rfl ?_
  refine j_iload_n C (D 12 rfl) rfl ?_
  refine j_bald C (lit (kd := 21) (n := 1200) rfl) (ix_n (by omega) (by decide)) (D 13 rfl) ?_
  rw [hf2 q0 (by omega)]
  refine j_cSp C B k_X9_57 (c_isDigit _ _ _ _) rfl rfl rfl rfl ⟨Nat.le_refl _, Nat.le_refl _⟩ (D 14 rfl) ?_
  refine j_if_eq C  60 (D 15 rfl) (by decide) (fun h27 => ?_) (fun h27 => ?_)
  · refine j_aload_n C (D 32 rfl) rfl ?_
    refine j_getr C f_X9_11 (lit (kd := 9) (n := 5) rfl) rfl rfl (hL _ _ _ rfl) (D 33 rfl) ?_
    refine j_aload_n C (D 34 rfl) rfl ?_
    refine j_geti C f_X9_31 (lit (kd := 9) (n := 5) rfl) rfl rfl (D 35 rfl) ?_
    rw [up2_i (show ¬ ((5 : Nat) = 7 ∧ 3 = i) by omega), hi]
    refine j_aload_n C (D 36 rfl) rfl ?_
    refine j_aload_n C (D 37 rfl) rfl ?_
    refine j_iload_n C (D 38 rfl) rfl ?_
    refine j_iload_n C (D 39 rfl) rfl ?_
    refine j_cVp C B k_X9_66 (rc_obj C (lit (kd := 9) (n := 5) rfl) rfl rfl) (c_signOf _ _ hL f n hn hf2 q0 e (by omega) hen) rfl rfl rfl rfl ⟨Nat.le_refl _, Nat.le_refl _⟩ (D 40 rfl) ?_
    refine j_aastS C (lit (kd := 24) (n := 1201) rfl) (ix_n (by omega) (by decide)) (by have := sgOf_rng (f := f) he; omega) (D 41 rfl) ?_
    refine j_aload_n C (D 42 rfl) rfl ?_
    refine j_dup C (D 43 rfl) rfl ?_
    refine j_geti C f_X9_31 (lit (kd := 9) (n := 5) rfl) rfl rfl (D 44 rfl) ?_
    rw [up2_i (show ¬ ((5 : Nat) = 7 ∧ 3 = i) by omega), hi]
    refine j_iconst C (v := nI 1) (D 45 rfl) rfl ?_
    refine j_iadd C (D 46 rfl) ?_
    rw [nI_add]
    refine j_puti C f_X9_31 (lit (kd := 9) (n := 5) rfl) rfl rfl (D 47 rfl) ?_
    exact j_vret C P rfl (D 48 rfl) ⟨Nat.le_refl _, Nat.le_refl _⟩ ⟨rfl, _, _, rfl, by rw [up2_same], by rw [up2_same, tsg, if_neg (b2_eq h27)], by rw [up2_i (by omega), up2_same], fun z => absurd z (by rw [tsg, if_neg (b2_eq h27)]; have := sgOf_rng (f := f) he; omega), fun j hj => ⟨by rw [up2_r (by omega)], by rw [up2_i (by omega), up2_i (by omega)], by rw [up2_i (by omega), up2_i (by omega)]⟩, fun b j h1 h2 h3 => by rw [up2_i h1, up2_i (by omega)], fun b j h1 => by rw [up2_r (by omega)]⟩
  · refine j_aload_n C (D 16 rfl) rfl ?_
    refine j_getr C f_X9_11 (lit (kd := 9) (n := 5) rfl) rfl rfl (hL _ _ _ rfl) (D 17 rfl) ?_
    refine j_aload_n C (D 18 rfl) rfl ?_
    refine j_geti C f_X9_31 (lit (kd := 9) (n := 5) rfl) rfl rfl (D 19 rfl) ?_
    rw [up2_i (show ¬ ((5 : Nat) = 7 ∧ 3 = i) by omega), hi]
    refine j_gsgn C (i := 39) (by decide) s_X9_60 (D 20 rfl) ?_
    refine j_aastS C (lit (kd := 24) (n := 1201) rfl) (ix_n (by omega) (by decide)) (by decide) (D 21 rfl) ?_
    refine j_aload_n C (D 22 rfl) rfl ?_
    refine j_getr C f_X9_21 (lit (kd := 9) (n := 5) rfl) rfl rfl (hL _ _ _ rfl) (D 23 rfl) ?_
    refine j_aload_n C (D 24 rfl) rfl ?_
    refine j_geti C f_X9_31 (lit (kd := 9) (n := 5) rfl) rfl rfl (D 25 rfl) ?_
    rw [up2_i (show ¬ ((5 : Nat) = 7 ∧ 3 = i) by omega), hi]
    refine j_aload_n C (D 26 rfl) rfl ?_
    refine j_iload_n C (D 27 rfl) rfl ?_
    refine j_iload_n C (D 28 rfl) rfl ?_
    refine j_cSp C B k_X9_63 (c_numberOf _ _ (Lay_6 hL (fun b j h => up2_r (by omega))) f n hn hf2 q0 e (by omega) hen (hdg (b2_ne h27))) rfl rfl rfl rfl ⟨Nat.le_refl _, Nat.le_refl _⟩ (D 29 rfl) ?_
    refine j_iast C (lit (kd := 20) (n := 1201) rfl) (ix_n (by omega) (by decide)) (D 30 rfl) ?_
    refine j_goto C 76 (D 31 rfl) (by decide) ?_
    refine j_aload_n C (D 42 rfl) rfl ?_
    refine j_dup C (D 43 rfl) rfl ?_
    refine j_geti C f_X9_31 (lit (kd := 9) (n := 5) rfl) rfl rfl (D 44 rfl) ?_
    rw [up2_i (show ¬ ((5 : Nat) = 8 ∧ 3 = i) by omega), up2_i (show ¬ ((5 : Nat) = 7 ∧ 3 = i) by omega), hi]
    refine j_iconst C (v := nI 1) (D 45 rfl) rfl ?_
    refine j_iadd C (D 46 rfl) ?_
    rw [nI_add]
    refine j_puti C f_X9_31 (lit (kd := 9) (n := 5) rfl) rfl rfl (D 47 rfl) ?_
    exact j_vret C P rfl (D 48 rfl) ⟨Nat.le_refl _, Nat.le_refl _⟩ ⟨rfl, _, _, rfl, by rw [up2_same], by rw [up2_same, tsg, if_pos (b2_ne h27)], by rw [up2_i (by omega), up2_i (by omega), up2_same], fun _ => by rw [up2_i (by omega), up2_same], fun j hj => ⟨by rw [up2_r (by omega)], by rw [up2_i (by omega), up2_i (by omega), up2_i (by omega)], by rw [up2_i (by omega), up2_i (by omega), up2_i (by omega)]⟩, fun b j h1 h2 h3 => by rw [up2_i h1, up2_i (by omega), up2_i (by omega)], fun b j h1 => by rw [up2_r (by omega)]⟩
/-- the TOKENS as the class holds them -/
def TKS (I : Nat → Nat → Int32) (R : Nat → Nat → Option Nat) (T : Nat → TK) (N : Nat) : Prop := I 5 3 = nI N ∧ ∀ j, j ≤ N → R 6 j = some (1000 + (T j).1) ∧ I 7 j = nI (T j).2.1 ∧ ((T j).1 = 39 → I 8 j = nI (min 1000000 (T j).2.2))
def TKp (I : Nat → Nat → Int32) (R : Nat → Nat → Option Nat) (T : Nat → TK) (N : Nat) : Prop := I 5 3 = nI N ∧ ∀ j, j < N → R 6 j = some (1000 + (T j).1) ∧ I 7 j = nI (T j).2.1 ∧ ((T j).1 = 39 → I 8 j = nI (min 1000000 (T j).2.2))
theorem tok_1 {f : Nat → Int32} {n i : Nat} (h : spo f n i < n) : (tok f n i).1 = tsg f (spo f n i) (ten f n (spo f n i)) := by
  unfold tok tsg
  rw [if_pos h]
  by_cases h2 : dgt (f (spo f n i)) = true
  · rw [if_pos h2, if_pos h2]
  · rw [if_neg h2, if_neg h2]
theorem ten_d {f : Nat → Int32} {n q : Nat} (hd : dgt (f q) = true) : ∀ k, q ≤ k → k < ten f n q → dgt (f k) = true := fun k h1 h2 => by
  have hl : ¬ ltr (f q) = true := fun z => by
    unfold ltr at z; unfold dgt at hd
    rw [decide_eq_true_iff] at z hd; omega
  unfold ten at h2
  rw [if_neg hl, if_pos hd] at h2
  by_cases e : k = q
  · rw [e]; exact hd
  · exact rn_in (fun k => dgt (f k)) (n - (q + 1)) (q + 1) k (by omega) h2
theorem ten_b {f : Nat → Int32} {n q : Nat} (hb : blk (f q) = true) : ten f n q = q + 1 := by
  unfold blk at hb
  rw [decide_eq_true_iff] at hb
  have hl : ¬ ltr (f q) = true := fun z => by rcases hb with e | e <;> rw [e] at z <;> exact absurd z (by decide)
  have hd : ¬ dgt (f q) = true := fun z => by rcases hb with e | e <;> rw [e] at z <;> exact absurd z (by decide)
  unfold ten
  rw [if_neg hl, if_neg hd]
/-- the frame of split -/
def FrK (I I' : Nat → Nat → Int32) : Prop := ∀ b j, ¬ (b = 5 ∧ j = 3) → ¬ b = 7 → ¬ b = 8 → I' b j = I b j
set_option maxRecDepth 20000 in
theorem c_split (l : Launch) (G : GT) {I : Nat → Nat → Int32} {L : Nat → Nat → Int64} {R : Nat → Nat → Option Nat} (hL : Lay R) (f : Nat → Int32) (n : Nat) (hn : n ≤ 1200) (hf : ∀ j, j < n → I 1 j = f j) : Mt l G mX9_split (7) 0 0 [.ref (ra G 5), .ref (ra G 1), .int (nI n)] (wd I L R) (fun r w' => r = none ∧ ∃ I' R' N, w' = wd I' L R' ∧ NT f n N ∧ TKS I' R' (tok f n) N ∧ FrK I I' ∧ ∀ b j, ¬ b = 6 → R' b j = R b j) := by
  refine mt_of (own := RX9) (by decide) rfl rfl (fun Z C P B => ?_)
  have D := @dc_of _ _ dX9_split
  have L1 : ∀ m q i (I1 : Nat → Nat → Int32) (R1 : Nat → Nat → Option Nat) (x4 : Option Value), n - q ≤ m → q ≤ n → skp f n q = spo f n i → i ≤ q → (∀ j, j < i → spo f n j < n) → TKp I1 R1 (tok f n) i → FrK I I1 → (∀ b j, ¬ b = 6 → R1 b j = R b j) → J Z (0, 0) 7 [some (.ref (ra G 5)), some (.ref (ra G 1)), some (.int (nI n)), some (.int (nI q)), x4] [] (wd I1 L R1) := by
    intro m
    induction m with
    | zero =>
      intro q i I1 R1 x4 hm hq hs hiq hj hT hF hR
      have hL1 := Lay_6 hL hR
      have hqn : q = n := by omega
      have hse : spo f n i = n := by rw [← hs, hqn, skp, rn_e (Nat.le_refl _)]
      refine j_iload_n C (D 5 rfl) rfl ?_
      refine j_iload_n C (D 6 rfl) rfl ?_
      refine j_icmp_ge C  56 (D 7 rfl) (by decide) (fun h9 => ?_) (fun h9 => absurd h9 (fun z => z ((nle (by omega) (by omega)).mpr (by omega))))
      refine j_aload_n C (D 35 rfl) rfl ?_
      refine j_getr C f_X9_11 (lit (kd := 9) (n := 5) rfl) rfl rfl (hL1 _ _ _ rfl) (D 36 rfl) ?_
      refine j_aload_n C (D 37 rfl) rfl ?_
      refine j_geti C f_X9_31 (lit (kd := 9) (n := 5) rfl) rfl rfl (D 38 rfl) ?_
      rw [hT.1]
      refine j_gsgn C (i := 41) (by decide) s_X9_49 (D 39 rfl) ?_
      refine j_aastS C (lit (kd := 24) (n := 1201) rfl) (ix_n (by omega) (by decide)) (by decide) (D 40 rfl) ?_
      refine j_aload_n C (D 41 rfl) rfl ?_
      refine j_getr C f_X9_17 (lit (kd := 9) (n := 5) rfl) rfl rfl (hL1 _ _ _ rfl) (D 42 rfl) ?_
      refine j_aload_n C (D 43 rfl) rfl ?_
      refine j_geti C f_X9_31 (lit (kd := 9) (n := 5) rfl) rfl rfl (D 44 rfl) ?_
      rw [hT.1]
      refine j_iload_n C (D 45 rfl) rfl ?_
      refine j_iast C (lit (kd := 20) (n := 1201) rfl) (ix_n (by omega) (by decide)) (D 46 rfl) ?_
      exact j_vret C P rfl (D 47 rfl) ⟨Nat.le_refl _, Nat.le_refl _⟩ ⟨rfl, _, _, i, rfl, ⟨hse, hj⟩, ⟨by rw [up2_i (by omega)]; exact hT.1, fun j h => by
    by_cases c : j = i
    · subst c
      rw [tok_e hse]
      exact ⟨up2_same _ _ _ _, up2_same _ _ _ _, fun z => absurd (show (41 : Nat) = 39 from z) (by decide)⟩
    · have := hT.2 j (by omega)
      rw [up2_r (by omega), up2_i (by omega), up2_i (by omega)]
      exact this⟩, fun b j h1 h2 h3 => by rw [up2_i (by omega)]; exact hF b j h1 h2 h3, fun b j h => by rw [up2_r (by omega)]; exact hR b j h⟩
    | succ m ih =>
      intro q i I1 R1 x4 hm hq hs hiq hj hT hF hR
      have hL1 := Lay_6 hL hR
      have hf1 : ∀ j, j < n → I1 1 j = f j := fun j hj => by rw [hF _ _ (by omega) (by omega) (by omega)]; exact hf j hj
      refine j_iload_n C (D 5 rfl) rfl ?_
      refine j_iload_n C (D 6 rfl) rfl ?_
      refine j_icmp_ge C  56 (D 7 rfl) (by decide) (fun h9 => ?_) (fun h9 => ?_)
      · have hqn : q = n := by rw [nle (by omega) (by omega)] at h9; omega
        have hse : spo f n i = n := by rw [← hs, hqn, skp, rn_e (Nat.le_refl _)]
        refine j_aload_n C (D 35 rfl) rfl ?_
        refine j_getr C f_X9_11 (lit (kd := 9) (n := 5) rfl) rfl rfl (hL1 _ _ _ rfl) (D 36 rfl) ?_
        refine j_aload_n C (D 37 rfl) rfl ?_
        refine j_geti C f_X9_31 (lit (kd := 9) (n := 5) rfl) rfl rfl (D 38 rfl) ?_
        rw [hT.1]
        refine j_gsgn C (i := 41) (by decide) s_X9_49 (D 39 rfl) ?_
        refine j_aastS C (lit (kd := 24) (n := 1201) rfl) (ix_n (by omega) (by decide)) (by decide) (D 40 rfl) ?_
        refine j_aload_n C (D 41 rfl) rfl ?_
        refine j_getr C f_X9_17 (lit (kd := 9) (n := 5) rfl) rfl rfl (hL1 _ _ _ rfl) (D 42 rfl) ?_
        refine j_aload_n C (D 43 rfl) rfl ?_
        refine j_geti C f_X9_31 (lit (kd := 9) (n := 5) rfl) rfl rfl (D 44 rfl) ?_
        rw [hT.1]
        refine j_iload_n C (D 45 rfl) rfl ?_
        refine j_iast C (lit (kd := 20) (n := 1201) rfl) (ix_n (by omega) (by decide)) (D 46 rfl) ?_
        exact j_vret C P rfl (D 47 rfl) ⟨Nat.le_refl _, Nat.le_refl _⟩ ⟨rfl, _, _, i, rfl, ⟨hse, hj⟩, ⟨by rw [up2_i (by omega)]; exact hT.1, fun j h => by
    by_cases c : j = i
    · subst c
      rw [tok_e hse]
      exact ⟨up2_same _ _ _ _, up2_same _ _ _ _, fun z => absurd (show (41 : Nat) = 39 from z) (by decide)⟩
    · have := hT.2 j (by omega)
      rw [up2_r (by omega), up2_i (by omega), up2_i (by omega)]
      exact this⟩, fun b j h1 h2 h3 => by rw [up2_i (by omega)]; exact hF b j h1 h2 h3, fun b j h => by rw [up2_r (by omega)]; exact hR b j h⟩
      · have hqn : q < n := by rw [nle (by omega) (by omega)] at h9; omega
        have ht := ten_rng f hqn
        refine j_aload_n C (D 8 rfl) rfl ?_
        refine j_iload_n C (D 9 rfl) rfl ?_
        refine j_iload_n C (D 10 rfl) rfl ?_
        refine j_cSp C B k_X9_35 (c_endOf _ _ hL1 f n hn hf1 q (by omega)) rfl rfl rfl rfl ⟨Nat.le_refl _, Nat.le_refl _⟩ (D 11 rfl) ?_
        refine j_istore C (D 12 rfl) rfl ?_
        refine j_aload_n C (D 13 rfl) rfl ?_
        refine j_iload_n C (D 14 rfl) rfl ?_
        refine j_bald C (lit (kd := 21) (n := 1200) rfl) (ix_n (by omega) (by decide)) (D 15 rfl) ?_
        rw [hf1 q (by omega)]
        refine j_bipush C (v := nI 32) (D 16 rfl) rfl ?_
        refine j_icmp_eq C  44 (D 17 rfl) (by decide) (fun h25 => ?_) (fun h25 => ?_)
        · refine j_iload C (D 28 rfl) rfl ?_
          refine j_iload_n C (D 29 rfl) rfl ?_
          refine j_iconst C (v := nI 1) (D 30 rfl) rfl ?_
          refine j_iadd C (D 31 rfl) ?_
          rw [nI_add]
          refine j_mmax C B k_X9_43 rfl rfl ⟨Nat.le_refl _, Nat.le_refl _⟩ (D 32 rfl) ?_
          refine j_istore_n C (D 33 rfl) rfl ?_
          refine j_goto C 7 (D 34 rfl) (by decide) ?_
          have hb : blk (f q) = true := decide_eq_true_iff.mpr (Or.inl h25)
          rw [ten_b hb, show (if nI (q + 1) < nI (q + 1) then nI (q + 1) else nI (q + 1)) = nI (q + 1) from by split <;> rfl]
          refine ih (q + 1) i I1 R1 _ (by omega) (by omega) ?_ (by omega) hj hT hF hR
          rw [← hs]
          unfold skp
          rw [rn_t (g := fun k => blk (f k)) (by omega) hb]
        · refine j_aload_n C (D 18 rfl) rfl ?_
          refine j_iload_n C (D 19 rfl) rfl ?_
          refine j_bald C (lit (kd := 21) (n := 1200) rfl) (ix_n (by omega) (by decide)) (D 20 rfl) ?_
          rw [hf1 q (by omega)]
          refine j_bipush C (v := nI 10) (D 21 rfl) rfl ?_
          refine j_icmp_eq C  44 (D 22 rfl) (by decide) (fun h33 => ?_) (fun h33 => ?_)
          · refine j_iload C (D 28 rfl) rfl ?_
            refine j_iload_n C (D 29 rfl) rfl ?_
            refine j_iconst C (v := nI 1) (D 30 rfl) rfl ?_
            refine j_iadd C (D 31 rfl) ?_
            rw [nI_add]
            refine j_mmax C B k_X9_43 rfl rfl ⟨Nat.le_refl _, Nat.le_refl _⟩ (D 32 rfl) ?_
            refine j_istore_n C (D 33 rfl) rfl ?_
            refine j_goto C 7 (D 34 rfl) (by decide) ?_
            have hb : blk (f q) = true := decide_eq_true_iff.mpr (Or.inr h33)
            rw [ten_b hb, show (if nI (q + 1) < nI (q + 1) then nI (q + 1) else nI (q + 1)) = nI (q + 1) from by split <;> rfl]
            refine ih (q + 1) i I1 R1 _ (by omega) (by omega) ?_ (by omega) hj hT hF hR
            rw [← hs]
            unfold skp
            rw [rn_t (g := fun k => blk (f k)) (by omega) hb]
          · have hnb : ¬ blk (f q) = true := fun z => (decide_eq_true_iff.mp z).elim h25 h33
            have hqs : spo f n i = q := by rw [← hs]; unfold skp; exact rn_f (g := fun k => blk (f k)) hnb
            refine j_aload_n C (D 23 rfl) rfl ?_
            refine j_aload_n C (D 24 rfl) rfl ?_
            refine j_iload_n C (D 25 rfl) rfl ?_
            refine j_iload C (D 26 rfl) rfl ?_
            refine j_callV C B k_X9_39 (rc_obj C (lit (kd := 9) (n := 5) rfl) rfl rfl) (c_add _ _ hL1 f n hn hf1 i q (ten f n q) hT.1 (by omega) (by omega) (by omega) (fun hd => ten_d hd)) rfl rfl rfl rfl ⟨Nat.le_refl _, Nat.le_refl _⟩ (D 27 rfl) ?_
            rintro r w' ⟨rfl, I2, R2, rfl, ha⟩
            refine j_iload C (D 28 rfl) rfl ?_
            refine j_iload_n C (D 29 rfl) rfl ?_
            refine j_iconst C (v := nI 1) (D 30 rfl) rfl ?_
            refine j_iadd C (D 31 rfl) ?_
            rw [nI_add]
            refine j_mmax C B k_X9_43 rfl rfl ⟨Nat.le_refl _, Nat.le_refl _⟩ (D 32 rfl) ?_
            refine j_istore_n C (D 33 rfl) rfl ?_
            refine j_goto C 7 (D 34 rfl) (by decide) ?_
            rw [show (if nI (ten f n q) < nI (q + 1) then nI (q + 1) else nI (ten f n q)) = nI (ten f n q) from by rw [if_neg (fun z => by rw [nlt (by omega) (by omega)] at z; omega)]]
            refine ih (ten f n q) (i + 1) I2 R2 _ (by omega) (by omega) ?_ (by omega) ?_ ?_ ?_ ?_
            · rw [spo_s (by omega), hqs]
            · intro j h
              by_cases c : j = i
              · rw [c]; omega
              · exact hj j (by omega)
            · refine ⟨ha.1, fun j h => ?_⟩
              by_cases c : j = i
              · subst c
                rw [tok_1 (by omega), tok_2, hqs]
                refine ⟨ha.2.1, ha.2.2.1, fun z => ?_⟩
                rw [ha.2.2.2.1 z]
                have hd : dgt (f q) = true := by
                  by_cases c : dgt (f q) = true
                  · exact c
                  · rw [tsg, if_neg c] at z; have := sgOf_rng (f := f) (q := q) (e := ten f n q) (by omega); omega
                rw [tok_d (by omega) (by rw [hqs]; exact hd), hqs]
              · have := hT.2 j (by omega)
                rw [(ha.2.2.2.2.1 j c).1, (ha.2.2.2.2.1 j c).2.1, (ha.2.2.2.2.1 j c).2.2]
                exact this
            · exact fun b j h1 h2 h3 => by rw [ha.2.2.2.2.2.1 b j h1 h2 h3]; exact hF b j h1 h2 h3
            · exact fun b j h => by rw [ha.2.2.2.2.2.2 b j h]; exact hR b j h
  refine j_aload_n C (D 0 rfl) rfl ?_
  refine j_iconst C (v := nI 0) (D 1 rfl) rfl ?_
  refine j_puti C f_X9_31 (lit (kd := 9) (n := 5) rfl) rfl rfl (D 2 rfl) ?_
  refine j_iconst C (v := nI 0) (D 3 rfl) rfl ?_
  refine j_istore_n C (D 4 rfl) rfl ?_
  exact L1 n 0 0 _ R _ (by omega) (by omega) rfl (by omega) (fun j h => by omega) ⟨up2_same _ _ _ _, fun j h => by omega⟩ (fun b j h1 h2 h3 => up2_i h1) (fun _ _ _ => rfl)
