theorem ixk {c i d : Nat} (hc : c ≤ 9) (hi : i < 80) (hd : d = 2 ∨ d = 3 ∨ d = 4) : ix (nI (242 * c) + nI d + nI 3 * nI i) (242 * c + d + 3 * i) 2420 := by
  rw [nI_add, pk_mul, nI_add]; exact ix_n (by omega) (by decide)
theorem ixk1 {c : Nat} (hc : c ≤ 9) : ix (nI (242 * c) + nI 1) (242 * c + 1) 2420 := by rw [nI_add]; exact ix_n (by omega) (by decide)
set_option maxRecDepth 20000 in
theorem d_keeps (l : Launch) (G : GT) {I : Nat → Nat → Int32} {L : Nat → Nat → Int64} {R : Nat → Nat → Option Nat} (hL : Lay R) (n : Nat) (hn : n ≤ 10) (hI : I 172 44 = nI n) : Mt l G mX12_keeps (0) 0 0 [.ref (ra G 172)] (wd I L R) (fun r w' => r = none ∧ ∃ I', w' = wd I' L R ∧ I' 172 44 = nI (cut n + 1) ∧ (∀ i x, i < cut n → x < 242 → I' 195 (242 * i + x) = I 195 (242 * sft n i + x)) ∧ (I' 195 (242 * cut n) = I 172 3 ∧ I' 195 (242 * cut n + 1) = I 172 5) ∧ (∀ j, j < 80 → I' 195 (242 * cut n + 2 + 3 * j) = I 177 j ∧ I' 195 (242 * cut n + 3 + 3 * j) = I 178 j ∧ I' 195 (242 * cut n + 4 + 3 * j) = I 179 j) ∧ (∀ b j, ¬ b = 195 → ¬ (b = 172 ∧ j = 44) → I' b j = I b j)) := by
  refine mt_of (own := RX12) (by decide) rfl rfl (fun Z C P B => ?_)
  have D := @dc_of _ _ dX12_keeps
  have hc := cut_le hn
  have LB : ∀ I5 : Nat → Nat → Int32, I5 172 44 = nI (cut n) → (∀ i x, i < cut n → x < 242 → I5 195 (242 * i + x) = I 195 (242 * sft n i + x)) → I5 195 (242 * cut n) = I 172 3 → I5 195 (242 * cut n + 1) = I 172 5 → (∀ b j, ¬ b = 195 → ¬ (b = 172 ∧ j = 44) → I5 b j = I b j) → ∀ (m i : Nat) (I1 : Nat → Nat → Int32), i + m = 80 → (∀ x, ¬ (242 * cut n + 2 ≤ x ∧ x < 242 * cut n + 2 + 3 * i) → I1 195 x = I5 195 x) → (∀ j, j < i → I1 195 (242 * cut n + 2 + 3 * j) = I 177 j ∧ I1 195 (242 * cut n + 3 + 3 * j) = I 178 j ∧ I1 195 (242 * cut n + 4 + 3 * j) = I 179 j) → (∀ b j, ¬ b = 195 → I1 b j = I5 b j) → J Z (0, 0) 85 [some (.ref (ra G 172)), some (.int (nI (242 * cut n))), some (.int (nI i))] [] (wd I1 L R) := by
    intro I5 h0 h1 h2 h3 h4 m
    induction m with
    | zero =>
      intro i I1 hi hU hB hO
      refine j_iload_n C (D 48 rfl) rfl ?_
      refine j_bipush C (v := nI 80) (D 49 rfl) rfl ?_
      refine j_icmp_ge C  151 (D 50 rfl) (by decide) (fun h88 => ?_) (fun h88 => absurd h88 (fun z => z ((nle (by omega) (by omega)).mpr (by omega))))
      refine j_aload_n C (D 95 rfl) rfl ?_
      refine j_dup C (D 96 rfl) rfl ?_
      refine j_geti C f_X12_311 (lit (kd := 12) (n := 48) rfl) rfl rfl (D 97 rfl) ?_
      rw [hO 172 44 (by decide), h0]
      refine j_iconst C (v := nI 1) (D 98 rfl) rfl ?_
      refine j_iadd C (D 99 rfl) ?_
      rw [nI_add]
      refine j_puti C f_X12_311 (lit (kd := 12) (n := 48) rfl) rfl rfl (D 100 rfl) ?_
      exact j_vret C P rfl (D 101 rfl) ⟨Nat.le_refl _, Nat.le_refl _⟩ ⟨rfl, _, rfl, by rw [up2_same], fun i9 x q1 q2 => by rw [up2_i (by omega), hU _ (by omega)]; exact h1 i9 x q1 q2, ⟨by rw [up2_i (by omega), hU _ (by omega)]; exact h2, by rw [up2_i (by omega), hU _ (by omega)]; exact h3⟩, fun j hj => by rw [up2_i (by omega), up2_i (by omega), up2_i (by omega)]; exact hB j (by omega), fun b j q1 q2 => by rw [up2_i (by omega), hO b j q1]; exact h4 b j q1 q2⟩
    | succ m ih =>
      intro i I1 hi hU hB hO
      have hi80 : i < 80 := by omega
      refine j_iload_n C (D 48 rfl) rfl ?_
      refine j_bipush C (v := nI 80) (D 49 rfl) rfl ?_
      refine j_icmp_ge C  151 (D 50 rfl) (by decide) (fun h88 => absurd h88 (fun z => by rw [nle (by omega) (by omega)] at z; omega)) (fun h88 => ?_)
      refine j_aload_n C (D 51 rfl) rfl ?_
      refine j_getr C f_X12_83 (lit (kd := 12) (n := 48) rfl) rfl rfl (hL _ _ _ rfl) (D 52 rfl) ?_
      refine j_iload_n C (D 53 rfl) rfl ?_
      refine j_iconst C (v := nI 2) (D 54 rfl) rfl ?_
      refine j_iadd C (D 55 rfl) ?_
      refine j_iconst C (v := nI 3) (D 56 rfl) rfl ?_
      refine j_iload_n C (D 57 rfl) rfl ?_
      refine j_imul C (D 58 rfl) ?_
      refine j_iadd C (D 59 rfl) ?_
      refine j_aload_n C (D 60 rfl) rfl ?_
      refine j_getr C f_X12_22 (lit (kd := 12) (n := 48) rfl) rfl rfl (hL _ _ _ rfl) (D 61 rfl) ?_
      refine j_iload_n C (D 62 rfl) rfl ?_
      refine j_iald C (lit (kd := 20) (n := 80) rfl) (ix_n (by omega) (by decide)) (D 63 rfl) ?_
      rw [hO 177 i (by decide), h4 177 i (by decide) (by omega)]
      refine j_iast C (lit (kd := 20) (n := 2420) rfl) (ixk hc hi80 (Or.inl rfl)) (D 64 rfl) ?_
      refine j_aload_n C (D 65 rfl) rfl ?_
      refine j_getr C f_X12_83 (lit (kd := 12) (n := 48) rfl) rfl rfl (hL _ _ _ rfl) (D 66 rfl) ?_
      refine j_iload_n C (D 67 rfl) rfl ?_
      refine j_iconst C (v := nI 3) (D 68 rfl) rfl ?_
      refine j_iadd C (D 69 rfl) ?_
      refine j_iconst C (v := nI 3) (D 70 rfl) rfl ?_
      refine j_iload_n C (D 71 rfl) rfl ?_
      refine j_imul C (D 72 rfl) ?_
      refine j_iadd C (D 73 rfl) ?_
      refine j_aload_n C (D 74 rfl) rfl ?_
      refine j_getr C f_X12_25 (lit (kd := 12) (n := 48) rfl) rfl rfl (hL _ _ _ rfl) (D 75 rfl) ?_
      refine j_iload_n C (D 76 rfl) rfl ?_
      refine j_iald C (lit (kd := 20) (n := 80) rfl) (ix_n (by omega) (by decide)) (D 77 rfl) ?_
      rw [up2_i (show ¬ ((178 : Nat) = 195 ∧ i = 242 * cut n + 2 + 3 * i) by omega), hO 178 i (by decide), h4 178 i (by decide) (by omega)]
      refine j_iast C (lit (kd := 20) (n := 2420) rfl) (ixk hc hi80 (Or.inr (Or.inl rfl))) (D 78 rfl) ?_
      refine j_aload_n C (D 79 rfl) rfl ?_
      refine j_getr C f_X12_83 (lit (kd := 12) (n := 48) rfl) rfl rfl (hL _ _ _ rfl) (D 80 rfl) ?_
      refine j_iload_n C (D 81 rfl) rfl ?_
      refine j_iconst C (v := nI 4) (D 82 rfl) rfl ?_
      refine j_iadd C (D 83 rfl) ?_
      refine j_iconst C (v := nI 3) (D 84 rfl) rfl ?_
      refine j_iload_n C (D 85 rfl) rfl ?_
      refine j_imul C (D 86 rfl) ?_
      refine j_iadd C (D 87 rfl) ?_
      refine j_aload_n C (D 88 rfl) rfl ?_
      refine j_getr C f_X12_28 (lit (kd := 12) (n := 48) rfl) rfl rfl (hL _ _ _ rfl) (D 89 rfl) ?_
      refine j_iload_n C (D 90 rfl) rfl ?_
      refine j_iald C (lit (kd := 20) (n := 80) rfl) (ix_n (by omega) (by decide)) (D 91 rfl) ?_
      rw [up2_i (show ¬ ((179 : Nat) = 195 ∧ i = 242 * cut n + 3 + 3 * i) by omega), up2_i (show ¬ ((179 : Nat) = 195 ∧ i = 242 * cut n + 2 + 3 * i) by omega), hO 179 i (by decide), h4 179 i (by decide) (by omega)]
      refine j_iast C (lit (kd := 20) (n := 2420) rfl) (ixk hc hi80 (Or.inr (Or.inr rfl))) (D 92 rfl) ?_
      first | refine j_iinc1 C (D 93 rfl) rfl rfl ?_ | refine j_iinc C (D 93 rfl) rfl rfl rfl ?_
      refine j_goto C 85 (D 94 rfl) (by decide) ?_
      exact ih (i + 1) _ (by omega) (fun x q => by rw [up2_i (by omega), up2_i (by omega), up2_i (by omega)]; exact hU x (by omega)) (fun j hj => by
        by_cases q : j = i
        · rw [q, up2_i (show ¬ ((195 : Nat) = 195 ∧ 242 * cut n + 2 + 3 * i = 242 * cut n + 4 + 3 * i) by omega), up2_i (show ¬ ((195 : Nat) = 195 ∧ 242 * cut n + 2 + 3 * i = 242 * cut n + 3 + 3 * i) by omega), up2_same, up2_i (show ¬ ((195 : Nat) = 195 ∧ 242 * cut n + 3 + 3 * i = 242 * cut n + 4 + 3 * i) by omega), up2_same, up2_same]; exact ⟨rfl, rfl, rfl⟩
        · rw [up2_i (by omega), up2_i (by omega), up2_i (by omega), up2_i (by omega), up2_i (by omega), up2_i (by omega), up2_i (by omega), up2_i (by omega), up2_i (by omega)]; exact hB j (by omega)) (fun b j q => by rw [up2_i (by omega), up2_i (by omega), up2_i (by omega)]; exact hO b j q)
  have L52 : ∀ (I1 : Nat → Nat → Int32) (x1 x2 : Option Value), I1 172 44 = nI (cut n) → (∀ i x, i < cut n → x < 242 → I1 195 (242 * i + x) = I 195 (242 * sft n i + x)) → (∀ b j, ¬ b = 195 → ¬ (b = 172 ∧ j = 44) → I1 b j = I b j) → J Z (0, 0) 52 [some (.ref (ra G 172)), x1, x2] [] (wd I1 L R) := by
    intro I1 x1 x2 h0 h1 h4
    refine j_sipush C (v := nI 242) (D 27 rfl) rfl ?_
    refine j_aload_n C (D 28 rfl) rfl ?_
    refine j_geti C f_X12_311 (lit (kd := 12) (n := 48) rfl) rfl rfl (D 29 rfl) ?_
    rw [h0]
    refine j_imul C (D 30 rfl) ?_
    rw [pk_mul]
    refine j_istore_n C (D 31 rfl) rfl ?_
    refine j_aload_n C (D 32 rfl) rfl ?_
    refine j_getr C f_X12_83 (lit (kd := 12) (n := 48) rfl) rfl rfl (hL _ _ _ rfl) (D 33 rfl) ?_
    refine j_iload_n C (D 34 rfl) rfl ?_
    refine j_aload_n C (D 35 rfl) rfl ?_
    refine j_geti C f_X12_303 (lit (kd := 12) (n := 48) rfl) rfl rfl (D 36 rfl) ?_
    rw [h4 172 3 (by decide) (by decide)]
    refine j_iast C (lit (kd := 20) (n := 2420) rfl) (ix_n (by omega) (by decide)) (D 37 rfl) ?_
    refine j_aload_n C (D 38 rfl) rfl ?_
    refine j_getr C f_X12_83 (lit (kd := 12) (n := 48) rfl) rfl rfl (hL _ _ _ rfl) (D 39 rfl) ?_
    refine j_iload_n C (D 40 rfl) rfl ?_
    refine j_iconst C (v := nI 1) (D 41 rfl) rfl ?_
    refine j_iadd C (D 42 rfl) ?_
    refine j_aload_n C (D 43 rfl) rfl ?_
    refine j_geti C f_X12_309 (lit (kd := 12) (n := 48) rfl) rfl rfl (D 44 rfl) ?_
    rw [up2_i (show ¬ ((172 : Nat) = 195 ∧ 5 = 242 * cut n) by omega), h4 172 5 (by decide) (by decide)]
    refine j_iast C (lit (kd := 20) (n := 2420) rfl) (ixk1 hc) (D 45 rfl) ?_
    refine j_iconst C (v := nI 0) (D 46 rfl) rfl ?_
    refine j_istore_n C (D 47 rfl) rfl ?_
    exact LB (up2 (up2 I1 195 (242 * cut n) (I 172 3)) 195 (242 * cut n + 1) (I 172 5)) (by rw [up2_i (by omega), up2_i (by omega)]; exact h0) (fun i x q1 q2 => by rw [up2_i (by omega), up2_i (by omega)]; exact h1 i x q1 q2) (by rw [up2_i (by omega), up2_same]) (by rw [up2_same]) (fun b j q1 q2 => by rw [up2_i (by omega), up2_i (by omega)]; exact h4 b j q1 q2) 80 0 _ (by omega) (fun _ _ => rfl) (fun j hj => absurd hj (by omega)) (fun _ _ _ => rfl)
  have LA : n = 10 → ∀ (m k : Nat) (I1 : Nat → Nat → Int32), k + m = 2420 → 242 ≤ k → (∀ j, I1 195 j = if j + 242 < k then I 195 (j + 242) else I 195 j) → (∀ b j, ¬ b = 195 → I1 b j = I b j) → J Z (0, 0) 13 [some (.ref (ra G 172)), some (.int (nI k)), none] [] (wd I1 L R) := by
    intro hn10
    have e1 : cut n = 9 := by unfold cut; rw [if_pos hn10]
    have e2 : ∀ i, sft n i = i + 1 := fun i => by unfold sft; rw [if_pos hn10]
    intro m
    induction m with
    | zero =>
      intro k I1 hk hk2 hA hO
      refine j_iload_n C (D 6 rfl) rfl ?_
      refine j_sipush C (v := nI 2420) (D 7 rfl) rfl ?_
      refine j_icmp_ge C  42 (D 8 rfl) (by decide) (fun h17 => ?_) (fun h17 => absurd h17 (fun z => z ((nle (by omega) (by omega)).mpr (by omega))))
      refine j_aload_n C (D 21 rfl) rfl ?_
      refine j_dup C (D 22 rfl) rfl ?_
      refine j_geti C f_X12_311 (lit (kd := 12) (n := 48) rfl) rfl rfl (D 23 rfl) ?_
      rw [hO 172 44 (by decide), hI]
      refine j_iconst C (v := nI 1) (D 24 rfl) rfl ?_
      refine j_isub C (D 25 rfl) ?_
      rw [hn10, pk_sub (by omega)]
      refine j_puti C f_X12_311 (lit (kd := 12) (n := 48) rfl) rfl rfl (D 26 rfl) ?_
      exact L52 _ _ _ (by rw [up2_same, e1]) (fun i x q1 q2 => by rw [up2_i (by omega), hA _, if_pos (by omega), e2, show 242 * i + x + 242 = 242 * (i + 1) + x by omega]) (fun b j q1 q2 => by rw [up2_i (by omega)]; exact hO b j q1)
    | succ m ih =>
      intro k I1 hk hk2 hA hO
      refine j_iload_n C (D 6 rfl) rfl ?_
      refine j_sipush C (v := nI 2420) (D 7 rfl) rfl ?_
      refine j_icmp_ge C  42 (D 8 rfl) (by decide) (fun h17 => absurd h17 (fun z => by rw [nle (by omega) (by omega)] at z; omega)) (fun h17 => ?_)
      refine j_aload_n C (D 9 rfl) rfl ?_
      refine j_getr C f_X12_83 (lit (kd := 12) (n := 48) rfl) rfl rfl (hL _ _ _ rfl) (D 10 rfl) ?_
      refine j_iload_n C (D 11 rfl) rfl ?_
      refine j_sipush C (v := nI 242) (D 12 rfl) rfl ?_
      refine j_isub C (D 13 rfl) ?_
      rw [pk_sub (by omega)]
      refine j_aload_n C (D 14 rfl) rfl ?_
      refine j_getr C f_X12_83 (lit (kd := 12) (n := 48) rfl) rfl rfl (hL _ _ _ rfl) (D 15 rfl) ?_
      refine j_iload_n C (D 16 rfl) rfl ?_
      refine j_iald C (lit (kd := 20) (n := 2420) rfl) (ix_n (by omega) (by decide)) (D 17 rfl) ?_
      refine j_iast C (lit (kd := 20) (n := 2420) rfl) (ix_n (by omega) (by decide)) (D 18 rfl) ?_
      first | refine j_iinc1 C (D 19 rfl) rfl rfl ?_ | refine j_iinc C (D 19 rfl) rfl rfl rfl ?_
      refine j_goto C 13 (D 20 rfl) (by decide) ?_
      exact ih (k + 1) _ (by omega) (by omega) (fun j => by
        by_cases q : j = k - 242
        · rw [q, up2_same, hA k, if_neg (by omega), if_pos (by omega), show k - 242 + 242 = k by omega]
        · rw [up2_i (by omega), hA j]
          by_cases z : j + 242 < k
          · rw [if_pos z, if_pos (by omega)]
          · rw [if_neg z, if_neg (by omega)]) (fun b j q => by rw [up2_i (by omega)]; exact hO b j q)
  refine j_aload_n C (D 0 rfl) rfl ?_
  refine j_geti C f_X12_311 (lit (kd := 12) (n := 48) rfl) rfl rfl (D 1 rfl) ?_
  refine j_bipush C (v := nI 10) (D 2 rfl) rfl ?_
  rw [hI]
  refine j_icmp_ne C  52 (D 3 rfl) (by decide) (fun h6 => ?_) (fun h6 => ?_)
  · have hn10 : ¬ n = 10 := fun z => h6 (by rw [z])
    exact L52 I _ _ (by unfold cut; rw [if_neg hn10]; exact hI) (fun i x _ _ => by unfold sft; rw [if_neg hn10]) (fun _ _ _ _ => rfl)
  · refine j_sipush C (v := nI 242) (D 4 rfl) rfl ?_
    refine j_istore_n C (D 5 rfl) rfl ?_
    exact LA (nI_inj (by omega) (by decide) h6) 2178 242 I (by omega) (by omega) (fun j => by rw [if_neg (by omega)]) (fun _ _ _ => rfl)
