theorem rfx9 : ∀ i, i < 42 → rfx 9 i = some (1000 + i) := by decide
theorem rfx6 (k : Nat) : rfx 6 k = none := rfl
theorem Lay_6 {R R' : Nat → Nat → Option Nat} (h : Lay R) (hR : ∀ b j, ¬ b = 6 → R' b j = R b j) : Lay R' := fun a k r hr => by
  by_cases e : a = 6
  · rw [e, rfx6] at hr; cases hr
  · rw [hR a k e]; exact h a k r hr
theorem ltr_iff {x : Int32} : ltr x = true ↔ nI 97 ≤ x ∧ x ≤ nI 122 := by unfold ltr; rw [decide_eq_true_iff, i_le, i_le]; exact Iff.rfl
theorem dgt_iff {x : Int32} : dgt x = true ↔ nI 48 ≤ x ∧ x ≤ nI 57 := by unfold dgt; rw [decide_eq_true_iff, i_le, i_le]; exact Iff.rfl
theorem i_nle {a b : Int32} : ¬ a ≤ b ↔ b < a := by rw [i_le, i_lt]; omega
theorem i_nlt {a b : Int32} : ¬ a < b ↔ b ≤ a := by rw [i_le, i_lt]; omega
theorem dgt_n {x : Int32} (h : dgt x = true) : ∃ d, d ≤ 9 ∧ x = nI (48 + d) ∧ (x.toInt - 48).toNat = d := by
  unfold dgt at h
  rw [decide_eq_true_iff] at h
  obtain ⟨k, hk, rfl, e⟩ := i_nat (a := x) (by omega)
  rw [e] at h
  exact ⟨k - 48, by omega, by rw [show 48 + (k - 48) = k by omega], by rw [e]; omega⟩
set_option maxRecDepth 20000 in
theorem c_isLetter (l : Launch) (G : GT) (w : Wd) (x : Int32) : Mt l G mX9_isLetter (0) 0 0 [.int x] w (pV (.int (b2 (ltr x = true))) w) := by
  refine mt_of (own := RX9) (by decide) rfl rfl (fun Z C P B => ?_)
  have D := @dc_of _ _ dX9_isLetter
  refine j_iload_n C (D 0 rfl) rfl ?_
  refine j_bipush C (v := nI 97) (D 1 rfl) rfl ?_
  refine j_icmp_lt C  16 (D 2 rfl) (by decide) (fun h3 => ?_) (fun h3 => ?_)
  · refine j_iconst C (v := nI 0) (D 8 rfl) rfl ?_
    exact j_zret C P rfl (by first | exact Or.inl rfl | exact Or.inr rfl | assumption) (D 9 rfl) ⟨Nat.le_refl _, Nat.le_refl _⟩ (pv_i (b2_f (fun z => absurd (ltr_iff.mp z).1 (i_nle.mpr h3))))
  · refine j_iload_n C (D 3 rfl) rfl ?_
    refine j_bipush C (v := nI 122) (D 4 rfl) rfl ?_
    refine j_icmp_gt C  16 (D 5 rfl) (by decide) (fun h9 => ?_) (fun h9 => ?_)
    · refine j_iconst C (v := nI 0) (D 8 rfl) rfl ?_
      exact j_zret C P rfl (by first | exact Or.inl rfl | exact Or.inr rfl | assumption) (D 9 rfl) ⟨Nat.le_refl _, Nat.le_refl _⟩ (pv_i (b2_f (fun z => absurd (ltr_iff.mp z).2 (i_nle.mpr h9))))
    · refine j_iconst C (v := nI 1) (D 6 rfl) rfl ?_
      refine j_goto C 17 (D 7 rfl) (by decide) ?_
      exact j_zret C P rfl (by first | exact Or.inl rfl | exact Or.inr rfl | assumption) (D 9 rfl) ⟨Nat.le_refl _, Nat.le_refl _⟩ (pv_i (b2_t (ltr_iff.mpr ⟨i_nlt.mp h3, i_nlt.mp h9⟩)))
set_option maxRecDepth 20000 in
theorem c_isDigit (l : Launch) (G : GT) (w : Wd) (x : Int32) : Mt l G mX9_isDigit (0) 0 0 [.int x] w (pV (.int (b2 (dgt x = true))) w) := by
  refine mt_of (own := RX9) (by decide) rfl rfl (fun Z C P B => ?_)
  have D := @dc_of _ _ dX9_isDigit
  refine j_iload_n C (D 0 rfl) rfl ?_
  refine j_bipush C (v := nI 48) (D 1 rfl) rfl ?_
  refine j_icmp_lt C  16 (D 2 rfl) (by decide) (fun h3 => ?_) (fun h3 => ?_)
  · refine j_iconst C (v := nI 0) (D 8 rfl) rfl ?_
    exact j_zret C P rfl (by first | exact Or.inl rfl | exact Or.inr rfl | assumption) (D 9 rfl) ⟨Nat.le_refl _, Nat.le_refl _⟩ (pv_i (b2_f (fun z => absurd (dgt_iff.mp z).1 (i_nle.mpr h3))))
  · refine j_iload_n C (D 3 rfl) rfl ?_
    refine j_bipush C (v := nI 57) (D 4 rfl) rfl ?_
    refine j_icmp_gt C  16 (D 5 rfl) (by decide) (fun h9 => ?_) (fun h9 => ?_)
    · refine j_iconst C (v := nI 0) (D 8 rfl) rfl ?_
      exact j_zret C P rfl (by first | exact Or.inl rfl | exact Or.inr rfl | assumption) (D 9 rfl) ⟨Nat.le_refl _, Nat.le_refl _⟩ (pv_i (b2_f (fun z => absurd (dgt_iff.mp z).2 (i_nle.mpr h9))))
    · refine j_iconst C (v := nI 1) (D 6 rfl) rfl ?_
      refine j_goto C 17 (D 7 rfl) (by decide) ?_
      exact j_zret C P rfl (by first | exact Or.inl rfl | exact Or.inr rfl | assumption) (D 9 rfl) ⟨Nat.le_refl _, Nat.le_refl _⟩ (pv_i (b2_t (dgt_iff.mpr ⟨i_nlt.mp h3, i_nlt.mp h9⟩)))
set_option maxRecDepth 20000 in
theorem c_endOf (l : Launch) (G : GT) {I : Nat → Nat → Int32} {L : Nat → Nat → Int64} {R : Nat → Nat → Option Nat} (hL : Lay R) (f : Nat → Int32) (n : Nat) (hn : n ≤ 1200) (hf : ∀ j, j < n → I 1 j = f j) (q0 : Nat) (hq0 : q0 < n) : Mt l G mX9_endOf (1) 0 0 [.ref (ra G 1), .int (nI q0), .int (nI n)] (wd I L R) (pV (.int (nI (ten f n q0))) (wd I L R)) := by
  refine mt_of (own := RX9) (by decide) rfl rfl (fun Z C P B => ?_)
  have D := @dc_of _ _ dX9_endOf
  have L1 : ∀ m q, n - q = m → q ≤ n → rn (fun k => ltr (f k)) (n - q) q = ten f n q0 → J Z (0, 0) 13 [some (.ref (ra G 1)), some (.int (nI q0)), some (.int (nI n)), some (.int (nI q))] [] (wd I L R) := by
    intro m
    induction m with
    | zero =>
      intro q hm hq he
      refine j_iload_n C (D 9 rfl) rfl ?_
      refine j_iload_n C (D 10 rfl) rfl ?_
      refine j_icmp_ge C  62 (D 11 rfl) (by decide) (fun h15 => ?_) (fun h15 => absurd h15 (fun z => z ((nle (by omega) (by omega)).mpr (by omega))))
      refine j_iload_n C (D 34 rfl) rfl ?_
      exact j_iret C P rfl (D 35 rfl) ⟨Nat.le_refl _, Nat.le_refl _⟩ (pv_i (by rw [← he, rn_e (by omega)]))
    | succ m ih =>
      intro q hm hq he
      refine j_iload_n C (D 9 rfl) rfl ?_
      refine j_iload_n C (D 10 rfl) rfl ?_
      refine j_icmp_ge C  62 (D 11 rfl) (by decide) (fun h15 => absurd h15 (fun z => by rw [nle (by omega) (by omega)] at z; omega)) (fun h15 => ?_)
      refine j_aload_n C (D 12 rfl) rfl ?_
      refine j_iload_n C (D 13 rfl) rfl ?_
      refine j_bald C (lit (kd := 21) (n := 1200) rfl) (ix_n (by omega) (by decide)) (D 14 rfl) ?_
      rw [hf q (by omega)]
      refine j_cSp C B k_X9_53 (c_isLetter _ _ _ _) rfl rfl rfl rfl ⟨Nat.le_refl _, Nat.le_refl _⟩ (D 15 rfl) ?_
      refine j_if_eq C  62 (D 16 rfl) (by decide) (fun h24 => ?_) (fun h24 => ?_)
      · refine j_iload_n C (D 34 rfl) rfl ?_
        exact j_iret C P rfl (D 35 rfl) ⟨Nat.le_refl _, Nat.le_refl _⟩ (pv_i (by rw [← he, rn_f (g := fun k => ltr (f k)) (b2_eq h24)]))
      · first | refine j_iinc1 C (D 17 rfl) rfl rfl ?_ | refine j_iinc C (D 17 rfl) rfl rfl rfl ?_
        refine j_goto C 13 (D 18 rfl) (by decide) ?_
        exact ih (q + 1) (by omega) (by omega) (by rw [← he, rn_t (g := fun k => ltr (f k)) (by omega) (b2_ne h24)])
  have L2 : ∀ m q, n - q = m → q ≤ n → rn (fun k => dgt (f k)) (n - q) q = ten f n q0 → J Z (0, 0) 42 [some (.ref (ra G 1)), some (.int (nI q0)), some (.int (nI n)), some (.int (nI q))] [] (wd I L R) := by
    intro m
    induction m with
    | zero =>
      intro q hm hq he
      refine j_iload_n C (D 24 rfl) rfl ?_
      refine j_iload_n C (D 25 rfl) rfl ?_
      refine j_icmp_ge C  62 (D 26 rfl) (by decide) (fun h44 => ?_) (fun h44 => absurd h44 (fun z => z ((nle (by omega) (by omega)).mpr (by omega))))
      refine j_iload_n C (D 34 rfl) rfl ?_
      exact j_iret C P rfl (D 35 rfl) ⟨Nat.le_refl _, Nat.le_refl _⟩ (pv_i (by rw [← he, rn_e (by omega)]))
    | succ m ih =>
      intro q hm hq he
      refine j_iload_n C (D 24 rfl) rfl ?_
      refine j_iload_n C (D 25 rfl) rfl ?_
      refine j_icmp_ge C  62 (D 26 rfl) (by decide) (fun h44 => absurd h44 (fun z => by rw [nle (by omega) (by omega)] at z; omega)) (fun h44 => ?_)
      refine j_aload_n C (D 27 rfl) rfl ?_
      refine j_iload_n C (D 28 rfl) rfl ?_
      refine j_bald C (lit (kd := 21) (n := 1200) rfl) (ix_n (by omega) (by decide)) (D 29 rfl) ?_
      rw [hf q (by omega)]
      refine j_cSp C B k_X9_57 (c_isDigit _ _ _ _) rfl rfl rfl rfl ⟨Nat.le_refl _, Nat.le_refl _⟩ (D 30 rfl) ?_
      refine j_if_eq C  62 (D 31 rfl) (by decide) (fun h53 => ?_) (fun h53 => ?_)
      · refine j_iload_n C (D 34 rfl) rfl ?_
        exact j_iret C P rfl (D 35 rfl) ⟨Nat.le_refl _, Nat.le_refl _⟩ (pv_i (by rw [← he, rn_f (g := fun k => dgt (f k)) (b2_eq h53)]))
      · first | refine j_iinc1 C (D 32 rfl) rfl rfl ?_ | refine j_iinc C (D 32 rfl) rfl rfl rfl ?_
        refine j_goto C 42 (D 33 rfl) (by decide) ?_
        exact ih (q + 1) (by omega) (by omega) (by rw [← he, rn_t (g := fun k => dgt (f k)) (by omega) (b2_ne h53)])
  refine j_iload_n C (D 0 rfl) rfl ?_
  refine j_iconst C (v := nI 1) (D 1 rfl) rfl ?_
  refine j_iadd C (D 2 rfl) ?_
  rw [nI_add]
  refine j_istore_n C (D 3 rfl) rfl ?_
  refine j_aload_n C (D 4 rfl) rfl ?_
  refine j_iload_n C (D 5 rfl) rfl ?_
  refine j_bald C (lit (kd := 21) (n := 1200) rfl) (ix_n (by omega) (by decide)) (D 6 rfl) ?_
  rw [hf q0 (by omega)]
  refine j_cSp C B k_X9_53 (c_isLetter _ _ _ _) rfl rfl rfl rfl ⟨Nat.le_refl _, Nat.le_refl _⟩ (D 7 rfl) ?_
  refine j_if_eq C  33 (D 8 rfl) (by decide) (fun h10 => ?_) (fun h10 => ?_)
  · refine j_aload_n C (D 19 rfl) rfl ?_
    refine j_iload_n C (D 20 rfl) rfl ?_
    refine j_bald C (lit (kd := 21) (n := 1200) rfl) (ix_n (by omega) (by decide)) (D 21 rfl) ?_
    rw [hf q0 (by omega)]
    refine j_cSp C B k_X9_57 (c_isDigit _ _ _ _) rfl rfl rfl rfl ⟨Nat.le_refl _, Nat.le_refl _⟩ (D 22 rfl) ?_
    refine j_if_eq C  62 (D 23 rfl) (by decide) (fun h39 => ?_) (fun h39 => ?_)
    · refine j_iload_n C (D 34 rfl) rfl ?_
      exact j_iret C P rfl (D 35 rfl) ⟨Nat.le_refl _, Nat.le_refl _⟩ (pv_i (by rw [ten, if_neg (b2_eq h10), if_neg (b2_eq h39)]))
    · exact L2 _ (q0 + 1) rfl (by omega) (by rw [ten, if_neg (b2_eq h10), if_pos (b2_ne h39)])
  · exact L1 _ (q0 + 1) rfl (by omega) (by rw [ten, if_pos (b2_ne h10)])
theorem num_step {M v d : Nat} (hd : d ≤ 9) (hM : M ≤ 9999999) : (if nI (min M v * 10) + nI (48 + d) - nI 48 < nI M then nI (min M v * 10) + nI (48 + d) - nI 48 else nI M) = nI (min M (10 * v + d)) := by
  rw [nI_add, pk_sub (by omega)]
  by_cases c : min M v * 10 + (48 + d) - 48 < M
  · rw [if_pos ((nlt (by omega) (by omega)).mpr c)]
    congr 1
    omega
  · rw [if_neg (fun z => c ((nlt (by omega) (by omega)).mp z))]
    congr 1
    omega
set_option maxRecDepth 20000 in
theorem c_numberOf (l : Launch) (G : GT) {I : Nat → Nat → Int32} {L : Nat → Nat → Int64} {R : Nat → Nat → Option Nat} (hL : Lay R) (f : Nat → Int32) (n : Nat) (hn : n ≤ 1200) (hf : ∀ j, j < n → I 1 j = f j) (q0 e : Nat) (he : q0 ≤ e) (hen : e ≤ n) (hdg : ∀ k, q0 ≤ k → k < e → dgt (f k) = true) : Mt l G mX9_numberOf (1) 0 0 [.ref (ra G 1), .int (nI q0), .int (nI e)] (wd I L R) (pV (.int (nI (min 1000000 (vlN f q0 (e - q0))))) (wd I L R)) := by
  refine mt_of (own := RX9) (by decide) rfl rfl (fun Z C P B => ?_)
  have D := @dc_of _ _ dX9_numberOf
  have L1 : ∀ m k, e - (q0 + k) = m → q0 + k ≤ e → J Z (0, 0) 5 [some (.ref (ra G 1)), some (.int (nI q0)), some (.int (nI e)), some (.int (nI (min 1000000 (vlN f q0 k)))), some (.int (nI (q0 + k)))] [] (wd I L R) := by
    intro m
    induction m with
    | zero =>
      intro k hm hk
      have hk2 : k = e - q0 := by omega
      refine j_iload C (D 4 rfl) rfl ?_
      refine j_iload_n C (D 5 rfl) rfl ?_
      refine j_icmp_ge C  35 (D 6 rfl) (by decide) (fun h8 => ?_) (fun h8 => absurd h8 (fun z => z ((nle (by omega) (by omega)).mpr (by omega))))
      refine j_iload_n C (D 21 rfl) rfl ?_
      exact j_iret C P rfl (D 22 rfl) ⟨Nat.le_refl _, Nat.le_refl _⟩ (pv_i (by rw [hk2]))
    | succ m ih =>
      intro k hm hk
      obtain ⟨d, hd9, hd, hd2⟩ := dgt_n (hdg (q0 + k) (by omega) (by omega))
      refine j_iload C (D 4 rfl) rfl ?_
      refine j_iload_n C (D 5 rfl) rfl ?_
      refine j_icmp_ge C  35 (D 6 rfl) (by decide) (fun h8 => absurd h8 (fun z => by rw [nle (by omega) (by omega)] at z; omega)) (fun h8 => ?_)
      refine j_ldc C (v := 1000000) (D 7 rfl) n_X9_70 ?_
      refine j_iload_n C (D 8 rfl) rfl ?_
      refine j_bipush C (v := nI 10) (D 9 rfl) rfl ?_
      refine j_imul C (D 10 rfl) ?_
      rw [pk_mul]
      refine j_aload_n C (D 11 rfl) rfl ?_
      refine j_iload C (D 12 rfl) rfl ?_
      refine j_bald C (lit (kd := 21) (n := 1200) rfl) (ix_n (by omega) (by decide)) (D 13 rfl) ?_
      rw [hf (q0 + k) (by omega), hd]
      refine j_iadd C (D 14 rfl) ?_
      refine j_bipush C (v := nI 48) (D 15 rfl) rfl ?_
      refine j_isub C (D 16 rfl) ?_
      refine j_mmin C B k_X9_71 rfl rfl ⟨Nat.le_refl _, Nat.le_refl _⟩ (D 17 rfl) ?_
      rw [show (1000000 : Int32) = nI 1000000 from rfl, num_step hd9 (by omega), show 10 * vlN f q0 k + d = vlN f q0 (k + 1) from by rw [vlN, hd2]]
      refine j_istore_n C (D 18 rfl) rfl ?_
      first | refine j_iinc1 C (D 19 rfl) rfl rfl ?_ | refine j_iinc C (D 19 rfl) rfl rfl rfl ?_
      refine j_goto C 5 (D 20 rfl) (by decide) ?_
      exact ih (k + 1) (by omega) (by omega)
  refine j_iconst C (v := nI 0) (D 0 rfl) rfl ?_
  refine j_istore_n C (D 1 rfl) rfl ?_
  refine j_iload_n C (D 2 rfl) rfl ?_
  refine j_istore C (D 3 rfl) rfl ?_
  exact L1 _ 0 rfl (by omega)
theorem spl67 : ∀ s, s < 42 → spl s < 67 := by decide
theorem stl7 : ∀ i, i < 67 → stLen i < 100 := by decide
set_option maxRecDepth 20000 in
theorem c_isSpelled (l : Launch) (G : GT) {I : Nat → Nat → Int32} {L : Nat → Nat → Int64} {R : Nat → Nat → Option Nat} (hL : Lay R) (f : Nat → Int32) (n : Nat) (hn : n ≤ 1200) (hf : ∀ j, j < n → I 1 j = f j) {s : Nat} (hs : s < 42) (q0 e : Nat) (he : q0 ≤ e) (hen : e ≤ n) : Mt l G mX7_isSpelled (4) 0 0 [.ref (ra G (1000 + s)), .ref (ra G 1), .int (nI q0), .int (nI e)] (wd I L R) (pV (.int (b2 (spB (txt (spl s)) f q0 e = true))) (wd I L R)) := by
  refine mt_of (own := RX7) (by decide) rfl rfl (fun Z C P B => ?_)
  have D := @dc_of _ _ dX7_isSpelled
  have h100 := stl7 (spl s) (spl67 s hs)
  refine j_aload_n C (D 0 rfl) rfl ?_
  refine j_gspl C hs g_X7_149 (D 1 rfl) ?_
  refine j_cVp C B k_X7_153 (rc_str C (spl67 s hs)) (t_length _ _ _ (spl67 s hs)) rfl rfl rfl rfl ⟨Nat.le_refl _, Nat.le_refl _⟩ (D 2 rfl) ?_
  refine j_iload_n C (D 3 rfl) rfl ?_
  refine j_iload_n C (D 4 rfl) rfl ?_
  refine j_isub C (D 5 rfl) ?_
  rw [pk_sub (by omega)]
  refine j_icmp_eq C  15 (D 6 rfl) (by decide) (fun h10 => ?_) (fun h10 => ?_)
  · have hlen : e - q0 = (txt (spl s)).length := (nI_inj (by omega) (by omega) h10).symm
    have L1 : ∀ m k, e - (q0 + k) = m → q0 + k ≤ e → (∀ j, j < k → f (q0 + j) = (txt (spl s)).getD j 0) → J Z (0, 0) 18 [some (.ref (ra G (1000 + s))), some (.ref (ra G 1)), some (.int (nI q0)), some (.int (nI e)), some (.int (nI (q0 + k)))] [] (wd I L R) := by
      intro m
      induction m with
      | zero =>
        intro k hm hk hj
        have hk2 : k = e - q0 := by omega
        refine j_iload C (D 11 rfl) rfl ?_
        refine j_iload_n C (D 12 rfl) rfl ?_
        refine j_icmp_ge C  50 (D 13 rfl) (by decide) (fun h21 => ?_) (fun h21 => absurd h21 (fun z => z ((nle (by omega) (by omega)).mpr (by omega))))
        refine j_iconst C (v := nI 1) (D 28 rfl) rfl ?_
        exact j_zret C P rfl (by first | exact Or.inl rfl | exact Or.inr rfl | assumption) (D 29 rfl) ⟨Nat.le_refl _, Nat.le_refl _⟩ (pv_i (b2_t (spB_iff.mpr ⟨hlen, fun j h => hj j (by rw [hk2, hlen]; exact h)⟩)))
      | succ m ih =>
        intro k hm hk hj
        have hkl : k < stLen (spl s) := by show k < (txt (spl s)).length; omega
        refine j_iload C (D 11 rfl) rfl ?_
        refine j_iload_n C (D 12 rfl) rfl ?_
        refine j_icmp_ge C  50 (D 13 rfl) (by decide) (fun h21 => absurd h21 (fun z => by rw [nle (by omega) (by omega)] at z; omega)) (fun h21 => ?_)
        refine j_aload_n C (D 14 rfl) rfl ?_
        refine j_gspl C hs g_X7_149 (D 15 rfl) ?_
        refine j_iload C (D 16 rfl) rfl ?_
        refine j_iload_n C (D 17 rfl) rfl ?_
        refine j_isub C (D 18 rfl) ?_
        rw [pk_sub (by omega), show q0 + k - q0 = k by omega]
        refine j_cVp C B k_X7_159 (rc_str C (spl67 s hs)) (t_charAt _ _ _ (spl67 s hs) hkl) rfl rfl rfl rfl ⟨Nat.le_refl _, Nat.le_refl _⟩ (D 19 rfl) ?_
        refine j_aload_n C (D 20 rfl) rfl ?_
        refine j_iload C (D 21 rfl) rfl ?_
        refine j_bald C (lit (kd := 21) (n := 1200) rfl) (ix_n (by omega) (by decide)) (D 22 rfl) ?_
        rw [hf (q0 + k) (by omega)]
        refine j_icmp_eq C  44 (D 23 rfl) (by decide) (fun h39 => ?_) (fun h39 => ?_)
        · first | refine j_iinc1 C (D 26 rfl) rfl rfl ?_ | refine j_iinc C (D 26 rfl) rfl rfl rfl ?_
          refine j_goto C 18 (D 27 rfl) (by decide) ?_
          exact ih (k + 1) (by omega) (by omega) (fun j h => by
            by_cases c : j = k
            · rw [c]; exact h39.symm
            · exact hj j (by omega))
        · refine j_iconst C (v := nI 0) (D 24 rfl) rfl ?_
          exact j_zret C P rfl (by first | exact Or.inl rfl | exact Or.inr rfl | assumption) (D 25 rfl) ⟨Nat.le_refl _, Nat.le_refl _⟩ (pv_i (b2_f (fun z => h39 ((spB_iff.mp z).2 k hkl).symm)))
    refine j_iload_n C (D 9 rfl) rfl ?_
    refine j_istore C (D 10 rfl) rfl ?_
    exact L1 _ 0 rfl (by omega) (fun j h => by omega)
  · refine j_iconst C (v := nI 0) (D 7 rfl) rfl ?_
    exact j_zret C P rfl (Or.inl rfl) (D 8 rfl) ⟨Nat.le_refl _, Nat.le_refl _⟩ (pv_i (b2_f (fun z => h10 (by have : e - q0 = stLen (spl s) := (spB_iff.mp z).1; rw [this]))))
set_option maxRecDepth 20000 in
theorem c_signOf (l : Launch) (G : GT) {I : Nat → Nat → Int32} {L : Nat → Nat → Int64} {R : Nat → Nat → Option Nat} (hL : Lay R) (f : Nat → Int32) (n : Nat) (hn : n ≤ 1200) (hf : ∀ j, j < n → I 1 j = f j) (q0 e : Nat) (he : q0 ≤ e) (hen : e ≤ n) : Mt l G mX9_signOf (5) 0 0 [.ref (ra G 5), .ref (ra G 1), .int (nI q0), .int (nI e)] (wd I L R) (pV (.ref (ra G (1000 + sgOf f q0 e))) (wd I L R)) := by
  refine mt_of (own := RX9) (by decide) rfl rfl (fun Z C P B => ?_)
  have D := @dc_of _ _ dX9_signOf
  have L1 : ∀ m s, s + m = 42 → sgS f q0 e m s = sgOf f q0 e → J Z (0, 0) 3 [some (.ref (ra G 5)), some (.ref (ra G 1)), some (.int (nI q0)), some (.int (nI e)), some (.int (nI s))] [] (wd I L R) := by
    intro m
    induction m with
    | zero =>
      intro s hm he2
      have hs : s = 42 := by omega
      subst hs
      refine j_iload C (D 2 rfl) rfl ?_
      refine j_aload_n C (D 3 rfl) rfl ?_
      refine j_getr C f_X9_28 (lit (kd := 9) (n := 5) rfl) rfl rfl (hL _ _ _ rfl) (D 4 rfl) ?_
      refine j_alen C (kd := 4) (lit (kd := 24) (n := 42) rfl) rfl (D 5 rfl) ?_
      refine j_icmp_ge C  43 (D 6 rfl) (by decide) (fun h10 => ?_) (fun h10 => absurd h10 (fun z => z ((nle (by omega) (by omega)).mpr (by omega))))
      refine j_gsgn C (i := 40) (by decide) s_X9_78 (D 23 rfl) ?_
      exact j_aret C P rfl (Or.inl ⟨_, rfl⟩) (D 24 rfl) ⟨Nat.le_refl _, Nat.le_refl _⟩ ⟨by rw [← he2]; rfl, rfl⟩
    | succ m ih =>
      intro s hm he2
      have hs : s < 42 := by omega
      refine j_iload C (D 2 rfl) rfl ?_
      refine j_aload_n C (D 3 rfl) rfl ?_
      refine j_getr C f_X9_28 (lit (kd := 9) (n := 5) rfl) rfl rfl (hL _ _ _ rfl) (D 4 rfl) ?_
      refine j_alen C (kd := 4) (lit (kd := 24) (n := 42) rfl) rfl (D 5 rfl) ?_
      refine j_icmp_ge C  43 (D 6 rfl) (by decide) (fun h10 => absurd h10 (fun z => by rw [nle (by omega) (by omega)] at z; omega)) (fun h10 => ?_)
      refine j_aload_n C (D 7 rfl) rfl ?_
      refine j_getr C f_X9_28 (lit (kd := 9) (n := 5) rfl) rfl rfl (hL _ _ _ rfl) (D 8 rfl) ?_
      refine j_iload C (D 9 rfl) rfl ?_
      refine j_aald C (kd := 0) (lit (kd := 24) (n := 42) rfl) rfl (ix_n (by omega) (by decide)) (hL _ _ _ (rfx9 s hs)) (D 10 rfl) ?_
      refine j_aload_n C (D 11 rfl) rfl ?_
      refine j_iload_n C (D 12 rfl) rfl ?_
      refine j_iload_n C (D 13 rfl) rfl ?_
      refine j_cVp C B k_X9_74 (rc_sgn C hs) (c_isSpelled _ _ hL f n hn hf hs q0 e he hen) rfl rfl rfl rfl ⟨Nat.le_refl _, Nat.le_refl _⟩ (D 14 rfl) ?_
      refine j_if_eq C  37 (D 15 rfl) (by decide) (fun h26 => ?_) (fun h26 => ?_)
      · first | refine j_iinc1 C (D 21 rfl) rfl rfl ?_ | refine j_iinc C (D 21 rfl) rfl rfl rfl ?_
        refine j_goto C 3 (D 22 rfl) (by decide) ?_
        exact ih (s + 1) (by omega) (by rw [← he2, sgS, if_neg (b2_eq h26)])
      · refine j_aload_n C (D 16 rfl) rfl ?_
        refine j_getr C f_X9_28 (lit (kd := 9) (n := 5) rfl) rfl rfl (hL _ _ _ rfl) (D 17 rfl) ?_
        refine j_iload C (D 18 rfl) rfl ?_
        refine j_aald C (kd := 0) (lit (kd := 24) (n := 42) rfl) rfl (ix_n (by omega) (by decide)) (hL _ _ _ (rfx9 s hs)) (D 19 rfl) ?_
        exact j_aret C P rfl (Or.inl ⟨_, rfl⟩) (D 20 rfl) ⟨Nat.le_refl _, Nat.le_refl _⟩ ⟨by rw [← he2, sgS, if_pos (b2_ne h26)], rfl⟩
  refine j_iconst C (v := nI 0) (D 0 rfl) rfl ?_
  refine j_istore C (D 1 rfl) rfl ?_
  exact L1 42 0 rfl rfl
