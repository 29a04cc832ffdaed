theorem upR_s (I : Nat → Nat → Int32) (a : Nat) (f : Nat → Int32) (j : Nat) : upR I a f a j = f j := by unfold upR; rw [if_pos rfl]
theorem upR_n {I : Nat → Nat → Int32} {a b : Nat} {f : Nat → Int32} {j : Nat} (h : ¬ b = a) : upR I a f b j = I b j := by unfold upR; rw [if_neg h]
theorem cpy_9 {f : Nat → Int32} {i : Nat} (h : i < 9) : va_cpy f f 1 0 9 i = f (i + 1) := by
  unfold va_cpy; rw [if_pos ⟨by omega, by omega⟩, Nat.sub_zero, Nat.add_comm]
def sft (n i : Nat) : Nat := if n = 10 then i + 1 else i
def cut (n : Nat) : Nat := if n = 10 then 9 else n
theorem cut_le {n : Nat} (h : n ≤ 10) : cut n ≤ 9 := by unfold cut; by_cases c : n = 10 <;> simp [c] <;> omega
set_option maxRecDepth 20000 in
theorem c_forget (l : Launch) (G : GT) {I : Nat → Nat → Int32} {L : Nat → Nat → Int64} {R : Nat → Nat → Option Nat} (hL : Lay R) : Mt l G mX2_forgetOldest (1) 0 0 [.ref (ra G 50)] (wd I L R) (fun r w' => r = none ∧ ∃ I', w' = wd I' L R ∧ I' 50 4 = nI 9 ∧ (∀ t i, 51 ≤ t → t ≤ 54 → i < 9 → I' t i = I t (i + 1)) ∧ (∀ b j, ¬ (50 ≤ b ∧ b ≤ 54) → I' b j = I b j)) := by
  refine mt_of (own := RX2) (by decide) rfl rfl (fun Z C P B => ?_)
  have D := @dc_of _ _ dX2_forgetOldest
  refine j_aload_n C (D 0 rfl) rfl ?_
  refine j_bipush C (v := nI 9) (D 1 rfl) rfl ?_
  refine j_puti C f_X2_24 (lit (kd := 2) (n := 5) rfl) rfl rfl (D 2 rfl) ?_
  refine j_aload_n C (D 3 rfl) rfl ?_
  refine j_getr C f_X2_9 (lit (kd := 2) (n := 5) rfl) rfl rfl (hL _ _ _ rfl) (D 4 rfl) ?_
  refine j_iconst C (v := nI 1) (D 5 rfl) rfl ?_
  refine j_aload_n C (D 6 rfl) rfl ?_
  refine j_getr C f_X2_9 (lit (kd := 2) (n := 5) rfl) rfl rfl (hL _ _ _ rfl) (D 7 rfl) ?_
  refine j_iconst C (v := nI 0) (D 8 rfl) rfl ?_
  refine j_aload_n C (D 9 rfl) rfl ?_
  refine j_geti C f_X2_24 (lit (kd := 2) (n := 5) rfl) rfl rfl (D 10 rfl) ?_
  rw [up2_same]
  refine j_acopy C B la_X2_31 (a := 51) (n := 10) (sp := 1) (dp := 0) (k := 9) (lit (kd := 20) (n := 10) rfl) (by decide) (by decide) (by decide) (Nat.le_refl _) rfl ⟨Nat.le_refl _, Nat.le_refl _⟩ (D 11 rfl) ?_
  refine j_aload_n C (D 12 rfl) rfl ?_
  refine j_getr C f_X2_15 (lit (kd := 2) (n := 5) rfl) rfl rfl (hL _ _ _ rfl) (D 13 rfl) ?_
  refine j_iconst C (v := nI 1) (D 14 rfl) rfl ?_
  refine j_aload_n C (D 15 rfl) rfl ?_
  refine j_getr C f_X2_15 (lit (kd := 2) (n := 5) rfl) rfl rfl (hL _ _ _ rfl) (D 16 rfl) ?_
  refine j_iconst C (v := nI 0) (D 17 rfl) rfl ?_
  refine j_aload_n C (D 18 rfl) rfl ?_
  refine j_geti C f_X2_24 (lit (kd := 2) (n := 5) rfl) rfl rfl (D 19 rfl) ?_
  rw [upR_n (by decide), up2_same]
  refine j_acopy C B la_X2_31 (a := 52) (n := 10) (sp := 1) (dp := 0) (k := 9) (lit (kd := 20) (n := 10) rfl) (by decide) (by decide) (by decide) (Nat.le_refl _) rfl ⟨Nat.le_refl _, Nat.le_refl _⟩ (D 20 rfl) ?_
  refine j_aload_n C (D 21 rfl) rfl ?_
  refine j_getr C f_X2_18 (lit (kd := 2) (n := 5) rfl) rfl rfl (hL _ _ _ rfl) (D 22 rfl) ?_
  refine j_iconst C (v := nI 1) (D 23 rfl) rfl ?_
  refine j_aload_n C (D 24 rfl) rfl ?_
  refine j_getr C f_X2_18 (lit (kd := 2) (n := 5) rfl) rfl rfl (hL _ _ _ rfl) (D 25 rfl) ?_
  refine j_iconst C (v := nI 0) (D 26 rfl) rfl ?_
  refine j_aload_n C (D 27 rfl) rfl ?_
  refine j_geti C f_X2_24 (lit (kd := 2) (n := 5) rfl) rfl rfl (D 28 rfl) ?_
  rw [upR_n (by decide), upR_n (by decide), up2_same]
  refine j_acopy C B la_X2_31 (a := 53) (n := 10) (sp := 1) (dp := 0) (k := 9) (lit (kd := 20) (n := 10) rfl) (by decide) (by decide) (by decide) (Nat.le_refl _) rfl ⟨Nat.le_refl _, Nat.le_refl _⟩ (D 29 rfl) ?_
  refine j_aload_n C (D 30 rfl) rfl ?_
  refine j_getr C f_X2_21 (lit (kd := 2) (n := 5) rfl) rfl rfl (hL _ _ _ rfl) (D 31 rfl) ?_
  refine j_iconst C (v := nI 1) (D 32 rfl) rfl ?_
  refine j_aload_n C (D 33 rfl) rfl ?_
  refine j_getr C f_X2_21 (lit (kd := 2) (n := 5) rfl) rfl rfl (hL _ _ _ rfl) (D 34 rfl) ?_
  refine j_iconst C (v := nI 0) (D 35 rfl) rfl ?_
  refine j_aload_n C (D 36 rfl) rfl ?_
  refine j_geti C f_X2_24 (lit (kd := 2) (n := 5) rfl) rfl rfl (D 37 rfl) ?_
  rw [upR_n (by decide), upR_n (by decide), upR_n (by decide), up2_same]
  refine j_acopy C B la_X2_31 (a := 54) (n := 10) (sp := 1) (dp := 0) (k := 9) (lit (kd := 20) (n := 10) rfl) (by decide) (by decide) (by decide) (Nat.le_refl _) rfl ⟨Nat.le_refl _, Nat.le_refl _⟩ (D 38 rfl) ?_
  exact j_vret C P rfl (D 39 rfl) ⟨Nat.le_refl _, Nat.le_refl _⟩ ⟨rfl, _, rfl, by rw [upR_n (by decide), upR_n (by decide), upR_n (by decide), upR_n (by decide), up2_same], fun t i h1 h2 hi => by
    rcases (show t = 51 ∨ t = 52 ∨ t = 53 ∨ t = 54 by omega) with rfl | rfl | rfl | rfl
    · rw [upR_n (by decide), upR_n (by decide), upR_n (by decide), upR_s, cpy_9 hi, up2_i (by omega)]
    · rw [upR_n (by decide), upR_n (by decide), upR_s, cpy_9 hi, upR_n (by decide), up2_i (by omega)]
    · rw [upR_n (by decide), upR_s, cpy_9 hi, upR_n (by decide), upR_n (by decide), up2_i (by omega)]
    · rw [upR_s, cpy_9 hi, upR_n (by decide), upR_n (by decide), upR_n (by decide), up2_i (by omega)], fun b j h => by rw [upR_n (by omega), upR_n (by omega), upR_n (by omega), upR_n (by omega), up2_i (by omega)]⟩
set_option maxRecDepth 20000 in
theorem c_note (l : Launch) (G : GT) {I : Nat → Nat → Int32} {L : Nat → Nat → Int64} {R : Nat → Nat → Option Nat} (hL : Lay R) (n : Nat) (hn : n ≤ 10) (hI : I 50 4 = nI n) (x1 x2 x3 x4 : Int32) : Mt l G mX2_note (2) 0 0 [.ref (ra G 50), .int x1, .int x2, .int x3, .int x4] (wd I L R) (fun r w' => r = none ∧ ∃ I', w' = wd I' L R ∧ I' 50 4 = nI (cut n + 1) ∧ (∀ t i, 51 ≤ t → t ≤ 54 → i < cut n → I' t i = I t (sft n i)) ∧ (I' 51 (cut n) = x1 ∧ I' 52 (cut n) = x2 ∧ I' 53 (cut n) = x3 ∧ I' 54 (cut n) = x4) ∧ (∀ b j, ¬ (50 ≤ b ∧ b ≤ 54) → I' b j = I b j)) := by
  refine mt_of (own := RX2) (by decide) rfl rfl (fun Z C P B => ?_)
  have D := @dc_of _ _ dX2_note
  have L13 : ∀ I1 : Nat → Nat → Int32, I1 50 4 = nI (cut n) → (∀ t i, 51 ≤ t → t ≤ 54 → i < cut n → I1 t i = I t (sft n i)) → (∀ b j, ¬ (50 ≤ b ∧ b ≤ 54) → I1 b j = I b j) → J Z (0, 0) 13 [some (.ref (ra G 50)), some (.int x1), some (.int x2), some (.int x3), some (.int x4)] [] (wd I1 L R) := by
    intro I1 h0 h1 h2
    have hc := cut_le hn
    refine j_aload_n C (D 6 rfl) rfl ?_
    refine j_getr C f_X2_9 (lit (kd := 2) (n := 5) rfl) rfl rfl (hL _ _ _ rfl) (D 7 rfl) ?_
    refine j_aload_n C (D 8 rfl) rfl ?_
    refine j_geti C f_X2_24 (lit (kd := 2) (n := 5) rfl) rfl rfl (D 9 rfl) ?_
    refine j_iload_n C (D 10 rfl) rfl ?_
    rw [h0]
    refine j_iast C (lit (kd := 20) (n := 10) rfl) (ix_n (by omega) (by decide)) (D 11 rfl) ?_
    refine j_aload_n C (D 12 rfl) rfl ?_
    refine j_getr C f_X2_15 (lit (kd := 2) (n := 5) rfl) rfl rfl (hL _ _ _ rfl) (D 13 rfl) ?_
    refine j_aload_n C (D 14 rfl) rfl ?_
    refine j_geti C f_X2_24 (lit (kd := 2) (n := 5) rfl) rfl rfl (D 15 rfl) ?_
    rw [up2_i (show ¬ ((50 : Nat) = 51 ∧ 4 = cut n) by omega), h0]
    refine j_iload_n C (D 16 rfl) rfl ?_
    refine j_iast C (lit (kd := 20) (n := 10) rfl) (ix_n (by omega) (by decide)) (D 17 rfl) ?_
    refine j_aload_n C (D 18 rfl) rfl ?_
    refine j_getr C f_X2_18 (lit (kd := 2) (n := 5) rfl) rfl rfl (hL _ _ _ rfl) (D 19 rfl) ?_
    refine j_aload_n C (D 20 rfl) rfl ?_
    refine j_geti C f_X2_24 (lit (kd := 2) (n := 5) rfl) rfl rfl (D 21 rfl) ?_
    rw [up2_i (show ¬ ((50 : Nat) = 52 ∧ 4 = cut n) by omega), up2_i (show ¬ ((50 : Nat) = 51 ∧ 4 = cut n) by omega), h0]
    refine j_iload_n C (D 22 rfl) rfl ?_
    refine j_iast C (lit (kd := 20) (n := 10) rfl) (ix_n (by omega) (by decide)) (D 23 rfl) ?_
    refine j_aload_n C (D 24 rfl) rfl ?_
    refine j_getr C f_X2_21 (lit (kd := 2) (n := 5) rfl) rfl rfl (hL _ _ _ rfl) (D 25 rfl) ?_
    refine j_aload_n C (D 26 rfl) rfl ?_
    refine j_geti C f_X2_24 (lit (kd := 2) (n := 5) rfl) rfl rfl (D 27 rfl) ?_
    rw [up2_i (show ¬ ((50 : Nat) = 53 ∧ 4 = cut n) by omega), up2_i (show ¬ ((50 : Nat) = 52 ∧ 4 = cut n) by omega), up2_i (show ¬ ((50 : Nat) = 51 ∧ 4 = cut n) by omega), h0]
    refine j_iload C (D 28 rfl) rfl ?_
    refine j_iast C (lit (kd := 20) (n := 10) rfl) (ix_n (by omega) (by decide)) (D 29 rfl) ?_
    refine j_aload_n C (D 30 rfl) rfl ?_
    refine j_dup C (D 31 rfl) rfl ?_
    refine j_geti C f_X2_24 (lit (kd := 2) (n := 5) rfl) rfl rfl (D 32 rfl) ?_
    rw [up2_i (show ¬ ((50 : Nat) = 54 ∧ 4 = cut n) by omega), up2_i (show ¬ ((50 : Nat) = 53 ∧ 4 = cut n) by omega), up2_i (show ¬ ((50 : Nat) = 52 ∧ 4 = cut n) by omega), up2_i (show ¬ ((50 : Nat) = 51 ∧ 4 = cut n) by omega), h0]
    refine j_iconst C (v := nI 1) (D 33 rfl) rfl ?_
    refine j_iadd C (D 34 rfl) ?_
    rw [nI_add]
    refine j_puti C f_X2_24 (lit (kd := 2) (n := 5) rfl) rfl rfl (D 35 rfl) ?_
    exact j_vret C P rfl (D 36 rfl) ⟨Nat.le_refl _, Nat.le_refl _⟩ ⟨rfl, _, rfl, by rw [up2_same], fun t i q1 q2 q3 => by rw [up2_i (by omega), up2_i (by omega), up2_i (by omega), up2_i (by omega), up2_i (by omega)]; exact h1 t i q1 q2 q3, ⟨by rw [up2_i (by omega), up2_i (by omega), up2_i (by omega), up2_i (by omega), up2_same], by rw [up2_i (by omega), up2_i (by omega), up2_i (by omega), up2_same], by rw [up2_i (by omega), up2_i (by omega), up2_same], by rw [up2_i (by omega), up2_same]⟩, fun b j q => by rw [up2_i (by omega), up2_i (by omega), up2_i (by omega), up2_i (by omega), up2_i (by omega)]; exact h2 b j q⟩
  refine j_aload_n C (D 0 rfl) rfl ?_
  refine j_geti C f_X2_24 (lit (kd := 2) (n := 5) rfl) rfl rfl (D 1 rfl) ?_
  refine j_bipush C (v := nI 10) (D 2 rfl) rfl ?_
  rw [hI]
  refine j_icmp_lt C  13 (D 3 rfl) (by decide) (fun h6 => ?_) (fun h6 => ?_)
  · have hn10 : ¬ n = 10 := by rw [nlt (by omega) (by omega)] at h6; omega
    have e1 : cut n = n := by unfold cut; rw [if_neg hn10]
    have e2 : ∀ i, sft n i = i := fun i => by unfold sft; rw [if_neg hn10]
    exact L13 I (by rw [e1]; exact hI) (fun t i _ _ _ => by rw [e2]) (fun _ _ _ => rfl)
  · refine j_aload_n C (D 4 rfl) rfl ?_
    refine j_callV C B k_X2_28 (rc_obj C (lit (kd := 2) (n := 5) rfl) rfl rfl) (c_forget _ _ hL) rfl rfl rfl rfl ⟨Nat.le_refl _, Nat.le_refl _⟩ (D 5 rfl) ?_
    rintro r w' ⟨rfl, I2, rfl, q1, q2, q3⟩
    have hn10 : n = 10 := by rw [nlt (by omega) (by omega)] at h6; omega
    have e1 : cut n = 9 := by unfold cut; rw [if_pos hn10]
    have e2 : ∀ i, sft n i = i + 1 := fun i => by unfold sft; rw [if_pos hn10]
    exact L13 I2 (by rw [e1]; exact q1) (fun t i h1 h2 h3 => by rw [e2]; exact q2 t i h1 h2 (by omega)) q3
