/-! SCORE -/
def u4 (I : Nat → Nat → Int32) (o : Nat) (s d m f : Int32) : Nat → Nat → Int32 := up2 (up2 (up2 (up2 I o 3 s) o 4 d) o 5 m) o 6 f
theorem u4_3 {I : Nat → Nat → Int32} {o : Nat} {s d m f x : Int32} : up2 (u4 I o s d m f) o 3 x = u4 I o x d m f := by
  funext b j
  by_cases hb : b = o
  · subst hb
    by_cases h3 : j = 3
    · subst h3; simp [u4, up2]
    · simp [u4, up2, h3]
  · simp [u4, up2, hb]
theorem u4_4 {I : Nat → Nat → Int32} {o : Nat} {s d m f x : Int32} : up2 (u4 I o s d m f) o 4 x = u4 I o s x m f := by
  funext b j
  by_cases hb : b = o
  · subst hb
    by_cases h3 : j = 4
    · subst h3; simp [u4, up2]
    · simp [u4, up2, h3]
  · simp [u4, up2, hb]
theorem u4_5 {I : Nat → Nat → Int32} {o : Nat} {s d m f x : Int32} : up2 (u4 I o s d m f) o 5 x = u4 I o s d x f := by
  funext b j
  by_cases hb : b = o
  · subst hb
    by_cases h3 : j = 5
    · subst h3; simp [u4, up2]
    · simp [u4, up2, h3]
  · simp [u4, up2, hb]
theorem u4_6 {I : Nat → Nat → Int32} {o : Nat} {s d m f x : Int32} : up2 (u4 I o s d m f) o 6 x = u4 I o s d m x := by
  funext b j
  by_cases hb : b = o
  · subst hb
    by_cases h3 : j = 6
    · subst h3; simp [u4, up2]
    · simp [u4, up2, h3]
  · simp [u4, up2, hb]
theorem g4_3 {I : Nat → Nat → Int32} {o : Nat} {s d m f : Int32} : u4 I o s d m f o 3 = s := by simp [u4, up2]
theorem g4_4 {I : Nat → Nat → Int32} {o : Nat} {s d m f : Int32} : u4 I o s d m f o 4 = d := by simp [u4, up2]
theorem g4_5 {I : Nat → Nat → Int32} {o : Nat} {s d m f : Int32} : u4 I o s d m f o 5 = m := by simp [u4, up2]
theorem g4_6 {I : Nat → Nat → Int32} {o : Nat} {s d m f : Int32} : u4 I o s d m f o 6 = f := by simp [u4, up2]
theorem g4_2 {I : Nat → Nat → Int32} {o : Nat} {s d m f : Int32} : u4 I o s d m f o 2 = I o 2 := by simp [u4, up2]
theorem g4_b {I : Nat → Nat → Int32} {o b j : Nat} {s d m f : Int32} (h : b ≠ o) : u4 I o s d m f b j = I b j := by simp [u4, up2, h]
theorem g4_j {I : Nat → Nat → Int32} {o b j : Nat} {s d m f : Int32} (h : ¬ (b = o ∧ 3 ≤ j ∧ j ≤ 6)) : u4 I o s d m f b j = I b j := by
  by_cases hb : b = o
  · subst hb
    simp [u4, up2, show ¬ j = 3 by omega, show ¬ j = 4 by omega, show ¬ j = 5 by omega, show ¬ j = 6 by omega]
  · exact g4_b hb
/-- the points and marks of a Score -/
def SC (I : Nat → Nat → Int32) (o : Nat) (p : Nat → Int32) (g : Nat → Bool) (n : Nat) : Prop := I o 2 = nI n ∧ ∀ e, e < n → I (o + 1) e = p e ∧ I (o + 2) e = b2 (g e = true)
/-- what is reckoned of them -/
def SK (I : Nat → Nat → Int32) (o : Nat) (p : Nat → Int32) (g : Nat → Bool) (n : Nat) : Prop := I o 3 = sumN p n ∧ I o 4 = nI (cnt g n) ∧ I o 5 = bestN p g n ∧ I o 6 = leastN p g n
def pz (p : Nat → Int32) (g : Nat → Bool) (n : Nat) : Prop := ∀ e, e < n → (0 ≤ (p e).toInt ∧ (p e).toInt ≤ 2000) ∧ (g e = false → p e = 0)
def FrR (o : Nat) (I I' : Nat → Nat → Int32) : Prop := ∀ b j, ¬ (b = o ∧ 3 ≤ j ∧ j ≤ 6) → I' b j = I b j
theorem sum_t {p : Nat → Int32} {n : Nat} : sumN p n + p n = sumN p (n + 1) := rfl
theorem sum_f {p : Nat → Int32} {n : Nat} (h : p n = 0) : sumN p n = sumN p (n + 1) := by rw [sumN, h, Int32.add_zero]
theorem best_t {p : Nat → Int32} {g : Nat → Bool} {n : Nat} (h : g n = true) : (if bestN p g n < p n then p n else bestN p g n) = bestN p g (n + 1) := by rw [bestN, if_pos h]
theorem best_f {p : Nat → Int32} {g : Nat → Bool} {n : Nat} (h : ¬ g n = true) : bestN p g n = bestN p g (n + 1) := by rw [bestN, if_neg h]
theorem least_0 {p : Nat → Int32} {g : Nat → Bool} {n : Nat} (h : g n = true) (hc : cnt g n = 0) : p n = leastN p g (n + 1) := by rw [leastN, if_pos h, if_pos hc]
theorem least_t {p : Nat → Int32} {g : Nat → Bool} {n : Nat} (h : g n = true) (hc : ¬ cnt g n = 0) : (if p n < leastN p g n then p n else leastN p g n) = leastN p g (n + 1) := by rw [leastN, if_pos h, if_neg hc]
theorem least_f {p : Nat → Int32} {g : Nat → Bool} {n : Nat} (h : ¬ g n = true) : leastN p g n = leastN p g (n + 1) := by rw [leastN, if_neg h]
set_option maxRecDepth 20000 in
theorem c_reckon (l : Launch) (G : GT) {o : Nat} (ho : isS o) {I : Nat → Nat → Int32} {L : Nat → Nat → Int64} {R : Nat → Nat → Option Nat} (hL : Lay R) {p : Nat → Int32} {g : Nat → Bool} {n : Nat} (hn : n ≤ 10) (hp : pz p g n) (hS : SC I o p g n) : Mt l G mX5_reckon (1) 0 0 [.ref (ra G o)] (wd I L R) (fun r w' => r = none ∧ ∃ I', w' = wd I' L R ∧ FrR o I I' ∧ SK I' o p g n) := by
  refine mt_of (own := RX5) (by decide) rfl rfl (fun Z C P B => ?_)
  have D := @dc_of _ _ dX5_reckon
  have hcl : ∀ k, cnt g k ≤ k := cnt_le g
  have Lp : ∀ (m k : Nat), k + m = n → J Z (0, 0) 22 [some (.ref (ra G o)), some (.int (nI k))] [] (wd (u4 I o (sumN p k) (nI (cnt g k)) (bestN p g k) (leastN p g k)) L R) := by
    intro m
    induction m with
    | zero =>
      intro k hk
      refine j_iload_n C (D 14 rfl) rfl ?_
      refine j_aload_n C (D 15 rfl) rfl ?_
      refine j_geti C f_X5_25 (sS0 ho) rfl rfl (D 16 rfl) ?_
      rw [g4_2, hS.1]
      refine j_icmp_ge C  120 (D 17 rfl) (by decide) (fun h27 => ?_) (fun h27 => absurd h27 (fun z => z ((nle (by omega) (by omega)).mpr (by omega))))
      exact j_vret C P rfl (D 66 rfl) ⟨Nat.le_refl _, Nat.le_refl _⟩ ⟨rfl, _, rfl, fun b j h => g4_j h, by rw [show n = k by omega]; exact ⟨g4_3, g4_4, g4_5, g4_6⟩⟩
    | succ m ih =>
      intro k hk
      have hck := hcl k
      refine j_iload_n C (D 14 rfl) rfl ?_
      refine j_aload_n C (D 15 rfl) rfl ?_
      refine j_geti C f_X5_25 (sS0 ho) rfl rfl (D 16 rfl) ?_
      rw [g4_2, hS.1]
      refine j_icmp_ge C  120 (D 17 rfl) (by decide) (fun h27 => absurd h27 (fun z => by rw [nle (by omega) (by omega)] at z; omega)) (fun h27 => ?_)
      refine j_aload_n C (D 18 rfl) rfl ?_
      refine j_getr C f_X5_15 (sS0 ho) rfl rfl (hL _ _ _ (rS1 ho)) (D 19 rfl) ?_
      refine j_iload_n C (D 20 rfl) rfl ?_
      refine j_zald C (sS2 ho) (ix_n (by omega) (by decide)) (D 21 rfl) ?_
      rw [g4_b (by omega), (hS.2 k (by omega)).2]
      refine j_if_eq C  114 (D 22 rfl) (by decide) (fun h36 => ?_) (fun h36 => ?_)
      · first | refine j_iinc1 C (D 64 rfl) rfl rfl ?_ | refine j_iinc C (D 64 rfl) rfl rfl rfl ?_
        refine j_goto C 22 (D 65 rfl) (by decide) ?_
        rw [sum_f (p := p) (n := k) ((hp k (by omega)).2 (Bool.eq_false_iff.mpr (b2_eq h36))), ← cnt_f (f := g) (n := k) (b2_eq h36), best_f (n := k) (b2_eq h36), least_f (n := k) (b2_eq h36)]
        exact ih (k + 1) (by omega)
      · refine j_aload_n C (D 23 rfl) rfl ?_
        refine j_dup C (D 24 rfl) rfl ?_
        refine j_geti C f_X5_43 (sS0 ho) rfl rfl (D 25 rfl) ?_
        rw [g4_3]
        refine j_aload_n C (D 26 rfl) rfl ?_
        refine j_getr C f_X5_9 (sS0 ho) rfl rfl (hL _ _ _ (rS0 ho)) (D 27 rfl) ?_
        refine j_iload_n C (D 28 rfl) rfl ?_
        refine j_iald C (sS1 ho) (ix_n (by omega) (by decide)) (D 29 rfl) ?_
        rw [g4_b (by omega), (hS.2 k (by omega)).1]
        refine j_iadd C (D 30 rfl) ?_
        rw [sum_t]
        refine j_puti C f_X5_43 (sS0 ho) rfl rfl (D 31 rfl) ?_
        rw [u4_3]
        refine j_aload_n C (D 32 rfl) rfl ?_
        refine j_aload_n C (D 33 rfl) rfl ?_
        refine j_geti C f_X5_49 (sS0 ho) rfl rfl (D 34 rfl) ?_
        rw [g4_5]
        refine j_aload_n C (D 35 rfl) rfl ?_
        refine j_getr C f_X5_9 (sS0 ho) rfl rfl (hL _ _ _ (rS0 ho)) (D 36 rfl) ?_
        refine j_iload_n C (D 37 rfl) rfl ?_
        refine j_iald C (sS1 ho) (ix_n (by omega) (by decide)) (D 38 rfl) ?_
        rw [g4_b (by omega), (hS.2 k (by omega)).1]
        refine j_mmax C B k_X5_55 rfl rfl ⟨Nat.le_refl _, Nat.le_refl _⟩ (D 39 rfl) ?_
        rw [best_t (b2_ne h36)]
        refine j_puti C f_X5_49 (sS0 ho) rfl rfl (D 40 rfl) ?_
        rw [u4_5]
        refine j_aload_n C (D 41 rfl) rfl ?_
        refine j_aload_n C (D 42 rfl) rfl ?_
        refine j_geti C f_X5_46 (sS0 ho) rfl rfl (D 43 rfl) ?_
        rw [g4_4]
        refine j_if_ne C  88 (D 44 rfl) (by decide) (fun h76 => ?_) (fun h76 => ?_)
        · refine j_aload_n C (D 50 rfl) rfl ?_
          refine j_geti C f_X5_52 (sS0 ho) rfl rfl (D 51 rfl) ?_
          rw [g4_6]
          refine j_aload_n C (D 52 rfl) rfl ?_
          refine j_getr C f_X5_9 (sS0 ho) rfl rfl (hL _ _ _ (rS0 ho)) (D 53 rfl) ?_
          refine j_iload_n C (D 54 rfl) rfl ?_
          refine j_iald C (sS1 ho) (ix_n (by omega) (by decide)) (D 55 rfl) ?_
          rw [g4_b (by omega), (hS.2 k (by omega)).1]
          refine j_mmin C B k_X5_60 rfl rfl ⟨Nat.le_refl _, Nat.le_refl _⟩ (D 56 rfl) ?_
          rw [least_t (b2_ne h36) (fun z => h76 (by rw [z]; rfl))]
          refine j_puti C f_X5_52 (sS0 ho) rfl rfl (D 57 rfl) ?_
          rw [u4_6]
          refine j_aload_n C (D 58 rfl) rfl ?_
          refine j_dup C (D 59 rfl) rfl ?_
          refine j_geti C f_X5_46 (sS0 ho) rfl rfl (D 60 rfl) ?_
          rw [g4_4]
          refine j_iconst C (v := nI 1) (D 61 rfl) rfl ?_
          refine j_iadd C (D 62 rfl) ?_
          rw [nI_add, ← cnt_t (f := g) (n := k) (b2_ne h36)]
          refine j_puti C f_X5_46 (sS0 ho) rfl rfl (D 63 rfl) ?_
          rw [u4_4]
          first | refine j_iinc1 C (D 64 rfl) rfl rfl ?_ | refine j_iinc C (D 64 rfl) rfl rfl rfl ?_
          refine j_goto C 22 (D 65 rfl) (by decide) ?_
          exact ih (k + 1) (by omega)
        · refine j_aload_n C (D 45 rfl) rfl ?_
          refine j_getr C f_X5_9 (sS0 ho) rfl rfl (hL _ _ _ (rS0 ho)) (D 46 rfl) ?_
          refine j_iload_n C (D 47 rfl) rfl ?_
          refine j_iald C (sS1 ho) (ix_n (by omega) (by decide)) (D 48 rfl) ?_
          rw [g4_b (by omega), (hS.2 k (by omega)).1, least_0 (p := p) (b2_ne h36) (nI_inj (by omega) (by decide) h76)]
          refine j_goto C 101 (D 49 rfl) (by decide) ?_
          refine j_puti C f_X5_52 (sS0 ho) rfl rfl (D 57 rfl) ?_
          rw [u4_6]
          refine j_aload_n C (D 58 rfl) rfl ?_
          refine j_dup C (D 59 rfl) rfl ?_
          refine j_geti C f_X5_46 (sS0 ho) rfl rfl (D 60 rfl) ?_
          rw [g4_4]
          refine j_iconst C (v := nI 1) (D 61 rfl) rfl ?_
          refine j_iadd C (D 62 rfl) ?_
          rw [nI_add, ← cnt_t (f := g) (n := k) (b2_ne h36)]
          refine j_puti C f_X5_46 (sS0 ho) rfl rfl (D 63 rfl) ?_
          rw [u4_4]
          first | refine j_iinc1 C (D 64 rfl) rfl rfl ?_ | refine j_iinc C (D 64 rfl) rfl rfl rfl ?_
          refine j_goto C 22 (D 65 rfl) (by decide) ?_
          exact ih (k + 1) (by omega)
  refine j_aload_n C (D 0 rfl) rfl ?_
  refine j_iconst C (v := nI 0) (D 1 rfl) rfl ?_
  refine j_puti C f_X5_43 (sS0 ho) rfl rfl (D 2 rfl) ?_
  refine j_aload_n C (D 3 rfl) rfl ?_
  refine j_iconst C (v := nI 0) (D 4 rfl) rfl ?_
  refine j_puti C f_X5_46 (sS0 ho) rfl rfl (D 5 rfl) ?_
  refine j_aload_n C (D 6 rfl) rfl ?_
  refine j_iconst C (v := nI 0) (D 7 rfl) rfl ?_
  refine j_puti C f_X5_49 (sS0 ho) rfl rfl (D 8 rfl) ?_
  refine j_aload_n C (D 9 rfl) rfl ?_
  refine j_iconst C (v := nI 0) (D 10 rfl) rfl ?_
  refine j_puti C f_X5_52 (sS0 ho) rfl rfl (D 11 rfl) ?_
  refine j_iconst C (v := nI 0) (D 12 rfl) rfl ?_
  refine j_istore_n C (D 13 rfl) rfl ?_
  exact Lp n 0 (by omega)
def FrQ (o : Nat) (I I' : Nat → Nat → Int32) : Prop := ∀ b j, ¬ (b = o ∧ 2 ≤ j ∧ j ≤ 6) → b ≠ o + 1 → b ≠ o + 2 → I' b j = I b j
theorem isS_rng {o : Nat} (h : isS o) : 95 ≤ o ∧ o + 2 ≤ 171 ∧ o ≠ 98 ∧ o ≠ 99 ∧ o ≠ 100 ∧ o + 1 ≠ 98 ∧ o + 1 ≠ 99 ∧ o + 1 ≠ 100 ∧ o + 2 ≠ 98 ∧ o + 2 ≠ 99 ∧ o + 2 ≠ 100 := by
  rcases h with rfl | ⟨a, ha, rfl⟩ <;> omega
theorem FrQ.S {o : Nat} {I I' : Nat → Nat → Int32} (ho : isS o) (h : FrQ o I I') : FrS I I' := fun b j hb => by
  have hr := isS_rng ho
  unfold scr at hb
  exact h b j (by omega) (by omega) (by omega)
theorem FrR.Q {o : Nat} {I I' : Nat → Nat → Int32} (h : FrR o I I') : FrQ o I I' := fun b j h1 h2 h3 => h b j (by omega)
theorem FrQ.tr {o : Nat} {I I' I'' : Nat → Nat → Int32} (h : FrQ o I I') (h' : FrQ o I' I'') : FrQ o I I'' := fun b j h1 h2 h3 => (h' b j h1 h2 h3).trans (h b j h1 h2 h3)
theorem SC_R {o : Nat} {I I' : Nat → Nat → Int32} {p : Nat → Int32} {g : Nat → Bool} {n : Nat} (h : FrR o I I') (hS : SC I o p g n) : SC I' o p g n :=
  ⟨by rw [h o 2 (by omega)]; exact hS.1, fun e he => by rw [h (o + 1) e (by omega), h (o + 2) e (by omega)]; exact hS.2 e he⟩
theorem up2_i {I : Nat → Nat → Int32} {a k : Nat} {v : Int32} {b j : Nat} (h : ¬ (b = a ∧ j = k)) : up2 I a k v b j = I b j := by
  by_cases hb : b = a
  · subst hb; exact up2_nj I v (fun q => h ⟨rfl, q⟩)
  · rw [up2_ne I v hb]
set_option maxRecDepth 20000 in
theorem c_put (l : Launch) (G : GT) {o : Nat} (ho : isS o) {I : Nat → Nat → Int32} {L : Nat → Nat → Int64} {R : Nat → Nat → Option Nat} (hL : Lay R) {p : Nat → Int32} {g : Nat → Bool} {n : Nat} (hn : n ≤ 10) (hp : pz p g n) (hS : SC I o p g n) (e : Nat) (v : Int32) (he : e < n) (hv : 0 ≤ v.toInt ∧ v.toInt ≤ 2000) : Mt l G mX5_put (2) 0 0 [.ref (ra G o), .int (nI e), .int v] (wd I L R) (fun r w' => r = none ∧ ∃ I', w' = wd I' L R ∧ FrQ o I I' ∧ SC I' o (va_up p e v) (va_up g e true) n ∧ SK I' o (va_up p e v) (va_up g e true) n) := by
  refine mt_of (own := RX5) (by decide) rfl rfl (fun Z C P B => ?_)
  have D := @dc_of _ _ dX5_put
  have hp' : pz (va_up p e v) (va_up g e true) n := fun j hj => by
    by_cases q : j = e
    · subst q; simp [va_up, hv]
    · simp only [va_up, if_neg q]; exact hp j hj
  have hS' : SC (up2 (up2 I (o + 1) e v) (o + 2) e (nI 1)) o (va_up p e v) (va_up g e true) n := by
    refine ⟨by rw [up2_i (by omega), up2_i (by omega)]; exact hS.1, fun j hj => ?_⟩
    by_cases q : j = e
    · subst q
      rw [up2_i (by omega), up2_same, up2_same]
      simp [va_up, b2, nI]
    · rw [up2_i (by omega), up2_i (by omega), up2_i (by omega), up2_i (by omega)]
      simp only [va_up, if_neg q]
      exact hS.2 j hj
  refine j_aload_n C (D 0 rfl) rfl ?_
  refine j_getr C f_X5_9 (sS0 ho) rfl rfl (hL _ _ _ (rS0 ho)) (D 1 rfl) ?_
  refine j_iload_n C (D 2 rfl) rfl ?_
  refine j_iload_n C (D 3 rfl) rfl ?_
  refine j_iast C (sS1 ho) (ix_n (by omega) (by decide)) (D 4 rfl) ?_
  refine j_aload_n C (D 5 rfl) rfl ?_
  refine j_getr C f_X5_15 (sS0 ho) rfl rfl (hL _ _ _ (rS1 ho)) (D 6 rfl) ?_
  refine j_iload_n C (D 7 rfl) rfl ?_
  refine j_iconst C (v := nI 1) (D 8 rfl) rfl ?_
  refine j_zast C (sS2 ho) (ix_n (by omega) (by decide)) isB_1 (D 9 rfl) ?_
  refine j_aload_n C (D 10 rfl) rfl ?_
  refine j_callV C B k_X5_40 (rc_obj C (sS0 ho) rfl rfl) (c_reckon _ _ ho hL hn hp' hS') rfl rfl rfl rfl ⟨Nat.le_refl _, Nat.le_refl _⟩ (D 11 rfl) ?_
  rintro r w' ⟨rfl, I2, rfl, hF, hK⟩
  exact j_vret C P rfl (D 12 rfl) ⟨Nat.le_refl _, Nat.le_refl _⟩ ⟨rfl, I2, rfl, fun b j h1 h2 h3 => by rw [hF b j (by omega), up2_i (by omega), up2_i (by omega)], SC_R hF hS', hK⟩
theorem envZ_0 {p : Nat → Int32} {g : Nat → Bool} {n : Nat} {v : Int32} : envZ p g n 0 v = v.toInt := by unfold envZ; rw [if_pos rfl]
theorem envZ_1 {p : Nat → Int32} {g : Nat → Bool} {n : Nat} {v : Int32} : envZ p g n 1 v = (p v.toInt.toNat).toInt := by unfold envZ; rw [if_neg (by omega), if_pos rfl]
theorem envZ_2 {p : Nat → Int32} {g : Nat → Bool} {n : Nat} {v : Int32} : envZ p g n 2 v = (sumN p n).toInt := by unfold envZ; rw [if_neg (by omega), if_neg (by omega), if_pos rfl]
theorem envZ_3 {p : Nat → Int32} {g : Nat → Bool} {n : Nat} {v : Int32} : envZ p g n 3 v = (cnt g n : Int) := by unfold envZ; rw [if_neg (by omega), if_neg (by omega), if_neg (by omega), if_pos rfl]
theorem envZ_4 {p : Nat → Int32} {g : Nat → Bool} {n : Nat} {v : Int32} : envZ p g n 4 v = (bestN p g n).toInt := by unfold envZ; rw [if_neg (by omega), if_neg (by omega), if_neg (by omega), if_neg (by omega), if_pos rfl]
theorem envZ_5 {p : Nat → Int32} {g : Nat → Bool} {n : Nat} {v : Int32} : envZ p g n 5 v = (leastN p g n).toInt := by unfold envZ; rw [if_neg (by omega), if_neg (by omega), if_neg (by omega), if_neg (by omega), if_neg (by omega)]
theorem envZ_rng {p : Nat → Int32} {g : Nat → Bool} {n : Nat} (hn : n ≤ 10) (hp : pz p g n) {op : Nat} (hop : op ≤ 5) {v : Int32} (hv : 0 ≤ v.toInt ∧ v.toInt ≤ 99999) (h1 : op = 1 → v.toInt < n) : 0 ≤ envZ p g n op v ∧ envZ p g n op v ≤ 99999 := by
  rcases (show op = 0 ∨ op = 1 ∨ op = 2 ∨ op = 3 ∨ op = 4 ∨ op = 5 by omega) with rfl | rfl | rfl | rfl | rfl | rfl
  · rw [envZ_0]; exact hv
  · rw [envZ_1]; have := (hp v.toInt.toNat (by have := h1 rfl; omega)).1; omega
  · rw [envZ_2]; have := sumN_rng (f := p) (M := 2000) (n := n) (by omega) (fun i hi => (hp i hi).1); omega
  · rw [envZ_3]; have := cnt_le g n; omega
  · rw [envZ_4]; have := bestN_rng (p := p) (g := g) (n := n) (fun i hi => (hp i hi).1); omega
  · rw [envZ_5]; have := leastN_rng (p := p) (g := g) (n := n) (fun i hi => (hp i hi).1); omega
set_option maxRecDepth 20000 in
theorem c_word (l : Launch) (G : GT) {o : Nat} (ho : isS o) {I : Nat → Nat → Int32} {L : Nat → Nat → Int64} {R : Nat → Nat → Option Nat} (hL : Lay R) {p : Nat → Int32} {g : Nat → Bool} {n : Nat} (hn : n ≤ 10) (hp : pz p g n) (hS : SC I o p g n) (hK : SK I o p g n) (op : Nat) (v : Int32) (hop : op ≤ 5) (hv : 0 ≤ v.toInt ∧ v.toInt ≤ 99999) (h1 : op = 1 → v.toInt < n) : Mt l G mX5_word (0) 0 0 [.ref (ra G o), .int (nI op), .int v] (wd I L R) (pV (.int (Int32.ofInt (envZ p g n op v))) (wd I L R)) := by
  refine mt_of (own := RX5) (by decide) rfl rfl (fun Z C P B => ?_)
  have D := @dc_of _ _ dX5_word
  refine j_iload_n C (D 0 rfl) rfl ?_
  rcases (show op = 0 ∨ op = 1 ∨ op = 2 ∨ op = 3 ∨ op = 4 ∨ op = 5 by omega) with rfl | rfl | rfl | rfl | rfl | rfl
  · refine j_tableOut C 75 (D 1 rfl) (by decide) (by decide) ?_
    refine j_iload_n C (D 25 rfl) rfl ?_
    exact j_iret C P rfl (D 26 rfl) ⟨Nat.le_refl _, Nat.le_refl _⟩ (pv_i (eq_ofI envZ_0.symm))
  · refine j_tableIn C 36 (D 1 rfl) (by decide) (by decide) rfl (by decide) ?_
    refine j_iload_n C (D 2 rfl) rfl ?_
    refine j_aload_n C (D 3 rfl) rfl ?_
    refine j_geti C f_X5_25 (sS0 ho) rfl rfl (D 4 rfl) ?_
    rw [hS.1]
    obtain ⟨k, hk1, rfl, hk2⟩ := i_nat (a := v) hv.1
    have hkn : k < n := by have := h1 rfl; omega
    refine j_icmp_ge C  53 (D 5 rfl) (by decide) (fun h41 => absurd h41 (fun z => by rw [nle (by omega) (by omega)] at z; omega)) (fun h41 => ?_)
    refine j_aload_n C (D 6 rfl) rfl ?_
    refine j_getr C f_X5_9 (sS0 ho) rfl rfl (hL _ _ _ (rS0 ho)) (D 7 rfl) ?_
    refine j_iload_n C (D 8 rfl) rfl ?_
    refine j_iald C (sS1 ho) (ix_n (by omega) (by decide)) (D 9 rfl) ?_
    rw [(hS.2 k hkn).1]
    refine j_goto C 54 (D 10 rfl) (by decide) ?_
    exact j_iret C P rfl (D 12 rfl) ⟨Nat.le_refl _, Nat.le_refl _⟩ (pv_i (eq_ofI (by rw [envZ_1, hk2]; rfl)))
  · refine j_tableIn C 55 (D 1 rfl) (by decide) (by decide) rfl (by decide) ?_
    refine j_aload_n C (D 13 rfl) rfl ?_
    refine j_geti C f_X5_43 (sS0 ho) rfl rfl (D 14 rfl) ?_
    rw [hK.1]
    exact j_iret C P rfl (D 15 rfl) ⟨Nat.le_refl _, Nat.le_refl _⟩ (pv_i (eq_ofI envZ_2.symm))
  · refine j_tableIn C 60 (D 1 rfl) (by decide) (by decide) rfl (by decide) ?_
    refine j_aload_n C (D 16 rfl) rfl ?_
    refine j_geti C f_X5_46 (sS0 ho) rfl rfl (D 17 rfl) ?_
    rw [hK.2.1]
    exact j_iret C P rfl (D 18 rfl) ⟨Nat.le_refl _, Nat.le_refl _⟩ (pv_i (eq_ofI (by rw [envZ_3, nI_int (by have := cnt_le g n; omega)])))
  · refine j_tableIn C 65 (D 1 rfl) (by decide) (by decide) rfl (by decide) ?_
    refine j_aload_n C (D 19 rfl) rfl ?_
    refine j_geti C f_X5_49 (sS0 ho) rfl rfl (D 20 rfl) ?_
    rw [hK.2.2.1]
    exact j_iret C P rfl (D 21 rfl) ⟨Nat.le_refl _, Nat.le_refl _⟩ (pv_i (eq_ofI envZ_4.symm))
  · refine j_tableIn C 70 (D 1 rfl) (by decide) (by decide) rfl (by decide) ?_
    refine j_aload_n C (D 22 rfl) rfl ?_
    refine j_geti C f_X5_52 (sS0 ho) rfl rfl (D 23 rfl) ?_
    rw [hK.2.2.2]
    exact j_iret C P rfl (D 24 rfl) ⟨Nat.le_refl _, Nat.le_refl _⟩ (pv_i (eq_ofI envZ_5.symm))
set_option maxRecDepth 20000 in
theorem c_read (l : Launch) (G : GT) {o : Nat} (ho : isS o) {c : Nat} (hc : isC c) {I : Nat → Nat → Int32} {L : Nat → Nat → Int64} {R : Nat → Nat → Option Nat} (hL : Lay R) {V : VT} (hV : WV V) (hT : CT I c V) (ma a : Nat) (mk : Nat → Int32) (hma : ma < NN ∧ SH ma = (20, 80)) (hmo : ma ≠ o ∧ ma ≠ o + 1 ∧ ma ≠ o + 2) (ha8 : a < 8) (hmk : ∀ e, e < vE V → I ma (a * 10 + e) = mk e ∧ okM (mk e)) : Mt l G mX5_read (3) 0 0 [.ref (ra G o), .ref (ra G c), .ref (ra G ma), .int (nI a)] (wd I L R) (fun r w' => r = none ∧ ∃ I', w' = wd I' L R ∧ FrQ o I I' ∧ SC I' o (fun j => pts (vev V j) (mk j)) (fun j => !decide (mk j = -1)) (vE V) ∧ SK I' o (fun j => pts (vev V j) (mk j)) (fun j => !decide (mk j = -1)) (vE V)) := by
  refine mt_of (own := RX5) (by decide) rfl rfl (fun Z C P B => ?_)
  have D := @dc_of _ _ dX5_read
  have hE10 := hV.1
  have hpz : pz (fun j => pts (vev V j) (mk j)) (fun j => !decide (mk j = -1)) (vE V) := fun j hj => ⟨pts_rng (hV.2.2.2.2.1 j hj) _, fun q => by
    have q2 : mk j = -1 := by simpa using q
    show pts (vev V j) (mk j) = 0
    rw [pts, ptsZ, if_pos q2]; decide⟩
  have Lp : ∀ (m k : Nat) (x5 : Option Value) (I1 : Nat → Nat → Int32), k + m = vE V → FrQ o I I1 → I1 o 2 = nI (vE V) → (∀ j, j < k → I1 (o + 1) j = pts (vev V j) (mk j) ∧ I1 (o + 2) j = b2 ((!decide (mk j = -1)) = true)) → J Z (0, 0) 11 [some (.ref (ra G o)), some (.ref (ra G c)), some (.ref (ra G ma)), some (.int (nI a)), some (.int (nI k)), x5] [] (wd I1 L R) := by
    intro m
    induction m with
    | zero =>
      intro k x5 I1 hk hF h2 hc2
      refine j_iload C (D 6 rfl) rfl ?_
      refine j_aload_n C (D 7 rfl) rfl ?_
      refine j_geti C f_X5_25 (sS0 ho) rfl rfl (D 8 rfl) ?_
      rw [h2]
      refine j_icmp_ge C  73 (D 9 rfl) (by decide) (fun h17 => ?_) (fun h17 => absurd h17 (fun z => z ((nle (by omega) (by omega)).mpr (by omega))))
      refine j_aload_n C (D 38 rfl) rfl ?_
      refine j_callV C B k_X5_40 (rc_obj C (sS0 ho) rfl rfl) (c_reckon _ _ ho hL hV.1 hpz (n := vE V) (p := (fun j => pts (vev V j) (mk j))) (g := (fun j => !decide (mk j = -1))) ⟨h2, fun j hj => hc2 j (by omega)⟩) rfl rfl rfl rfl ⟨Nat.le_refl _, Nat.le_refl _⟩ (D 39 rfl) ?_
      rintro r w' ⟨rfl, I2, rfl, hF2, hK2⟩
      exact j_vret C P rfl (D 40 rfl) ⟨Nat.le_refl _, Nat.le_refl _⟩ ⟨rfl, I2, rfl, hF.tr hF2.Q, SC_R hF2 ⟨h2, fun j hj => hc2 j (by omega)⟩, hK2⟩
    | succ m ih =>
      intro k x5 I1 hk hF h2 hc2
      have hk10 : k < 10 := by omega
      refine j_iload C (D 6 rfl) rfl ?_
      refine j_aload_n C (D 7 rfl) rfl ?_
      refine j_geti C f_X5_25 (sS0 ho) rfl rfl (D 8 rfl) ?_
      rw [h2]
      refine j_icmp_ge C  73 (D 9 rfl) (by decide) (fun h17 => absurd h17 (fun z => by rw [nle (by omega) (by omega)] at z; omega)) (fun h17 => ?_)
      refine j_aload_n C (D 10 rfl) rfl ?_
      refine j_iload_n C (D 11 rfl) rfl ?_
      refine j_iload C (D 12 rfl) rfl ?_
      refine j_cSNp C B k_X5_26 (c_cellOf _ _ _ _ _) rfl rfl rfl rfl ⟨Nat.le_refl _, Nat.le_refl _⟩ (D 13 rfl) ?_
      refine j_iald C hma (ix_cell ha8 hk10) (D 14 rfl) ?_
      rw [hF ma _ (by omega) (by omega) (by omega), (hmk k (by omega)).1]
      refine j_istore C (D 15 rfl) rfl ?_
      refine j_aload_n C (D 16 rfl) rfl ?_
      refine j_getr C f_X5_9 (sS0 ho) rfl rfl (hL _ _ _ (rS0 ho)) (D 17 rfl) ?_
      refine j_iload C (D 18 rfl) rfl ?_
      refine j_aload_n C (D 19 rfl) rfl ?_
      refine j_getr C f_X5_30 (sC0 hc) rfl rfl (hL _ _ _ (rC0 hc)) (D 20 rfl) ?_
      refine j_iload C (D 21 rfl) rfl ?_
      refine j_aald C (kd := 1) (sC1 hc) rfl (ix_n hk10 (by decide)) (hL _ _ _ (rCT hc hk10)) (D 22 rfl) ?_
      refine j_iload C (D 23 rfl) rfl ?_
      refine j_cVp C B k_X5_34 (rc_obj C (sT0 (isT_of hc hk10)) rfl rfl) (c_valueOf _ _ (isT_of hc hk10) hL (hV.2.2.2.2.1 k (by omega)) ((CT_fr hc hT (hF.S ho) hV.1).2.2.2.2.1 k (by omega)) _ (hmk k (by omega)).2) rfl rfl rfl rfl ⟨Nat.le_refl _, Nat.le_refl _⟩ (D 24 rfl) ?_
      refine j_iast C (sS1 ho) (ix_n hk10 (by decide)) (D 25 rfl) ?_
      refine j_aload_n C (D 26 rfl) rfl ?_
      refine j_getr C f_X5_15 (sS0 ho) rfl rfl (hL _ _ _ (rS1 ho)) (D 27 rfl) ?_
      refine j_iload C (D 28 rfl) rfl ?_
      refine j_iload C (D 29 rfl) rfl ?_
      refine j_iconst C (v := (-1)) (D 30 rfl) rfl ?_
      refine j_icmp_eq C  65 (D 31 rfl) (by decide) (fun h58 => ?_) (fun h58 => ?_)
      · refine j_iconst C (v := nI 0) (D 34 rfl) rfl ?_
        refine j_zast C (sS2 ho) (ix_n hk10 (by decide)) (by first | exact isB_1 | exact isB_0) (D 35 rfl) ?_
        first | refine j_iinc1 C (D 36 rfl) rfl rfl ?_ | refine j_iinc C (D 36 rfl) rfl rfl rfl ?_
        refine j_goto C 11 (D 37 rfl) (by decide) ?_
        exact ih (k + 1) _ _ (by omega) (fun b j q1 q2 q3 => by rw [up2_i (by omega), up2_i (by omega)]; exact hF b j q1 q2 q3) (by rw [up2_i (by omega), up2_i (by omega)]; exact h2) (fun j hj => by
          by_cases q : j = k
          · subst q; rw [up2_i (by omega), up2_same, up2_same]; exact ⟨rfl, b2_f (by rw [h58]; simp)⟩
          · rw [up2_i (by omega), up2_i (by omega), up2_i (by omega), up2_i (by omega)]; exact hc2 j (by omega))
      · refine j_iconst C (v := nI 1) (D 32 rfl) rfl ?_
        refine j_goto C 66 (D 33 rfl) (by decide) ?_
        refine j_zast C (sS2 ho) (ix_n hk10 (by decide)) (by first | exact isB_1 | exact isB_0) (D 35 rfl) ?_
        first | refine j_iinc1 C (D 36 rfl) rfl rfl ?_ | refine j_iinc C (D 36 rfl) rfl rfl rfl ?_
        refine j_goto C 11 (D 37 rfl) (by decide) ?_
        exact ih (k + 1) _ _ (by omega) (fun b j q1 q2 q3 => by rw [up2_i (by omega), up2_i (by omega)]; exact hF b j q1 q2 q3) (by rw [up2_i (by omega), up2_i (by omega)]; exact h2) (fun j hj => by
          by_cases q : j = k
          · subst q; rw [up2_i (by omega), up2_same, up2_same]; exact ⟨rfl, b2_t (by simp [h58])⟩
          · rw [up2_i (by omega), up2_i (by omega), up2_i (by omega), up2_i (by omega)]; exact hc2 j (by omega))
  refine j_aload_n C (D 0 rfl) rfl ?_
  refine j_aload_n C (D 1 rfl) rfl ?_
  refine j_geti C f_X5_19 (sC0 hc) rfl rfl (D 2 rfl) ?_
  rw [hT.1]
  refine j_puti C f_X5_25 (sS0 ho) rfl rfl (D 3 rfl) ?_
  refine j_iconst C (v := nI 0) (D 4 rfl) rfl ?_
  refine j_istore C (D 5 rfl) rfl ?_
  exact Lp (vE V) 0 _ _ (by omega) (fun b j q1 q2 q3 => up2_i (by omega)) (by rw [up2_same]) (fun j hj => absurd hj (by omega))
