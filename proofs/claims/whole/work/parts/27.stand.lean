/-! STANDINGS: P a e the points, g a e whether there is a mark -/
def mxN (P : Nat → Nat → Int32) (e : Nat) : Nat → Int32
  | 0 => 0
  | n + 1 => if mxN P e n < P n e then P n e else mxN P e n
theorem mx_ge (P : Nat → Nat → Int32) (e : Nat) : ∀ n, (∀ a, a < n → (P a e).toInt ≤ (mxN P e n).toInt) ∧ 0 ≤ (mxN P e n).toInt
  | 0 => ⟨fun a h => absurd h (by omega), by rw [mxN]; decide⟩
  | n + 1 => by
    obtain ⟨h1, h2⟩ := mx_ge P e n
    rw [mxN]
    by_cases c : mxN P e n < P n e
    · rw [if_pos c]
      rw [i_lt] at c
      exact ⟨fun a h => if q : a = n then by rw [q]; exact Int.le_refl _ else by have := h1 a (by omega); omega, by omega⟩
    · rw [if_neg c]
      rw [i_lt] at c
      exact ⟨fun a h => if q : a = n then by rw [q]; omega else h1 a (by omega), h2⟩
theorem mx_at (P : Nat → Nat → Int32) (e : Nat) : ∀ n, mxN P e n = 0 ∨ ∃ a, a < n ∧ mxN P e n = P a e
  | 0 => Or.inl rfl
  | n + 1 => by
    rw [mxN]
    by_cases c : mxN P e n < P n e
    · rw [if_pos c]; exact Or.inr ⟨n, by omega, rfl⟩
    · rw [if_neg c]
      rcases mx_at P e n with h | ⟨a, h, h'⟩
      · exact Or.inl h
      · exact Or.inr ⟨a, by omega, h'⟩
def topE (P : Nat → Nat → Int32) (n a e : Nat) : Bool := decide (0 < P a e) && allN (fun b => decide (P b e ≤ P a e)) n
theorem topE_iff {P : Nat → Nat → Int32} {n a e : Nat} (ha : a < n) : topE P n a e = true ↔ (0 < mxN P e n ∧ P a e = mxN P e n) := by
  have hg := mx_ge P e n
  unfold topE
  rw [Bool.and_eq_true, allN_iff, decide_eq_true_eq, i_lt, i0]
  constructor
  · intro ⟨h1, h2⟩
    have h3 : mxN P e n = P a e := by
      rw [i_eq]
      have q1 := hg.1 a ha
      rcases mx_at P e n with z | ⟨b, hb, z⟩
      · rw [z, i0] at q1; omega
      · have q2 := h2 b hb
        rw [decide_eq_true_eq, i_le] at q2
        rw [z] at q1 ⊢
        omega
    exact ⟨by rw [h3, i_lt, i0]; exact h1, h3.symm⟩
  · intro ⟨h1, h2⟩
    refine ⟨by rw [h2]; rw [i_lt, i0] at h1; exact h1, fun b hb => ?_⟩
    rw [decide_eq_true_eq, i_le, h2]
    exact hg.1 b hb
def winsS (P : Nat → Nat → Int32) (nA nE a : Nat) : Nat := cnt (topE P nA a) nE
def totS (V : VT) (P : Nat → Nat → Int32) (g : Nat → Nat → Bool) (a : Nat) : Int32 := sumN (P a) (vE V) + paidS V (P a) (g a)
def ahS (V : VT) (P : Nat → Nat → Int32) (g : Nat → Nat → Bool) (a b : Nat) : Bool :=
  if ¬ totS V P g a = totS V P g b then decide (totS V P g b < totS V P g a)
  else if vt V = 1 ∧ ¬ bestN (P a) (g a) (vE V) = bestN (P b) (g b) (vE V) then decide (bestN (P b) (g b) (vE V) < bestN (P a) (g a) (vE V))
  else if vt V = 2 ∧ ¬ winsS P (vA V) (vE V) a = winsS P (vA V) (vE V) b then decide (winsS P (vA V) (vE V) b < winsS P (vA V) (vE V) a)
  else decide (a < b)
def rkS (V : VT) (P : Nat → Nat → Int32) (g : Nat → Nat → Bool) (a : Nat) : Nat := cnt (fun b => !decide (b = a) && ahS V P g b a) (vA V)
def plS (V : VT) (P : Nat → Nat → Int32) (g : Nat → Nat → Bool) (k : Int32) : Int32 := fst1 (fun a => decide (nI (rkS V P g a) = k)) (vA V) 0
/-- the Standings without the firsts; paid -/
def S0 (I : Nat → Nat → Int32) (V : VT) (P : Nat → Nat → Int32) (g : Nat → Nat → Bool) : Prop := I 98 1 = nI (vA V) ∧ I 98 2 = nI (vE V) ∧ I 98 3 = vt V ∧ ∀ a, a < vA V → SC I (101 + 3 * a) (P a) (g a) (vE V) ∧ SK I (101 + 3 * a) (P a) (g a) (vE V)
def SP (I : Nat → Nat → Int32) (V : VT) (P : Nat → Nat → Int32) (g : Nat → Nat → Bool) : Prop := ∀ a, a < vA V → I (101 + 3 * a) 7 = paidS V (P a) (g a)
def SF (I : Nat → Nat → Int32) (V : VT) (P : Nat → Nat → Int32) : Prop := ∀ a, a < vA V → I (101 + 3 * a) 8 = nI (winsS P (vA V) (vE V) a)
/-- all is well with points -/
def pza (V : VT) (P : Nat → Nat → Int32) (g : Nat → Nat → Bool) : Prop := ∀ a, a < vA V → pz (P a) (g a) (vE V)
def FrF (I I' : Nat → Nat → Int32) : Prop := ∀ b j, ¬ (j = 8 ∧ 101 ≤ b ∧ b ≤ 124 ∧ b % 3 = 2) → I' b j = I b j
theorem S0_F {I I' : Nat → Nat → Int32} {V : VT} {P : Nat → Nat → Int32} {g : Nat → Nat → Bool} (h : FrF I I') (hE : vE V ≤ 10) (hS : S0 I V P g) : S0 I' V P g := by
  obtain ⟨a1, a2, a3, a4⟩ := hS
  refine ⟨by rw [h _ _ (by omega)]; exact a1, by rw [h _ _ (by omega)]; exact a2, by rw [h _ _ (by omega)]; exact a3, fun a ha => ⟨⟨by rw [h _ _ (by omega)]; exact (a4 a ha).1.1, fun e he => ?_⟩, ?_⟩⟩
  · rw [h _ _ (by omega), h _ _ (by omega)]; exact (a4 a ha).1.2 e he
  · unfold SK
    rw [h _ _ (by omega), h _ _ (by omega), h _ _ (by omega), h _ _ (by omega)]
    exact (a4 a ha).2
set_option maxRecDepth 20000 in
theorem c_mostIn (l : Launch) (G : GT) {I : Nat → Nat → Int32} {L : Nat → Nat → Int64} {R : Nat → Nat → Option Nat} (hL : Lay R) {V : VT} (hV : WV V) {Pt : Nat → Nat → Int32} {g : Nat → Nat → Bool} (hz : pza V Pt g) (h0 : S0 I V Pt g) (e : Nat) (he : e < vE V) : Mt l G mX8_mostIn (1) 0 0 [.ref (ra G 98), .int (nI e)] (wd I L R) (pV (.int (mxN Pt e (vA V))) (wd I L R)) := by
  refine mt_of (own := RX8) (by decide) rfl rfl (fun Z C P B => ?_)
  have D := @dc_of _ _ dX8_mostIn
  have hA8 := hV.2.1
  have hE10 := hV.1
  have Lp : ∀ (m a : Nat), a + m = vA V → J Z (0, 0) 4 [some (.ref (ra G 98)), some (.int (nI e)), some (.int (mxN Pt e a)), some (.int (nI a))] [] (wd I L R) := by
    intro m
    induction m with
    | zero =>
      intro a ha
      refine j_iload_n C (D 4 rfl) rfl ?_
      refine j_aload_n C (D 5 rfl) rfl ?_
      refine j_geti C f_X8_28 (lit (kd := 8) (n := 6) rfl) rfl rfl (D 6 rfl) ?_
      rw [h0.1]
      refine j_icmp_ge C  34 (D 7 rfl) (by decide) (fun h9 => ?_) (fun h9 => absurd h9 (fun z => z ((nle (by omega) (by omega)).mpr (by omega))))
      refine j_iload_n C (D 20 rfl) rfl ?_
      exact j_iret C P rfl (D 21 rfl) ⟨Nat.le_refl _, Nat.le_refl _⟩ (pv_i (by rw [show vA V = a by omega]))
    | succ m ih =>
      intro a ha
      have ha8 : a < 8 := by omega
      refine j_iload_n C (D 4 rfl) rfl ?_
      refine j_aload_n C (D 5 rfl) rfl ?_
      refine j_geti C f_X8_28 (lit (kd := 8) (n := 6) rfl) rfl rfl (D 6 rfl) ?_
      rw [h0.1]
      refine j_icmp_ge C  34 (D 7 rfl) (by decide) (fun h9 => absurd h9 (fun z => by rw [nle (by omega) (by omega)] at z; omega)) (fun h9 => ?_)
      refine j_iload_n C (D 8 rfl) rfl ?_
      refine j_aload_n C (D 9 rfl) rfl ?_
      refine j_getr C f_X8_11 (lit (kd := 8) (n := 6) rfl) rfl rfl (hL _ _ _ rfl) (D 10 rfl) ?_
      refine j_iload_n C (D 11 rfl) rfl ?_
      refine j_aald C (kd := 2) (lit (kd := 26) (n := 8) rfl) rfl (ix_n ha8 (by decide)) (hL _ _ _ (rSS ha8)) (D 12 rfl) ?_
      refine j_getr C f_X8_107 (sS0 (isS_of ha8)) rfl rfl (hL _ _ _ (rS0 (isS_of ha8))) (D 13 rfl) ?_
      refine j_iload_n C (D 14 rfl) rfl ?_
      refine j_iald C (sS1 (isS_of ha8)) (ix_n (by omega) (by decide)) (D 15 rfl) ?_
      rw [((h0.2.2.2 a (by omega)).1.2 e he).1]
      refine j_mmax C B k_X8_90 rfl rfl ⟨Nat.le_refl _, Nat.le_refl _⟩ (D 16 rfl) ?_
      rw [show (if mxN Pt e a < Pt a e then Pt a e else mxN Pt e a) = mxN Pt e (a + 1) from rfl]
      refine j_istore_n C (D 17 rfl) rfl ?_
      first | refine j_iinc1 C (D 18 rfl) rfl rfl ?_ | refine j_iinc C (D 18 rfl) rfl rfl rfl ?_
      refine j_goto C 4 (D 19 rfl) (by decide) ?_
      exact ih (a + 1) (by omega)
  refine j_iconst C (v := nI 0) (D 0 rfl) rfl ?_
  refine j_istore_n C (D 1 rfl) rfl ?_
  refine j_iconst C (v := nI 0) (D 2 rfl) rfl ?_
  refine j_istore_n C (D 3 rfl) rfl ?_
  exact Lp (vA V) 0 (by omega)
theorem FrF.tr {I I' I'' : Nat → Nat → Int32} (h : FrF I I') (h' : FrF I' I'') : FrF I I'' := fun b j q => (h' b j q).trans (h b j q)
theorem FrF.up {I I' : Nat → Nat → Int32} {a : Nat} {v : Int32} (h : FrF I I') (ha : a < 8) : FrF I (up2 I' (101 + 3 * a) 8 v) := fun b j q => by rw [up2_i (by omega)]; exact h b j q
theorem FrF.S {I I' : Nat → Nat → Int32} (h : FrF I I') : FrS I I' := fun b j hb => h b j (by unfold scr at hb; omega)
set_option maxRecDepth 20000 in
theorem c_countFirsts (l : Launch) (G : GT) {I : Nat → Nat → Int32} {L : Nat → Nat → Int64} {R : Nat → Nat → Option Nat} (hL : Lay R) {V : VT} (hV : WV V) {Pt : Nat → Nat → Int32} {g : Nat → Nat → Bool} (hz : pza V Pt g) (h0 : S0 I V Pt g) : Mt l G mX8_countFirsts (2) 0 0 [.ref (ra G 98)] (wd I L R) (fun r w' => r = none ∧ ∃ I', w' = wd I' L R ∧ FrF I I' ∧ SF I' V Pt) := by
  refine mt_of (own := RX8) (by decide) rfl rfl (fun Z C P B => ?_)
  have D := @dc_of _ _ dX8_countFirsts
  have hA8 := hV.2.1
  have hE10 := hV.1
  have Lp2 : ∀ (m e : Nat) (x2 x3 : Option Value) (I1 : Nat → Nat → Int32), e + m = vE V → FrF I I1 → (∀ b, b < vA V → I1 (101 + 3 * b) 8 = nI (cnt (topE Pt (vA V) b) e)) → J Z (0, 0) 28 [some (.ref (ra G 98)), some (.int (nI e)), x2, x3] [] (wd I1 L R) := by
    intro m
    induction m with
    | zero =>
      intro e x2 x3 I1 he hF hf
      refine j_iload_n C (D 16 rfl) rfl ?_
      refine j_aload_n C (D 17 rfl) rfl ?_
      refine j_geti C f_X8_32 (lit (kd := 8) (n := 6) rfl) rfl rfl (D 18 rfl) ?_
      rw [(S0_F hF hE10 h0).2.1]
      refine j_icmp_ge C  98 (D 19 rfl) (by decide) (fun h33 => ?_) (fun h33 => absurd h33 (fun z => z ((nle (by omega) (by omega)).mpr (by omega))))
      exact j_vret C P rfl (D 54 rfl) ⟨Nat.le_refl _, Nat.le_refl _⟩ ⟨rfl, I1, rfl, hF, fun b hb => by rw [hf b hb, winsS, show vE V = e by omega]⟩
    | succ m ih2 =>
      intro e x2 x3 I1 he hF hf
      have Lp3 : ∀ (m3 a : Nat) (I2 : Nat → Nat → Int32), a + m3 = vA V → FrF I I2 → (∀ b, b < a → I2 (101 + 3 * b) 8 = nI (cnt (topE Pt (vA V) b) (e + 1))) → (∀ b, b < vA V → a ≤ b → I2 (101 + 3 * b) 8 = nI (cnt (topE Pt (vA V) b) e)) → J Z (0, 0) 44 [some (.ref (ra G 98)), some (.int (nI e)), some (.int (mxN Pt e (vA V))), some (.int (nI a))] [] (wd I2 L R) := by
        intro m3
        induction m3 with
        | zero =>
          intro a I2 ha hF hd1 hd2
          refine j_iload_n C (D 26 rfl) rfl ?_
          refine j_aload_n C (D 27 rfl) rfl ?_
          refine j_geti C f_X8_28 (lit (kd := 8) (n := 6) rfl) rfl rfl (D 28 rfl) ?_
          rw [(S0_F hF hE10 h0).1]
          refine j_icmp_ge C  92 (D 29 rfl) (by decide) (fun h49 => ?_) (fun h49 => absurd h49 (fun z => z ((nle (by omega) (by omega)).mpr (by omega))))
          first | refine j_iinc1 C (D 52 rfl) rfl rfl ?_ | refine j_iinc C (D 52 rfl) rfl rfl rfl ?_
          refine j_goto C 28 (D 53 rfl) (by decide) ?_
          exact ih2 (e + 1) _ _ I2 (by omega) hF (fun b hb => hd1 b (by omega))
        | succ m3 ih3 =>
          intro a I2 ha hF hd1 hd2
          have ha8 : a < 8 := by omega
          have hcl := cnt_le (topE Pt (vA V) a) e
          refine j_iload_n C (D 26 rfl) rfl ?_
          refine j_aload_n C (D 27 rfl) rfl ?_
          refine j_geti C f_X8_28 (lit (kd := 8) (n := 6) rfl) rfl rfl (D 28 rfl) ?_
          rw [(S0_F hF hE10 h0).1]
          refine j_icmp_ge C  92 (D 29 rfl) (by decide) (fun h49 => absurd h49 (fun z => by rw [nle (by omega) (by omega)] at z; omega)) (fun h49 => ?_)
          refine j_iload_n C (D 30 rfl) rfl ?_
          refine j_if_le C  86 (D 31 rfl) (by decide) (fun h53 => ?_) (fun h53 => ?_)
          · first | refine j_iinc1 C (D 50 rfl) rfl rfl ?_ | refine j_iinc C (D 50 rfl) rfl rfl rfl ?_
            refine j_goto C 44 (D 51 rfl) (by decide) ?_
            exact ih3 (a + 1) I2 (by omega) hF (fun b hb => by
              by_cases q : b = a
              · rw [q, hd2 a (by omega) (by omega), cnt_f (fun z => by have z1 := i_lt.mp ((topE_iff (by omega)).mp z).1; have z2 := i_le.mp h53; omega)]
              · exact hd1 b (by omega)) (fun b hb hb2 => hd2 b hb (by omega))
          · refine j_aload_n C (D 32 rfl) rfl ?_
            refine j_getr C f_X8_11 (lit (kd := 8) (n := 6) rfl) rfl rfl (hL _ _ _ rfl) (D 33 rfl) ?_
            refine j_iload_n C (D 34 rfl) rfl ?_
            refine j_aald C (kd := 2) (lit (kd := 26) (n := 8) rfl) rfl (ix_n ha8 (by decide)) (hL _ _ _ (rSS ha8)) (D 35 rfl) ?_
            refine j_getr C f_X8_107 (sS0 (isS_of ha8)) rfl rfl (hL _ _ _ (rS0 (isS_of ha8))) (D 36 rfl) ?_
            refine j_iload_n C (D 37 rfl) rfl ?_
            refine j_iald C (sS1 (isS_of ha8)) (ix_n (by omega) (by decide)) (D 38 rfl) ?_
            rw [(((S0_F hF hE10 h0).2.2.2 a (by omega)).1.2 e (by omega)).1]
            refine j_iload_n C (D 39 rfl) rfl ?_
            refine j_icmp_ne C  86 (D 40 rfl) (by decide) (fun h68 => ?_) (fun h68 => ?_)
            · first | refine j_iinc1 C (D 50 rfl) rfl rfl ?_ | refine j_iinc C (D 50 rfl) rfl rfl rfl ?_
              refine j_goto C 44 (D 51 rfl) (by decide) ?_
              exact ih3 (a + 1) I2 (by omega) hF (fun b hb => by
                by_cases q : b = a
                · rw [q, hd2 a (by omega) (by omega), cnt_f (fun z => h68 ((topE_iff (by omega)).mp z).2)]
                · exact hd1 b (by omega)) (fun b hb hb2 => hd2 b hb (by omega))
            · refine j_aload_n C (D 41 rfl) rfl ?_
              refine j_getr C f_X8_11 (lit (kd := 8) (n := 6) rfl) rfl rfl (hL _ _ _ rfl) (D 42 rfl) ?_
              refine j_iload_n C (D 43 rfl) rfl ?_
              refine j_aald C (kd := 2) (lit (kd := 26) (n := 8) rfl) rfl (ix_n ha8 (by decide)) (hL _ _ _ (rSS ha8)) (D 44 rfl) ?_
              refine j_dup C (D 45 rfl) rfl ?_
              refine j_geti C f_X8_101 (sS0 (isS_of ha8)) rfl rfl (D 46 rfl) ?_
              rw [hd2 a (by omega) (by omega)]
              refine j_iconst C (v := nI 1) (D 47 rfl) rfl ?_
              refine j_iadd C (D 48 rfl) ?_
              rw [nI_add]
              refine j_puti C f_X8_101 (sS0 (isS_of ha8)) rfl rfl (D 49 rfl) ?_
              first | refine j_iinc1 C (D 50 rfl) rfl rfl ?_ | refine j_iinc C (D 50 rfl) rfl rfl rfl ?_
              refine j_goto C 44 (D 51 rfl) (by decide) ?_
              exact ih3 (a + 1) _ (by omega) (hF.up ha8) (fun b hb => by
                by_cases q : b = a
                · subst q; rw [up2_same, cnt_t ((topE_iff (by omega)).mpr ⟨i_lt.mpr (by rw [i_le] at h53; omega), h68⟩)]
                · rw [up2_i (by omega)]; exact hd1 b (by omega)) (fun b hb hb2 => by rw [up2_i (by omega)]; exact hd2 b hb (by omega))
      refine j_iload_n C (D 16 rfl) rfl ?_
      refine j_aload_n C (D 17 rfl) rfl ?_
      refine j_geti C f_X8_32 (lit (kd := 8) (n := 6) rfl) rfl rfl (D 18 rfl) ?_
      rw [(S0_F hF hE10 h0).2.1]
      refine j_icmp_ge C  98 (D 19 rfl) (by decide) (fun h33 => absurd h33 (fun z => by rw [nle (by omega) (by omega)] at z; omega)) (fun h33 => ?_)
      refine j_aload_n C (D 20 rfl) rfl ?_
      refine j_iload_n C (D 21 rfl) rfl ?_
      refine j_cVp C B k_X8_104 (rc_obj C (lit (kd := 8) (n := 6) rfl) rfl rfl) (c_mostIn _ _ hL hV hz (S0_F hF hE10 h0) e (by omega)) rfl rfl rfl rfl ⟨Nat.le_refl _, Nat.le_refl _⟩ (D 22 rfl) ?_
      refine j_istore_n C (D 23 rfl) rfl ?_
      refine j_iconst C (v := nI 0) (D 24 rfl) rfl ?_
      refine j_istore_n C (D 25 rfl) rfl ?_
      exact Lp3 (vA V) 0 I1 (by omega) hF (fun b hb => absurd hb (by omega)) (fun b hb _ => hf b hb)
  have Lp : ∀ (m a : Nat) (I1 : Nat → Nat → Int32), a + m = vA V → FrF I I1 → (∀ b, b < a → I1 (101 + 3 * b) 8 = 0) → J Z (0, 0) 2 [some (.ref (ra G 98)), some (.int (nI a)), none, none] [] (wd I1 L R) := by
    intro m
    induction m with
    | zero =>
      intro a I1 ha hF hf
      refine j_iload_n C (D 2 rfl) rfl ?_
      refine j_aload_n C (D 3 rfl) rfl ?_
      refine j_geti C f_X8_28 (lit (kd := 8) (n := 6) rfl) rfl rfl (D 4 rfl) ?_
      rw [(S0_F hF hE10 h0).1]
      refine j_icmp_ge C  26 (D 5 rfl) (by decide) (fun h7 => ?_) (fun h7 => absurd h7 (fun z => z ((nle (by omega) (by omega)).mpr (by omega))))
      refine j_iconst C (v := nI 0) (D 14 rfl) rfl ?_
      refine j_istore_n C (D 15 rfl) rfl ?_
      exact Lp2 (vE V) 0 _ _ I1 (by omega) hF (fun b hb => by rw [hf b (by omega)]; rfl)
    | succ m ih =>
      intro a I1 ha hF hf
      have ha8 : a < 8 := by omega
      refine j_iload_n C (D 2 rfl) rfl ?_
      refine j_aload_n C (D 3 rfl) rfl ?_
      refine j_geti C f_X8_28 (lit (kd := 8) (n := 6) rfl) rfl rfl (D 4 rfl) ?_
      rw [(S0_F hF hE10 h0).1]
      refine j_icmp_ge C  26 (D 5 rfl) (by decide) (fun h7 => absurd h7 (fun z => by rw [nle (by omega) (by omega)] at z; omega)) (fun h7 => ?_)
      refine j_aload_n C (D 6 rfl) rfl ?_
      refine j_getr C f_X8_11 (lit (kd := 8) (n := 6) rfl) rfl rfl (hL _ _ _ rfl) (D 7 rfl) ?_
      refine j_iload_n C (D 8 rfl) rfl ?_
      refine j_aald C (kd := 2) (lit (kd := 26) (n := 8) rfl) rfl (ix_n ha8 (by decide)) (hL _ _ _ (rSS ha8)) (D 9 rfl) ?_
      refine j_iconst C (v := nI 0) (D 10 rfl) rfl ?_
      refine j_puti C f_X8_101 (sS0 (isS_of ha8)) rfl rfl (D 11 rfl) ?_
      first | refine j_iinc1 C (D 12 rfl) rfl rfl ?_ | refine j_iinc C (D 12 rfl) rfl rfl rfl ?_
      refine j_goto C 2 (D 13 rfl) (by decide) ?_
      exact ih (a + 1) _ (by omega) (hF.up ha8) (fun b hb => by
        by_cases q : b = a
        · subst q; rw [up2_same]; rfl
        · rw [up2_i (by omega)]; exact hf b (by omega))
  refine j_iconst C (v := nI 0) (D 0 rfl) rfl ?_
  refine j_istore_n C (D 1 rfl) rfl ?_
  exact Lp (vA V) 0 I (by omega) (fun _ _ _ => rfl) (fun b hb => absurd hb (by omega))
set_option maxRecDepth 20000 in
theorem c_totalOf (l : Launch) (G : GT) {I : Nat → Nat → Int32} {L : Nat → Nat → Int64} {R : Nat → Nat → Option Nat} (hL : Lay R) {V : VT} (hV : WV V) {Pt : Nat → Nat → Int32} {g : Nat → Nat → Bool} (hz : pza V Pt g) (h0 : S0 I V Pt g) (hP : SP I V Pt g) (a : Nat) (ha : a < vA V) : Mt l G mX8_totalOf (1) 0 0 [.ref (ra G 98), .int (nI a)] (wd I L R) (pV (.int (totS V Pt g a)) (wd I L R)) := by
  refine mt_of (own := RX8) (by decide) rfl rfl (fun Z C P B => ?_)
  have D := @dc_of _ _ dX8_totalOf
  have hA8 := hV.2.1
  have ha8 : a < 8 := by omega
  refine j_iload_n C (D 0 rfl) rfl ?_
  refine j_iconst C (v := nI 0) (D 1 rfl) rfl ?_
  refine j_aload_n C (D 2 rfl) rfl ?_
  refine j_geti C f_X8_28 (lit (kd := 8) (n := 6) rfl) rfl rfl (D 3 rfl) ?_
  rw [h0.1]
  refine j_iconst C (v := nI 1) (D 4 rfl) rfl ?_
  refine j_isub C (D 5 rfl) ?_
  refine j_cSNp C B k_X8_110 (c_isWithin _ _ _ _ _ _) rfl rfl rfl rfl ⟨Nat.le_refl _, Nat.le_refl _⟩ (D 6 rfl) ?_
  refine j_if_eq C  36 (D 7 rfl) (by decide) (fun h11 => absurd h11 (fun z => b2_eq z ⟨i_le.mpr (by rw [nI_int (by omega), nI_int (by omega)]; omega), i_le.mpr (by rw [pk_sub (by omega), nI_int (by omega), nI_int (by omega)]; omega)⟩)) (fun h11 => ?_)
  refine j_aload_n C (D 8 rfl) rfl ?_
  refine j_getr C f_X8_11 (lit (kd := 8) (n := 6) rfl) rfl rfl (hL _ _ _ rfl) (D 9 rfl) ?_
  refine j_iload_n C (D 10 rfl) rfl ?_
  refine j_aald C (kd := 2) (lit (kd := 26) (n := 8) rfl) rfl (ix_n ha8 (by decide)) (hL _ _ _ (rSS ha8)) (D 11 rfl) ?_
  refine j_geti C f_X8_114 (sS0 (isS_of ha8)) rfl rfl (D 12 rfl) ?_
  rw [(h0.2.2.2 a ha).2.1]
  refine j_aload_n C (D 13 rfl) rfl ?_
  refine j_getr C f_X8_11 (lit (kd := 8) (n := 6) rfl) rfl rfl (hL _ _ _ rfl) (D 14 rfl) ?_
  refine j_iload_n C (D 15 rfl) rfl ?_
  refine j_aald C (kd := 2) (lit (kd := 26) (n := 8) rfl) rfl (ix_n ha8 (by decide)) (hL _ _ _ (rSS ha8)) (D 16 rfl) ?_
  refine j_geti C f_X8_117 (sS0 (isS_of ha8)) rfl rfl (D 17 rfl) ?_
  rw [hP a ha]
  refine j_iadd C (D 18 rfl) ?_
  refine j_goto C 37 (D 19 rfl) (by decide) ?_
  exact j_iret C P rfl (D 21 rfl) ⟨Nat.le_refl _, Nat.le_refl _⟩ (pv_i rfl)
theorem tot_rng {V : VT} (hV : WV V) {Pt : Nat → Nat → Int32} {g : Nat → Nat → Bool} (hz : pza V Pt g) {a : Nat} (ha : a < vA V) : 0 ≤ (totS V Pt g a).toInt ∧ (totS V Pt g a).toInt ≤ 22000 := by
  have hE10 := hV.1
  have hpr := paid_rng hV (Pt a) (g a)
  have hsr := sumN_rng (f := Pt a) (M := 2000) (n := vE V) (by omega) (fun i hi => (hz a ha i hi).1)
  have hm : ((vE V : Nat) : Int) * 2000 ≤ 20000 := by omega
  unfold totS
  rw [i_add (by omega) (by omega)]
  omega
theorem sub0 {x y : Int32} (hx : 0 ≤ x.toInt ∧ x.toInt ≤ 1000000) (hy : 0 ≤ y.toInt ∧ y.toInt ≤ 1000000) : (x - y).toInt = x.toInt - y.toInt := i_sub (by omega) (by omega)
theorem sub_z {x y : Int32} : x - y = 0 ↔ x = y := ⟨fun h => by have := Int32.sub_add_cancel x y; rw [h, Int32.zero_add] at this; exact this.symm, fun h => by rw [h, Int32.sub_self]⟩
theorem wins_le (Pt : Nat → Nat → Int32) (nA nE a : Nat) : winsS Pt nA nE a ≤ nE := cnt_le _ _
theorem n0i : (0 : Int32).toInt = 0 := by decide
theorem n0_int' : (0 : Int32).toInt = 0 := by decide
theorem dsub {x y : Int32} (hx : 0 ≤ x.toInt ∧ x.toInt ≤ 1000000) (hy : 0 ≤ y.toInt ∧ y.toInt ≤ 1000000) : decide (y < x) = decide (0 < x - y) := by
  rw [decide_eq_decide, i_lt, i_lt, sub0 hx hy, n0i]; omega
theorem dsubn {x y : Nat} (hx : x ≤ 1000000) (hy : y ≤ 1000000) : decide (y < x) = decide (0 < nI x - nI y) := by
  rw [← dsub (by rw [nI_int (by omega)]; omega) (by rw [nI_int (by omega)]; omega), decide_eq_decide, nlt (by omega) (by omega)]
set_option maxRecDepth 20000 in
theorem c_isAhead (l : Launch) (G : GT) {I : Nat → Nat → Int32} {L : Nat → Nat → Int64} {R : Nat → Nat → Option Nat} (hL : Lay R) {V : VT} (hV : WV V) {Pt : Nat → Nat → Int32} {g : Nat → Nat → Bool} (hz : pza V Pt g) (h0 : S0 I V Pt g) (hP : SP I V Pt g) (hF : SF I V Pt) (a b : Nat) (ha : a < vA V) (hb : b < vA V) : Mt l G mX8_isAhead (2) 0 0 [.ref (ra G 98), .int (nI a), .int (nI b)] (wd I L R) (pV (.int (b2 (ahS V Pt g a b = true))) (wd I L R)) := by
  refine mt_of (own := RX8) (by decide) rfl rfl (fun Z C P B => ?_)
  have D := @dc_of _ _ dX8_isAhead
  have hA8 := hV.2.1
  have hE10 := hV.1
  have ha8 : a < 8 := by omega
  have hb8 : b < 8 := by omega
  have hta : 0 ≤ (totS V Pt g a).toInt ∧ (totS V Pt g a).toInt ≤ 1000000 := by have := tot_rng hV hz ha; omega
  have htb : 0 ≤ (totS V Pt g b).toInt ∧ (totS V Pt g b).toInt ≤ 1000000 := by have := tot_rng hV hz hb; omega
  have hba : 0 ≤ (bestN (Pt a) (g a) (vE V)).toInt ∧ (bestN (Pt a) (g a) (vE V)).toInt ≤ 1000000 := by have := bestN_rng (p := Pt a) (g := g a) (n := vE V) (fun i hi => (hz a ha i hi).1); omega
  have hbb : 0 ≤ (bestN (Pt b) (g b) (vE V)).toInt ∧ (bestN (Pt b) (g b) (vE V)).toInt ≤ 1000000 := by have := bestN_rng (p := Pt b) (g := g b) (n := vE V) (fun i hi => (hz b hb i hi).1); omega
  have hwa := wins_le Pt (vA V) (vE V) a
  have hwb := wins_le Pt (vA V) (vE V) b
  have K : ∀ x : Int32, (x = 0 → ahS V Pt g a b = decide (a < b)) → (¬ x = 0 → ahS V Pt g a b = decide (0 < x)) → J Z (0, 0) 79 [some (.ref (ra G 98)), some (.int (nI a)), some (.int (nI b)), some (.int x)] [] (wd I L R) := by
    intro x hx0 hxp
    refine j_iload_n C (D 45 rfl) rfl ?_
    refine j_if_ne C  96 (D 46 rfl) (by decide) (fun h80 => ?_) (fun h80 => ?_)
    · refine j_iload_n C (D 54 rfl) rfl ?_
      refine j_if_le C  104 (D 55 rfl) (by decide) (fun h97 => ?_) (fun h97 => ?_)
      · refine j_iconst C (v := nI 0) (D 58 rfl) rfl ?_
        exact j_zret C P rfl (by first | exact isB_1 | exact isB_0) (D 59 rfl) ⟨Nat.le_refl _, Nat.le_refl _⟩ (pv_i (b2_f (by rw [hxp h80]; rw [i_le, n0_int'] at h97; rw [decide_eq_true_eq, i_lt, n0_int']; omega)))
      · refine j_iconst C (v := nI 1) (D 56 rfl) rfl ?_
        refine j_goto C 105 (D 57 rfl) (by decide) ?_
        exact j_zret C P rfl (by first | exact isB_1 | exact isB_0) (D 59 rfl) ⟨Nat.le_refl _, Nat.le_refl _⟩ (pv_i (b2_t (by rw [hxp h80]; rw [i_le, n0_int'] at h97; rw [decide_eq_true_eq, i_lt, n0_int']; omega)))
    · refine j_iload_n C (D 47 rfl) rfl ?_
      refine j_iload_n C (D 48 rfl) rfl ?_
      refine j_icmp_ge C  92 (D 49 rfl) (by decide) (fun h85 => ?_) (fun h85 => ?_)
      · refine j_iconst C (v := nI 0) (D 52 rfl) rfl ?_
        refine j_goto C 105 (D 53 rfl) (by decide) ?_
        exact j_zret C P rfl (by first | exact isB_1 | exact isB_0) (D 59 rfl) ⟨Nat.le_refl _, Nat.le_refl _⟩ (pv_i (b2_f (by rw [hx0 h80]; rw [nle (by omega) (by omega)] at h85; simp; omega)))
      · refine j_iconst C (v := nI 1) (D 50 rfl) rfl ?_
        refine j_goto C 105 (D 51 rfl) (by decide) ?_
        exact j_zret C P rfl (by first | exact isB_1 | exact isB_0) (D 59 rfl) ⟨Nat.le_refl _, Nat.le_refl _⟩ (pv_i (b2_t (by rw [hx0 h80]; rw [nle (by omega) (by omega)] at h85; simp; omega)))
  refine j_aload_n C (D 0 rfl) rfl ?_
  refine j_iload_n C (D 1 rfl) rfl ?_
  refine j_cVp C B k_X8_120 (rc_obj C (lit (kd := 8) (n := 6) rfl) rfl rfl) (c_totalOf _ _ hL hV hz h0 hP a ha) rfl rfl rfl rfl ⟨Nat.le_refl _, Nat.le_refl _⟩ (D 2 rfl) ?_
  refine j_aload_n C (D 3 rfl) rfl ?_
  refine j_iload_n C (D 4 rfl) rfl ?_
  refine j_cVp C B k_X8_120 (rc_obj C (lit (kd := 8) (n := 6) rfl) rfl rfl) (c_totalOf _ _ hL hV hz h0 hP b hb) rfl rfl rfl rfl ⟨Nat.le_refl _, Nat.le_refl _⟩ (D 5 rfl) ?_
  refine j_isub C (D 6 rfl) ?_
  refine j_istore_n C (D 7 rfl) rfl ?_
  refine j_iload_n C (D 8 rfl) rfl ?_
  refine j_if_ne C  47 (D 9 rfl) (by decide) (fun h13 => ?_) (fun h13 => ?_)
  · refine j_iload_n C (D 27 rfl) rfl ?_
    refine j_if_ne C  79 (D 28 rfl) (by decide) (fun h48 => ?_) (fun h48 => ?_)
    · exact K _ (fun h => absurd h h13) (fun _ => by rw [ahS, if_pos (fun z => h13 (sub_z.mpr z)), dsub hta htb])
    · refine j_aload_n C (D 29 rfl) rfl ?_
      refine j_geti C f_X8_36 (lit (kd := 8) (n := 6) rfl) rfl rfl (D 30 rfl) ?_
      rw [h0.2.2.1]
      refine j_iconst C (v := nI 2) (D 31 rfl) rfl ?_
      refine j_icmp_ne C  79 (D 32 rfl) (by decide) (fun h56 => ?_) (fun h56 => ?_)
      · exact absurd h48 h13
      · refine j_aload_n C (D 33 rfl) rfl ?_
        refine j_getr C f_X8_11 (lit (kd := 8) (n := 6) rfl) rfl rfl (hL _ _ _ rfl) (D 34 rfl) ?_
        refine j_iload_n C (D 35 rfl) rfl ?_
        refine j_aald C (kd := 2) (lit (kd := 26) (n := 8) rfl) rfl (ix_n ha8 (by decide)) (hL _ _ _ (rSS ha8)) (D 36 rfl) ?_
        refine j_geti C f_X8_101 (sS0 (isS_of ha8)) rfl rfl (D 37 rfl) ?_
        rw [hF a ha]
        refine j_aload_n C (D 38 rfl) rfl ?_
        refine j_getr C f_X8_11 (lit (kd := 8) (n := 6) rfl) rfl rfl (hL _ _ _ rfl) (D 39 rfl) ?_
        refine j_iload_n C (D 40 rfl) rfl ?_
        refine j_aald C (kd := 2) (lit (kd := 26) (n := 8) rfl) rfl (ix_n hb8 (by decide)) (hL _ _ _ (rSS hb8)) (D 41 rfl) ?_
        refine j_geti C f_X8_101 (sS0 (isS_of hb8)) rfl rfl (D 42 rfl) ?_
        rw [hF b hb]
        refine j_isub C (D 43 rfl) ?_
        refine j_istore_n C (D 44 rfl) rfl ?_
        exact absurd h48 h13
  · refine j_aload_n C (D 10 rfl) rfl ?_
    refine j_geti C f_X8_36 (lit (kd := 8) (n := 6) rfl) rfl rfl (D 11 rfl) ?_
    rw [h0.2.2.1]
    refine j_iconst C (v := nI 1) (D 12 rfl) rfl ?_
    refine j_icmp_ne C  47 (D 13 rfl) (by decide) (fun h21 => ?_) (fun h21 => ?_)
    · refine j_iload_n C (D 27 rfl) rfl ?_
      refine j_if_ne C  79 (D 28 rfl) (by decide) (fun h48 => ?_) (fun h48 => ?_)
      · exact absurd h13 h48
      · refine j_aload_n C (D 29 rfl) rfl ?_
        refine j_geti C f_X8_36 (lit (kd := 8) (n := 6) rfl) rfl rfl (D 30 rfl) ?_
        rw [h0.2.2.1]
        refine j_iconst C (v := nI 2) (D 31 rfl) rfl ?_
        refine j_icmp_ne C  79 (D 32 rfl) (by decide) (fun h56 => ?_) (fun h56 => ?_)
        · exact K _ (fun h => by rw [ahS, if_neg (fun z => z (sub_z.mp h13)), if_neg (fun z => h21 z.1), if_neg (fun z => h56 z.1)]) (fun h => absurd h13 h)
        · refine j_aload_n C (D 33 rfl) rfl ?_
          refine j_getr C f_X8_11 (lit (kd := 8) (n := 6) rfl) rfl rfl (hL _ _ _ rfl) (D 34 rfl) ?_
          refine j_iload_n C (D 35 rfl) rfl ?_
          refine j_aald C (kd := 2) (lit (kd := 26) (n := 8) rfl) rfl (ix_n ha8 (by decide)) (hL _ _ _ (rSS ha8)) (D 36 rfl) ?_
          refine j_geti C f_X8_101 (sS0 (isS_of ha8)) rfl rfl (D 37 rfl) ?_
          rw [hF a ha]
          refine j_aload_n C (D 38 rfl) rfl ?_
          refine j_getr C f_X8_11 (lit (kd := 8) (n := 6) rfl) rfl rfl (hL _ _ _ rfl) (D 39 rfl) ?_
          refine j_iload_n C (D 40 rfl) rfl ?_
          refine j_aald C (kd := 2) (lit (kd := 26) (n := 8) rfl) rfl (ix_n hb8 (by decide)) (hL _ _ _ (rSS hb8)) (D 41 rfl) ?_
          refine j_geti C f_X8_101 (sS0 (isS_of hb8)) rfl rfl (D 42 rfl) ?_
          rw [hF b hb]
          refine j_isub C (D 43 rfl) ?_
          refine j_istore_n C (D 44 rfl) rfl ?_
          exact K _ (fun h => by rw [ahS, if_neg (fun z => z (sub_z.mp h13)), if_neg (fun z => h21 z.1), if_neg (fun z => z.2 (nI_inj (by omega) (by omega) (sub_z.mp h)))]) (fun h => by rw [ahS, if_neg (fun z => z (sub_z.mp h13)), if_neg (fun z => h21 z.1), if_pos ⟨h56, fun z => h (by rw [z]; exact sub_z.mpr rfl)⟩, dsubn (by omega) (by omega)])
    · refine j_aload_n C (D 14 rfl) rfl ?_
      refine j_getr C f_X8_11 (lit (kd := 8) (n := 6) rfl) rfl rfl (hL _ _ _ rfl) (D 15 rfl) ?_
      refine j_iload_n C (D 16 rfl) rfl ?_
      refine j_aald C (kd := 2) (lit (kd := 26) (n := 8) rfl) rfl (ix_n ha8 (by decide)) (hL _ _ _ (rSS ha8)) (D 17 rfl) ?_
      refine j_geti C f_X8_123 (sS0 (isS_of ha8)) rfl rfl (D 18 rfl) ?_
      rw [(h0.2.2.2 a ha).2.2.2.1]
      refine j_aload_n C (D 19 rfl) rfl ?_
      refine j_getr C f_X8_11 (lit (kd := 8) (n := 6) rfl) rfl rfl (hL _ _ _ rfl) (D 20 rfl) ?_
      refine j_iload_n C (D 21 rfl) rfl ?_
      refine j_aald C (kd := 2) (lit (kd := 26) (n := 8) rfl) rfl (ix_n hb8 (by decide)) (hL _ _ _ (rSS hb8)) (D 22 rfl) ?_
      refine j_geti C f_X8_123 (sS0 (isS_of hb8)) rfl rfl (D 23 rfl) ?_
      rw [(h0.2.2.2 b hb).2.2.2.1]
      refine j_isub C (D 24 rfl) ?_
      refine j_istore_n C (D 25 rfl) rfl ?_
      refine j_goto C 79 (D 26 rfl) (by decide) ?_
      exact K _ (fun h => by rw [ahS, if_neg (fun z => z (sub_z.mp h13)), if_neg (fun z => z.2 (sub_z.mp h)), if_neg (fun z => absurd (h21.symm.trans z.1) (by decide))]) (fun h => by rw [ahS, if_neg (fun z => z (sub_z.mp h13)), if_pos ⟨h21, fun z => h (sub_z.mpr z)⟩, dsub hba hbb])
