def abI (x : Int32) : Int32 := if 0 ≤ x then x else 0 - x
def stpS (E : Nat → Int32) (m : Int32) : Int32 := if wstS E (pts E m + nI 1) = -1 then -1 else abI (wstS E (pts E m + nI 1) - m)
theorem wst_much {E : Nat → Int32} (h : WE E) {q : Int32} (hq : 2000 < q.toInt) : wstS E q = -1 := by
  unfold wstS
  rw [if_pos (i_lt.mpr (by have : (topS E).toInt ≤ 2000 := (pts_rng h _).2; omega))]
/-- the first of those with the most above 0 -/
def gtP (f : Nat → Int32) : Nat → Int32 × Int32
  | 0 => (-1, 0)
  | n + 1 => if (gtP f n).2 < f n then (nI n, f n) else gtP f n
theorem gtP_1 {f : Nat → Int32} {n : Nat} (h : ¬ f n ≤ (gtP f n).2) : gtP f (n + 1) = (nI n, f n) := by
  rw [gtP, if_pos]; rw [i_lt]; rw [i_le] at h; omega
theorem gtP_0 {f : Nat → Int32} {n : Nat} (h : f n ≤ (gtP f n).2) : gtP f (n + 1) = gtP f n := by
  rw [gtP, if_neg]; rw [i_lt]; rw [i_le] at h; omega
theorem gtP_congr {f g : Nat → Int32} : ∀ {n : Nat}, (∀ i, i < n → f i = g i) → gtP f n = gtP g n
  | 0, _ => rfl
  | n + 1, h => by rw [gtP, gtP, gtP_congr (fun i hi => h i (by omega)), h n (by omega)]
theorem trS_0 {E : Nat → Int32} {mk go gi : Int32} (h1 : okM mk) : trS E mk go gi 0 = mk := by
  unfold trS
  by_cases c : mk = -1 ∨ go = -1
  · rw [if_pos c]
  · rw [if_neg c]
    have hm := h1.resolve_left (fun z => c (Or.inl z))
    have e0 : Int32.ofInt (go.toInt * (0 : Nat) / ((0 : Nat) + gi.toInt)) = 0 := by simp
    rw [e0]
    unfold bbS
    rw [show mk + 0 = mk by simp, show mk - 0 = mk by simp]
    by_cases q : E 0 = 1
    · rw [if_pos q]
      by_cases z : mk < 99999
      · rw [if_pos z]
      · rw [if_neg z]; exact i_eq.mpr (by rw [i_lt, i99] at z; rw [i99]; omega)
    · rw [if_neg q]
      by_cases z : 0 < mk
      · rw [if_pos z]
      · rw [if_neg z]; exact i_eq.mpr (by rw [i_lt, i0] at z; rw [i0]; omega)
def pyS (V : VT) (a h e : Nat) : Int32 := pts (vev V e) (trS (vev V e) (vmk V a e) (vgo V a e) (vgi V a e) h) - pts (vev V e) (vmk V a e)
/-- how many kinds -/
def knS (E : Nat → Int32) (m : Nat) : Nat → Int32
  | 0 => nI 1
  | n + 1 => knS E m n + (if pts E (nI (m + n + 1)) = pts E (nI (m + n)) then nI 0 else nI 1)
theorem kdC {f t : Int32} (h1 : wi 0 99999 f) (h2 : wi 0 99999 t) {lo hi : Int32} (e1 : lo.toInt = 0) (e2 : hi.toInt = 2000) : (lo ≤ t - f ∧ t - f ≤ hi) ↔ (0 ≤ t.toInt - f.toInt ∧ t.toInt - f.toInt ≤ 2000) := by
  have := h1.1; have := h1.2; have := h2.1; have := h2.2
  rw [i_le, i_le, e1, e2, i_sub (by omega) (by omega)]
theorem kdL {f t : Int32} {lo hi : Int64} (e1 : lo.toInt = 0) (e2 : hi.toInt = 2000) : (lo.toInt ≤ (t.toInt64 - f.toInt64).toInt ∧ (t.toInt64 - f.toInt64).toInt ≤ hi.toInt) ↔ (0 ≤ t.toInt - f.toInt ∧ t.toInt - f.toInt ≤ 2000) := by
  have := i_rng t; have := i_rng f
  rw [l_sub (by rw [i_l, i_l]; omega) (by rw [i_l, i_l]; omega), i_l, i_l, e1, e2]
theorem fst1_cs (f : Nat → Bool) : ∀ m i, fst1 f m i = -1 ∨ ∃ b, i ≤ b ∧ b < i + m ∧ fst1 f m i = nI b ∧ f b = true
  | 0, i => Or.inl rfl
  | m + 1, i => by
    rw [fst1]
    by_cases c : f i = true
    · rw [if_pos c]; exact Or.inr ⟨i, by omega, by omega, rfl, c⟩
    · rw [if_neg c]
      rcases fst1_cs f m (i + 1) with h | ⟨b, h1, h2, h3, h4⟩
      · exact Or.inl h
      · exact Or.inr ⟨b, by omega, by omega, h3, h4⟩
theorem kth_cs (V : VT) (e : Nat) (k : Int32) : kthS V e k = -1 ∨ ∃ b, b < vA V ∧ kthS V e k = nI b := by
  rcases fst1_cs (fun a => !decide (vmk V a e = -1) && decide (nI (cbS V e a) = k)) (vA V) 0 with h | ⟨b, h1, h2, h3, _⟩
  · exact Or.inl h
  · exact Or.inr ⟨b, by omega, h3⟩
def drmS (V : VT) (e : Nat) : Int32 := if kthS V e 0 = -1 then nI 0 else pts (vev V e) (vmk V (tn (kthS V e 0)) e)
def a_step (V : VT) (ld : Bool) (e m : Int32) : Int32 := if inR (vE V) e ∧ wi 0 99999 m then stpS (vev V (tn e)) m else -2
theorem a_step_t {V : VT} {ld : Bool} {e m : Int32} (hX : inR (vE V) e ∧ wi 0 99999 m) : a_step V ld e m = stpS (vev V (tn e)) m := if_pos hX
theorem a_step_f {V : VT} {ld : Bool} {e m : Int32} (hX : ¬ (inR (vE V) e ∧ wi 0 99999 m)) : a_step V ld e m = -2 := if_neg hX
set_option maxRecDepth 20000 in
theorem c_stepQ (l : Launch) (G : GT) {c : Nat} (hc : isC c) {I : Nat → Nat → Int32} {L : Nat → Nat → Int64} {R : Nat → Nat → Option Nat} (hL : Lay R) (hr5 : R 0 5 = some c) {V : VT} (hV : WV V) (hT : CT I c V) (ld : Bool) (hld : I 0 6 = b2 (ld = true)) (e m : Int32) : Mt l G mX11_step (5) 0 0 [.ref (ra G 0), .int e, .int m] (wd I L R) (qC (a_step V ld e m) I R) := by
  refine mt_of (own := RX11) (by decide) rfl rfl (fun Z C P B => ?_)
  have D := @dc_of _ _ dX11_step
  have hE10 := hV.1
  have hA8 := hV.2.1
  refine j_aload_n C (D 0 rfl) rfl ?_
  refine j_iload_n C (D 1 rfl) rfl ?_
  refine j_cVp C B k_X11_120 (rc_obj C (lit (kd := 11) (n := 12) rfl) rfl rfl) (c_hasEvent _ _ hc hL hr5 hV hT ld hld _) rfl rfl rfl rfl ⟨Nat.le_refl _, Nat.le_refl _⟩ (D 2 rfl) ?_
  refine j_if_eq C  15 (D 3 rfl) (by decide) (fun h5 => ?_) (fun h5 => ?_)
  · refine j_bipush C (v := (-2)) (D 7 rfl) rfl ?_
    exact j_iret C P rfl (D 8 rfl) ⟨Nat.le_refl _, Nat.le_refl _⟩ (qc0 (a_step_f (fun z => b2_eq h5 z.1)).symm)
  · refine j_iload_n C (D 4 rfl) rfl ?_
    refine j_cSp C B k_X11_151 (c_isMark _ _ _ _) rfl rfl rfl rfl ⟨Nat.le_refl _, Nat.le_refl _⟩ (D 5 rfl) ?_
    refine j_if_ne C  18 (D 6 rfl) (by decide) (fun h12 => ?_) (fun h12 => ?_)
    · obtain ⟨e, hk, rfl⟩ := inR_n (b2_ne h5)
      have he10 : e < 10 := by omega
      refine j_aload_n C (D 9 rfl) rfl ?_
      refine j_getr C f_X11_37 (lit (kd := 11) (n := 12) rfl) rfl rfl hr5 (D 10 rfl) ?_
      refine j_getr C f_X11_124 (sC0 hc) rfl rfl (hL _ _ _ (rC0 hc)) (D 11 rfl) ?_
      refine j_iload_n C (D 12 rfl) rfl ?_
      refine j_aald C (kd := 1) (sC1 hc) rfl (ix_n he10 (by decide)) (hL _ _ _ (rCT hc he10)) (D 13 rfl) ?_
      refine j_astore_n C (D 14 rfl) rfl ?_
      refine j_aload_n C (D 15 rfl) rfl ?_
      refine j_aload_n C (D 16 rfl) rfl ?_
      refine j_iload_n C (D 17 rfl) rfl ?_
      refine j_cVp C B k_X11_154 (rc_obj C (sT0 (isT_of hc he10)) rfl rfl) (c_valueOf _ _ (isT_of hc he10) hL (hV.2.2.2.2.1 e hk) (hT.2.2.2.2.1 e hk) _ (mk_ok ((wC (by decide) (by decide)).mp (b2_ne h12)))) rfl rfl rfl rfl ⟨Nat.le_refl _, Nat.le_refl _⟩ (D 18 rfl) ?_
      refine j_iconst C (v := nI 1) (D 19 rfl) rfl ?_
      refine j_iadd C (D 20 rfl) ?_
      refine j_cVp C B k_X11_162 (rc_obj C (sT0 (isT_of hc he10)) rfl rfl) (c_worstFor _ _ (isT_of hc he10) hL (hV.2.2.2.2.1 e hk) (hT.2.2.2.2.1 e hk) _) rfl rfl rfl rfl ⟨Nat.le_refl _, Nat.le_refl _⟩ (D 21 rfl) ?_
      refine j_istore C (D 22 rfl) rfl ?_
      refine j_iload C (D 23 rfl) rfl ?_
      refine j_iconst C (v := (-1)) (D 24 rfl) rfl ?_
      refine j_icmp_ne C  51 (D 25 rfl) (by decide) (fun h44 => ?_) (fun h44 => ?_)
      · refine j_iload C (D 28 rfl) rfl ?_
        refine j_iload_n C (D 29 rfl) rfl ?_
        refine j_isub C (D 30 rfl) ?_
        refine j_mabs C B k_X11_169 rfl rfl ⟨Nat.le_refl _, Nat.le_refl _⟩ (D 31 rfl) ?_
        exact j_iret C P rfl (D 32 rfl) ⟨Nat.le_refl _, Nat.le_refl _⟩ (qc0 (by rw [a_step_t ⟨(b2_ne h5), ((wC (by decide) (by decide)).mp (b2_ne h12))⟩, tn_n (by omega), stpS, if_neg h44]; rfl))
      · refine j_iconst C (v := (-1)) (D 26 rfl) rfl ?_
        refine j_goto C 58 (D 27 rfl) (by decide) ?_
        exact j_iret C P rfl (D 32 rfl) ⟨Nat.le_refl _, Nat.le_refl _⟩ (qc0 (by rw [a_step_t ⟨(b2_ne h5), ((wC (by decide) (by decide)).mp (b2_ne h12))⟩, tn_n (by omega), stpS, if_pos h44]))
    · refine j_bipush C (v := (-2)) (D 7 rfl) rfl ?_
      exact j_iret C P rfl (D 8 rfl) ⟨Nat.le_refl _, Nat.le_refl _⟩ (qc0 (a_step_f (fun z => b2_eq h12 ((wC (by decide) (by decide)).mpr z.2))).symm)
set_option maxRecDepth 20000 in
theorem d_stepQ (l : Launch) (G : GT) {I : Nat → Nat → Int32} {L : Nat → Nat → Int64} {R : Nat → Nat → Option Nat} (hL : Lay R) {V : VT} (hV : WV V) (hM : MT I V) (ld : Bool) (hld : I 172 1 = b2 (ld = true)) (e m : Int32) : Mt l G mX12_step (5) 0 0 [.ref (ra G 172), .int e, .int m] (wd I L R) (qM (a_step V ld e m) I R) := by
  refine mt_of (own := RX12) (by decide) rfl rfl (fun Z C P B => ?_)
  have D := @dc_of _ _ dX12_step
  have hE10 := hV.1
  have hA8 := hV.2.1
  refine j_aload_n C (D 0 rfl) rfl ?_
  refine j_iload_n C (D 1 rfl) rfl ?_
  refine j_cVp C B k_X12_320 (rc_obj C (lit (kd := 12) (n := 48) rfl) rfl rfl) (d_isEvent _ _ hL (vE V) hM.1 (by omega) _) rfl rfl rfl rfl ⟨Nat.le_refl _, Nat.le_refl _⟩ (D 2 rfl) ?_
  refine j_if_eq C  15 (D 3 rfl) (by decide) (fun h5 => ?_) (fun h5 => ?_)
  · refine j_bipush C (v := (-2)) (D 7 rfl) rfl ?_
    exact j_iret C P rfl (D 8 rfl) ⟨Nat.le_refl _, Nat.le_refl _⟩ (qm0 (a_step_f (fun z => b2_eq h5 z.1)).symm)
  · refine j_iload_n C (D 4 rfl) rfl ?_
    refine j_cSp C B k_X12_347 (d_isMark _ _ _ _) rfl rfl rfl rfl ⟨Nat.le_refl _, Nat.le_refl _⟩ (D 5 rfl) ?_
    refine j_if_ne C  18 (D 6 rfl) (by decide) (fun h12 => ?_) (fun h12 => ?_)
    · obtain ⟨e, hk, rfl⟩ := inR_n (b2_ne h5)
      have he10 : e < 10 := by omega
      have hme : mE I e = vev V e := hM.2.2.2.2.1 e hk
      have hWE : WE (mE I e) := by rw [hme]; exact hV.2.2.2.2.1 e hk
      refine j_aload_n C (D 9 rfl) rfl ?_
      refine j_iload_n C (D 10 rfl) rfl ?_
      refine j_iload_n C (D 11 rfl) rfl ?_
      refine j_cVp C B k_X12_350 (rc_obj C (lit (kd := 12) (n := 48) rfl) rfl rfl) (d_pointsOf _ _ hL e he10 hWE _ (mk_ok ((wC (by decide) (by decide)).mp (b2_ne h12)))) rfl rfl rfl rfl ⟨Nat.le_refl _, Nat.le_refl _⟩ (D 12 rfl) ?_
      rw [hme]
      refine j_iconst C (v := nI 1) (D 13 rfl) rfl ?_
      refine j_iadd C (D 14 rfl) ?_
      refine j_istore_n C (D 15 rfl) rfl ?_
      refine j_iload_n C (D 16 rfl) rfl ?_
      refine j_sipush C (v := nI 2000) (D 17 rfl) rfl ?_
      refine j_icmp_le C  38 (D 18 rfl) (by decide) (fun h31 => ?_) (fun h31 => ?_)
      · refine j_aload_n C (D 21 rfl) rfl ?_
        refine j_iload_n C (D 22 rfl) rfl ?_
        refine j_iload_n C (D 23 rfl) rfl ?_
        refine j_cVp C B k_X12_359 (rc_obj C (lit (kd := 12) (n := 48) rfl) rfl rfl) (d_worstOf _ _ hL e he10 hWE _) rfl rfl rfl rfl ⟨Nat.le_refl _, Nat.le_refl _⟩ (D 24 rfl) ?_
        rw [hme]
        refine j_istore C (D 25 rfl) rfl ?_
        refine j_iload C (D 26 rfl) rfl ?_
        refine j_iconst C (v := (-1)) (D 27 rfl) rfl ?_
        refine j_icmp_ne C  56 (D 28 rfl) (by decide) (fun h49 => ?_) (fun h49 => ?_)
        · refine j_iload C (D 31 rfl) rfl ?_
          refine j_iload_n C (D 32 rfl) rfl ?_
          refine j_isub C (D 33 rfl) ?_
          refine j_mabs C B k_X12_362 rfl rfl ⟨Nat.le_refl _, Nat.le_refl _⟩ (D 34 rfl) ?_
          exact j_iret C P rfl (D 35 rfl) ⟨Nat.le_refl _, Nat.le_refl _⟩ (qm0 (by rw [a_step_t ⟨(b2_ne h5), ((wC (by decide) (by decide)).mp (b2_ne h12))⟩, tn_n (by omega), stpS, if_neg h49]; rfl))
        · refine j_iconst C (v := (-1)) (D 29 rfl) rfl ?_
          refine j_goto C 63 (D 30 rfl) (by decide) ?_
          exact j_iret C P rfl (D 35 rfl) ⟨Nat.le_refl _, Nat.le_refl _⟩ (qm0 (by rw [a_step_t ⟨(b2_ne h5), ((wC (by decide) (by decide)).mp (b2_ne h12))⟩, tn_n (by omega), stpS, if_pos h49]))
      · have hmuch : wstS (vev V e) (pts (vev V e) m + nI 1) = -1 := wst_much (hV.2.2.2.2.1 e hk) (by rw [i_le, show (nI 2000 : Int32).toInt = 2000 from rfl] at h31; omega)
        refine j_iconst C (v := (-1)) (D 19 rfl) rfl ?_
        refine j_goto C 44 (D 20 rfl) (by decide) ?_
        refine j_istore C (D 25 rfl) rfl ?_
        refine j_iload C (D 26 rfl) rfl ?_
        refine j_iconst C (v := (-1)) (D 27 rfl) rfl ?_
        refine j_icmp_ne C  56 (D 28 rfl) (by decide) (fun h49 => ?_) (fun h49 => ?_)
        · refine j_iload C (D 31 rfl) rfl ?_
          refine j_iload_n C (D 32 rfl) rfl ?_
          refine j_isub C (D 33 rfl) ?_
          refine j_mabs C B k_X12_362 rfl rfl ⟨Nat.le_refl _, Nat.le_refl _⟩ (D 34 rfl) ?_
          exact j_iret C P rfl (D 35 rfl) ⟨Nat.le_refl _, Nat.le_refl _⟩ (absurd rfl h49)
        · refine j_iconst C (v := (-1)) (D 29 rfl) rfl ?_
          refine j_goto C 63 (D 30 rfl) (by decide) ?_
          exact j_iret C P rfl (D 35 rfl) ⟨Nat.le_refl _, Nat.le_refl _⟩ (qm0 (by rw [a_step_t ⟨(b2_ne h5), ((wC (by decide) (by decide)).mp (b2_ne h12))⟩, tn_n (by omega), stpS, if_pos hmuch]))
    · refine j_bipush C (v := (-2)) (D 7 rfl) rfl ?_
      exact j_iret C P rfl (D 8 rfl) ⟨Nat.le_refl _, Nat.le_refl _⟩ (qm0 (a_step_f (fun z => b2_eq h12 ((wC (by decide) (by decide)).mpr z.2))).symm)
def a_bonus (V : VT) (ld : Bool) (k : Int32) : Int32 := if inR (vB V) k then vbn V (tn k) else -2
theorem a_bonus_t {V : VT} {ld : Bool} {k : Int32} (hX : inR (vB V) k) : a_bonus V ld k = vbn V (tn k) := if_pos hX
theorem a_bonus_f {V : VT} {ld : Bool} {k : Int32} (hX : ¬ (inR (vB V) k)) : a_bonus V ld k = -2 := if_neg hX
set_option maxRecDepth 20000 in
theorem c_bonusQ (l : Launch) (G : GT) {c : Nat} (hc : isC c) {I : Nat → Nat → Int32} {L : Nat → Nat → Int64} {R : Nat → Nat → Option Nat} (hL : Lay R) (hr5 : R 0 5 = some c) {V : VT} (hV : WV V) (hT : CT I c V) (ld : Bool) (hld : I 0 6 = b2 (ld = true)) (k : Int32) : Mt l G mX11_bonus (1) 0 0 [.ref (ra G 0), .int k] (wd I L R) (qC (a_bonus V ld k) I R) := by
  refine mt_of (own := RX11) (by decide) rfl rfl (fun Z C P B => ?_)
  have D := @dc_of _ _ dX11_bonus
  have hE10 := hV.1
  have hA8 := hV.2.1
  refine j_aload_n C (D 0 rfl) rfl ?_
  refine j_iload_n C (D 1 rfl) rfl ?_
  refine j_cVp C B k_X11_213 (rc_obj C (lit (kd := 11) (n := 12) rfl) rfl rfl) (c_hasBonus _ _ hc hL hr5 hV hT ld hld _) rfl rfl rfl rfl ⟨Nat.le_refl _, Nat.le_refl _⟩ (D 2 rfl) ?_
  refine j_if_eq C  23 (D 3 rfl) (by decide) (fun h5 => ?_) (fun h5 => ?_)
  · refine j_bipush C (v := (-2)) (D 11 rfl) rfl ?_
    exact j_iret C P rfl (D 12 rfl) ⟨Nat.le_refl _, Nat.le_refl _⟩ (qc0 (a_bonus_f (fun z => b2_eq h5 z)).symm)
  · obtain ⟨k, hk, rfl⟩ := inR_n (b2_ne h5)
    have hB4 := hV.2.2.1
    refine j_aload_n C (D 4 rfl) rfl ?_
    refine j_getr C f_X11_37 (lit (kd := 11) (n := 12) rfl) rfl rfl hr5 (D 5 rfl) ?_
    refine j_getr C f_X11_104 (sC0 hc) rfl rfl (hL _ _ _ (rC4 hc)) (D 6 rfl) ?_
    refine j_getr C f_X11_224 (sC5 hc) rfl rfl (hL _ _ _ (rB0 hc)) (D 7 rfl) ?_
    refine j_iload_n C (D 8 rfl) rfl ?_
    refine j_iald C (sC6 hc) (ix_n (by omega) (by decide)) (D 9 rfl) ?_
    rw [hT.2.2.2.2.2.2.1 k hk]
    refine j_goto C 25 (D 10 rfl) (by decide) ?_
    exact j_iret C P rfl (D 12 rfl) ⟨Nat.le_refl _, Nat.le_refl _⟩ (qc0 (by rw [a_bonus_t (b2_ne h5), tn_n (by omega)]))
theorem prL {n : Nat} (hn : n ≤ 1000) {lo : Int64} {x : Int32} (e : lo.toInt = 0) : (lo.toInt ≤ x.toInt64.toInt ∧ x.toInt64.toInt ≤ (nI n - nI 1).toInt64.toInt) ↔ inR n x := by
  have := pr_int2 (b := n) hn
  unfold pr at this
  rw [i_l, i_l, this, e]
  constructor
  · intro z; exact ⟨z.1, by have := z.2; omega⟩
  · intro z; exact ⟨z.1, by have := z.2; omega⟩
set_option maxRecDepth 20000 in
theorem d_bonusQ (l : Launch) (G : GT) {I : Nat → Nat → Int32} {L : Nat → Nat → Int64} {R : Nat → Nat → Option Nat} (hL : Lay R) {V : VT} (hV : WV V) (hM : MT I V) (ld : Bool) (hld : I 172 1 = b2 (ld = true)) (k : Int32) : Mt l G mX12_bonus (1) 0 0 [.ref (ra G 172), .int k] (wd I L R) (qM (a_bonus V ld k) I R) := by
  refine mt_of (own := RX12) (by decide) rfl rfl (fun Z C P B => ?_)
  have D := @dc_of _ _ dX12_bonus
  have hE10 := hV.1
  have hA8 := hV.2.1
  refine j_iload_n C (D 0 rfl) rfl ?_
  refine j_i2l C (D 1 rfl) ?_
  refine j_lconst C (v := 0) (D 2 rfl) rfl ?_
  refine j_aload_n C (D 3 rfl) rfl ?_
  refine j_geti C f_X12_306 (lit (kd := 12) (n := 48) rfl) rfl rfl (D 4 rfl) ?_
  refine j_iconst C (v := nI 1) (D 5 rfl) rfl ?_
  refine j_isub C (D 6 rfl) ?_
  refine j_i2l C (D 7 rfl) ?_
  rw [hM.2.2.2.1]
  refine j_cSp C B k_X12_99 (d_in _ _ _ _ _ _) rfl rfl rfl rfl ⟨Nat.le_refl _, Nat.le_refl _⟩ (D 8 rfl) ?_
  refine j_if_eq C  25 (D 9 rfl) (by decide) (fun h13 => ?_) (fun h13 => ?_)
  · refine j_bipush C (v := (-2)) (D 15 rfl) rfl ?_
    exact j_iret C P rfl (D 16 rfl) ⟨Nat.le_refl _, Nat.le_refl _⟩ (qm0 (a_bonus_f (fun z => b2_eq h13 ((prL (by have := hV.2.2.1; omega) (by decide)).mpr z))).symm)
  · obtain ⟨k, hk, rfl⟩ := inR_n ((prL (by have := hV.2.2.1; omega) (by decide)).mp (b2_ne h13))
    have hB4 := hV.2.2.1
    refine j_aload_n C (D 10 rfl) rfl ?_
    refine j_getr C f_X12_13 (lit (kd := 12) (n := 48) rfl) rfl rfl (hL _ _ _ rfl) (D 11 rfl) ?_
    refine j_iload_n C (D 12 rfl) rfl ?_
    refine j_iald C (lit (kd := 20) (n := 4) rfl) (ix_n (by omega) (by decide)) (D 13 rfl) ?_
    rw [hM.2.2.2.2.2.2.1 k hk]
    refine j_goto C 27 (D 14 rfl) (by decide) ?_
    exact j_iret C P rfl (D 16 rfl) ⟨Nat.le_refl _, Nat.le_refl _⟩ (qm0 (by rw [a_bonus_t ((prL (by have := hV.2.2.1; omega) (by decide)).mp (b2_ne h13)), tn_n (by omega)]))
