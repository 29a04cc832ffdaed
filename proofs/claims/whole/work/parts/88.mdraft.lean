/-! the model's draft -/
def MDr (I : Nat → Nat → Int32) (V : VT) : Prop := I 172 13 = nI (vE V) ∧ I 172 14 = nI (vA V) ∧ I 172 15 = nI (vB V) ∧ I 172 16 = vt V ∧ I 172 17 = nI (off (vts V) (vB V)) ∧ (∀ e, e < vE V → REL I 180 (22 * e) (vev V e)) ∧
  (∀ a e, a < 8 → e < 10 → I 184 (10 * a + e) = (if a < vA V then vmk V a e else -1) ∧ I 185 (10 * a + e) = (if a < vA V then vgo V a e else -1) ∧ I 186 (10 * a + e) = (if a < vA V then vgi V a e else -1)) ∧
  (∀ k, k < vB V → I 181 k = vbn V k) ∧ (∀ k, k ≤ vB V → I 182 k = nI (off (vts V) k)) ∧ (∀ k, k < vB V → ∀ x q, (vts V k)[x]? = some q → I 183 (off (vts V) k + x) = encM q)
def lM (b j : Nat) : Prop := (b = 172 ∧ ((29 ≤ j ∧ j ≤ 35) ∨ (13 ≤ j ∧ j ≤ 18))) ∨ (180 ≤ b ∧ b ≤ 186 ∧ ¬ (b = 182 ∧ j = 0))
theorem nPl (b j : Nat) (h : nP b j) : lM b j := by unfold nP at h; unfold lM; omega
theorem aPl (b j : Nat) (h : aP b j) : lM b j := by unfold aP at h; unfold lM; omega
theorem xPl (b j : Nat) (h : xP b j) : lM b j := by unfold xP at h; unfold lM; omega
theorem evPl {base b j : Nat} (h : evP base b j) : lM b j := by unfold evP nP at h; unfold lM; omega
theorem REL_go {I I' : Nat → Nat → Int32} {c base : Nat} {E : Nat → Int32} (h : REL I c base E) (hE : (E 3).toInt ≤ 8 ∨ ¬ E 2 = 3) (hF : ∀ j, base ≤ j → j < base + 22 → I' c j = I c j) : REL I' c base E := by
  refine ⟨fun k hk => by rw [hF _ (by omega) (by omega)]; exact h.1 k hk, fun z k hk => ?_⟩
  rcases hE with y | y
  · rw [hF _ (by omega) (by omega), hF _ (by omega) (by omega)]; exact h.2 z k hk
  · exact absurd z y
theorem WE_3 {E : Nat → Int32} (h : WE E) : (E 3).toInt ≤ 8 ∨ ¬ E 2 = 3 := by
  obtain ⟨-, -, -, h | h⟩ := h
  · right
    rcases h.1 with z | z | z <;> rw [z] <;> decide
  · left
    obtain ⟨-, -, n, -, h8, e3, -⟩ := h
    rw [e3, nI_int (by omega)]; omega
theorem MD_r {I I' : Nat → Nat → Int32} {V : VT} {P : Nat → Nat → Prop} (hW : WV V) (h : MDr I V) (hF : Fx P I I') (hP : ∀ b j, P b j → b = 172 ∧ ((29 ≤ j ∧ j ≤ 35) ∨ j = 18)) : MDr I' V := by
  have hk : ∀ b j, ¬ (b = 172 ∧ ((29 ≤ j ∧ j ≤ 35) ∨ j = 18)) → I' b j = I b j := fun b j z => hF b j (fun y => z (hP b j y))
  obtain ⟨a0, a1, a2, a3, a4, a5, a6, a7, a8, a9⟩ := h
  refine ⟨by rw [hk _ _ (by omega)]; exact a0, by rw [hk _ _ (by omega)]; exact a1, by rw [hk _ _ (by omega)]; exact a2, by rw [hk _ _ (by omega)]; exact a3, by rw [hk _ _ (by omega)]; exact a4, fun e he => REL_go (a5 e he) (WE_3 (hW.2.2.2.2.1 e he)) (fun j _ _ => hk _ _ (by omega)), fun a e ha he => ?_, fun k hk2 => by rw [hk _ _ (by omega)]; exact a7 k hk2, fun k hk2 => by rw [hk _ _ (by omega)]; exact a8 k hk2, fun k hk2 x q hq => by rw [hk _ _ (by omega)]; exact a9 k hk2 x q hq⟩
  rw [hk _ _ (by omega), hk _ _ (by omega), hk _ _ (by omega)]; exact a6 a e ha he
theorem MD_ev {I I' : Nat → Nat → Int32} {V : VT} {E : Nat → Int32} (hW : WV V) (h : MDr I V) (hF : Fx (evP (22 * vE V)) I I') (hR : REL I' 180 (22 * vE V) E) (h13 : I' 172 13 = nI (vE V + 1)) : MDr I' (addEv V E) := by
  have hk : ∀ b j, ¬ evP (22 * vE V) b j → I' b j = I b j := hF
  obtain ⟨a0, a1, a2, a3, a4, a5, a6, a7, a8, a9⟩ := h
  refine ⟨h13, by rw [hk _ _ (fun z => by unfold evP nP at z; omega)]; exact a1, by rw [hk _ _ (fun z => by unfold evP nP at z; omega)]; exact a2, by rw [hk _ _ (fun z => by unfold evP nP at z; omega)]; exact a3, by rw [hk _ _ (fun z => by unfold evP nP at z; omega)]; exact a4, fun e he => ?_, fun a e ha he => ?_, fun k hk2 => by rw [hk _ _ (fun z => by unfold evP nP at z; omega)]; exact a7 k hk2, fun k hk2 => by rw [hk _ _ (fun z => by unfold evP nP at z; omega)]; exact a8 k hk2, fun k hk2 x q hq => by rw [hk _ _ (fun z => by unfold evP nP at z; omega)]; exact a9 k hk2 x q hq⟩
  · have he : e < vE V + 1 := he
    show REL I' 180 (22 * e) (va_up (vev V) (vE V) E e)
    by_cases q : e = vE V
    · rw [q, vu_same]; exact hR
    · rw [vu_ne _ _ q]
      exact REL_go (a5 e (by omega)) (WE_3 (hW.2.2.2.2.1 e (by omega))) (fun j _ _ => hk _ _ (fun z => by unfold evP nP at z; omega))
  · rw [hk _ _ (fun z => by unfold evP nP at z; omega), hk _ _ (fun z => by unfold evP nP at z; omega), hk _ _ (fun z => by unfold evP nP at z; omega)]; exact a6 a e ha he
theorem MD_at {I : Nat → Nat → Int32} {V : VT} (hW : WV V) (h : MDr I V) : MDr (up2 I 172 14 (nI (vA V + 1))) (atV V) := by
  obtain ⟨a0, a1, a2, a3, a4, a5, a6, a7, a8, a9⟩ := h
  refine ⟨by rw [up2_i (by omega)]; exact a0, up2_same _ _ _ _, by rw [up2_i (by omega)]; exact a2, by rw [up2_i (by omega)]; exact a3, by rw [up2_i (by omega)]; exact a4, fun e he => REL_go (a5 e he) (WE_3 (hW.2.2.2.2.1 e he)) (fun j _ _ => up2_i (by omega)), fun a e ha he => ?_, fun k hk2 => by rw [up2_i (by omega)]; exact a7 k hk2, fun k hk2 => by rw [up2_i (by omega)]; exact a8 k hk2, fun k hk2 x q hq => by rw [up2_i (by omega)]; exact a9 k hk2 x q hq⟩
  rw [up2_i (by omega), up2_i (by omega), up2_i (by omega)]
  have := a6 a e ha he
  show _ = (if a < vA V + 1 then va_up (vmk V) (vA V) (fun _ => -1) a e else -1) ∧ _ = (if a < vA V + 1 then va_up (vgo V) (vA V) (fun _ => -1) a e else -1) ∧ _ = (if a < vA V + 1 then va_up (vgi V) (vA V) (fun _ => -1) a e else -1)
  by_cases q : a = vA V
  · rw [if_neg (by omega), if_neg (by omega), if_neg (by omega)] at this
    rw [if_pos (by omega), if_pos (by omega), if_pos (by omega), q, vu_same, vu_same, vu_same, ← q]; exact this
  · rw [vu_ne _ _ q, vu_ne _ _ q, vu_ne _ _ q]
    by_cases c : a < vA V
    · rw [if_pos (by omega), if_pos (by omega), if_pos (by omega)]
      rw [if_pos c, if_pos c, if_pos c] at this; exact this
    · rw [if_neg (by omega), if_neg (by omega), if_neg (by omega)]
      rw [if_neg c, if_neg c, if_neg c] at this; exact this
theorem MD_ti {I : Nat → Nat → Int32} {V : VT} {t : Int32} (hW : WV V) (h : MDr I V) : MDr (up2 I 172 16 t) (tiV V t) := by
  obtain ⟨a0, a1, a2, a3, a4, a5, a6, a7, a8, a9⟩ := h
  refine ⟨by rw [up2_i (by omega)]; exact a0, by rw [up2_i (by omega)]; exact a1, by rw [up2_i (by omega)]; exact a2, up2_same _ _ _ _, by rw [up2_i (by omega)]; exact a4, fun e he => REL_go (a5 e he) (WE_3 (hW.2.2.2.2.1 e he)) (fun j _ _ => up2_i (by omega)), fun a e ha he => ?_, fun k hk2 => by rw [up2_i (by omega)]; exact a7 k hk2, fun k hk2 => by rw [up2_i (by omega)]; exact a8 k hk2, fun k hk2 x q hq => by rw [up2_i (by omega)]; exact a9 k hk2 x q hq⟩
  rw [up2_i (by omega), up2_i (by omega), up2_i (by omega)]
  exact a6 a e ha he
theorem MD_mk {I : Nat → Nat → Int32} {V : VT} {a e : Nat} {m : Int32} (hW : WV V) (ha : a < vA V) (he : e < 10) (h : MDr I V) : MDr (up2 I 184 (10 * a + e) m) (mkV V a e m) := by
  obtain ⟨a0, a1, a2, a3, a4, a5, a6, a7, a8, a9⟩ := h
  refine ⟨by rw [up2_i (by omega)]; exact a0, by rw [up2_i (by omega)]; exact a1, by rw [up2_i (by omega)]; exact a2, by rw [up2_i (by omega)]; exact a3, by rw [up2_i (by omega)]; exact a4, fun e he => REL_go (a5 e he) (WE_3 (hW.2.2.2.2.1 e he)) (fun j _ _ => up2_i (by omega)), fun b j hb hj => ?_, fun k hk2 => by rw [up2_i (by omega)]; exact a7 k hk2, fun k hk2 => by rw [up2_i (by omega)]; exact a8 k hk2, fun k hk2 x q hq => by rw [up2_i (by omega)]; exact a9 k hk2 x q hq⟩
  have z := a6 b j hb hj
  refine ⟨?_, by rw [up2_i (by omega)]; exact z.2.1, by rw [up2_i (by omega)]; exact z.2.2⟩
  show _ = if b < vA V then tw (vmk V) a e m b j else -1
  rw [tw_at]
  by_cases q : b = a ∧ j = e
  · rw [if_pos q, q.1, q.2, up2_same, if_pos ha]
  · rw [if_neg q, up2_i (by omega)]; exact z.1
theorem MD_gn {I : Nat → Nat → Int32} {V : VT} {a e : Nat} {g k : Int32} (hW : WV V) (ha : a < vA V) (he : e < 10) (h : MDr I V) : MDr (up2 (up2 I 185 (10 * a + e) g) 186 (10 * a + e) k) (gnV V a e g k) := by
  obtain ⟨a0, a1, a2, a3, a4, a5, a6, a7, a8, a9⟩ := h
  have hk : ∀ b j, ¬ b = 185 → ¬ b = 186 → up2 (up2 I 185 (10 * a + e) g) 186 (10 * a + e) k b j = I b j := fun b j h1 h2 => by rw [up2_i (by omega), up2_i (by omega)]
  refine ⟨by rw [hk _ _ (by omega) (by omega)]; exact a0, by rw [hk _ _ (by omega) (by omega)]; exact a1, by rw [hk _ _ (by omega) (by omega)]; exact a2, by rw [hk _ _ (by omega) (by omega)]; exact a3, by rw [hk _ _ (by omega) (by omega)]; exact a4, fun e he => REL_go (a5 e he) (WE_3 (hW.2.2.2.2.1 e he)) (fun j _ _ => hk _ _ (by omega) (by omega)), fun b j hb hj => ?_, fun y hy => by rw [hk _ _ (by omega) (by omega)]; exact a7 y hy, fun y hy => by rw [hk _ _ (by omega) (by omega)]; exact a8 y hy, fun y hy x q hq => by rw [hk _ _ (by omega) (by omega)]; exact a9 y hy x q hq⟩
  have z := a6 b j hb hj
  refine ⟨by rw [hk _ _ (by omega) (by omega)]; exact z.1, ?_, ?_⟩
  · show _ = if b < vA V then tw (vgo V) a e g b j else -1
    rw [tw_at, up2_i (by omega)]
    by_cases q : b = a ∧ j = e
    · rw [if_pos q, q.1, q.2, up2_same, if_pos ha]
    · rw [if_neg q, up2_i (by omega)]; exact z.2.1
  · show _ = if b < vA V then tw (vgi V) a e k b j else -1
    rw [tw_at]
    by_cases q : b = a ∧ j = e
    · rw [if_pos q, q.1, q.2, up2_same, if_pos ha]
    · rw [if_neg q, up2_i (by omega), up2_i (by omega)]; exact z.2.2
theorem MD_bn {I I2 : Nat → Nat → Int32} {V : VT} {a : Nat} {o : OPS} (hW : WV V) (h : MDr I V) (hF : Fx (fun b j => xP b j ∨ (b = 181 ∧ j = vB V)) I I2) (h181 : I2 181 (vB V) = nI a) (hC : CDM I I2 (off (vts V) (vB V)) o) : MDr (up2 (up2 I2 172 15 (nI (vB V + 1))) 182 (vB V + 1) (I2 172 17)) (addBn V a o) := by
  obtain ⟨a0, a1, a2, a3, a4, a5, a6, a7, a8, a9⟩ := h
  have hX : ∀ b j, ¬ (b = 172 ∧ j = 15) → ¬ (b = 182 ∧ j = vB V + 1) → up2 (up2 I2 172 15 (nI (vB V + 1))) 182 (vB V + 1) (I2 172 17) b j = I2 b j := fun b j h1 h2 => by rw [up2_i h2, up2_i h1]
  have hY : ∀ b j, ¬ xP b j → ¬ (b = 181 ∧ j = vB V) → I2 b j = I b j := fun b j h1 h2 => hF b j (fun z => z.elim h1 h2)
  have xn : ∀ {b j : Nat}, ¬ b = 172 → ¬ b = 183 → ¬ xP b j := fun h1 h2 z => by unfold xP at z; omega
  have hoff : ∀ k, k ≤ vB V → off (va_up (vts V) (vB V) o) k = off (vts V) k := fun k hk => off_congr (fun j hj => vu_ne _ _ (by omega))
  refine ⟨?_, ?_, ?_, ?_, ?_, fun e he => ?_, fun b e hb he => ?_, fun k hk => ?_, fun k hk => ?_, fun k hk x q hq => ?_⟩
  · rw [hX _ _ (by omega) (by omega), hY _ _ (fun z => by unfold xP at z; omega) (by omega)]; exact a0
  · rw [hX _ _ (by omega) (by omega), hY _ _ (fun z => by unfold xP at z; omega) (by omega)]; exact a1
  · rw [up2_i (by omega), up2_same]; rfl
  · rw [hX _ _ (by omega) (by omega), hY _ _ (fun z => by unfold xP at z; omega) (by omega)]; exact a3
  · rw [hX _ _ (by omega) (by omega), hC.1]
    show _ = nI (off (va_up (vts V) (vB V) o) (vB V) + (va_up (vts V) (vB V) o (vB V)).length)
    rw [hoff _ (Nat.le_refl _), vu_same]
  · exact REL_go (a5 e he) (WE_3 (hW.2.2.2.2.1 e he)) (fun j _ _ => by rw [hX _ _ (by omega) (by omega), hY _ _ (xn (by omega) (by omega)) (by omega)])
  · rw [hX _ _ (by omega) (by omega), hX _ _ (by omega) (by omega), hX _ _ (by omega) (by omega), hY _ _ (xn (by omega) (by omega)) (by omega), hY _ _ (xn (by omega) (by omega)) (by omega), hY _ _ (xn (by omega) (by omega)) (by omega)]
    exact a6 b e hb he
  · have hk : k < vB V + 1 := hk
    show _ = va_up (vbn V) (vB V) (nI a) k
    rw [hX _ _ (by omega) (by omega)]
    by_cases q : k = vB V
    · rw [q, vu_same]; exact h181
    · rw [vu_ne _ _ q, hY _ _ (xn (by omega) (by omega)) (by omega)]; exact a7 k (by omega)
  · have hk : k ≤ vB V + 1 := hk
    show _ = nI (off (va_up (vts V) (vB V) o) k)
    by_cases q : k = vB V + 1
    · rw [q, up2_same, hC.1, off, hoff _ (Nat.le_refl _), vu_same]
    · rw [hoff k (by omega), hX _ _ (by omega) (by omega), hY _ _ (xn (by omega) (by omega)) (by omega)]; exact a8 k (by omega)
  · have hk : k < vB V + 1 := hk
    have hq : (va_up (vts V) (vB V) o k)[x]? = some q := hq
    show up2 _ _ _ _ 183 (off (va_up (vts V) (vB V) o) k + x) = encM q
    rw [hoff k (by omega), hX _ _ (by omega) (by omega)]
    by_cases z : k = vB V
    · rw [z, vu_same] at hq
      rw [z]
      exact hC.2.1 x q hq
    · rw [vu_ne _ _ z] at hq
      have hx : x < (vts V k).length := (List.getElem?_eq_some_iff.mp hq).1
      have hm := off_mono (vts V) (j := k + 1) (k := vB V) (by omega)
      rw [off] at hm
      rw [hC.2.2 _ (by omega)]
      exact a9 k (by omega) x q hq
def lmO (f : Nat → Int32) (n : Nat) (x : LST) (I' : Nat → Nat → Int32) : Prop := MS I' f n x.2 ∧ MDr I' x.1.1 ∧ I' 172 18 = b2 (x.1.2 = true)
def LMx (I : Nat → Nat → Int32) (f : Nat → Int32) (n N : Nat) (V : VT) (tt : Bool) (i : Nat) : Prop := MS I f n i ∧ I 172 34 = nI 0 ∧ MDr I V ∧ I 172 18 = b2 (tt = true) ∧ LI V i ∧ i < N
theorem nPM (b j : Nat) (h : nP b j) : b = 172 ∧ ((29 ≤ j ∧ j ≤ 35) ∨ j = 18) := by unfold nP at h; omega
theorem aPM (b j : Nat) (h : aP b j) : b = 172 ∧ ((29 ≤ j ∧ j ≤ 35) ∨ j = 18) := by unfold aP at h; omega
theorem n18 {I I' : Nat → Nat → Int32} (hF : Fx nP I I') : I' 172 18 = I 172 18 := hF _ _ (fun z => by unfold nP at z; omega)
