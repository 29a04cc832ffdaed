/-! how class and model hold a view -/
def off (t : Nat → OPS) : Nat → Nat
  | 0 => 0
  | k + 1 => off t k + (t k).length
theorem off_mono (t : Nat → OPS) {j : Nat} : ∀ {k : Nat}, j ≤ k → off t j ≤ off t k
  | 0, h => by rw [show j = 0 by omega]; exact Nat.le_refl _
  | k + 1, h => by
    by_cases e : j = k + 1
    · rw [e]; exact Nat.le_refl _
    · have := off_mono t (j := j) (k := k) (by omega)
      rw [off]; omega
theorem off_congr {t u : Nat → OPS} : ∀ {k : Nat}, (∀ j, j < k → t j = u j) → off t k = off u k
  | 0, _ => rfl
  | k + 1, h => by rw [off, off, off_congr (fun j hj => h j (by omega)), h k (by omega)]
def cop (op : Nat) : Nat := if op = 11 then 13 else if op = 12 then 11 else if op = 13 then 12 else op
def encC (q : Nat × Int32) : Int32 := nI (cop q.1) * 100000 + q.2
def encM (q : Nat × Int32) : Int32 := nI q.1 + nI 16 * q.2
def WO (n : Nat) (q : Nat × Int32) : Prop := q.1 ≤ 13 ∧ 0 ≤ q.2.toInt ∧ q.2.toInt ≤ 99999 ∧ (q.1 = 1 → q.2.toInt < n)
def okG (g h : Int32) : Prop := (g = -1 ∧ h = -1) ∨ ((0 ≤ g.toInt ∧ g.toInt ≤ 99999) ∧ (1 ≤ h.toInt ∧ h.toInt ≤ 999))
def WV (V : VT) : Prop := vE V ≤ 10 ∧ vA V ≤ 8 ∧ vB V ≤ 4 ∧ (vt V = 0 ∨ vt V = 1 ∨ vt V = 2) ∧ (∀ e, e < vE V → WE (vev V e)) ∧ (∀ a e, a < vA V → e < 10 → okM (vmk V a e) ∧ okG (vgo V a e) (vgi V a e)) ∧
  (∀ k, k < vB V → (1 ≤ (vbn V k).toInt ∧ (vbn V k).toInt ≤ 500) ∧ (∀ q ∈ vts V k, WO (vE V) q) ∧ ckS (vts V k) [] = some [true]) ∧ off (vts V) (vB V) ≤ 1200
/-- the class' contest at the cell c -/
def CT (I : Nat → Nat → Int32) (c : Nat) (V : VT) : Prop :=
  I c 5 = nI (vE V) ∧ I c 6 = nI (vA V) ∧ I c 7 = vt V ∧ I (c + 5) 1 = nI (vB V) ∧ (∀ e, e < vE V → TR I (c + 10 + 3 * e) (vev V e)) ∧
  (∀ a e, a < vA V → e < 10 → I (c + 2) (a * 10 + e) = vmk V a e ∧ I (c + 3) (a * 10 + e) = vgo V a e ∧ I (c + 4) (a * 10 + e) = vgi V a e) ∧
  (∀ k, k < vB V → I (c + 6) k = vbn V k) ∧ (∀ k, k ≤ vB V → I (c + 7) k = nI (off (vts V) k)) ∧
  (∀ k, k < vB V → ∀ i q, (vts V k)[i]? = some q → I (c + 8) (off (vts V) k + i) = encC q) ∧ I (c + 5) 4 = nI (off (vts V) (vB V)) ∧ I (c + 5) 5 = sumN (vbn V) (vB V)
/-- the model's -/
def MT (I : Nat → Nat → Int32) (V : VT) : Prop :=
  I 172 2 = nI (vE V) ∧ I 172 3 = nI (vA V) ∧ I 172 5 = vt V ∧ I 172 4 = nI (vB V) ∧ (∀ e, e < vE V → mE I e = vev V e) ∧
  (∀ a e, a < vA V → e < 10 → I 177 (10 * a + e) = vmk V a e ∧ I 178 (10 * a + e) = vgo V a e ∧ I 179 (10 * a + e) = vgi V a e) ∧
  (∀ k, k < vB V → I 174 k = vbn V k) ∧ (∀ k, k ≤ vB V → I 175 k = nI (off (vts V) k)) ∧
  (∀ k, k < vB V → ∀ i q, (vts V k)[i]? = some q → I 176 (off (vts V) k + i) = encM q)
/-- what the class works in: the piles of both contests, Score, Standings, Shares -/
def scr (a k : Nat) : Prop := ((a = 15 ∨ a = 60) ∧ k = 7) ∨ a = 19 ∨ a = 64 ∨ (95 ≤ a ∧ a ≤ 171)
/-- a change in that alone -/
def FrS (I I' : Nat → Nat → Int32) : Prop := ∀ a k, ¬ scr a k → I' a k = I a k
theorem FrS.rf (I : Nat → Nat → Int32) : FrS I I := fun _ _ _ => rfl
theorem FrS.tr {I I' I'' : Nat → Nat → Int32} (h : FrS I I') (h' : FrS I' I'') : FrS I I'' := fun a k hk => (h' a k hk).trans (h a k hk)
theorem FrS.up {I : Nat → Nat → Int32} {a k : Nat} {v : Int32} (h : scr a k) : FrS I (up2 I a k v) := fun b j hj => by
  by_cases e : b = a ∧ j = k
  · obtain ⟨rfl, rfl⟩ := e
    exact absurd h hj
  · by_cases hb : b = a
    · subst hb
      exact up2_nj I v (fun q => e ⟨rfl, q⟩)
    · rw [up2_ne I v hb]
theorem FrS.put {I I' : Nat → Nat → Int32} {a k : Nat} {v : Int32} (h : FrS I I') (hs : scr a k) : FrS I (up2 I' a k v) := h.tr (FrS.up hs)
theorem scr_b {c : Nat} (h : isC c) : scr (c + 5) 7 := by rcases h with rfl | rfl <;> simp [scr]
theorem scr_s {c : Nat} (h : isC c) (k : Nat) : scr (c + 9) k := by rcases h with rfl | rfl <;> simp [scr]
theorem nscr {a k : Nat} (h : ¬ scr a k) : True := trivial
theorem TR_of {I I' : Nat → Nat → Int32} {t : Nat} {E : Nat → Int32} (h : TR I t E) (h0 : ∀ k, I' t k = I t k) (h1 : ∀ k, I' (t + 1) k = I (t + 1) k) (h2 : ∀ k, I' (t + 2) k = I (t + 2) k) : TR I' t E := by
  obtain ⟨a0, a1, a2, a3, a4, a5⟩ := h
  refine ⟨by rw [h0]; exact a0, by rw [h0]; exact a1, by rw [h0]; exact a2, by rw [h0]; exact a3, fun q => ?_, fun q => ?_⟩
  · obtain ⟨b0, b1⟩ := a4 q
    exact ⟨by rw [h0]; exact b0, fun k hk => ⟨by rw [h1]; exact (b1 k hk).1, by rw [h2]; exact (b1 k hk).2⟩⟩
  · rw [h0, h0]; exact a5 q
/-- the contest is the same where its cells are -/
theorem CT_of {I I' : Nat → Nat → Int32} {c : Nat} {V : VT} (h : CT I c V) (h0 : ∀ j k, j < 40 → ¬ j = 9 → ¬ (j = 5 ∧ k = 7) → I' (c + j) k = I (c + j) k) (hE : vE V ≤ 10) : CT I' c V := by
  obtain ⟨a0, a1, a2, a3, a4, a5, a6, a7, a8, a9, a10⟩ := h
  refine ⟨?_, ?_, ?_, ?_, fun e he => ?_, fun a e ha he => ?_, fun k hk => ?_, fun k hk => ?_, fun k hk i q hq => ?_, ?_, ?_⟩
  · have := h0 0 5 (by omega) (by omega) (by omega); rw [Nat.add_zero] at this; rw [this]; exact a0
  · have := h0 0 6 (by omega) (by omega) (by omega); rw [Nat.add_zero] at this; rw [this]; exact a1
  · have := h0 0 7 (by omega) (by omega) (by omega); rw [Nat.add_zero] at this; rw [this]; exact a2
  · rw [h0 5 1 (by omega) (by omega) (by omega)]; exact a3
  · refine TR_of (a4 e he) (fun k => ?_) (fun k => ?_) (fun k => ?_)
    · have := h0 (10 + 3 * e) k (by omega) (by omega) (by omega); rw [← Nat.add_assoc] at this; exact this
    · have := h0 (10 + 3 * e + 1) k (by omega) (by omega) (by omega); rw [← Nat.add_assoc, ← Nat.add_assoc] at this; exact this
    · have := h0 (10 + 3 * e + 2) k (by omega) (by omega) (by omega); rw [← Nat.add_assoc, ← Nat.add_assoc] at this; exact this
  · rw [h0 2 _ (by omega) (by omega) (by omega), h0 3 _ (by omega) (by omega) (by omega), h0 4 _ (by omega) (by omega) (by omega)]; exact a5 a e ha he
  · rw [h0 6 _ (by omega) (by omega) (by omega)]; exact a6 k hk
  · rw [h0 7 _ (by omega) (by omega) (by omega)]; exact a7 k hk
  · rw [h0 8 _ (by omega) (by omega) (by omega)]; exact a8 k hk i q hq
  · rw [h0 5 4 (by omega) (by omega) (by omega)]; exact a9
  · rw [h0 5 5 (by omega) (by omega) (by omega)]; exact a10
theorem CT_fr {I I' : Nat → Nat → Int32} {c : Nat} {V : VT} (hc : isC c) (h : CT I c V) (hf : FrS I I') (hE : vE V ≤ 10) : CT I' c V :=
  CT_of h (fun j k h1 h2 h3 => hf _ _ (fun z => by
    unfold scr at z
    rcases hc with rfl | rfl <;> omega)) hE
/-- what the model works in -/
def FrM (I I' : Nat → Nat → Int32) : Prop := ∀ a k, ¬ (188 ≤ a ∧ a ≤ 194) → I' a k = I a k
theorem FrM.rf (I : Nat → Nat → Int32) : FrM I I := fun _ _ _ => rfl
theorem FrM.tr {I I' I'' : Nat → Nat → Int32} (h : FrM I I') (h' : FrM I' I'') : FrM I I'' := fun a k hk => (h' a k hk).trans (h a k hk)
theorem FrM.put {I I' : Nat → Nat → Int32} {a k : Nat} {v : Int32} (h : FrM I I') (hs : 188 ≤ a ∧ a ≤ 194) : FrM I (up2 I' a k v) := fun b j hj => by
  rw [up2_ne I' v (fun e => hj (by rw [e]; exact hs))]
  exact h b j hj
theorem mE_fr {I I' : Nat → Nat → Int32} (hf : FrM I I') (e : Nat) : mE I' e = mE I e := by
  funext k
  exact hf 173 _ (by omega)
theorem MT_fr {I I' : Nat → Nat → Int32} {V : VT} (h : MT I V) (hf : FrM I I') : MT I' V := by
  obtain ⟨a0, a1, a2, a3, a4, a5, a6, a7, a8⟩ := h
  refine ⟨by rw [hf _ _ (by omega)]; exact a0, by rw [hf _ _ (by omega)]; exact a1, by rw [hf _ _ (by omega)]; exact a2, by rw [hf _ _ (by omega)]; exact a3, fun e he => by rw [mE_fr hf]; exact a4 e he, fun a e ha he => ?_, fun k hk => by rw [hf _ _ (by omega)]; exact a6 k hk, fun k hk => by rw [hf _ _ (by omega)]; exact a7 k hk, fun k hk i q hq => by rw [hf _ _ (by omega)]; exact a8 k hk i q hq⟩
  rw [hf _ _ (by omega), hf _ _ (by omega), hf _ _ (by omega)]; exact a5 a e ha he
