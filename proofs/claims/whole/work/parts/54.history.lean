/-! HISTORY: snapshots (how many ATHLETES, tie, MARKS, gains) -/
abbrev SN : Type := (Nat × Int32) × (Nat → Nat → Int32) × (Nat → Nat → Int32) × (Nat → Nat → Int32)
def snV (V : VT) : SN := ((vA V, vt V), vmk V, vgo V, vgi V)
def setV (V : VT) (s : SN) : VT := ((vE V, s.1.1, vB V, s.1.2), vev V, s.2.1, s.2.2.1, s.2.2.2, vbn V, vts V)
theorem setV_snV (V : VT) : setV V (snV V) = V := rfl
theorem setV_setV (V : VT) (s t : SN) : setV (setV V s) t = setV V t := rfl
theorem snV_setV (V : VT) (s : SN) : snV (setV V s) = s := rfl
def agr (n : Nat) (f g : Nat → Nat → Int32) : Prop := ∀ a e, a < n → e < 10 → f a e = g a e
theorem agr.rf (n : Nat) (f : Nat → Nat → Int32) : agr n f f := fun _ _ _ _ => rfl
/-- an entry leads from the view V back to the snapshot s -/
def und (x1 x2 x3 x4 : Int32) (V : VT) (s : SN) : Prop :=
  (x1 = nI 0 ∧ s.1.1 = vA V ∧ s.1.2 = vt V ∧ (∃ a e, a < vA V ∧ e < 10 ∧ x2 = nI (a * 10 + e) ∧ agr (vA V) s.2.1 (tw (vmk V) a e x3)) ∧ agr (vA V) s.2.2.1 (vgo V) ∧ agr (vA V) s.2.2.2 (vgi V)) ∨
  (x1 = nI 1 ∧ s.1.1 + 1 = vA V ∧ s.1.2 = vt V ∧ agr s.1.1 s.2.1 (vmk V) ∧ agr s.1.1 s.2.2.1 (vgo V) ∧ agr s.1.1 s.2.2.2 (vgi V)) ∨
  (x1 = nI 2 ∧ s.1.1 = vA V ∧ s.1.2 = vt V ∧ agr (vA V) s.2.1 (vmk V) ∧ (∃ a e, a < vA V ∧ e < 10 ∧ x2 = nI (a * 10 + e) ∧ agr (vA V) s.2.2.1 (tw (vgo V) a e x3) ∧ agr (vA V) s.2.2.2 (tw (vgi V) a e x4))) ∨
  (x1 = nI 3 ∧ s.1.1 = vA V ∧ s.1.2 = x3 ∧ agr (vA V) s.2.1 (vmk V) ∧ agr (vA V) s.2.2.1 (vgo V) ∧ agr (vA V) s.2.2.2 (vgi V))
def nxt (V : VT) (n : Nat) (h : Nat → SN) (i : Nat) : SN := if i < n then h i else snV V
def HC (I : Nat → Nat → Int32) (V : VT) (n : Nat) (h : Nat → SN) : Prop := I 50 4 = nI n ∧ ∀ i, i < n → und (I 51 i) (I 52 i) (I 53 i) (I 54 i) (setV V (nxt V n h (i + 1))) (h i)
def HMo (I : Nat → Nat → Int32) (n : Nat) (h : Nat → SN) : Prop := I 172 44 = nI n ∧ ∀ i, i < n → I 195 (242 * i) = nI (h i).1.1 ∧ I 195 (242 * i + 1) = (h i).1.2 ∧ ∀ a e, a < (h i).1.1 → e < 10 → I 195 (242 * i + 2 + 3 * (10 * a + e)) = (h i).2.1 a e ∧ I 195 (242 * i + 3 + 3 * (10 * a + e)) = (h i).2.2.1 a e ∧ I 195 (242 * i + 4 + 3 * (10 * a + e)) = (h i).2.2.2 a e
def WH (V : VT) (n : Nat) (h : Nat → SN) : Prop := n ≤ 10 ∧ ∀ i, i < n → WV (setV V (h i))
/-- one more snapshot -/
def hpush (V : VT) (n : Nat) (h : Nat → SN) (i : Nat) : SN := if i < cut n then h (sft n i) else snV V
theorem sft_lt {n i : Nat} (h : i < cut n) : sft n i < n := by
  unfold cut at h; unfold sft
  by_cases c : n = 10
  · rw [if_pos c] at h ⊢; omega
  · rw [if_neg c] at h ⊢; exact h
theorem sft_s (n i : Nat) : sft n (i + 1) = sft n i + 1 := by unfold sft; by_cases c : n = 10 <;> simp [c]
theorem sft_cut {n i : Nat} (hn : n ≤ 10) : i < cut n ↔ sft n i < n := by
  unfold cut sft
  by_cases c : n = 10
  · rw [if_pos c, if_pos c]; omega
  · rw [if_neg c, if_neg c]
theorem note_HC {I I' : Nat → Nat → Int32} {V V' : VT} {n : Nat} {h : Nat → SN} {x1 x2 x3 x4 : Int32} (hn : n ≤ 10) (hV : ∃ s, V' = setV V s) (hC : HC I V n h) (hu : und x1 x2 x3 x4 V' (snV V)) (k0 : I' 50 4 = nI (cut n + 1)) (k1 : ∀ t i, 51 ≤ t → t ≤ 54 → i < cut n → I' t i = I t (sft n i)) (k2 : I' 51 (cut n) = x1 ∧ I' 52 (cut n) = x2 ∧ I' 53 (cut n) = x3 ∧ I' 54 (cut n) = x4) : HC I' V' (cut n + 1) (hpush V n h) := by
  obtain ⟨s, rfl⟩ := hV
  refine ⟨k0, fun i hi => ?_⟩
  by_cases q : i < cut n
  · have hs := sft_lt q
    have := hC.2 (sft n i) hs
    rw [k1 51 i (by omega) (by omega) q, k1 52 i (by omega) (by omega) q, k1 53 i (by omega) (by omega) q, k1 54 i (by omega) (by omega) q]
    have e1 : nxt (setV V s) (cut n + 1) (hpush V n h) (i + 1) = nxt V n h (sft n i + 1) := by
      unfold nxt
      rw [if_pos (by omega)]
      unfold hpush
      by_cases z : i + 1 < cut n
      · rw [if_pos z, sft_s, if_pos (by rw [← sft_s]; exact sft_lt z)]
      · rw [if_neg z, if_neg (fun y => z ((sft_cut hn).mpr (by rw [sft_s]; exact y)))]
    have e2 : hpush V n h i = h (sft n i) := if_pos q
    rw [e1, e2, setV_setV]
    exact this
  · have hi2 : i = cut n := by omega
    subst hi2
    have e1 : nxt (setV V s) (cut n + 1) (hpush V n h) (cut n + 1) = snV (setV V s) := if_neg (by omega)
    have e2 : hpush V n h (cut n) = snV V := if_neg (by omega)
    rw [k2.1, k2.2.1, k2.2.2.1, k2.2.2.2, e1, e2, setV_snV]
    exact hu
theorem HC_fr {I I' : Nat → Nat → Int32} {V : VT} {n : Nat} {h : Nat → SN} (hC : HC I V n h) (hf : ∀ b j, 50 ≤ b → b ≤ 54 → I' b j = I b j) : HC I' V n h :=
  ⟨by rw [hf _ _ (by omega) (by omega)]; exact hC.1, fun i hi => by rw [hf _ _ (by omega) (by omega), hf _ _ (by omega) (by omega), hf _ _ (by omega) (by omega), hf _ _ (by omega) (by omega)]; exact hC.2 i hi⟩
theorem keeps_HM {I I' : Nat → Nat → Int32} {V : VT} {n : Nat} {h : Nat → SN} (hn : n ≤ 10) (hV : WV V) (hM : MT I V) (hH : HMo I n h) (hW : WH V n h) (k0 : I' 172 44 = nI (cut n + 1)) (k1 : ∀ i x, i < cut n → x < 242 → I' 195 (242 * i + x) = I 195 (242 * sft n i + x)) (k2 : I' 195 (242 * cut n) = I 172 3 ∧ I' 195 (242 * cut n + 1) = I 172 5) (k3 : ∀ j, j < 80 → I' 195 (242 * cut n + 2 + 3 * j) = I 177 j ∧ I' 195 (242 * cut n + 3 + 3 * j) = I 178 j ∧ I' 195 (242 * cut n + 4 + 3 * j) = I 179 j) : HMo I' (cut n + 1) (hpush V n h) := by
  refine ⟨k0, fun i hi => ?_⟩
  by_cases q : i < cut n
  · have hs := sft_lt q
    have e2 : hpush V n h i = h (sft n i) := if_pos q
    obtain ⟨z1, z2, z3⟩ := hH.2 (sft n i) hs
    have hA := (hW.2 (sft n i) hs).2.1
    have hA : (h (sft n i)).1.1 ≤ 8 := hA
    rw [e2]
    refine ⟨by rw [show 242 * i = 242 * i + 0 from rfl, k1 i 0 q (by omega)]; exact z1, by rw [k1 i 1 q (by omega)]; exact z2, fun a e ha he => ?_⟩
    rw [show 242 * i + 2 + 3 * (10 * a + e) = 242 * i + (2 + 3 * (10 * a + e)) by omega, show 242 * i + 3 + 3 * (10 * a + e) = 242 * i + (3 + 3 * (10 * a + e)) by omega, show 242 * i + 4 + 3 * (10 * a + e) = 242 * i + (4 + 3 * (10 * a + e)) by omega, k1 i _ q (by omega), k1 i _ q (by omega), k1 i _ q (by omega)]
    have := z3 a e ha he
    rw [show 242 * sft n i + 2 + 3 * (10 * a + e) = 242 * sft n i + (2 + 3 * (10 * a + e)) by omega, show 242 * sft n i + 3 + 3 * (10 * a + e) = 242 * sft n i + (3 + 3 * (10 * a + e)) by omega, show 242 * sft n i + 4 + 3 * (10 * a + e) = 242 * sft n i + (4 + 3 * (10 * a + e)) by omega] at this
    exact this
  · have hi2 : i = cut n := by omega
    subst hi2
    have e2 : hpush V n h (cut n) = snV V := if_neg (by omega)
    have hA := hV.2.1
    rw [e2]
    refine ⟨k2.1.trans hM.2.1, k2.2.trans hM.2.2.1, fun a e ha he => ?_⟩
    have ha : a < vA V := ha
    have := k3 (10 * a + e) (by omega)
    have hm := hM.2.2.2.2.2.1 a e ha he
    exact ⟨this.1.trans hm.1, this.2.1.trans hm.2.1, this.2.2.trans hm.2.2⟩
theorem push_WH {V V' : VT} {n : Nat} {h : Nat → SN} (hV : WV V) (hs : ∃ s, V' = setV V s) (hW : WH V n h) : WH V' (cut n + 1) (hpush V n h) := by
  obtain ⟨s, rfl⟩ := hs
  refine ⟨by have := cut_le hW.1; omega, fun i hi => ?_⟩
  rw [setV_setV]
  unfold hpush
  by_cases q : i < cut n
  · rw [if_pos q]; exact hW.2 _ (sft_lt q)
  · rw [if_neg q, setV_snV]; exact hV
