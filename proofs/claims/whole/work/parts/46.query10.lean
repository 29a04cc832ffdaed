/-! need: p POINTS wherever there is no MARK -/
def opn (V : VT) (a e : Nat) : Bool := decide (vmk V a e = -1)
def mnI (x y : Int32) : Int32 := if y < x then y else x
def mnO (V : VT) (a : Nat) : Nat → Int32
  | 0 => nI 2000
  | n + 1 => if vmk V a n = -1 then mnI (mnO V a n) (topS (vev V n)) else mnO V a n
def opP (V : VT) (a : Nat) (v : Int32) (e : Nat) : Int32 := if vmk V a e = -1 then v else ptM V (vmk V) a e
def opG (V : VT) (a : Nat) (e : Nat) : Bool := if vmk V a e = -1 then true else gM (vmk V) a e
def ndF (V : VT) (a : Nat) (n : Int32) (k : Nat) : Bool := decide (n ≤ sumN (opP V a (nI k)) (vE V) + paidS V (opP V a (nI k)) (opG V a))
def mstO (V : VT) (a : Nat) : Int32 := if cnt (opn V a) (vE V) = 0 then nI 0 else mnO V a (vE V)
theorem mnO_rng {V : VT} (hV : WV V) (a : Nat) : ∀ {n : Nat}, n ≤ vE V → 0 ≤ (mnO V a n).toInt ∧ (mnO V a n).toInt ≤ 2000
  | 0, _ => by rw [mnO]; exact ⟨by decide, by decide⟩
  | n + 1, h => by
    have ih := mnO_rng hV a (n := n) (by omega)
    have ht := pts_rng (hV.2.2.2.2.1 n (by omega)) (mkBy (vev V n) 99999)
    rw [mnO]
    by_cases c : vmk V a n = -1
    · rw [if_pos c]
      unfold mnI
      by_cases q : topS (vev V n) < mnO V a n
      · rw [if_pos q]; exact ht
      · rw [if_neg q]; exact ih
    · rw [if_neg c]; exact ih
theorem mnO_no {V : VT} {a : Nat} : ∀ {n : Nat}, cnt (opn V a) n = 0 → mnO V a n = nI 2000
  | 0, _ => rfl
  | n + 1, h => by
    rw [cnt] at h
    have h1 : cnt (opn V a) n = 0 := by omega
    have h2 : ¬ vmk V a n = -1 := fun z => by
      have : opn V a n = true := by simp [opn, z]
      rw [if_pos this] at h; omega
    rw [mnO, if_neg h2]; exact mnO_no h1
theorem op_pz {V : VT} (hV : WV V) {a : Nat} (ha : a < vA V) {v : Int32} (hv : 0 ≤ v.toInt ∧ v.toInt ≤ 2000) : pz (opP V a v) (opG V a) (vE V) := fun j hj => by
  unfold opP opG
  by_cases c : vmk V a j = -1
  · rw [if_pos c, if_pos c]; exact ⟨hv, fun z => absurd z (by decide)⟩
  · rw [if_neg c, if_neg c]; exact pza_M hV (vmk V) a ha j hj
theorem cnt_none {V : VT} {a e n : Nat} (h : cnt (opn V a) n = 0) (he : e < n) : ¬ vmk V a e = -1 := fun z => by
  have := cnt_pos (f := opn V a) he (by simp [opn, z])
  omega
/-- none open: each p is like the first -/
theorem nd_const {V : VT} {a : Nat} {n : Int32} (h : cnt (opn V a) (vE V) = 0) (k : Nat) : ndF V a n k = ndF V a n 0 := by
  unfold ndF
  have e1 : ∀ v : Int32, sumN (opP V a v) (vE V) = sumN (ptM V (vmk V) a) (vE V) := fun v => sumN_congr (fun j hj => by unfold opP; rw [if_neg (cnt_none h hj)])
  have e2 : ∀ v : Int32, paidS V (opP V a v) (opG V a) = paidS V (ptM V (vmk V) a) (gM (vmk V) a) := fun v => paid_congr (fun j hj => ⟨by unfold opP; rw [if_neg (cnt_none h hj)], by unfold opG; rw [if_neg (cnt_none h hj)]⟩)
  rw [e1, e2, e1, e2]
theorem fst1_const {f : Nat → Bool} : ∀ {m i : Nat}, (∀ k, f k = f 0) → ¬ f 0 = true → fst1 f m i = -1
  | 0, _, _, _ => rfl
  | m + 1, i, h, h0 => by rw [fst1, if_neg (by rw [h i]; exact h0), fst1_const h h0]
theorem nd_more {V : VT} {a : Nat} {n : Int32} (h : cnt (opn V a) (vE V) = 0) : fst1 (ndF V a n) 2001 0 = fst1 (ndF V a n) 1 0 := by
  by_cases c : ndF V a n 0 = true
  · rw [show (2001 : Nat) = 2000 + 1 from rfl, fst1, if_pos c, show (1 : Nat) = 0 + 1 from rfl, fst1, if_pos c]
  · rw [fst1_const (fun k => nd_const h k) c, fst1_const (fun k => nd_const h k) c]
