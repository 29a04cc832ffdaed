/-! every place has its ATHLETE -/
theorem surj_of : ∀ {n : Nat} {f : Nat → Nat}, (∀ i, i < n → f i < n) → (∀ i j, i < n → j < n → f i = f j → i = j) → ∀ k, k < n → ∃ i, i < n ∧ f i = k
  | 0, _, _, _, k, hk => absurd hk (by omega)
  | n + 1, f, hb, hi, k, hk => by
    have hm := hb n (by omega)
    have ih := surj_of (n := n) (f := fun i => if f i = n then f n else f i) (fun i h => by
      show (if f i = n then f n else f i) < n
      by_cases c : f i = n
      · rw [if_pos c]
        have : ¬ f n = n := fun z => by have := hi i n (by omega) (by omega) (by omega); omega
        omega
      · rw [if_neg c]; have := hb i (by omega); omega) (fun i j h1 h2 e => by
      have e : (if f i = n then f n else f i) = (if f j = n then f n else f j) := e
      by_cases c : f i = n
      · by_cases d : f j = n
        · exact hi i j (by omega) (by omega) (by omega)
        · rw [if_pos c, if_neg d] at e; have := hi j n (by omega) (by omega) (by omega); omega
      · by_cases d : f j = n
        · rw [if_neg c, if_pos d] at e; have := hi i n (by omega) (by omega) (by omega); omega
        · rw [if_neg c, if_neg d] at e; exact hi i j (by omega) (by omega) e)
    by_cases c1 : k = f n
    · exact ⟨n, by omega, c1.symm⟩
    · by_cases c2 : k = n
      · obtain ⟨i, h1, h2⟩ := ih (f n) (by omega)
        have h2 : (if f i = n then f n else f i) = f n := h2
        by_cases c : f i = n
        · exact ⟨i, by omega, by omega⟩
        · rw [if_neg c] at h2; have := hi i n (by omega) (by omega) h2; omega
      · obtain ⟨i, h1, h2⟩ := ih k (by omega)
        have h2 : (if f i = n then f n else f i) = k := h2
        by_cases c : f i = n
        · rw [if_pos c] at h2; omega
        · rw [if_neg c] at h2; exact ⟨i, by omega, h2⟩
def kzS (V : VT) (P : Nat → Nat → Int32) (g : Nat → Nat → Bool) (a : Nat) : Int := if vt V = 1 then (bestN (P a) (g a) (vE V)).toInt else if vt V = 2 then (winsS P (vA V) (vE V) a : Int) else 0
theorem ah_iff {V : VT} {P : Nat → Nat → Int32} {g : Nat → Nat → Bool} {a b : Nat} : ahS V P g a b = true ↔ (totS V P g b).toInt < (totS V P g a).toInt ∨ ((totS V P g a).toInt = (totS V P g b).toInt ∧ (kzS V P g b < kzS V P g a ∨ (kzS V P g a = kzS V P g b ∧ a < b))) := by
  unfold ahS kzS
  by_cases c : totS V P g a = totS V P g b
  · have c2 : (totS V P g a).toInt = (totS V P g b).toInt := by rw [c]
    rw [if_neg (fun z => z c)]
    by_cases t1 : vt V = 1
    · have t2 : ¬ vt V = 2 := fun z => by rw [t1] at z; exact absurd z (by decide)
      rw [if_pos t1, if_pos t1]
      by_cases d : bestN (P a) (g a) (vE V) = bestN (P b) (g b) (vE V)
      · rw [if_neg (fun z => z.2 d), if_neg (fun z => t2 z.1), decide_eq_true_eq, d]; omega
      · have d2 : ¬ (bestN (P a) (g a) (vE V)).toInt = (bestN (P b) (g b) (vE V)).toInt := fun z => d (i_eq.mpr z)
        rw [if_pos ⟨t1, d⟩, decide_eq_true_eq, i_lt]; omega
    · rw [if_neg t1, if_neg t1, if_neg (fun z => t1 z.1)]
      by_cases t2 : vt V = 2
      · rw [if_pos t2, if_pos t2]
        by_cases d : winsS P (vA V) (vE V) a = winsS P (vA V) (vE V) b
        · rw [if_neg (fun z => z.2 d), decide_eq_true_eq, d]; omega
        · rw [if_pos ⟨t2, d⟩, decide_eq_true_eq]; omega
      · rw [if_neg t2, if_neg t2, if_neg (fun z => t2 z.1), decide_eq_true_eq]; omega
  · have c2 : ¬ (totS V P g a).toInt = (totS V P g b).toInt := fun z => c (i_eq.mpr z)
    rw [if_pos c, decide_eq_true_eq, i_lt]; omega
theorem cnt_mono {f g : Nat → Bool} : ∀ {n : Nat}, (∀ i, i < n → f i = true → g i = true) → cnt f n ≤ cnt g n
  | 0, _ => Nat.le_refl _
  | n + 1, h => by
    have ih := cnt_mono (f := f) (g := g) (n := n) (fun i hi => h i (by omega))
    rw [cnt, cnt]
    by_cases c : f n = true
    · rw [if_pos c, if_pos (h n (by omega) c)]; omega
    · rw [if_neg c]; omega
theorem cnt_lt {f g : Nat → Bool} : ∀ {n k : Nat}, (∀ i, i < n → f i = true → g i = true) → k < n → ¬ f k = true → g k = true → cnt f n < cnt g n
  | n + 1, k, h, hk, h1, h2 => by
    rw [cnt, cnt]
    by_cases e : k = n
    · have ih := cnt_mono (f := f) (g := g) (n := n) (fun i hi => h i (by omega))
      rw [e] at h1 h2
      rw [if_neg h1, if_pos h2]; omega
    · have ih := cnt_lt (f := f) (g := g) (n := n) (k := k) (fun i hi => h i (by omega)) (by omega) h1 h2
      by_cases c : f n = true
      · rw [if_pos c, if_pos (h n (by omega) c)]; omega
      · rw [if_neg c]; omega
theorem rk_lt {V : VT} {P : Nat → Nat → Int32} {g : Nat → Nat → Bool} {a b : Nat} (ha : a < vA V) (h : ahS V P g a b = true) : rkS V P g a < rkS V P g b := by
  have hab := ah_iff.mp h
  unfold rkS
  refine cnt_lt (k := a) (fun i hi q => ?_) ha (by simp) ?_
  · simp only [Bool.and_eq_true, Bool.not_eq_true', decide_eq_false_iff_not] at q ⊢
    have q2 := ah_iff.mp q.2
    refine ⟨fun z => ?_, ah_iff.mpr ?_⟩
    · rw [z] at q2; omega
    · omega
  · simp only [Bool.and_eq_true, Bool.not_eq_true', decide_eq_false_iff_not]
    exact ⟨fun z => by rw [z] at hab; omega, h⟩
theorem rk_inj {V : VT} {P : Nat → Nat → Int32} {g : Nat → Nat → Bool} {a b : Nat} (ha : a < vA V) (hb : b < vA V) (h : rkS V P g a = rkS V P g b) : a = b := by
  by_cases e : a = b
  · exact e
  · by_cases c : ahS V P g a b = true
    · have := rk_lt ha c; omega
    · have d : ahS V P g b a = true := by
        have c2 := mt ah_iff.mpr c
        refine ah_iff.mpr ?_
        omega
      have := rk_lt hb d; omega
theorem rk_b {V : VT} {P : Nat → Nat → Int32} {g : Nat → Nat → Bool} {a : Nat} (ha : a < vA V) : rkS V P g a < vA V := by
  unfold rkS
  have h1 : cnt (fun b => !decide (b = a) && ahS V P g b a) (vA V) < cnt (fun _ => true) (vA V) := cnt_lt (k := a) (fun _ _ _ => rfl) ha (by simp) rfl
  have h2 := cnt_le (fun _ => true) (vA V)
  omega
theorem pl_ex {V : VT} {P : Nat → Nat → Int32} {g : Nat → Nat → Bool} (hA : vA V ≤ 8) {k : Nat} (hk : k < vA V) : ∃ a, a < vA V ∧ plS V P g (nI k) = nI a := by
  obtain ⟨i, h1, h2⟩ := surj_of (n := vA V) (f := rkS V P g) (fun i h => rk_b h) (fun i j q1 q2 => rk_inj q1 q2) k hk
  rcases fst1_cs (fun a => decide (nI (rkS V P g a) = nI k)) (vA V) 0 with q | ⟨b, q1, q2, q3, _⟩
  · exfalso
    have e1 := fst1_at (f := fun a => decide (nI (rkS V P g a) = nI k)) (m := vA V) (i := 0) (b := i) (by omega) (by omega) (by simp [h2]) (fun j _ hj => by
      intro z
      have z := of_decide_eq_true z
      have b1 := rk_b (P := P) (g := g) (show j < vA V by omega)
      have := nI_inj (by omega) (by omega) z
      have := rk_inj (P := P) (g := g) (show j < vA V by omega) h1 (by omega)
      omega)
    rw [q] at e1
    have := congrArg Int32.toInt e1
    rw [nI_int (by omega)] at this
    have e9 : (-1 : Int32).toInt = -1 := by decide
    omega
  · exact ⟨b, by omega, q3⟩
