/-! TOKENS of a tape: n bytes f -/
def ltr (x : Int32) : Bool := decide (97 ≤ x.toInt ∧ x.toInt ≤ 122)
def dgt (x : Int32) : Bool := decide (48 ≤ x.toInt ∧ x.toInt ≤ 57)
def blk (x : Int32) : Bool := decide (x = nI 32 ∨ x = nI 10)
def rn (g : Nat → Bool) : Nat → Nat → Nat
  | 0, q => q
  | m + 1, q => if g q then rn g m (q + 1) else q
theorem rn_rng (g : Nat → Bool) : ∀ m q, q ≤ rn g m q ∧ rn g m q ≤ q + m
  | 0, q => ⟨Nat.le_refl _, Nat.le_refl _⟩
  | m + 1, q => by
    rw [rn]
    have := rn_rng g m (q + 1)
    by_cases h : g q = true
    · rw [if_pos h]; omega
    · rw [if_neg h]; omega
theorem rn_t {g : Nat → Bool} {n q : Nat} (h : q < n) (hg : g q = true) : rn g (n - q) q = rn g (n - (q + 1)) (q + 1) := by
  rw [show n - q = n - (q + 1) + 1 by omega, rn, if_pos hg]
theorem rn_f {g : Nat → Bool} {n q : Nat} (hg : ¬ g q = true) : rn g (n - q) q = q := by
  rcases Nat.lt_or_ge q n with h | h
  · rw [show n - q = n - (q + 1) + 1 by omega, rn, if_neg hg]
  · rw [show n - q = 0 by omega, rn]
theorem rn_e {g : Nat → Bool} {n q : Nat} (h : n ≤ q) : rn g (n - q) q = q := by rw [show n - q = 0 by omega, rn]
theorem rn_in (g : Nat → Bool) : ∀ m q k, q ≤ k → k < rn g m q → g k = true
  | 0, q, k, h1, h2 => by rw [rn] at h2; omega
  | m + 1, q, k, h1, h2 => by
    rw [rn] at h2
    by_cases h : g q = true
    · rw [if_pos h] at h2
      by_cases e : k = q
      · rw [e]; exact h
      · exact rn_in g m (q + 1) k (by omega) h2
    · rw [if_neg h] at h2; omega
theorem rn_out (g : Nat → Bool) : ∀ m q, rn g m q < q + m → ¬ g (rn g m q) = true
  | 0, q, h => by rw [rn] at h; omega
  | m + 1, q, h => by
    rw [rn] at h ⊢
    by_cases c : g q = true
    · rw [if_pos c] at h ⊢
      exact rn_out g m (q + 1) (by omega)
    · rw [if_neg c]; exact c
def skp (f : Nat → Int32) (n q : Nat) : Nat := rn (fun k => blk (f k)) (n - q) q
def ten (f : Nat → Int32) (n q : Nat) : Nat := if ltr (f q) then rn (fun k => ltr (f k)) (n - (q + 1)) (q + 1) else if dgt (f q) then rn (fun k => dgt (f k)) (n - (q + 1)) (q + 1) else q + 1
/-- where the i-th TOKEN begins; n: the end -/
def spo (f : Nat → Int32) (n : Nat) : Nat → Nat
  | 0 => skp f n 0
  | i + 1 => if spo f n i < n then skp f n (ten f n (spo f n i)) else spo f n i
theorem skp_rng (f : Nat → Int32) {n q : Nat} (h : q ≤ n) : q ≤ skp f n q ∧ skp f n q ≤ n := by
  have := rn_rng (fun k => blk (f k)) (n - q) q
  unfold skp; omega
theorem ten_rng (f : Nat → Int32) {n q : Nat} (h : q < n) : q + 1 ≤ ten f n q ∧ ten f n q ≤ n := by
  unfold ten
  by_cases c : ltr (f q) = true
  · rw [if_pos c]; have := rn_rng (fun k => ltr (f k)) (n - (q + 1)) (q + 1); omega
  · rw [if_neg c]
    by_cases c2 : dgt (f q) = true
    · rw [if_pos c2]; have := rn_rng (fun k => dgt (f k)) (n - (q + 1)) (q + 1); omega
    · rw [if_neg c2]; omega
theorem spo_s {f : Nat → Int32} {n i : Nat} (h : spo f n i < n) : spo f n (i + 1) = skp f n (ten f n (spo f n i)) := by rw [spo, if_pos h]
theorem spo_le (f : Nat → Int32) (n : Nat) : ∀ i, spo f n i ≤ n
  | 0 => (skp_rng f (Nat.zero_le n)).2
  | i + 1 => by
    rw [spo]
    by_cases h : spo f n i < n
    · rw [if_pos h]; exact (skp_rng f (ten_rng f h).2).2
    · rw [if_neg h]; exact spo_le f n i
theorem spo_ge (f : Nat → Int32) (n : Nat) : ∀ i, (spo f n i < n → i ≤ spo f n i)
  | 0, _ => Nat.zero_le _
  | i + 1, h => by
    have h0 : spo f n i < n := by
      rcases Nat.lt_or_ge (spo f n i) n with q | q
      · exact q
      · rw [spo, if_neg (by omega)] at h; exact h
    have := spo_ge f n i h0
    rw [spo_s h0]
    have a := ten_rng f h0
    have b := skp_rng f a.2
    omega
theorem spo_nb {f : Nat → Int32} {n : Nat} : ∀ {i : Nat}, spo f n i < n → blk (f (spo f n i)) = false
  | 0, h => by
    have := rn_out (fun k => blk (f k)) (n - 0) 0 (by show skp f n 0 < _; have : skp f n 0 < n := h; omega)
    exact Bool.eq_false_iff.mpr this
  | i + 1, h => by
    have h0 : spo f n i < n := by
      rcases Nat.lt_or_ge (spo f n i) n with q | q
      · exact q
      · rw [spo, if_neg (by omega)] at h; exact h
    rw [spo_s h0] at h ⊢
    have a := ten_rng f h0
    have := rn_out (fun k => blk (f k)) (n - ten f n (spo f n i)) (ten f n (spo f n i)) (by show skp f n _ < _; omega)
    exact Bool.eq_false_iff.mpr this
/-- a spelling stands at p .. e -/
def txt (i : Nat) : List Int32 := (stL.getD i ("", 0, "", [])).2.2.2
def spB (bs : List Int32) (f : Nat → Int32) (q e : Nat) : Bool := decide (e - q = bs.length) && allN (fun j => decide (f (q + j) = bs.getD j 0)) bs.length
theorem spB_iff {bs : List Int32} {f : Nat → Int32} {q e : Nat} : spB bs f q e = true ↔ e - q = bs.length ∧ ∀ j, j < bs.length → f (q + j) = bs.getD j 0 := by
  unfold spB
  rw [Bool.and_eq_true, allN_iff, decide_eq_true_iff]
  exact and_congr Iff.rfl (forall_congr' fun j => imp_congr Iff.rfl decide_eq_true_iff)
theorem spB_inj {as bs : List Int32} {f : Nat → Int32} {q e : Nat} (h1 : spB as f q e = true) (h2 : spB bs f q e = true) : as = bs := by
  rw [spB_iff] at h1 h2
  apply List.ext_getElem (by omega)
  intro i ha hb
  have a := h1.2 i ha
  have b := h2.2 i hb
  rw [List.getD_eq_getElem?_getD, List.getElem?_eq_getElem ha] at a
  rw [List.getD_eq_getElem?_getD, List.getElem?_eq_getElem hb] at b
  exact a.symm.trans b
/-- the SIGN of a word or a byte -/
def sgS (f : Nat → Int32) (q e : Nat) : Nat → Nat → Nat
  | 0, _ => 40
  | m + 1, s => if spB (txt (spl s)) f q e then s else sgS f q e m (s + 1)
def sgOf (f : Nat → Int32) (q e : Nat) : Nat := sgS f q e 42 0
theorem spl_inj : ∀ s, s < 39 → ∀ t, t < 39 → txt (spl s) = txt (spl t) → s = t := by decide +kernel
theorem spl_e : ∀ s, s < 42 → 39 ≤ s → txt (spl s) = [] := by decide +kernel
theorem spl_ne : ∀ s, s < 39 → 0 < (txt (spl s)).length := by decide +kernel
theorem sgS_hit {f : Nat → Int32} {q e : Nat} (he : q < e) : ∀ m s, s + m = 42 → (sgS f q e m s = 40 ∧ ∀ t, s ≤ t → t < 39 → ¬ spB (txt (spl t)) f q e = true) ∨ (s ≤ sgS f q e m s ∧ sgS f q e m s < 39 ∧ spB (txt (spl (sgS f q e m s))) f q e = true)
  | 0, s, hs => Or.inl ⟨rfl, fun t h1 h2 => by omega⟩
  | m + 1, s, hs => by
    rw [sgS]
    by_cases c : spB (txt (spl s)) f q e = true
    · rw [if_pos c]
      right
      refine ⟨Nat.le_refl _, ?_, c⟩
      rcases Nat.lt_or_ge s 39 with h | h
      · exact h
      · exfalso
        rw [spl_e s (by omega) h, spB_iff] at c
        have := c.1
        simp at this
        omega
    · rw [if_neg c]
      rcases sgS_hit he m (s + 1) (by omega) with ⟨h1, h2⟩ | ⟨h1, h2⟩
      · left
        refine ⟨h1, fun t h3 h4 => ?_⟩
        by_cases e2 : t = s
        · rw [e2]; exact c
        · exact h2 t (by omega) h4
      · right
        exact ⟨by omega, h2⟩
theorem sgOf_iff {f : Nat → Int32} {q e s : Nat} (he : q < e) (hs : s < 39) : sgOf f q e = s ↔ spB (txt (spl s)) f q e = true := by
  unfold sgOf
  rcases sgS_hit (f := f) he 42 0 rfl with ⟨h1, h2⟩ | ⟨h1, h2, h3⟩
  · rw [h1]
    exact ⟨fun z => by omega, fun z => absurd z (h2 s (by omega) hs)⟩
  · exact ⟨fun z => by rw [← z]; exact h3, fun z => spl_inj _ h2 _ hs (spB_inj h3 z)⟩
theorem sgOf_rng {f : Nat → Int32} {q e : Nat} (he : q < e) : sgOf f q e = 40 ∨ sgOf f q e < 39 := by
  unfold sgOf
  rcases sgS_hit (f := f) he 42 0 rfl with ⟨h1, -⟩ | ⟨-, h2, -⟩
  · exact Or.inl h1
  · exact Or.inr h2
/-- signs: words, single bytes -/
def isWd (s : Nat) : Bool := Nat.ble s 26
theorem spl_w : ∀ s, s < 27 → ltr ((txt (spl s)).getD 0 0) = true := by decide +kernel
theorem spl_b : ∀ s, s < 39 → 27 ≤ s → ltr ((txt (spl s)).getD 0 0) = false ∧ (txt (spl s)).length = 1 ∧ dgt ((txt (spl s)).getD 0 0) = false := by decide +kernel
theorem sgOf_w {f : Nat → Int32} {q e : Nat} (he : q < e) (hl : ltr (f q) = true) : sgOf f q e < 27 ∨ sgOf f q e = 40 := by
  rcases sgOf_rng (f := f) he with h | h
  · exact Or.inr h
  · left
    rcases Nat.lt_or_ge (sgOf f q e) 27 with z | z
    · exact z
    · exfalso
      have a := (sgOf_iff (f := f) he h).mp rfl
      rw [spB_iff] at a
      have b := a.2 0 (spl_ne _ h)
      have c := (spl_b _ h z).1
      rw [← b, Nat.add_zero, hl] at c
      cases c
theorem sgOf_b {f : Nat → Int32} {q e : Nat} (he : q < e) (hl : ltr (f q) = false) : (27 ≤ sgOf f q e ∧ sgOf f q e < 39) ∨ sgOf f q e = 40 := by
  rcases sgOf_rng (f := f) he with h | h
  · exact Or.inr h
  · left
    rcases Nat.lt_or_ge (sgOf f q e) 27 with z | z
    · exfalso
      have a := (sgOf_iff (f := f) he h).mp rfl
      rw [spB_iff] at a
      have b := a.2 0 (spl_ne _ h)
      have c := spl_w _ z
      rw [← b, Nat.add_zero, hl] at c
      cases c
    · exact ⟨z, h⟩
/-- a single byte is the sign s -/
theorem sgOf_1 {f : Nat → Int32} {q s : Nat} (hs : s < 39) (h27 : 27 ≤ s) : sgOf f q (q + 1) = s ↔ f q = (txt (spl s)).getD 0 0 := by
  rw [sgOf_iff (by omega) hs, spB_iff]
  have h := (spl_b s hs h27).2.1
  rw [h]
  constructor
  · intro z; exact z.2 0 (by omega)
  · intro z; exact ⟨by omega, fun j hj => by rw [show j = 0 by omega]; exact z⟩
/-- what a number is worth -/
def vlN (f : Nat → Int32) (q : Nat) : Nat → Nat
  | 0 => 0
  | k + 1 => 10 * vlN f q k + ((f (q + k)).toInt - 48).toNat
/-- a TOKEN: its sign, its place, its value -/
abbrev TK : Type := Nat × Nat × Nat
def tok (f : Nat → Int32) (n i : Nat) : TK :=
  if spo f n i < n then (if dgt (f (spo f n i)) then (39, spo f n i, vlN f (spo f n i) (ten f n (spo f n i) - spo f n i)) else (sgOf f (spo f n i) (ten f n (spo f n i)), spo f n i, 0)) else (41, n, 0)
theorem tok_e {f : Nat → Int32} {n i : Nat} (h : spo f n i = n) : tok f n i = (41, n, 0) := by unfold tok; rw [if_neg (by omega)]
theorem tok_d {f : Nat → Int32} {n i : Nat} (h : spo f n i < n) (hd : dgt (f (spo f n i)) = true) : tok f n i = (39, spo f n i, vlN f (spo f n i) (ten f n (spo f n i) - spo f n i)) := by unfold tok; rw [if_pos h, if_pos hd]
theorem tok_s {f : Nat → Int32} {n i : Nat} (h : spo f n i < n) (hd : ¬ dgt (f (spo f n i)) = true) : tok f n i = (sgOf f (spo f n i) (ten f n (spo f n i)), spo f n i, 0) := by unfold tok; rw [if_pos h, if_neg hd]
theorem tok_2 (f : Nat → Int32) (n i : Nat) : (tok f n i).2.1 = spo f n i := by
  unfold tok
  by_cases h : spo f n i < n
  · rw [if_pos h]
    by_cases h2 : dgt (f (spo f n i)) = true
    · rw [if_pos h2]
    · rw [if_neg h2]
  · rw [if_neg h]; have := spo_le f n i; show n = _; omega
theorem tok_lt (f : Nat → Int32) (n i : Nat) : (tok f n i).1 < 42 := by
  unfold tok
  by_cases h : spo f n i < n
  · rw [if_pos h]
    by_cases h2 : dgt (f (spo f n i)) = true
    · rw [if_pos h2]; show 39 < 42; omega
    · rw [if_neg h2]; show sgOf _ _ _ < 42; have := sgOf_rng (f := f) (q := spo f n i) (e := ten f n (spo f n i)) (by have := ten_rng f h; omega); omega
  · rw [if_neg h]; show 41 < 42; omega
theorem tok_41 {f : Nat → Int32} {n i : Nat} : (tok f n i).1 = 41 ↔ spo f n i = n := by
  have hle := spo_le f n i
  constructor
  · intro h
    rcases Nat.lt_or_ge (spo f n i) n with q | q
    · exfalso
      by_cases h2 : dgt (f (spo f n i)) = true
      · rw [tok_d q h2] at h; exact absurd (show (39 : Nat) = 41 from h) (by decide)
      · rw [tok_s q h2] at h
        have h : sgOf f (spo f n i) (ten f n (spo f n i)) = 41 := h
        have := sgOf_rng (f := f) (q := spo f n i) (e := ten f n (spo f n i)) (by have := ten_rng f q; omega)
        omega
    · omega
  · intro h; rw [tok_e h]
theorem tok_39 {f : Nat → Int32} {n i : Nat} : (tok f n i).1 = 39 ↔ spo f n i < n ∧ dgt (f (spo f n i)) = true := by
  have hle := spo_le f n i
  constructor
  · intro h
    rcases Nat.lt_or_ge (spo f n i) n with q | q
    · refine ⟨q, ?_⟩
      by_cases h2 : dgt (f (spo f n i)) = true
      · exact h2
      · rw [tok_s q h2] at h
        have h : sgOf f (spo f n i) (ten f n (spo f n i)) = 39 := h
        have := sgOf_rng (f := f) (q := spo f n i) (e := ten f n (spo f n i)) (by have := ten_rng f q; omega)
        omega
    · rw [tok_e (by omega)] at h; exact absurd (show (41 : Nat) = 39 from h) (by decide)
  · intro h; rw [tok_d h.1 h.2]
/-- N TOKENS, then the end -/
def NT (f : Nat → Int32) (n N : Nat) : Prop := spo f n N = n ∧ ∀ j, j < N → spo f n j < n
theorem NT_le {f : Nat → Int32} {n N : Nat} (h : NT f n N) : N ≤ n := by
  rcases Nat.eq_zero_or_pos N with e | e
  · omega
  · have a := h.2 (N - 1) (by omega)
    have := spo_ge f n (N - 1) a
    omega
theorem NT_ex (f : Nat → Int32) (n : Nat) : ∃ N, NT f n N := by
  have key : ∀ m i, i + m = n + 1 → (∀ j, j < i → spo f n j < n) → ∃ N, NT f n N := by
    intro m
    induction m with
    | zero =>
      intro i hi hj
      exfalso
      have a := hj n (by omega)
      have := spo_ge f n n a
      omega
    | succ m ih =>
      intro i hi hj
      rcases Nat.lt_or_ge (spo f n i) n with q | q
      · exact ih (i + 1) (by omega) (fun j h => by
          by_cases e : j = i
          · rw [e]; exact q
          · exact hj j (by omega))
      · exact ⟨i, by have := spo_le f n i; omega, hj⟩
  exact key (n + 1) 0 (by omega) (fun j h => by omega)
theorem NT_end {f : Nat → Int32} {n N j : Nat} (h : NT f n N) (hj : j ≤ N) : (tok f n j).1 = 41 ↔ j = N := by
  rw [tok_41]
  constructor
  · intro z
    rcases Nat.lt_or_ge j N with q | q
    · have := h.2 j q; omega
    · omega
  · intro z; rw [z]; exact h.1
