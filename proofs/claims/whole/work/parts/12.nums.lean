/-! numbers -/
def b2 (p : Prop) [Decidable p] : Int32 := if p then 1 else 0
theorem b2_t {p : Prop} [Decidable p] (h : p) : nI 1 = b2 p := by rw [b2, if_pos h]; rfl
theorem b2_f {p : Prop} [Decidable p] (h : ¬ p) : nI 0 = b2 p := by rw [b2, if_neg h]; rfl
theorem isB_b2 (p : Prop) [Decidable p] : isB (b2 p) := by by_cases h : p <;> simp [b2, h, isB]
theorem isB_1 : isB (nI 1) := Or.inr rfl
theorem isB_0 : isB (nI 0) := Or.inl rfl
theorem b2_ne {p : Prop} [Decidable p] (h : ¬ b2 p = 0) : p := by
  by_cases hp : p
  · exact hp
  · exact absurd (by rw [b2, if_neg hp]) h
theorem b2_eq {p : Prop} [Decidable p] (h : b2 p = 0) : ¬ p := fun hp => by rw [b2, if_pos hp] at h; exact absurd h (by decide)
theorem b2_one {p : Prop} [Decidable p] (h : p) : ¬ b2 p = 0 := by rw [b2, if_pos h]; decide
theorem b2_zero {p : Prop} [Decidable p] (h : ¬ p) : b2 p = 0 := by rw [b2, if_neg h]
theorem b2_congr {p q : Prop} [Decidable p] [Decidable q] (h : p ↔ q) : b2 p = b2 q := by
  by_cases hp : p
  · rw [b2, b2, if_pos hp, if_pos (h.mp hp)]
  · rw [b2, b2, if_neg hp, if_neg (fun z => hp (h.mpr z))]
theorem pv_i {v v' : Int32} {w : Wd} (h : v = v') : pV (.int v') w (some (.int v)) w := ⟨by rw [h], rfl⟩
theorem pv_l {v v' : Int64} {w : Wd} (h : v = v') : pV (.long v') w (some (.long v)) w := ⟨by rw [h], rfl⟩
theorem i_lt {a b : Int32} : a < b ↔ a.toInt < b.toInt := Int32.lt_iff_toInt_lt
theorem i_le {a b : Int32} : a ≤ b ↔ a.toInt ≤ b.toInt := Int32.le_iff_toInt_le
theorem i_eq {a b : Int32} : a = b ↔ a.toInt = b.toInt := Int32.toInt_inj.symm
theorem i_rng (a : Int32) : -2147483648 ≤ a.toInt ∧ a.toInt ≤ 2147483647 := ⟨Int32.le_toInt a, by have := Int32.toInt_lt a; omega⟩
theorem i_add {a b : Int32} (h1 : -2147483648 ≤ a.toInt + b.toInt) (h2 : a.toInt + b.toInt ≤ 2147483647) : (a + b).toInt = a.toInt + b.toInt := by
  rw [Int32.toInt_add]
  exact Int.bmod_eq_of_le (by omega) (by omega)
theorem i_sub {a b : Int32} (h1 : -2147483648 ≤ a.toInt - b.toInt) (h2 : a.toInt - b.toInt ≤ 2147483647) : (a - b).toInt = a.toInt - b.toInt := by
  rw [Int32.toInt_sub]
  exact Int.bmod_eq_of_le (by omega) (by omega)
theorem i_mul {a b : Int32} (h1 : -2147483648 ≤ a.toInt * b.toInt) (h2 : a.toInt * b.toInt ≤ 2147483647) : (a * b).toInt = a.toInt * b.toInt := by
  rw [Int32.toInt_mul]
  exact Int.bmod_eq_of_le (by omega) (by omega)
theorem l_lt {a b : Int64} : a < b ↔ a.toInt < b.toInt := Int64.lt_iff_toInt_lt
theorem l_le {a b : Int64} : a ≤ b ↔ a.toInt ≤ b.toInt := Int64.le_iff_toInt_le
theorem l_eq {a b : Int64} : a = b ↔ a.toInt = b.toInt := Int64.toInt_inj.symm
theorem l_add {a b : Int64} (h1 : -9223372036854775808 ≤ a.toInt + b.toInt) (h2 : a.toInt + b.toInt ≤ 9223372036854775807) : (a + b).toInt = a.toInt + b.toInt := by
  rw [Int64.toInt_add]
  exact Int.bmod_eq_of_le (by omega) (by omega)
theorem l_sub {a b : Int64} (h1 : -9223372036854775808 ≤ a.toInt - b.toInt) (h2 : a.toInt - b.toInt ≤ 9223372036854775807) : (a - b).toInt = a.toInt - b.toInt := by
  rw [Int64.toInt_sub]
  exact Int.bmod_eq_of_le (by omega) (by omega)
theorem l_mul {a b : Int64} (h1 : -9223372036854775808 ≤ a.toInt * b.toInt) (h2 : a.toInt * b.toInt ≤ 9223372036854775807) : (a * b).toInt = a.toInt * b.toInt := by
  rw [Int64.toInt_mul]
  exact Int.bmod_eq_of_le (by omega) (by omega)
theorem i_l (a : Int32) : a.toInt64.toInt = a.toInt := Int32.toInt_toInt64 a
theorem l_i {a : Int64} (h1 : -2147483648 ≤ a.toInt) (h2 : a.toInt ≤ 2147483647) : a.toInt32.toInt = a.toInt := by
  rw [Int64.toInt_toInt32]
  exact Int.bmod_eq_of_le (by omega) (by omega)
theorem i_div {a b : Int32} (h : 0 ≤ a.toInt) (hb : 0 < b.toInt) : (a / b).toInt = a.toInt / b.toInt := by
  have h2 : ¬ (a = Int32.minValue ∧ b = -1) := fun z => by rw [z.1] at h; exact absurd h (by decide)
  have e := Int32.toInt_div_of_ne_left a b (fun z => h2 ⟨z, by
    exfalso
    rw [z] at h
    exact absurd h (by decide)⟩)
  rw [e, Int.tdiv_eq_ediv_of_nonneg h]
theorem l_div {a b : Int64} (h : 0 ≤ a.toInt) (hb : 0 < b.toInt) : (a / b).toInt = a.toInt / b.toInt := by
  have e := Int64.toInt_div_of_ne_left a b (fun z => by
    rw [z] at h
    exact absurd h (by decide))
  rw [e, Int.tdiv_eq_ediv_of_nonneg h]
theorem nI_int {n : Nat} (h : n < 2147483648) : (nI n).toInt = (n : Int) := nI_toInt h
theorem i_nat {a : Int32} (h : 0 ≤ a.toInt) : ∃ n : Nat, n < 2147483648 ∧ a = nI n ∧ a.toInt = n := by
  have hr := i_rng a
  refine ⟨a.toInt.toNat, by omega, ?_, by omega⟩
  rw [i_eq, nI_int (by omega)]
  omega
/-- places -/
theorem ix_n {k n : Nat} (h : k < n) (hn : n ≤ 2147483648) : ix (nI k) k n := ⟨nI_int (by omega), h⟩
theorem ix_t {i : Int32} {k n : Nat} (h : i.toInt = (k : Int)) (hk : k < n) : ix i k n := ⟨h, hk⟩
theorem ix_cell {a e : Nat} (ha : a < 8) (he : e < 10) : ix (nI a * nI 10 + nI e) (a * 10 + e) 80 := by
  rw [pk_mul, nI_add]
  exact ix_n (by omega) (by decide)
theorem ix_cell' {a e : Nat} (ha : a < 8) (he : e < 10) : ix (nI 10 * nI a + nI e) (10 * a + e) 80 := by
  rw [pk_mul, nI_add]
  exact ix_n (by omega) (by decide)
theorem j_iinc1 {Z : ZT} {G : GT} {mi : MI} {own : String} {cs : Nat × Nat} {pc : Nat} {ls : LV} {st : List Value} {w : Wd} (C : CX Z G mi own) {k9 k : Nat} (hd : decode mi.2.1 pc = .ok (.iinc k9 1, 3)) (hn : Nat.ble (k9 + 1) mi.2.2.1 = true) (hg : lg ls k9 = some (.int (nI k))) (kk : J Z cs (pc + 3) (lset ls k9 (.int (nI (k + 1)))) st w) : J Z cs pc ls st w :=
  j_iinc C hd hn hg (nI_1 k) kk
