/-! what an EVENT is worth: E what (0 field, 1 base, 2 curve, 3 first, 4 second, 5 spread, from 6 on the table's twos) -/
/-- the greatest r with r r not above n -/
def isq : Nat → Nat
  | 0 => 0
  | n + 1 => if (isq n + 1) * (isq n + 1) ≤ n + 1 then isq n + 1 else isq n
theorem isq_le : ∀ n, isq n * isq n ≤ n
  | 0 => Nat.le_refl _
  | n + 1 => by
    rw [isq]
    by_cases h : (isq n + 1) * (isq n + 1) ≤ n + 1
    · rw [if_pos h]; exact h
    · rw [if_neg h]; exact Nat.le_succ_of_le (isq_le n)
theorem isq_lt : ∀ n, n < (isq n + 1) * (isq n + 1)
  | 0 => by decide
  | n + 1 => by
    have ih := isq_lt n
    rw [isq]
    by_cases h : (isq n + 1) * (isq n + 1) ≤ n + 1
    · rw [if_pos h]
      have : (isq n + 1 + 1) * (isq n + 1 + 1) = (isq n + 1) * (isq n + 1) + 2 * (isq n + 1) + 1 := by
        rw [Nat.add_mul, Nat.mul_add]; omega
      omega
    · rw [if_neg h]; omega
theorem sq_lt {a b : Nat} (h : a * a < b * b) : a < b := by
  rcases Nat.lt_or_ge a b with q | q
  · exact q
  · exact absurd (Nat.mul_le_mul q q) (by omega)
theorem isq_uniq {r n : Nat} (h1 : r * r ≤ n) (h2 : n < (r + 1) * (r + 1)) : r = isq n := by
  have a := isq_le n
  have b := isq_lt n
  have c1 : r < isq n + 1 := sq_lt (by omega)
  have c2 : isq n < r + 1 := sq_lt (by omega)
  omega
/-- how many of the first m from i on, one behind the other, are not above d -/
def beh (f : Nat → Int) (d : Int) : Nat → Nat → Nat
  | 0, i => i
  | m + 1, i => if f i ≤ d then beh f d m (i + 1) else i
def tabW (E : Nat → Int32) (k : Nat) : Int := (E (6 + 2 * k)).toInt
def tabX (E : Nat → Int32) (k : Nat) : Int := (E (6 + 2 * k + 1)).toInt
def tabZ (E : Nat → Int32) (n : Nat) (d : Int) : Int :=
  if beh (tabW E) d n 0 = 0 then 0
  else if beh (tabW E) d n 0 = n then tabX E (n - 1)
  else tabX E (beh (tabW E) d n 0 - 1) + (d - tabW E (beh (tabW E) d n 0 - 1)) * (tabX E (beh (tabW E) d n 0) - tabX E (beh (tabW E) d n 0 - 1)) / (tabW E (beh (tabW E) d n 0) - tabW E (beh (tabW E) d n 0 - 1))
/-- the way of a mark -/
def wayZ (E : Nat → Int32) (m : Int32) : Int := if E 0 = 1 then m.toInt - (E 1).toInt else (E 1).toInt - m.toInt
def curZ (E : Nat → Int32) (d : Int) : Int :=
  if E 2 = 0 then min 2000 ((E 3).toInt * d / (E 4).toInt)
  else if E 2 = 1 then min 2000 ((E 3).toInt * (d * d) / (E 4).toInt)
  else if E 2 = 2 then min 2000 ((E 3).toInt * (isq (100 * d.toNat) : Int) / (E 4).toInt)
  else tabZ E (E 3).toInt.toNat d
def ptsZ (E : Nat → Int32) (m : Int32) : Int := if m = -1 then 0 else if wayZ E m < 0 then 0 else curZ E (wayZ E m)
def pts (E : Nat → Int32) (m : Int32) : Int32 := Int32.ofInt (ptsZ E m)
/-- a well told EVENT -/
def WE (E : Nat → Int32) : Prop :=
  (E 0 = 0 ∨ E 0 = 1) ∧ (0 ≤ (E 1).toInt ∧ (E 1).toInt ≤ 99999) ∧ (0 ≤ (E 5).toInt ∧ (E 5).toInt ≤ 999) ∧
  (((E 2 = 0 ∨ E 2 = 1 ∨ E 2 = 2) ∧ (1 ≤ (E 3).toInt ∧ (E 3).toInt ≤ 9999) ∧ (1 ≤ (E 4).toInt ∧ (E 4).toInt ≤ 99999)) ∨
   (E 2 = 3 ∧ E 4 = -1 ∧ ∃ n : Nat, 1 ≤ n ∧ n ≤ 8 ∧ E 3 = nI n ∧ (∀ k, k < n → 0 ≤ tabW E k ∧ tabW E k ≤ 99999 ∧ 0 ≤ tabX E k ∧ tabX E k ≤ 2000) ∧ ∀ k, k + 1 < n → tabW E k < tabW E (k + 1) ∧ tabX E k ≤ tabX E (k + 1)))
def okM (m : Int32) : Prop := m = -1 ∨ (0 ≤ m.toInt ∧ m.toInt ≤ 99999)
theorem beh_le (f : Nat → Int) (d : Int) : ∀ m i, i ≤ beh f d m i ∧ beh f d m i ≤ i + m
  | 0, i => ⟨Nat.le_refl _, Nat.le_refl _⟩
  | m + 1, i => by
    rw [beh]
    have := beh_le f d m (i + 1)
    by_cases h : f i ≤ d
    · rw [if_pos h]; omega
    · rw [if_neg h]; omega
theorem beh_in (f : Nat → Int) (d : Int) : ∀ m i k, i ≤ k → k < beh f d m i → f k ≤ d
  | 0, i, k, h1, h2 => by rw [beh] at h2; omega
  | m + 1, i, k, h1, h2 => by
    rw [beh] at h2
    by_cases h : f i ≤ d
    · rw [if_pos h] at h2
      by_cases e : k = i
      · rw [e]; exact h
      · exact beh_in f d m (i + 1) k (by omega) h2
    · rw [if_neg h] at h2; omega
theorem beh_out (f : Nat → Int) (d : Int) : ∀ m i, beh f d m i < i + m → d < f (beh f d m i)
  | 0, i, h => by rw [beh] at h; omega
  | m + 1, i, h => by
    rw [beh] at h ⊢
    by_cases hc : f i ≤ d
    · rw [if_pos hc] at h ⊢
      exact beh_out f d m (i + 1) (by omega)
    · rw [if_neg hc]; omega
theorem dvn {a b : Int} (ha : 0 ≤ a) (hb : 0 ≤ b) : 0 ≤ a / b := Int.ediv_nonneg ha hb
theorem tabZ_rng {E : Nat → Int32} {n : Nat} {d : Int} (h1 : ∀ k, k < n → 0 ≤ tabX E k ∧ tabX E k ≤ 2000) (h2 : ∀ k, k + 1 < n → tabW E k < tabW E (k + 1) ∧ tabX E k ≤ tabX E (k + 1)) : 0 ≤ tabZ E n d ∧ tabZ E n d ≤ 2000 := by
  unfold tabZ
  have hb := beh_le (tabW E) d n 0
  by_cases c0 : beh (tabW E) d n 0 = 0
  · rw [if_pos c0]; omega
  · rw [if_neg c0]
    by_cases c1 : beh (tabW E) d n 0 = n
    · rw [if_pos c1]
      exact h1 (n - 1) (by omega)
    · rw [if_neg c1]
      generalize hk : beh (tabW E) d n 0 = b at *
      obtain ⟨k, rfl⟩ : ∃ k, b = k + 1 := ⟨b - 1, by omega⟩
      have e1 : k + 1 - 1 = k := by omega
      rw [e1]
      have q1 := h1 k (by omega)
      have q2 := h1 (k + 1) (by omega)
      have q3 := h2 k (by omega)
      have q4 : tabW E k ≤ d := beh_in (tabW E) d n 0 k (by omega) (by rw [hk]; omega)
      have q5 : d < tabW E (k + 1) := by have := beh_out (tabW E) d n 0 (by rw [hk]; omega); rw [hk] at this; exact this
      have p1 : 0 ≤ (d - tabW E k) * (tabX E (k + 1) - tabX E k) / (tabW E (k + 1) - tabW E k) := dvn (Int.mul_nonneg (by omega) (by omega)) (by omega)
      have p2 : (d - tabW E k) * (tabX E (k + 1) - tabX E k) / (tabW E (k + 1) - tabW E k) ≤ tabX E (k + 1) - tabX E k := by
        apply Int.ediv_le_of_le_mul (by omega)
        rw [Int.mul_comm]
        exact Int.mul_le_mul_of_nonneg_left (by omega) (by omega)
      omega
theorem curZ_rng {E : Nat → Int32} (h : WE E) {d : Int} (hd : 0 ≤ d) : 0 ≤ curZ E d ∧ curZ E d ≤ 2000 := by
  obtain ⟨-, -, -, h | h⟩ := h
  · obtain ⟨hc, h3, h4⟩ := h
    unfold curZ
    have a1 : 0 ≤ (E 3).toInt * d / (E 4).toInt := dvn (Int.mul_nonneg (by omega) hd) (by omega)
    have a2 : 0 ≤ (E 3).toInt * (d * d) / (E 4).toInt := dvn (Int.mul_nonneg (by omega) (Int.mul_nonneg hd hd)) (by omega)
    have a3 : 0 ≤ (E 3).toInt * (isq (100 * d.toNat) : Int) / (E 4).toInt := dvn (Int.mul_nonneg (by omega) (by omega)) (by omega)
    rcases hc with e | e | e
    · rw [if_pos e]; omega
    · rw [if_neg (by rw [e]; decide), if_pos e]; omega
    · rw [if_neg (by rw [e]; decide), if_neg (by rw [e]; decide), if_pos e]; omega
  · obtain ⟨e, -, n, -, h8, e3, hx, hy⟩ := h
    unfold curZ
    rw [if_neg (by rw [e]; decide), if_neg (by rw [e]; decide), if_neg (by rw [e]; decide), e3, nI_int (by omega)]
    exact tabZ_rng (fun k hk => (hx k (by omega)).2.2) (fun k hk => hy k (by omega))
theorem ptsZ_rng {E : Nat → Int32} (h : WE E) (m : Int32) : 0 ≤ ptsZ E m ∧ ptsZ E m ≤ 2000 := by
  unfold ptsZ
  by_cases c1 : m = -1
  · rw [if_pos c1]; omega
  · rw [if_neg c1]
    by_cases c2 : wayZ E m < 0
    · rw [if_pos c2]; omega
    · rw [if_neg c2]; exact curZ_rng h (by omega)
theorem ofI {z : Int} (h1 : -2147483648 ≤ z) (h2 : z ≤ 2147483647) : (Int32.ofInt z).toInt = z := by
  rw [Int32.toInt_ofInt]
  show Int.bmod z 4294967296 = z
  exact Int.bmod_eq_of_le (by omega) (by omega)
theorem pts_int {E : Nat → Int32} (h : WE E) (m : Int32) : (pts E m).toInt = ptsZ E m := ofI (by have := ptsZ_rng h m; omega) (by have := ptsZ_rng h m; omega)
theorem pts_rng {E : Nat → Int32} (h : WE E) (m : Int32) : 0 ≤ (pts E m).toInt ∧ (pts E m).toInt ≤ 2000 := by rw [pts_int h]; exact ptsZ_rng h m
theorem eq_ofI {x : Int32} {z : Int} (h : x.toInt = z) : x = Int32.ofInt z := by rw [← h, Int32.ofInt_toInt]
/-- by halves: the least in l .. h that g holds of -/
def bs (g : Nat → Bool) : Nat → Nat → Nat → Nat
  | 0, l, _ => l
  | n + 1, l, h => if l < h then (if g ((l + h) / 2) then bs g n l ((l + h) / 2) else bs g n ((l + h) / 2 + 1) h) else l
theorem bs_done (g : Nat → Bool) {l h : Nat} (hlh : h ≤ l) : ∀ n, bs g n l h = l
  | 0 => rfl
  | n + 1 => by rw [bs, if_neg (by omega)]
theorem bs_rng (g : Nat → Bool) : ∀ n l h, l ≤ h → l ≤ bs g n l h ∧ bs g n l h ≤ h
  | 0, l, h, hl => ⟨Nat.le_refl _, hl⟩
  | n + 1, l, h, hl => by
    rw [bs]
    by_cases c : l < h
    · rw [if_pos c]
      by_cases q : g ((l + h) / 2) = true
      · rw [if_pos q]; have := bs_rng g n l ((l + h) / 2) (by omega); omega
      · rw [if_neg q]; have := bs_rng g n ((l + h) / 2 + 1) h (by omega); omega
    · rw [if_neg c]; omega
/-- a mark by how good it is -/
def mkBy (E : Nat → Int32) (m : Nat) : Int32 := if E 0 = 1 then nI m else 99999 - nI m
def topS (E : Nat → Int32) : Int32 := pts E (mkBy E 99999)
def wstS (E : Nat → Int32) (p : Int32) : Int32 := if topS E < p then -1 else mkBy E (bs (fun m => decide (p ≤ pts E (mkBy E m))) 17 0 99999)
theorem mkBy_rng (E : Nat → Int32) {m : Nat} (h : m ≤ 99999) : 0 ≤ (mkBy E m).toInt ∧ (mkBy E m).toInt ≤ 99999 := by
  unfold mkBy
  by_cases c : E 0 = 1
  · rw [if_pos c, nI_int (by omega)]; omega
  · rw [if_neg c]
    have e : (99999 : Int32).toInt = 99999 := by decide
    rw [i_sub (by rw [e, nI_int (by omega)]; omega) (by rw [e, nI_int (by omega)]; omega), e, nI_int (by omega)]
    omega
