/-! THE VIEW of a contest: how many EVENTS, ATHLETES, bonus; tie; EVENTS, MARKS, gains, bonus, tests -/
abbrev OPS : Type := List (Nat × Int32)
abbrev VT : Type := (Nat × Nat × Nat × Int32) × (Nat → Nat → Int32) × (Nat → Nat → Int32) × (Nat → Nat → Int32) × (Nat → Nat → Int32) × (Nat → Int32) × (Nat → OPS)
def vE (V : VT) : Nat := V.1.1
def vA (V : VT) : Nat := V.1.2.1
def vB (V : VT) : Nat := V.1.2.2.1
def vt (V : VT) : Int32 := V.1.2.2.2
def vev (V : VT) : Nat → Nat → Int32 := V.2.1
def vmk (V : VT) : Nat → Nat → Int32 := V.2.2.1
def vgo (V : VT) : Nat → Nat → Int32 := V.2.2.2.1
def vgi (V : VT) : Nat → Nat → Int32 := V.2.2.2.2.1
def vbn (V : VT) : Nat → Int32 := V.2.2.2.2.2.1
def vts (V : VT) : Nat → OPS := V.2.2.2.2.2.2
/-! counts and sums -/
def cnt (f : Nat → Bool) : Nat → Nat
  | 0 => 0
  | n + 1 => cnt f n + (if f n then 1 else 0)
theorem cnt_le (f : Nat → Bool) : ∀ n, cnt f n ≤ n
  | 0 => Nat.le_refl _
  | n + 1 => by have := cnt_le f n; rw [cnt]; by_cases h : f n = true <;> simp [h] <;> omega
theorem cnt_congr {f g : Nat → Bool} : ∀ {n : Nat}, (∀ i, i < n → f i = g i) → cnt f n = cnt g n
  | 0, _ => rfl
  | n + 1, h => by rw [cnt, cnt, cnt_congr (fun i hi => h i (by omega)), h n (by omega)]
def fst1 (f : Nat → Bool) : Nat → Nat → Int32
  | 0, _ => -1
  | m + 1, i => if f i then nI i else fst1 f m (i + 1)
theorem fst1_congr {f g : Nat → Bool} : ∀ {m i : Nat}, (∀ j, i ≤ j → j < i + m → f j = g j) → fst1 f m i = fst1 g m i
  | 0, _, _ => rfl
  | m + 1, i, h => by rw [fst1, fst1, h i (by omega) (by omega), fst1_congr (fun j h1 h2 => h j (by omega) (by omega))]
def sumN (f : Nat → Int32) : Nat → Int32
  | 0 => 0
  | n + 1 => sumN f n + f n
theorem sumN_congr {f g : Nat → Int32} : ∀ {n : Nat}, (∀ i, i < n → f i = g i) → sumN f n = sumN g n
  | 0, _ => rfl
  | n + 1, h => by rw [sumN, sumN, sumN_congr (fun i hi => h i (by omega)), h n (by omega)]
theorem sumN_rng {f : Nat → Int32} {M : Nat} : ∀ {n : Nat}, n * M ≤ 1000000000 → (∀ i, i < n → 0 ≤ (f i).toInt ∧ (f i).toInt ≤ M) → 0 ≤ (sumN f n).toInt ∧ (sumN f n).toInt ≤ n * M
  | 0, _, _ => by rw [sumN]; exact ⟨by decide, by simp⟩
  | n + 1, hM, h => by
    have e : (n + 1) * M = n * M + M := Nat.succ_mul n M
    have ih := sumN_rng (f := f) (M := M) (n := n) (by omega) (fun i hi => h i (by omega))
    have hn := h n (by omega)
    rw [sumN, i_add (by omega) (by omega)]
    have e2 : ((n + 1 : Nat) : Int) * M = n * M + M := by rw [← Int.natCast_mul, e]; simp
    omega
def allN (f : Nat → Bool) : Nat → Bool
  | 0 => true
  | n + 1 => allN f n && f n
theorem allN_iff (f : Nat → Bool) : ∀ n, allN f n = true ↔ ∀ i, i < n → f i = true
  | 0 => ⟨fun _ i h => absurd h (by omega), fun _ => rfl⟩
  | n + 1 => by
    rw [allN, Bool.and_eq_true, allN_iff f n]
    exact ⟨fun h i hi => if q : i = n then by rw [q]; exact h.2 else h.1 i (by omega), fun h => ⟨fun i hi => h i (by omega), h n (by omega)⟩⟩
/-! an ATHLETE's points p and marks g over n EVENTS -/
def bestN (p : Nat → Int32) (g : Nat → Bool) : Nat → Int32
  | 0 => 0
  | n + 1 => if g n then (if bestN p g n < p n then p n else bestN p g n) else bestN p g n
def leastN (p : Nat → Int32) (g : Nat → Bool) : Nat → Int32
  | 0 => 0
  | n + 1 => if g n then (if cnt g n = 0 then p n else (if p n < leastN p g n then p n else leastN p g n)) else leastN p g n
theorem bestN_rng {p : Nat → Int32} {g : Nat → Bool} : ∀ {n : Nat}, (∀ i, i < n → 0 ≤ (p i).toInt ∧ (p i).toInt ≤ 2000) → 0 ≤ (bestN p g n).toInt ∧ (bestN p g n).toInt ≤ 2000
  | 0, _ => by rw [bestN]; exact ⟨by decide, by decide⟩
  | n + 1, h => by
    have ih := bestN_rng (p := p) (g := g) (n := n) (fun i hi => h i (by omega))
    have hn := h n (by omega)
    rw [bestN]
    by_cases c : g n = true
    · rw [if_pos c]
      by_cases q : bestN p g n < p n
      · rw [if_pos q]; exact hn
      · rw [if_neg q]; exact ih
    · rw [if_neg c]; exact ih
theorem leastN_rng {p : Nat → Int32} {g : Nat → Bool} : ∀ {n : Nat}, (∀ i, i < n → 0 ≤ (p i).toInt ∧ (p i).toInt ≤ 2000) → 0 ≤ (leastN p g n).toInt ∧ (leastN p g n).toInt ≤ 2000
  | 0, _ => by rw [leastN]; exact ⟨by decide, by decide⟩
  | n + 1, h => by
    have ih := leastN_rng (p := p) (g := g) (n := n) (fun i hi => h i (by omega))
    have hn := h n (by omega)
    rw [leastN]
    by_cases c : g n = true
    · rw [if_pos c]
      by_cases z : cnt g n = 0
      · rw [if_pos z]; exact hn
      · rw [if_neg z]
        by_cases q : p n < leastN p g n
        · rw [if_pos q]; exact hn
        · rw [if_neg q]; exact ih
    · rw [if_neg c]; exact ih
theorem bestN_congr {p p' : Nat → Int32} {g g' : Nat → Bool} : ∀ {n : Nat}, (∀ i, i < n → p i = p' i ∧ g i = g' i) → bestN p g n = bestN p' g' n
  | 0, _ => rfl
  | n + 1, h => by rw [bestN, bestN, bestN_congr (fun i hi => h i (by omega)), (h n (by omega)).1, (h n (by omega)).2]
theorem leastN_congr {p p' : Nat → Int32} {g g' : Nat → Bool} : ∀ {n : Nat}, (∀ i, i < n → p i = p' i ∧ g i = g' i) → leastN p g n = leastN p' g' n
  | 0, _ => rfl
  | n + 1, h => by rw [leastN, leastN, leastN_congr (fun i hi => h i (by omega)), (h n (by omega)).1, (h n (by omega)).2, cnt_congr (fun i hi => (h i (by omega)).2)]
/-! tests: operations one behind the other, worked on a pile (its top first) -/
def envZ (p : Nat → Int32) (g : Nat → Bool) (n op : Nat) (v : Int32) : Int :=
  if op = 0 then v.toInt else if op = 1 then (p v.toInt.toNat).toInt else if op = 2 then (sumN p n).toInt else if op = 3 then (cnt g n : Int) else if op = 4 then (bestN p g n).toInt else (leastN p g n).toInt
def twoZ (op : Nat) (x y : Int) : Int :=
  if op = 6 then x + y else if op = 7 then x - y else if op = 8 then (if x < y then 1 else 0) else if op = 9 then (if x = y then 1 else 0) else if op = 10 then (if y < x then 1 else 0) else if op = 12 then (if x = 1 ∧ y = 1 then 1 else 0) else (if x = 1 ∨ y = 1 then 1 else 0)
def st1 (env : Nat → Int32 → Int) (op : Nat) (v : Int32) (s : List Int) : List Int :=
  if op ≤ 5 then env op v :: s else if op = 11 then (match s with | x :: r => (1 - x) :: r | [] => []) else (match s with | y :: x :: r => twoZ op x y :: r | _ => [])
def evS (env : Nat → Int32 → Int) : OPS → List Int → List Int
  | [], s => s
  | q :: t, s => evS env t (st1 env q.1 q.2 s)
def tstS (env : Nat → Int32 → Int) (t : OPS) : Bool := decide (evS env t [] = [1])
/-- kinds on the pile: true a fact, false a number; at most 60 -/
def ck1 (op : Nat) (ts : List Bool) : Option (List Bool) :=
  if op ≤ 5 then (if ts.length < 60 then some (false :: ts) else none)
  else if op = 11 then (match ts with | true :: r => some (true :: r) | _ => none)
  else if op = 6 ∨ op = 7 then (match ts with | false :: false :: r => some (false :: r) | _ => none)
  else if op = 8 ∨ op = 9 ∨ op = 10 then (match ts with | false :: false :: r => some (true :: r) | _ => none)
  else if op = 12 ∨ op = 13 then (match ts with | true :: true :: r => some (true :: r) | _ => none)
  else none
def ckS : OPS → List Bool → Option (List Bool)
  | [], ts => some ts
  | q :: t, ts => (ck1 q.1 ts).bind (ckS t)
/-- a pile of values fits the kinds, and all together are at most M -/
def fitsK : List Bool → List Int → Prop
  | [], [] => True
  | true :: r, x :: s => (x = 0 ∨ x = 1) ∧ fitsK r s
  | false :: r, _ :: s => fitsK r s
  | _, _ => False
def sumA : List Int → Nat
  | [] => 0
  | x :: s => x.natAbs + sumA s
theorem fitsK_len : ∀ {ts : List Bool} {s : List Int}, fitsK ts s → s.length = ts.length
  | [], [], _ => rfl
  | true :: r, x :: s, h => congrArg (· + 1) (fitsK_len h.2)
  | false :: r, x :: s, h => congrArg (· + 1) (fitsK_len (ts := r) h)
  | [], _ :: _, h => h.elim
  | true :: _, [], h => h.elim
  | false :: _, [], h => h.elim
theorem two_fact {op : Nat} (h : op = 8 ∨ op = 9 ∨ op = 10 ∨ op = 12 ∨ op = 13) (x y : Int) : twoZ op x y = 0 ∨ twoZ op x y = 1 := by
  unfold twoZ
  rcases h with rfl | rfl | rfl | rfl | rfl <;> simp <;> omega
/-- one operation keeps kinds, and grows by at most 99999 -/
theorem st1_ok {env : Nat → Int32 → Int} {op : Nat} {v : Int32} {ts ts' : List Bool} {s : List Int} (hk : ck1 op ts = some ts') (hf : fitsK ts s) (he : op ≤ 5 → (env op v).natAbs ≤ 99999) : fitsK ts' (st1 env op v s) ∧ sumA (st1 env op v s) ≤ sumA s + 99999 := by
  unfold ck1 at hk
  unfold st1
  by_cases h5 : op ≤ 5
  · rw [if_pos h5] at hk ⊢
    by_cases hl : ts.length < 60
    · rw [if_pos hl] at hk
      cases hk
      exact ⟨hf, by show _ + _ ≤ _; have := he h5; omega⟩
    · rw [if_neg hl] at hk; cases hk
  · rw [if_neg h5] at hk ⊢
    by_cases h11 : op = 11
    · rw [if_pos h11] at hk ⊢
      match ts, s, hf, hk with
      | true :: r, x :: s, hf, hk =>
        cases hk
        refine ⟨⟨?_, hf.2⟩, ?_⟩
        · rcases hf.1 with e | e <;> rw [e] <;> simp
        · show (1 - x).natAbs + sumA s ≤ x.natAbs + sumA s + 99999
          rcases hf.1 with e | e <;> rw [e] <;> simp <;> omega
      | false :: r, x :: s, hf, hk => cases hk
      | [], [], hf, hk => cases hk
    · rw [if_neg h11] at hk ⊢
      by_cases h67 : op = 6 ∨ op = 7
      · rw [if_pos h67] at hk
        match ts, s, hf, hk with
        | false :: false :: r, y :: x :: s, hf, hk =>
          cases hk
          refine ⟨hf, ?_⟩
          show (twoZ op x y).natAbs + sumA s ≤ y.natAbs + (x.natAbs + sumA s) + 99999
          unfold twoZ
          rcases h67 with rfl | rfl <;> simp <;> omega
        | false :: true :: r, _, _, hk => cases hk
        | true :: r, _, _, hk => cases hk
        | [false], _, _, hk => cases hk
        | [], _, _, hk => cases hk
      · rw [if_neg h67] at hk
        by_cases h8 : op = 8 ∨ op = 9 ∨ op = 10
        · rw [if_pos h8] at hk
          match ts, s, hf, hk with
          | false :: false :: r, y :: x :: s, hf, hk =>
            cases hk
            have hz := two_fact (op := op) (by omega) x y
            refine ⟨⟨hz, hf⟩, ?_⟩
            show (twoZ op x y).natAbs + sumA s ≤ y.natAbs + (x.natAbs + sumA s) + 99999
            rcases hz with e | e <;> rw [e] <;> simp <;> omega
          | false :: true :: r, _, _, hk => cases hk
          | true :: r, _, _, hk => cases hk
          | [false], _, _, hk => cases hk
          | [], _, _, hk => cases hk
        · rw [if_neg h8] at hk
          by_cases h12 : op = 12 ∨ op = 13
          · rw [if_pos h12] at hk
            match ts, s, hf, hk with
            | true :: true :: r, y :: x :: s, hf, hk =>
              cases hk
              have hz := two_fact (op := op) (by omega) x y
              refine ⟨⟨hz, hf.2.2⟩, ?_⟩
              show (twoZ op x y).natAbs + sumA s ≤ y.natAbs + (x.natAbs + sumA s) + 99999
              rcases hz with e | e <;> rw [e] <;> simp <;> omega
            | true :: false :: r, _, _, hk => cases hk
            | false :: r, _, _, hk => cases hk
            | [true], _, _, hk => cases hk
            | [], _, _, hk => cases hk
          · rw [if_neg h12] at hk; cases hk
