/-! THE GRAMMAR, over TOKENS T: a FAULT (kind, place), or what was read and the next TOKEN -/
abbrev RS (α : Type) : Type := (Nat × Nat) ⊕ α
abbrev RE : Type := RS (OPS × Nat)
def fl (T : Nat → TK) (i k : Nat) : Nat × Nat := (k, (T i).2.1)
def pNum (T : Nat → TK) (i lo hx : Nat) : RS (Nat × Nat) := if (T i).1 = 39 then (if lo ≤ (T i).2.2 ∧ (T i).2.2 < hx then .inr ((T i).2.2, i + 1) else .inl (fl T i 2)) else .inl (fl T i 1)
def pTake (T : Nat → TK) (i s : Nat) : RS Nat := if (T i).1 = s then .inr (i + 1) else .inl (fl T i 1)
def chn (T : Nat → TK) (g : Nat → RE) (sep : Nat → Nat) : Nat → OPS → Nat → RE
  | 0, o, i => .inr (o, i)
  | m + 1, o, i => if sep (T i).1 = 99 then .inr (o, i) else match g (i + 1) with
    | .inl e => .inl e
    | .inr (o2, i2) => chn T g sep m (o ++ (o2 ++ [(sep (T i).1, 0)])) i2
def sq (T : Nat → TK) (g : Nat → RE) (sep : Nat → Nat) (i : Nat) : RE := match g i with
  | .inl e => .inl e
  | .inr (o, i2) => chn T g sep 1200 o i2
def sepO (s : Nat) : Nat := if s = 20 then 13 else 99
def sepA (s : Nat) : Nat := if s = 21 then 12 else 99
def sepS (s : Nat) : Nat := if s = 33 then 6 else if s = 34 then 7 else 99
def wop (s : Nat) : Nat := if s = 25 then 3 else if s = 12 then 4 else if s = 26 then 5 else if s = 24 then 2 else 99
def cmpo (s : Nat) : Nat := if s = 30 then 8 else if s = 31 then 9 else if s = 32 then 10 else 99
def opN (k : Nat) : RS (Nat × Nat) → RE
  | .inl e => .inl e
  | .inr (v, j) => .inr ([(k, nI v)], j)
def opW (T : Nat → TK) (i : Nat) : RE := if wop (T i).1 = 99 then .inl (fl T i 1) else .inr ([(wop (T i).1, 0)], i + 1)
def trm0 (T : Nat → TK) (nE i : Nat) : RE := if (T i).1 = 23 then opN 1 (pNum T (i + 1) 0 nE) else if (T i).1 = 39 then opN 0 (pNum T i 0 100000) else opW T i
/-- then the sign s -/
def thn (T : Nat → TK) (s : Nat) : RE → RE
  | .inl e => .inl e
  | .inr (o, j) => match pTake T j s with
    | .inl e => .inl e
    | .inr j2 => .inr (o, j2)
def trm (T : Nat → TK) (nE : Nat) : Nat → Nat → RE
  | 0, i => if (T i).1 = 37 then .inl (fl T i 4) else trm0 T nE i
  | k + 1, i => if (T i).1 = 37 then thn T 38 (sq T (trm T nE k) sepS (i + 1)) else trm0 T nE i
def sm (T : Nat → TK) (nE k : Nat) : Nat → RE := sq T (trm T nE k) sepS
def cm2 (T : Nat → TK) (nE k j : Nat) (o : OPS) : RE := if cmpo (T j).1 = 99 then .inl (fl T j 1) else match sm T nE k (j + 1) with
  | .inl e => .inl e
  | .inr (o2, j2) => .inr (o ++ (o2 ++ [(cmpo (T j).1, 0)]), j2)
def cmp (T : Nat → TK) (nE k i : Nat) : RE := match sm T nE k i with
  | .inl e => .inl e
  | .inr (o, j) => cm2 T nE k j o
def ngt : RE → RE
  | .inl e => .inl e
  | .inr (o, j) => .inr (o ++ [(11, 0)], j)
def fct (T : Nat → TK) (nE : Nat) : Nat → Nat → RE
  | 0, i => if (T i).1 = 22 then .inl (fl T i 4) else if (T i).1 = 35 then .inl (fl T i 4) else cmp T nE 0 i
  | k + 1, i => if (T i).1 = 22 then ngt (fct T nE k (i + 1)) else if (T i).1 = 35 then thn T 36 (sq T (sq T (fct T nE k) sepA) sepO (i + 1)) else cmp T nE (k + 1) i
def sd (T : Nat → TK) (nE k : Nat) : Nat → RE := sq T (fct T nE k) sepA
def tst (T : Nat → TK) (nE k : Nat) : Nat → RE := sq T (sd T nE k) sepO
/-! what is read is well told -/
theorem ckS_app (a b : OPS) : ∀ ts, ckS (a ++ b) ts = (ckS a ts).bind (ckS b) := by
  induction a with
  | nil => intro ts; rfl
  | cons q a ih =>
    intro ts
    show (ck1 q.1 ts).bind (ckS (a ++ b)) = ((ck1 q.1 ts).bind (ckS a)).bind (ckS b)
    cases ck1 q.1 ts with
    | none => rfl
    | some t2 => exact ih t2
/-- a list of operations that puts a b on the pile, with D more in work -/
def wts (nE : Nat) (b : Bool) (D : Nat) (o : OPS) : Prop := (∀ q ∈ o, WO nE q) ∧ ∀ ts : List Bool, ts.length + D ≤ 60 → ckS o ts = some (b :: ts)
def rok (N nE : Nat) (b : Bool) (D : Nat) (i : Nat) : RE → Prop
  | .inl e => 1 ≤ e.1 ∧ e.1 ≤ 4
  | .inr (o, j) => i < j ∧ j ≤ N ∧ o.length + i ≤ j ∧ wts nE b D o
def OKR (N nE : Nat) (b : Bool) (D : Nat) (g : Nat → RE) : Prop := ∀ i, i ≤ N → rok N nE b D i (g i)
theorem wts_mono {nE : Nat} {b : Bool} {D D' : Nat} {o : OPS} (h : wts nE b D o) (hD : D ≤ D') : wts nE b D' o := ⟨h.1, fun ts ht => h.2 ts (by omega)⟩
theorem rok_mono {N nE : Nat} {b : Bool} {D D' i i' : Nat} {r : RE} (h : rok N nE b D i r) (hD : D ≤ D') (hi : i' ≤ i) : rok N nE b D' i' r := by
  match r, h with
  | .inl e, h => exact h
  | .inr (o, j), h => exact ⟨by have := h.1; omega, h.2.1, by have := h.2.2.1; omega, wts_mono h.2.2.2 hD⟩
theorem wts_2 {nE : Nat} {b c : Bool} {D : Nat} {o o2 : OPS} {op : Nat} (h1 : wts nE b D o) (h2 : wts nE b D o2) (ho : op ≤ 13 ∧ ¬ op = 1) (hk : ∀ ts, ck1 op (b :: b :: ts) = some (c :: ts)) : wts nE c (D + 1) (o ++ (o2 ++ [(op, 0)])) := by
  refine ⟨fun q hq => ?_, fun ts ht => ?_⟩
  · rcases List.mem_append.mp hq with q1 | q1
    · exact h1.1 q q1
    · rcases List.mem_append.mp q1 with q2 | q2
      · exact h2.1 q q2
      · rw [List.mem_singleton.mp q2]
        exact ⟨ho.1, by show 0 ≤ (0 : Int32).toInt; decide, by show (0 : Int32).toInt ≤ 99999; decide, fun z => absurd z ho.2⟩
  · rw [ckS_app, h1.2 ts (by omega)]
    show ckS (o2 ++ [(op, 0)]) (b :: ts) = _
    rw [ckS_app, h2.2 (b :: ts) (by simp only [List.length_cons]; omega)]
    show (ck1 op (b :: b :: ts)).bind (ckS []) = _
    rw [hk ts]
    rfl
def sOK (sep : Nat → Nat) (b : Bool) : Prop := sep 41 = 99 ∧ ∀ s, ¬ sep s = 99 → (sep s ≤ 13 ∧ ¬ sep s = 1) ∧ ∀ ts, ck1 (sep s) (b :: b :: ts) = some (b :: ts)
theorem sOK_O : sOK sepO true := ⟨rfl, fun s h => by
  unfold sepO at h ⊢
  by_cases c : s = 20
  · rw [if_pos c]; exact ⟨by decide, fun ts => rfl⟩
  · rw [if_neg c] at h; exact absurd rfl h⟩
theorem sOK_A : sOK sepA true := ⟨rfl, fun s h => by
  unfold sepA at h ⊢
  by_cases c : s = 21
  · rw [if_pos c]; exact ⟨by decide, fun ts => rfl⟩
  · rw [if_neg c] at h; exact absurd rfl h⟩
theorem sOK_S : sOK sepS false := ⟨rfl, fun s h => by
  unfold sepS at h ⊢
  by_cases c : s = 33
  · rw [if_pos c]; exact ⟨by decide, fun ts => rfl⟩
  · rw [if_neg c] at h ⊢
    by_cases c2 : s = 34
    · rw [if_pos c2]; exact ⟨by decide, fun ts => rfl⟩
    · rw [if_neg c2] at h; exact absurd rfl h⟩
section GRM
variable {T : Nat → TK} {N nE : Nat} (hT : ∀ j, j ≤ N → ((T j).1 = 41 ↔ j = N))
theorem lt_of_T {i : Nat} (hT : ∀ j, j ≤ N → ((T j).1 = 41 ↔ j = N)) (hi : i ≤ N) (h : ¬ (T i).1 = 41) : i < N := by
  rcases Nat.lt_or_ge i N with q | q
  · exact q
  · exact absurd ((hT i hi).mpr (by omega)) h
theorem chn_ok {g : Nat → RE} {sep : Nat → Nat} {b : Bool} {D : Nat} (hT : ∀ j, j ≤ N → ((T j).1 = 41 ↔ j = N)) (hg : OKR N nE b D g) (hs : sOK sep b) (i0 : Nat) : ∀ m o i, i0 < i → i ≤ N → o.length + i0 ≤ i → wts nE b (D + 1) o → rok N nE b (D + 1) i0 (chn T g sep m o i) := by
  intro m
  induction m with
  | zero => intro o i h1 h2 h3 h4; exact ⟨h1, h2, h3, h4⟩
  | succ m ih =>
    intro o i h1 h2 h3 h4
    rw [chn]
    by_cases c : sep (T i).1 = 99
    · rw [if_pos c]; exact ⟨h1, h2, h3, h4⟩
    · rw [if_neg c]
      have hi : i < N := lt_of_T hT h2 (fun z => c (by rw [z]; exact hs.1))
      have hg1 := hg (i + 1) (by omega)
      cases hq : g (i + 1) with
      | inl e => rw [hq] at hg1; exact hg1
      | inr x =>
        obtain ⟨o2, i2⟩ := x
        rw [hq] at hg1
        obtain ⟨a1, a2, a3, a4⟩ := hg1
        refine ih _ _ (by omega) a2 (by simp only [List.length_append, List.length_cons, List.length_nil]; omega) ?_
        have w1 : wts nE b (D + 1) o := h4
        have := hs.2 _ c
        refine ⟨?_, fun ts ht => ?_⟩
        · intro q hq
          rcases List.mem_append.mp hq with q1 | q1
          · exact h4.1 q q1
          · rcases List.mem_append.mp q1 with q2 | q2
            · exact a4.1 q q2
            · rw [List.mem_singleton.mp q2]
              exact ⟨this.1.1, by show 0 ≤ (0 : Int32).toInt; decide, by show (0 : Int32).toInt ≤ 99999; decide, fun z => absurd z this.1.2⟩
        · rw [ckS_app, h4.2 ts (by omega)]
          show ckS (o2 ++ [(sep (T i).1, 0)]) (b :: ts) = _
          rw [ckS_app, a4.2 (b :: ts) (by simp only [List.length_cons]; omega)]
          show (ck1 (sep (T i).1) (b :: b :: ts)).bind (ckS []) = _
          rw [this.2 ts]
          rfl
theorem sq_ok {g : Nat → RE} {sep : Nat → Nat} {b : Bool} {D : Nat} (hT : ∀ j, j ≤ N → ((T j).1 = 41 ↔ j = N)) (hg : OKR N nE b D g) (hs : sOK sep b) : OKR N nE b (D + 1) (sq T g sep) := by
  intro i hi
  rw [sq]
  have hg1 := hg i hi
  cases hq : g i with
  | inl e => rw [hq] at hg1; exact hg1
  | inr x =>
    obtain ⟨o, i2⟩ := x
    rw [hq] at hg1
    obtain ⟨a1, a2, a3, a4⟩ := hg1
    exact chn_ok hT hg hs i 1200 o i2 a1 a2 a3 (wts_mono a4 (by omega))
theorem pNum_in {i lo hx v j : Nat} (h : pNum T i lo hx = .inr (v, j)) : (T i).1 = 39 ∧ v = (T i).2.2 ∧ lo ≤ v ∧ v < hx ∧ j = i + 1 := by
  unfold pNum at h
  by_cases c : (T i).1 = 39
  · rw [if_pos c] at h
    by_cases c2 : lo ≤ (T i).2.2 ∧ (T i).2.2 < hx
    · rw [if_pos c2] at h; cases h; exact ⟨c, rfl, c2.1, c2.2, rfl⟩
    · rw [if_neg c2] at h; cases h
  · rw [if_neg c] at h; cases h
theorem pNum_er {i lo hx : Nat} {e : Nat × Nat} (h : pNum T i lo hx = .inl e) : 1 ≤ e.1 ∧ e.1 ≤ 4 := by
  unfold pNum at h
  by_cases c : (T i).1 = 39
  · rw [if_pos c] at h
    by_cases c2 : lo ≤ (T i).2.2 ∧ (T i).2.2 < hx
    · rw [if_pos c2] at h; cases h
    · rw [if_neg c2] at h; cases h; exact ⟨(by show 1 ≤ 2; omega), (by show 2 ≤ 4; omega)⟩
  · rw [if_neg c] at h; cases h; exact ⟨(by show 1 ≤ 1; omega), (by show 1 ≤ 4; omega)⟩
theorem pTake_in {i s j : Nat} (h : pTake T i s = .inr j) : (T i).1 = s ∧ j = i + 1 := by
  unfold pTake at h
  by_cases c : (T i).1 = s
  · rw [if_pos c] at h; cases h; exact ⟨c, rfl⟩
  · rw [if_neg c] at h; cases h
theorem pTake_er {i s : Nat} {e : Nat × Nat} (h : pTake T i s = .inl e) : 1 ≤ e.1 ∧ e.1 ≤ 4 := by
  unfold pTake at h
  by_cases c : (T i).1 = s
  · rw [if_pos c] at h; cases h
  · rw [if_neg c] at h; cases h; exact ⟨(by show 1 ≤ 1; omega), (by show 1 ≤ 4; omega)⟩
theorem wts_1 {op : Nat} {v : Int32} (h5 : op ≤ 5) (hv : 0 ≤ v.toInt ∧ v.toInt ≤ 99999) (h1 : op = 1 → v.toInt < nE) : wts nE false 1 [(op, v)] := by
  refine ⟨fun q hq => ?_, fun ts ht => ?_⟩
  · rw [List.mem_singleton.mp hq]
    exact ⟨by show op ≤ 13; omega, hv.1, hv.2, h1⟩
  · show (ck1 op ts).bind (ckS []) = _
    unfold ck1
    rw [if_pos h5, if_pos (by omega)]
    rfl
theorem trm0_ok (hT : ∀ j, j ≤ N → ((T j).1 = 41 ↔ j = N)) (hE : nE ≤ 10) : OKR N nE false 1 (trm0 T nE) := by
  intro i hi
  unfold trm0
  by_cases c : (T i).1 = 23
  · rw [if_pos c]
    have hi1 : i < N := lt_of_T hT hi (by omega)
    cases hq : pNum T (i + 1) 0 nE with
    | inl e => exact pNum_er hq
    | inr x =>
      obtain ⟨v, j⟩ := x
      obtain ⟨a1, a2, a3, a4, a5⟩ := pNum_in hq
      have hi2 : i + 1 < N := lt_of_T hT (by omega) (by omega)
      exact ⟨by omega, by omega, by simp only [List.length_cons, List.length_nil]; omega, wts_1 (by omega) (by rw [nI_int (by omega)]; omega) (fun _ => by rw [nI_int (by omega)]; omega)⟩
  · rw [if_neg c]
    by_cases c2 : (T i).1 = 39
    · rw [if_pos c2]
      have hi1 : i < N := lt_of_T hT hi (by omega)
      cases hq : pNum T i 0 100000 with
      | inl e => exact pNum_er hq
      | inr x =>
        obtain ⟨v, j⟩ := x
        obtain ⟨a1, a2, a3, a4, a5⟩ := pNum_in hq
        exact ⟨by omega, by omega, by simp only [List.length_cons, List.length_nil]; omega, wts_1 (by omega) (by rw [nI_int (by omega)]; omega) (fun z => by omega)⟩
    · rw [if_neg c2]
      unfold opW
      by_cases c3 : wop (T i).1 = 99
      · rw [if_pos c3]; exact ⟨(by show 1 ≤ 1; omega), (by show 1 ≤ 4; omega)⟩
      · rw [if_neg c3]
        have hi1 : i < N := lt_of_T hT hi (fun z => c3 (by rw [z]; rfl))
        have hw : wop (T i).1 ≤ 5 ∧ ¬ wop (T i).1 = 1 := by
          unfold wop at c3 ⊢
          by_cases d1 : (T i).1 = 25
          · rw [if_pos d1]; omega
          · rw [if_neg d1] at c3 ⊢
            by_cases d2 : (T i).1 = 12
            · rw [if_pos d2]; omega
            · rw [if_neg d2] at c3 ⊢
              by_cases d3 : (T i).1 = 26
              · rw [if_pos d3]; omega
              · rw [if_neg d3] at c3 ⊢
                by_cases d4 : (T i).1 = 24
                · rw [if_pos d4]; omega
                · rw [if_neg d4] at c3; exact absurd rfl c3
        exact ⟨by omega, by omega, by simp only [List.length_cons, List.length_nil]; omega, wts_1 hw.1 ⟨by decide, by decide⟩ (fun z => absurd z hw.2)⟩
theorem thn_ok {b : Bool} {D i s : Nat} {r : RE} (hT : ∀ j, j ≤ N → ((T j).1 = 41 ↔ j = N)) (hs : ¬ s = 41) (h : rok N nE b D i r) : rok N nE b D i (thn T s r) := by
  match r, h with
  | .inl e, h => exact h
  | .inr (o, j), h =>
    obtain ⟨a1, a2, a3, a4⟩ := h
    show rok N nE b D i (match pTake T j s with
      | .inl e => .inl e
      | .inr j2 => .inr (o, j2))
    cases hq : pTake T j s with
    | inl e => exact pTake_er hq
    | inr j2 =>
      obtain ⟨b1, b2⟩ := pTake_in hq
      have := lt_of_T hT a2 (by omega)
      exact ⟨by omega, by omega, by omega, a4⟩
theorem trm_ok (hT : ∀ j, j ≤ N → ((T j).1 = 41 ↔ j = N)) (hE : nE ≤ 10) : ∀ k, OKR N nE false (k + 1) (trm T nE k)
  | 0 => fun i hi => by
    rw [trm]
    by_cases c : (T i).1 = 37
    · rw [if_pos c]; exact ⟨(by show 1 ≤ 4; omega), (by show 4 ≤ 4; omega)⟩
    · rw [if_neg c]; exact trm0_ok hT hE i hi
  | k + 1 => fun i hi => by
    rw [trm]
    by_cases c : (T i).1 = 37
    · rw [if_pos c]
      have hi1 : i < N := lt_of_T hT hi (by omega)
      exact thn_ok hT (by omega) (rok_mono (sq_ok hT (trm_ok hT hE k) sOK_S (i + 1) (by omega)) (by omega) (by omega))
    · rw [if_neg c]; exact rok_mono (trm0_ok hT hE i hi) (by omega) (by omega)
theorem sm_ok (hT : ∀ j, j ≤ N → ((T j).1 = 41 ↔ j = N)) (hE : nE ≤ 10) (k : Nat) : OKR N nE false (k + 2) (sm T nE k) := sq_ok hT (trm_ok hT hE k) sOK_S
theorem cmpo_ok {s : Nat} (h : ¬ cmpo s = 99) : (cmpo s ≤ 13 ∧ ¬ cmpo s = 1) ∧ ∀ ts, ck1 (cmpo s) (false :: false :: ts) = some (true :: ts) := by
  unfold cmpo at h ⊢
  by_cases d1 : s = 30
  · rw [if_pos d1]; exact ⟨by decide, fun ts => rfl⟩
  · rw [if_neg d1] at h ⊢
    by_cases d2 : s = 31
    · rw [if_pos d2]; exact ⟨by decide, fun ts => rfl⟩
    · rw [if_neg d2] at h ⊢
      by_cases d3 : s = 32
      · rw [if_pos d3]; exact ⟨by decide, fun ts => rfl⟩
      · rw [if_neg d3] at h; exact absurd rfl h
theorem cmp_ok (hT : ∀ j, j ≤ N → ((T j).1 = 41 ↔ j = N)) (hE : nE ≤ 10) (k : Nat) : OKR N nE true (k + 3) (cmp T nE k) := fun i hi => by
  unfold cmp
  have h1 := sm_ok hT hE k i hi
  cases hq : sm T nE k i with
  | inl e => rw [hq] at h1; exact h1
  | inr x =>
    obtain ⟨o, j⟩ := x
    rw [hq] at h1
    obtain ⟨a1, a2, a3, a4⟩ := h1
    show rok N nE true (k + 3) i (cm2 T nE k j o)
    unfold cm2
    by_cases c : cmpo (T j).1 = 99
    · rw [if_pos c]; exact ⟨(by show 1 ≤ 1; omega), (by show 1 ≤ 4; omega)⟩
    · rw [if_neg c]
      have hj : j < N := lt_of_T hT a2 (fun z => c (by rw [z]; rfl))
      have h2 := sm_ok hT hE k (j + 1) (by omega)
      cases hq2 : sm T nE k (j + 1) with
      | inl e => rw [hq2] at h2; exact h2
      | inr x =>
        obtain ⟨o2, j2⟩ := x
        rw [hq2] at h2
        obtain ⟨b1, b2, b3, b4⟩ := h2
        exact ⟨by omega, by omega, by simp only [List.length_append, List.length_cons, List.length_nil]; omega, wts_2 a4 b4 (cmpo_ok c).1 (cmpo_ok c).2⟩
theorem ngt_ok {D i : Nat} {r : RE} (h : rok N nE true D (i + 1) r) : rok N nE true D i (ngt r) := by
  match r, h with
  | .inl e, h => exact h
  | .inr (o, j), h =>
    obtain ⟨a1, a2, a3, a4⟩ := h
    refine ⟨by omega, a2, by simp only [List.length_append, List.length_cons, List.length_nil]; omega, fun q hq => ?_, fun ts ht => ?_⟩
    · rcases List.mem_append.mp hq with q1 | q1
      · exact a4.1 q q1
      · rw [List.mem_singleton.mp q1]
        exact ⟨by decide, by decide, by decide, fun z => absurd (show (11 : Nat) = 1 from z) (by decide)⟩
    · rw [ckS_app, a4.2 ts ht]
      rfl
theorem fct_ok (hT : ∀ j, j ≤ N → ((T j).1 = 41 ↔ j = N)) (hE : nE ≤ 10) : ∀ k, OKR N nE true (2 * k + 3) (fct T nE k)
  | 0 => fun i hi => by
    rw [fct]
    by_cases c : (T i).1 = 22
    · rw [if_pos c]; exact ⟨(by show 1 ≤ 4; omega), (by show 4 ≤ 4; omega)⟩
    · rw [if_neg c]
      by_cases c2 : (T i).1 = 35
      · rw [if_pos c2]; exact ⟨(by show 1 ≤ 4; omega), (by show 4 ≤ 4; omega)⟩
      · rw [if_neg c2]; exact cmp_ok hT hE 0 i hi
  | k + 1 => fun i hi => by
    rw [fct]
    by_cases c : (T i).1 = 22
    · rw [if_pos c]
      have hi1 : i < N := lt_of_T hT hi (by omega)
      exact ngt_ok (rok_mono (fct_ok hT hE k (i + 1) (by omega)) (by omega) (Nat.le_refl _))
    · rw [if_neg c]
      by_cases c2 : (T i).1 = 35
      · rw [if_pos c2]
        have hi1 : i < N := lt_of_T hT hi (by omega)
        exact thn_ok hT (by omega) (rok_mono (sq_ok hT (sq_ok hT (fct_ok hT hE k) sOK_A) sOK_O (i + 1) (by omega)) (by omega) (by omega))
      · rw [if_neg c2]; exact rok_mono (cmp_ok hT hE (k + 1) i hi) (by omega) (Nat.le_refl _)
theorem sd_ok (hT : ∀ j, j ≤ N → ((T j).1 = 41 ↔ j = N)) (hE : nE ≤ 10) (k : Nat) : OKR N nE true (2 * k + 4) (sd T nE k) := sq_ok hT (fct_ok hT hE k) sOK_A
theorem tst_ok (hT : ∀ j, j ≤ N → ((T j).1 = 41 ↔ j = N)) (hE : nE ≤ 10) (k : Nat) : OKR N nE true (2 * k + 5) (tst T nE k) := sq_ok hT (sd_ok hT hE k) sOK_O
end GRM
