/-! THE WORLD: cells in the order in which they are made; a reference is a code: below 1000 a cell, from 1000 on an enum constant, from 2000 on a text, from 3000 on its bytes -/
abbrev GT : Type := Nat × va_G × (Nat → ClassId) × (Nat → Nat) × (Nat → Nat) × (Nat → Nat)
def gb (G : GT) : Nat := G.1
def gD (G : GT) : va_G := G.2.1
def gA (G : GT) : Nat → ClassId := G.2.2.1
def gE (G : GT) : Nat → Nat := G.2.2.2.1
def gK (G : GT) : Nat → Nat := G.2.2.2.2.1
def gV (G : GT) : Nat → Nat := G.2.2.2.2.2
def ra (G : GT) (r : Nat) : Nat := if r < 1000 then gb G + r else if r < 2000 then gE G (r - 1000) else if r < 3000 then gK G (r - 2000) else gV G (r - 3000)
def rv (G : GT) (r : Option Nat) : Value := va_rf (r.map (ra G))
theorem ra_lt (G : GT) {r : Nat} (h : r < 1000) : ra G r = gb G + r := if_pos h
theorem rv_some (G : GT) (r : Nat) : rv G (some r) = .ref (ra G r) := rfl
abbrev Wd : Type := Nat × (Nat → Nat × Nat) × (Nat → Nat → Int32) × (Nat → Nat → Int64) × (Nat → Nat → Option Nat)
/-- kinds of fields: 0 int or boolean, 1 long, 2 reference -/
def fkl : List (List Nat) := [[2, 0, 2, 2, 0, 0, 2, 0], [2, 2, 2, 2, 2, 0, 0, 0], [2, 2, 2, 2, 0], [2, 0], [0, 0, 2, 2, 0, 0, 0, 0], [2, 2, 0, 0, 0, 0, 0, 0, 0], [2, 2, 0], [], [2, 0, 0, 0, 2, 1], [2, 2, 2, 0, 2], [0, 0, 0, 0, 0, 0, 0, 2, 2], [2, 0, 2, 2, 2, 2, 0, 2, 2, 2, 2, 2], [0, 0, 0, 0, 0, 0, 2, 2, 2, 2, 2, 2, 2, 0, 0, 0, 0, 0, 0, 2, 2, 2, 2, 2, 2, 2, 2, 0, 0, 0, 0, 0, 0, 0, 0, 0, 2, 2, 2, 2, 2, 2, 2, 1, 0, 2, 2, 0]]
def fk (ci k : Nat) : Nat := (fkl.getD ci []).getD k 0
def fv (G : GT) (I : Nat → Nat → Int32) (L : Nat → Nat → Int64) (R : Nat → Nat → Option Nat) (a ci k : Nat) : Value := match fk ci k with
  | 0 => .int (I a k)
  | 1 => .long (L a k)
  | _ => rv G (R a k)
/-- kinds of cells: below 20 an object of that class, 20 int[], 21 byte[], 22 boolean[], 23 long[], 24 Sign[], 25 Trial[], 26 Score[], 27 int[][] -/
def ent (G : GT) (sh : Nat → Nat × Nat) (I : Nat → Nat → Int32) (L : Nat → Nat → Int64) (R : Nat → Nat → Option Nat) (a : Nat) : va_E :=
  if (sh a).1 < 20 then .inr ((sh a).1, (List.range (sh a).2).map (fv G I L R a (sh a).1))
  else if (sh a).1 < 23 then .inl (gA G ((sh a).1 - 20), (sh a).2, .inl (I a))
  else if (sh a).1 = 23 then .inl (gA G 3, (sh a).2, .inr (.inl (L a)))
  else .inl (gA G ((sh a).1 - 20), (sh a).2, .inr (.inr (.inr (.inr (fun j => (R a j).map (ra G))))))
def tysL (G : GT) : List (ClassId × FieldType) := [(gA G 0, .int), (gA G 1, .byte), (gA G 2, .boolean), (gA G 3, .long), (gA G 4, .object "TenTrials$Sign"), (gA G 5, .object "TenTrials$Trial"), (gA G 6, .object "TenTrials$Score"), (gA G 7, .array .int)]
def wsOf (G : GT) (w : Wd) : va_W := (List.range w.1).map (fun a => (gb G + a, ent G w.2.1 w.2.2.1 w.2.2.2.1 w.2.2.2.2 a))
def AG (G : GT) : Nat → Prop := fun q => gb G ≤ q
def HW (G : GT) (w : Wd) (H : Heap) : Prop := va_P (gD G) cls (wsOf G w) H ∧ H.size = gb G + w.1 ∧ w.1 < 1000
theorem wsOf_at {G : GT} {w : Wd} {a : Nat} (h : a < w.1) : (wsOf G w)[a]? = some (gb G + a, ent G w.2.1 w.2.2.1 w.2.2.2.1 w.2.2.2.2 a) := by
  unfold wsOf
  rw [List.getElem?_map, List.getElem?_range h]
  rfl
theorem wsOf_in {G : GT} {w : Wd} {a : Nat} {q : Nat × va_E} (h : (wsOf G w)[a]? = some q) : a < w.1 ∧ q = (gb G + a, ent G w.2.1 w.2.2.1 w.2.2.2.1 w.2.2.2.2 a) := by
  have hl := (List.getElem?_eq_some_iff.mp h).1
  have h1 : a < w.1 := by
    unfold wsOf at hl
    rw [List.length_map, List.length_range] at hl
    exact hl
  refine ⟨h1, ?_⟩
  rw [wsOf_at h1] at h
  exact (Option.some.inj h).symm
theorem wsOf_D (G : GT) (w : Wd) : va_D (AG G) (wsOf G w) := by
  refine ⟨fun i j p q hi hj e => ?_, fun k q hk => ?_⟩
  · obtain ⟨-, rfl⟩ := wsOf_in hi
    obtain ⟨-, rfl⟩ := wsOf_in hj
    have : gb G + i = gb G + j := e
    omega
  · obtain ⟨-, rfl⟩ := wsOf_in hk
    exact Nat.le_add_right _ _
theorem wsOf_set {G : GT} {w w' : Wd} {a : Nat} {e : va_E} (hN : w'.1 = w.1) (ha : a < w.1) (he : ent G w'.2.1 w'.2.2.1 w'.2.2.2.1 w'.2.2.2.2 a = e) (ho : ∀ b, b ≠ a → ent G w'.2.1 w'.2.2.1 w'.2.2.2.1 w'.2.2.2.2 b = ent G w.2.1 w.2.2.1 w.2.2.2.1 w.2.2.2.2 b) :
    (wsOf G w).set a (gb G + a, e) = wsOf G w' := by
  apply List.ext_getElem?
  intro i
  rw [List.getElem?_set]
  by_cases hi : i < w.1
  · rw [wsOf_at (w := w') (by rw [hN]; exact hi)]
    by_cases h : a = i
    · subst h
      have hl : a < (wsOf G w).length := by unfold wsOf; rw [List.length_map, List.length_range]; exact ha
      rw [if_pos rfl, if_pos hl, he]
    · rw [if_neg h, wsOf_at hi, ho i (fun z => h z.symm)]
  · have h1 : (wsOf G w')[i]? = none := List.getElem?_eq_none (by unfold wsOf; rw [List.length_map, List.length_range, hN]; omega)
    have h2 : (wsOf G w)[i]? = none := List.getElem?_eq_none (by unfold wsOf; rw [List.length_map, List.length_range]; omega)
    rw [h1, if_neg (by omega), h2]
theorem HW_set {G : GT} {w w' : Wd} {H H1 : Heap} {a : Nat} {e : va_E} (hH : HW G w H) (hN : w'.1 = w.1) (ha : a < w.1) (he : ent G w'.2.1 w'.2.2.1 w'.2.2.2.1 w'.2.2.2.2 a = e) (ho : ∀ b, b ≠ a → ent G w'.2.1 w'.2.2.1 w'.2.2.2.1 w'.2.2.2.2 b = ent G w.2.1 w.2.2.1 w.2.2.2.1 w.2.2.2.2 b)
    (hP : va_P (gD G) cls ((wsOf G w).set a (gb G + a, e)) H1) (hz : H1.size = H.size) : HW G w' H1 := by
  rw [wsOf_set hN ha he ho] at hP
  exact ⟨hP, by rw [hz, hN]; exact hH.2.1, by rw [hN]; exact hH.2.2⟩
/-! what the tables say -/
def tbl2 : List Cond := lw_tbl.filter goodWord
def wY (mi : MI) : List Cond := .code mi.1 mi.2.1 mi.2.2.1 mi.2.2.2 :: tbl2
theorem tbl2_good {w : Cond} (h : w ∈ tbl2) : (w.onTables && w.keeps) = true ∨ ∃ ty, w = .arrayClass ty := good_of_word (List.mem_filter.mp h).2
def inT (i : Nat) (w : Cond) : Bool := decide (nth lw_tbl i = some w) && goodWord w
theorem inT_mem {i : Nat} {w : Cond} (h : inT i w = true) : w ∈ tbl2 := by
  unfold inT at h
  rw [Bool.and_eq_true] at h
  exact List.mem_filter.mpr ⟨nth_mem (of_decide_eq_true h.1), h.2⟩
/-! locals -/
abbrev LV : Type := List (Option Value)
def lvl : Nat → LV → List (Nat × Value)
  | _, [] => []
  | i, some v :: t => (i, v) :: lvl (i + 1) t
  | i, none :: t => lvl (i + 1) t
def lg : LV → Nat → Option Value
  | [], _ => none
  | x :: _, 0 => x
  | _ :: t, n + 1 => lg t n
def c1 : Option Value → Option Value
  | some (.long _) => none
  | some (.double _) => none
  | x => x
/-- one slot -/
def lset : LV → Nat → Value → LV
  | [], _, _ => []
  | _ :: t, 0, v => some v :: t
  | x :: t, 1, v => c1 x :: lset t 0 v
  | x :: t, n + 2, v => x :: lset t (n + 1) v
/-- two slots -/
def l0 : LV → LV
  | [] => []
  | _ :: t => none :: t
def lset2 : LV → Nat → Value → LV
  | [], _, _ => []
  | _ :: t, 0, v => some v :: l0 t
  | x :: t, 1, v => c1 x :: lset2 t 0 v
  | x :: t, n + 2, v => x :: lset2 t (n + 1) v
theorem lvl_lg {v : Value} : ∀ {ls : LV} {i k : Nat}, lg ls k = some v → (i + k, v) ∈ lvl i ls
  | [], _, _, h => by cases h
  | some x :: t, i, 0, h => by cases h; exact List.mem_cons_self
  | none :: t, i, 0, h => by cases h
  | some x :: t, i, k + 1, h => by
    have := lvl_lg (ls := t) (i := i + 1) (k := k) h
    rw [show i + 1 + k = i + (k + 1) by omega] at this
    exact List.mem_cons_of_mem _ this
  | none :: t, i, k + 1, h => by
    have := lvl_lg (ls := t) (i := i + 1) (k := k) h
    rw [show i + 1 + k = i + (k + 1) by omega] at this
    exact this
theorem lvl_ge : ∀ {ls : LV} {i : Nat} {q : Nat × Value}, q ∈ lvl i ls → i ≤ q.1
  | [], _, _, h => by cases h
  | some x :: t, i, q, h => by
    rcases List.mem_cons.mp h with rfl | h
    · exact Nat.le_refl _
    · exact Nat.le_of_succ_le (lvl_ge h)
  | none :: t, i, q, h => Nat.le_of_succ_le (lvl_ge (ls := t) h)
theorem lvl_c1 {x : Option Value} {t : LV} {i : Nat} {q : Nat × Value} (h : q ∈ lvl i (c1 x :: t)) : (q.1 = i ∧ (∀ u : LV, q ∈ lvl i (x :: u)) ∧ ¬ q.2.category = 2) ∨ q ∈ lvl (i + 1) t := by
  cases x with
  | none => exact Or.inr h
  | some v =>
    cases v <;> first
      | exact Or.inr h
      | (rcases List.mem_cons.mp h with rfl | h
         · exact Or.inl ⟨rfl, fun u => List.mem_cons_self, by simp [Value.category]⟩
         · exact Or.inr h)
theorem lvl_tl {x : Option Value} {t : LV} {i : Nat} {q : Nat × Value} (h : q ∈ lvl (i + 1) t) : q ∈ lvl i (x :: t) := by
  cases x with
  | none => exact h
  | some v => exact List.mem_cons_of_mem _ h
theorem lvl_hd {x : Option Value} {t : LV} {i : Nat} {q : Nat × Value} (h : q ∈ lvl i (x :: t)) : (x = some q.2 ∧ q.1 = i) ∨ q ∈ lvl (i + 1) t := by
  cases x with
  | none => exact Or.inr h
  | some v =>
    rcases List.mem_cons.mp h with rfl | h
    · exact Or.inl ⟨rfl, rfl⟩
    · exact Or.inr h
theorem lvl_set {v : Value} : ∀ {ls : LV} {i k : Nat} {q : Nat × Value}, q ∈ lvl i (lset ls k v) → q = (i + k, v) ∨ (q ∈ lvl i ls ∧ ¬ q.1 = i + k ∧ ¬ (q.1 + 1 = i + k ∧ q.2.category = 2))
  | [], _, _, _, h => by cases h
  | x :: t, i, 0, q, h => by
    rcases List.mem_cons.mp h with rfl | h
    · exact Or.inl rfl
    · have := lvl_ge h
      exact Or.inr ⟨lvl_tl h, by omega, by omega⟩
  | x :: t, i, 1, q, h => by
    rcases lvl_c1 h with ⟨h1, h2, h3⟩ | h
    · right
      exact ⟨h2 _, by omega, fun z => h3 z.2⟩
    · rcases lvl_set (ls := t) (i := i + 1) (k := 0) h with rfl | ⟨h1, h2, h3⟩
      · exact Or.inl rfl
      · have := lvl_ge h1
        exact Or.inr ⟨lvl_tl h1, by omega, by omega⟩
  | x :: t, i, n + 2, q, h => by
    rcases lvl_hd h with ⟨h1, h2⟩ | h
    · right
      subst h1
      refine ⟨?_, by omega, by omega⟩
      rw [show q = (i, q.2) from Prod.ext h2 rfl]
      exact List.mem_cons_self
    · rcases lvl_set (ls := t) (i := i + 1) (k := n + 1) h with rfl | ⟨h1, h2, h3⟩
      · left
        exact Prod.ext (by show i + 1 + (n + 1) = i + (n + 2); omega) rfl
      · exact Or.inr ⟨lvl_tl h1, by omega, by omega⟩
theorem lvl_l0 {t : LV} {i : Nat} {q : Nat × Value} (h : q ∈ lvl i (l0 t)) : q ∈ lvl i t ∧ i + 1 ≤ q.1 := by
  cases t with
  | nil => cases h
  | cons x t =>
    have h : q ∈ lvl (i + 1) t := h
    exact ⟨lvl_tl h, lvl_ge h⟩
theorem lvl_set2 {v : Value} : ∀ {ls : LV} {i k : Nat} {q : Nat × Value}, q ∈ lvl i (lset2 ls k v) → q = (i + k, v) ∨ (q ∈ lvl i ls ∧ ¬ q.1 = i + k ∧ ¬ q.1 = i + k + 1 ∧ ¬ (q.1 + 1 = i + k ∧ q.2.category = 2))
  | [], _, _, _, h => by cases h
  | x :: t, i, 0, q, h => by
    rcases List.mem_cons.mp h with rfl | h
    · exact Or.inl rfl
    · obtain ⟨h1, h2⟩ := lvl_l0 h
      exact Or.inr ⟨lvl_tl h1, by omega, by omega, by omega⟩
  | x :: t, i, 1, q, h => by
    rcases lvl_c1 h with ⟨h1, h2, h3⟩ | h
    · right
      exact ⟨h2 _, by omega, by omega, fun z => h3 z.2⟩
    · rcases lvl_set2 (ls := t) (i := i + 1) (k := 0) h with rfl | ⟨h1, h2, h3, h4⟩
      · exact Or.inl rfl
      · have := lvl_ge h1
        exact Or.inr ⟨lvl_tl h1, by omega, by omega, by omega⟩
  | x :: t, i, n + 2, q, h => by
    rcases lvl_hd h with ⟨h1, h2⟩ | h
    · right
      subst h1
      refine ⟨?_, by omega, by omega, by omega⟩
      rw [show q = (i, q.2) from Prod.ext h2 rfl]
      exact List.mem_cons_self
    · rcases lvl_set2 (ls := t) (i := i + 1) (k := n + 1) h with rfl | ⟨h1, h2, h3, h4⟩
      · left
        exact Prod.ext (by show i + 1 + (n + 1) = i + (n + 2); omega) rfl
      · exact Or.inr ⟨lvl_tl h1, by omega, by omega, by omega⟩
theorem lv_has_sub {la : Array Slot} {nL : Nat} {l l' : List (Nat × Value)} (h : lv_has la nL l) (hs : ∀ q ∈ l', q ∈ l) : lv_has la nL l' := ⟨h.1, h.2.1, fun q hq => h.2.2 q (hs q hq)⟩
theorem lv_s1 {la : Array Slot} {nL : Nat} {ls : LV} {i : Nat} {v : Value} (h : lv_has la nL ((i, v) :: (lvl 0 ls).filter (fun q => !(q.1 == i) && !(q.1 + 1 == i && q.2.category == 2)))) : lv_has la nL (lvl 0 (lset ls i v)) := by
  refine lv_has_sub h (fun q hq => ?_)
  rcases lvl_set hq with rfl | ⟨h1, h2, h3⟩
  · rw [Nat.zero_add]
    exact List.mem_cons_self
  · refine List.mem_cons_of_mem _ (List.mem_filter.mpr ⟨h1, ?_⟩)
    rw [Nat.zero_add] at h2 h3
    simp only [Bool.and_eq_true, Bool.not_eq_true', beq_eq_false_iff_ne, ne_eq, Bool.and_eq_false_iff]
    refine ⟨h2, ?_⟩
    by_cases z : q.1 + 1 = i
    · exact Or.inr (fun z2 => h3 ⟨z, z2⟩)
    · exact Or.inl z
theorem lv_s2 {la : Array Slot} {nL : Nat} {ls : LV} {i : Nat} {v : Value} (h : lv_has la nL ((i, v) :: (lvl 0 ls).filter (fun q => !(q.1 == i) && (!(q.1 == i + 1) && !(q.1 + 1 == i && q.2.category == 2))))) : lv_has la nL (lvl 0 (lset2 ls i v)) := by
  refine lv_has_sub h (fun q hq => ?_)
  rcases lvl_set2 hq with rfl | ⟨h1, h2, h3, h4⟩
  · rw [Nat.zero_add]
    exact List.mem_cons_self
  · refine List.mem_cons_of_mem _ (List.mem_filter.mpr ⟨h1, ?_⟩)
    rw [Nat.zero_add] at h2 h3 h4
    simp only [Bool.and_eq_true, Bool.not_eq_true', beq_eq_false_iff_ne, ne_eq, Bool.and_eq_false_iff]
    refine ⟨h2, h3, ?_⟩
    by_cases z : q.1 + 1 = i
    · exact Or.inr (fun z2 => h4 ⟨z, z2⟩)
    · exact Or.inl z
