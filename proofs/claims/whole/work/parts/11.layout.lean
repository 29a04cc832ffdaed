/-! the cells of a TenTrials and of a TenTrialsModel behind it, in the order in which they are made -/
def NN : Nat := 197
def shL : List (Nat × Nat) := [(11, 12), (21, 1200), (3, 2), (21, 64), (4, 8), (9, 5), (24, 1201), (20, 1201), (20, 1201), (24, 42), (1, 8), (25, 10), (20, 80), (20, 80), (20, 80), (0, 8), (20, 4), (20, 5), (20, 1200), (20, 64), (10, 9), (20, 8), (20, 8), (10, 9), (20, 8), (20, 8), (10, 9), (20, 8), (20, 8), (10, 9), (20, 8), (20, 8), (10, 9), (20, 8), (20, 8), (10, 9), (20, 8), (20, 8), (10, 9), (20, 8), (20, 8), (10, 9), (20, 8), (20, 8), (10, 9), (20, 8), (20, 8), (10, 9), (20, 8), (20, 8), (2, 5), (20, 10), (20, 10), (20, 10), (20, 10), (1, 8), (25, 10), (20, 80), (20, 80), (20, 80), (0, 8), (20, 4), (20, 5), (20, 1200), (20, 64), (10, 9), (20, 8), (20, 8), (10, 9), (20, 8), (20, 8), (10, 9), (20, 8), (20, 8), (10, 9), (20, 8), (20, 8), (10, 9), (20, 8), (20, 8), (10, 9), (20, 8), (20, 8), (10, 9), (20, 8), (20, 8), (10, 9), (20, 8), (20, 8), (10, 9), (20, 8), (20, 8), (10, 9), (20, 8), (20, 8), (5, 9), (20, 10), (22, 10), (8, 6), (26, 8), (20, 80), (5, 9), (20, 10), (22, 10), (5, 9), (20, 10), (22, 10), (5, 9), (20, 10), (22, 10), (5, 9), (20, 10), (22, 10), (5, 9), (20, 10), (22, 10), (5, 9), (20, 10), (22, 10), (5, 9), (20, 10), (22, 10), (5, 9), (20, 10), (22, 10), (6, 3), (27, 10), (20, 61), (20, 61), (20, 61), (20, 61), (20, 61), (20, 61), (20, 61), (20, 61), (20, 61), (20, 61), (27, 10), (20, 61), (20, 61), (20, 61), (20, 61), (20, 61), (20, 61), (20, 61), (20, 61), (20, 61), (20, 61), (6, 3), (27, 10), (20, 61), (20, 61), (20, 61), (20, 61), (20, 61), (20, 61), (20, 61), (20, 61), (20, 61), (20, 61), (27, 10), (20, 61), (20, 61), (20, 61), (20, 61), (20, 61), (20, 61), (20, 61), (20, 61), (20, 61), (20, 61), (20, 10), (12, 48), (20, 220), (20, 4), (20, 5), (20, 1300), (20, 80), (20, 80), (20, 80), (20, 220), (20, 4), (20, 5), (20, 1300), (20, 80), (20, 80), (20, 80), (21, 1200), (20, 80), (22, 80), (23, 1300), (20, 671), (20, 488), (20, 549), (20, 80), (20, 2420), (21, 200)]
def SH (a : Nat) : Nat × Nat := (nth shL a).getD (99, 0)
def rfL : List (List (Option Nat)) := [[some 1, none, some 2, some 4, some 50, none, none, some 95, some 98, some 125, some 148, some 171], [], [some 3], [], [none, none, some 5], [some 6, some 7, some 8, none, some 9], [], [], [], [some 1000, some 1001, some 1002, some 1003, some 1004, some 1005, some 1006, some 1007, some 1008, some 1009, some 1010, some 1011, some 1012, some 1013, some 1014, some 1015, some 1016, some 1017, some 1018, some 1019, some 1020, some 1021, some 1022, some 1023, some 1024, some 1025, some 1026, some 1027, some 1028, some 1029, some 1030, some 1031, some 1032, some 1033, some 1034, some 1035, some 1036, some 1037, some 1038, some 1039, some 1040, some 1041], [some 11, some 12, some 13, some 14, some 15], [some 20, some 23, some 26, some 29, some 32, some 35, some 38, some 41, some 44, some 47], [], [], [], [some 16, none, some 17, some 18, none, none, some 19], [], [], [], [], [none, none, none, none, none, none, none, some 21, some 22], [], [], [none, none, none, none, none, none, none, some 24, some 25], [], [], [none, none, none, none, none, none, none, some 27, some 28], [], [], [none, none, none, none, none, none, none, some 30, some 31], [], [], [none, none, none, none, none, none, none, some 33, some 34], [], [], [none, none, none, none, none, none, none, some 36, some 37], [], [], [none, none, none, none, none, none, none, some 39, some 40], [], [], [none, none, none, none, none, none, none, some 42, some 43], [], [], [none, none, none, none, none, none, none, some 45, some 46], [], [], [none, none, none, none, none, none, none, some 48, some 49], [], [], [some 51, some 52, some 53, some 54], [], [], [], [], [some 56, some 57, some 58, some 59, some 60], [some 65, some 68, some 71, some 74, some 77, some 80, some 83, some 86, some 89, some 92], [], [], [], [some 61, none, some 62, some 63, none, none, some 64], [], [], [], [], [none, none, none, none, none, none, none, some 66, some 67], [], [], [none, none, none, none, none, none, none, some 69, some 70], [], [], [none, none, none, none, none, none, none, some 72, some 73], [], [], [none, none, none, none, none, none, none, some 75, some 76], [], [], [none, none, none, none, none, none, none, some 78, some 79], [], [], [none, none, none, none, none, none, none, some 81, some 82], [], [], [none, none, none, none, none, none, none, some 84, some 85], [], [], [none, none, none, none, none, none, none, some 87, some 88], [], [], [none, none, none, none, none, none, none, some 90, some 91], [], [], [none, none, none, none, none, none, none, some 93, some 94], [], [], [some 96, some 97], [], [], [some 99, none, none, none, some 100], [some 101, some 104, some 107, some 110, some 113, some 116, some 119, some 122], [], [some 102, some 103], [], [], [some 105, some 106], [], [], [some 108, some 109], [], [], [some 111, some 112], [], [], [some 114, some 115], [], [], [some 117, some 118], [], [], [some 120, some 121], [], [], [some 123, some 124], [], [], [some 126, some 137], [some 127, some 128, some 129, some 130, some 131, some 132, some 133, some 134, some 135, some 136], [], [], [], [], [], [], [], [], [], [], [some 138, some 139, some 140, some 141, some 142, some 143, some 144, some 145, some 146, some 147], [], [], [], [], [], [], [], [], [], [], [some 149, some 160], [some 150, some 151, some 152, some 153, some 154, some 155, some 156, some 157, some 158, some 159], [], [], [], [], [], [], [], [], [], [], [some 161, some 162, some 163, some 164, some 165, some 166, some 167, some 168, some 169, some 170], [], [], [], [], [], [], [], [], [], [], [], [none, none, none, none, none, none, some 173, some 174, some 175, some 176, some 177, some 178, some 179, none, none, none, none, none, none, some 180, some 181, some 182, some 183, some 184, some 185, some 186, some 187, none, none, none, none, none, none, none, none, none, some 188, some 189, some 190, some 191, some 192, some 193, some 194, none, none, some 195, some 196], [], [], [], [], [], [], [], [], [], [], [], [], [], [], [], [], [], [], [], [], [], [], [], []]
/-- where the references lead that stay as they are -/
def rfx (a k : Nat) : Option Nat := (nth ((nth rfL a).getD []) k).getD none
def Lay (R : Nat → Nat → Option Nat) : Prop := ∀ a k r, rfx a k = some r → R a k = some r
abbrev wd (I : Nat → Nat → Int32) (L : Nat → Nat → Int64) (R : Nat → Nat → Option Nat) : Wd := (NN, SH, I, L, R)
def isC (c : Nat) : Prop := c = 10 ∨ c = 55
theorem sC0 {c : Nat} (h : isC c) : c < NN ∧ SH (c) = (1, 8) := by rcases h with rfl | rfl <;> exact ⟨by decide, rfl⟩
theorem sC1 {c : Nat} (h : isC c) : c + 1 < NN ∧ SH (c + 1) = (25, 10) := by rcases h with rfl | rfl <;> exact ⟨by decide, rfl⟩
theorem sC2 {c : Nat} (h : isC c) : c + 2 < NN ∧ SH (c + 2) = (20, 80) := by rcases h with rfl | rfl <;> exact ⟨by decide, rfl⟩
theorem sC3 {c : Nat} (h : isC c) : c + 3 < NN ∧ SH (c + 3) = (20, 80) := by rcases h with rfl | rfl <;> exact ⟨by decide, rfl⟩
theorem sC4 {c : Nat} (h : isC c) : c + 4 < NN ∧ SH (c + 4) = (20, 80) := by rcases h with rfl | rfl <;> exact ⟨by decide, rfl⟩
theorem sC5 {c : Nat} (h : isC c) : c + 5 < NN ∧ SH (c + 5) = (0, 8) := by rcases h with rfl | rfl <;> exact ⟨by decide, rfl⟩
theorem sC6 {c : Nat} (h : isC c) : c + 6 < NN ∧ SH (c + 6) = (20, 4) := by rcases h with rfl | rfl <;> exact ⟨by decide, rfl⟩
theorem sC7 {c : Nat} (h : isC c) : c + 7 < NN ∧ SH (c + 7) = (20, 5) := by rcases h with rfl | rfl <;> exact ⟨by decide, rfl⟩
theorem sC8 {c : Nat} (h : isC c) : c + 8 < NN ∧ SH (c + 8) = (20, 1200) := by rcases h with rfl | rfl <;> exact ⟨by decide, rfl⟩
theorem sC9 {c : Nat} (h : isC c) : c + 9 < NN ∧ SH (c + 9) = (20, 64) := by rcases h with rfl | rfl <;> exact ⟨by decide, rfl⟩
theorem rC0 {c : Nat} (h : isC c) : rfx c 0 = some (c + 1) := by rcases h with rfl | rfl <;> rfl
theorem rC1 {c : Nat} (h : isC c) : rfx c 1 = some (c + 2) := by rcases h with rfl | rfl <;> rfl
theorem rC2 {c : Nat} (h : isC c) : rfx c 2 = some (c + 3) := by rcases h with rfl | rfl <;> rfl
theorem rC3 {c : Nat} (h : isC c) : rfx c 3 = some (c + 4) := by rcases h with rfl | rfl <;> rfl
theorem rC4 {c : Nat} (h : isC c) : rfx c 4 = some (c + 5) := by rcases h with rfl | rfl <;> rfl
theorem rB0 {c : Nat} (h : isC c) : rfx (c + 5) 0 = some (c + 6) := by rcases h with rfl | rfl <;> rfl
theorem rB2 {c : Nat} (h : isC c) : rfx (c + 5) 2 = some (c + 7) := by rcases h with rfl | rfl <;> rfl
theorem rB3 {c : Nat} (h : isC c) : rfx (c + 5) 3 = some (c + 8) := by rcases h with rfl | rfl <;> rfl
theorem rB6 {c : Nat} (h : isC c) : rfx (c + 5) 6 = some (c + 9) := by rcases h with rfl | rfl <;> rfl
/-- a Trial -/
def isT (t : Nat) : Prop := ∃ c e, isC c ∧ e < 10 ∧ t = c + 10 + 3 * e
theorem isT_of {c e : Nat} (hc : isC c) (he : e < 10) : isT (c + 10 + 3 * e) := ⟨c, e, hc, he, rfl⟩
theorem rCT {c e : Nat} (hc : isC c) (he : e < 10) : rfx (c + 1) e = some (c + 10 + 3 * e) := by
  have h1 : ∀ e, e < 10 → rfx (10 + 1) e = some (10 + 10 + 3 * e) := by decide
  have h2 : ∀ e, e < 10 → rfx (55 + 1) e = some (55 + 10 + 3 * e) := by decide
  rcases hc with rfl | rfl
  · exact h1 e he
  · exact h2 e he
theorem allT : ∀ e, e < 10 → ∀ c, c = 10 ∨ c = 55 → (c + 10 + 3 * e < NN ∧ SH (c + 10 + 3 * e) = (10, 9)) ∧ (c + 10 + 3 * e + 1 < NN ∧ SH (c + 10 + 3 * e + 1) = (20, 8)) ∧ (c + 10 + 3 * e + 2 < NN ∧ SH (c + 10 + 3 * e + 2) = (20, 8)) ∧ rfx (c + 10 + 3 * e) 7 = some (c + 10 + 3 * e + 1) ∧ rfx (c + 10 + 3 * e) 8 = some (c + 10 + 3 * e + 2) := by
  intro e he c hc
  have h1 : ∀ e, e < 10 → (10 + 10 + 3 * e < NN ∧ SH (10 + 10 + 3 * e) = (10, 9)) ∧ (10 + 10 + 3 * e + 1 < NN ∧ SH (10 + 10 + 3 * e + 1) = (20, 8)) ∧ (10 + 10 + 3 * e + 2 < NN ∧ SH (10 + 10 + 3 * e + 2) = (20, 8)) ∧ rfx (10 + 10 + 3 * e) 7 = some (10 + 10 + 3 * e + 1) ∧ rfx (10 + 10 + 3 * e) 8 = some (10 + 10 + 3 * e + 2) := by decide
  have h2 : ∀ e, e < 10 → (55 + 10 + 3 * e < NN ∧ SH (55 + 10 + 3 * e) = (10, 9)) ∧ (55 + 10 + 3 * e + 1 < NN ∧ SH (55 + 10 + 3 * e + 1) = (20, 8)) ∧ (55 + 10 + 3 * e + 2 < NN ∧ SH (55 + 10 + 3 * e + 2) = (20, 8)) ∧ rfx (55 + 10 + 3 * e) 7 = some (55 + 10 + 3 * e + 1) ∧ rfx (55 + 10 + 3 * e) 8 = some (55 + 10 + 3 * e + 2) := by decide
  rcases hc with rfl | rfl
  · exact h1 e he
  · exact h2 e he
theorem sT0 {t : Nat} (h : isT t) : t < NN ∧ SH t = (10, 9) := by obtain ⟨c, e, hc, he, rfl⟩ := h; exact (allT e he c hc).1
theorem sT1 {t : Nat} (h : isT t) : t + 1 < NN ∧ SH (t + 1) = (20, 8) := by obtain ⟨c, e, hc, he, rfl⟩ := h; exact (allT e he c hc).2.1
theorem sT2 {t : Nat} (h : isT t) : t + 2 < NN ∧ SH (t + 2) = (20, 8) := by obtain ⟨c, e, hc, he, rfl⟩ := h; exact (allT e he c hc).2.2.1
theorem rT7 {t : Nat} (h : isT t) : rfx t 7 = some (t + 1) := by obtain ⟨c, e, hc, he, rfl⟩ := h; exact (allT e he c hc).2.2.2.1
theorem rT8 {t : Nat} (h : isT t) : rfx t 8 = some (t + 2) := by obtain ⟨c, e, hc, he, rfl⟩ := h; exact (allT e he c hc).2.2.2.2
/-- a Score -/
def isS (t : Nat) : Prop := t = 95 ∨ ∃ a, a < 8 ∧ t = 101 + 3 * a
theorem allS : ∀ a, a < 8 → (101 + 3 * a < NN ∧ SH (101 + 3 * a) = (5, 9)) ∧ (101 + 3 * a + 1 < NN ∧ SH (101 + 3 * a + 1) = (20, 10)) ∧ (101 + 3 * a + 2 < NN ∧ SH (101 + 3 * a + 2) = (22, 10)) ∧ rfx (101 + 3 * a) 0 = some (101 + 3 * a + 1) ∧ rfx (101 + 3 * a) 1 = some (101 + 3 * a + 2) ∧ rfx 99 a = some (101 + 3 * a) := by decide
theorem sS0 {t : Nat} (h : isS t) : t < NN ∧ SH t = (5, 9) := by
  rcases h with rfl | ⟨a, ha, rfl⟩
  · exact ⟨by decide, rfl⟩
  · exact (allS a ha).1
theorem sS1 {t : Nat} (h : isS t) : t + 1 < NN ∧ SH (t + 1) = (20, 10) := by
  rcases h with rfl | ⟨a, ha, rfl⟩
  · exact ⟨by decide, rfl⟩
  · exact (allS a ha).2.1
theorem sS2 {t : Nat} (h : isS t) : t + 2 < NN ∧ SH (t + 2) = (22, 10) := by
  rcases h with rfl | ⟨a, ha, rfl⟩
  · exact ⟨by decide, rfl⟩
  · exact (allS a ha).2.2.1
theorem rS0 {t : Nat} (h : isS t) : rfx t 0 = some (t + 1) := by
  rcases h with rfl | ⟨a, ha, rfl⟩
  · rfl
  · exact (allS a ha).2.2.2.1
theorem rS1 {t : Nat} (h : isS t) : rfx t 1 = some (t + 2) := by
  rcases h with rfl | ⟨a, ha, rfl⟩
  · rfl
  · exact (allS a ha).2.2.2.2.1
theorem rSS {a : Nat} (h : a < 8) : rfx 99 a = some (101 + 3 * a) := (allS a h).2.2.2.2.2
theorem isS_of {a : Nat} (h : a < 8) : isS (101 + 3 * a) := Or.inr ⟨a, h, rfl⟩
/-- a Shares -/
def isH (q : Nat) : Prop := q = 125 ∨ q = 148
theorem sH0 {q : Nat} (h : isH q) : q < NN ∧ SH q = (6, 3) := by rcases h with rfl | rfl <;> exact ⟨by decide, rfl⟩
theorem sH1 {q : Nat} (h : isH q) : q + 1 < NN ∧ SH (q + 1) = (27, 10) := by rcases h with rfl | rfl <;> exact ⟨by decide, rfl⟩
theorem sH12 {q : Nat} (h : isH q) : q + 12 < NN ∧ SH (q + 12) = (27, 10) := by rcases h with rfl | rfl <;> exact ⟨by decide, rfl⟩
theorem rH0 {q : Nat} (h : isH q) : rfx q 0 = some (q + 1) := by rcases h with rfl | rfl <;> rfl
theorem rH1 {q : Nat} (h : isH q) : rfx q 1 = some (q + 12) := by rcases h with rfl | rfl <;> rfl
theorem sHrA {q i : Nat} (h : isH q) (hi : i < 10) : q + 2 + i < NN ∧ SH (q + 2 + i) = (20, 61) := by
  have h1 : ∀ i, i < 10 → 125 + 2 + i < NN ∧ SH (125 + 2 + i) = (20, 61) := by decide
  have h2 : ∀ i, i < 10 → 148 + 2 + i < NN ∧ SH (148 + 2 + i) = (20, 61) := by decide
  rcases h with rfl | rfl
  · exact h1 i hi
  · exact h2 i hi
theorem rHrA {q i : Nat} (h : isH q) (hi : i < 10) : rfx (q + 1) i = some (q + 2 + i) := by
  have h1 : ∀ i, i < 10 → rfx (125 + 1) i = some (125 + 2 + i) := by decide
  have h2 : ∀ i, i < 10 → rfx (148 + 1) i = some (148 + 2 + i) := by decide
  rcases h with rfl | rfl
  · exact h1 i hi
  · exact h2 i hi
theorem sHrB {q i : Nat} (h : isH q) (hi : i < 10) : q + 13 + i < NN ∧ SH (q + 13 + i) = (20, 61) := by
  have h1 : ∀ i, i < 10 → 125 + 13 + i < NN ∧ SH (125 + 13 + i) = (20, 61) := by decide
  have h2 : ∀ i, i < 10 → 148 + 13 + i < NN ∧ SH (148 + 13 + i) = (20, 61) := by decide
  rcases h with rfl | rfl
  · exact h1 i hi
  · exact h2 i hi
theorem rHrB {q i : Nat} (h : isH q) (hi : i < 10) : rfx (q + 12) i = some (q + 13 + i) := by
  have h1 : ∀ i, i < 10 → rfx (125 + 12) i = some (125 + 13 + i) := by decide
  have h2 : ∀ i, i < 10 → rfx (148 + 12) i = some (148 + 13 + i) := by decide
  rcases h with rfl | rfl
  · exact h1 i hi
  · exact h2 i hi
theorem lit {a kd n : Nat} (h : (Nat.ble (a + 1) NN && Nat.beq (SH a).1 kd && Nat.beq (SH a).2 n) = true) : a < NN ∧ SH a = (kd, n) := by
  rw [Bool.and_eq_true, Bool.and_eq_true] at h
  exact ⟨Nat.le_of_ble_eq_true h.1.1, Prod.ext (Nat.eq_of_beq_eq_true h.1.2) (Nat.eq_of_beq_eq_true h.2)⟩
