/-! the first state -/
theorem nth_none {α : Type} {l : List α} {k : Nat} (h : l.length ≤ k) : nth l k = none := by rw [nth_get]; exact List.getElem?_eq_none h
def I_0 : Nat → Nat → Int32 := fun _ _ => 0
def L_0 : Nat → Nat → Int64 := fun _ _ => 0
def R_0 : Nat → Nat → Option Nat := fun _ _ => none
def I_1 : Nat → Nat → Int32 := up2 (up2 I_0 4 1 (-1)) 172 35 (-1)
def R_1 : Nat → Nat → Option Nat := r_m (r_x R_0)
theorem lay_1 : ∀ a, a < 197 → ∀ k, k < ((nth rfL a).getD []).length → rfx a k = none ∨ R_1 a k = rfx a k := by decide +kernel
theorem Lay_1 : Lay R_1 := fun a k r h => by
  by_cases ha : a < 197
  · by_cases hk : k < ((nth rfL a).getD []).length
    · rcases lay_1 a ha k hk with h1 | h1
      · rw [h1] at h; cases h
      · rw [h1]; exact h
    · unfold rfx at h
      rw [nth_none (by omega)] at h
      cases h
  · unfold rfx at h
    rw [nth_none (l := rfL) (by show 197 ≤ a; omega)] at h
    cases h
def Sv (w : Wd) : Prop := ∃ I L R c c' s, w = wd I L R ∧ Lay R ∧ OKx s ∧ CRx I R c c' s ∧ MRx I s
def s_0 : STt := ((false, V0), (0, fun _ => snV V0), (bt0, bt0), (0, -1))
theorem I1_z {a k : Nat} (h : ¬ (a = 4 ∧ k = 1)) (h2 : ¬ (a = 172 ∧ k = 35)) : I_1 a k = 0 := by
  unfold I_1 up2 I_0
  by_cases q : a = 172
  · rw [if_pos q]
    by_cases q2 : k = 35
    · exact absurd ⟨q, q2⟩ h2
    · rw [if_neg q2, if_neg (by omega)]
  · rw [if_neg q]
    by_cases q3 : a = 4
    · rw [if_pos q3]
      by_cases q4 : k = 1
      · exact absurd ⟨q3, q4⟩ h
      · rw [if_neg q4]
    · rw [if_neg q3]
theorem CT_0 : CT I_1 55 V0 := ⟨rfl, rfl, rfl, rfl, fun e he => absurd (show e < 0 from he) (by omega), fun a e ha _ => absurd (show a < 0 from ha) (by omega), fun k hk => absurd (show k < 0 from hk) (by omega), fun k hk => by
  have hk : k ≤ 0 := hk
  have : k = 0 := by omega
  subst this
  rfl, fun k hk => absurd (show k < 0 from hk) (by omega), rfl, rfl⟩
theorem MT_0 : MT I_1 V0 := ⟨rfl, rfl, rfl, rfl, fun e he => absurd (show e < 0 from he) (by omega), fun a e ha _ => absurd (show a < 0 from ha) (by omega), fun k hk => absurd (show k < 0 from hk) (by omega), fun k hk => by
  have hk : k ≤ 0 := hk
  have : k = 0 := by omega
  subst this
  rfl, fun k hk => absurd (show k < 0 from hk) (by omega)⟩
theorem TP_0 {o f t : Nat} (h : I_1 o f = 0) : TP I_1 o f t bt0 := ⟨h, fun i hi => absurd (show i < 0 from hi) (by omega)⟩
theorem Sv_0 (L : Nat → Nat → Int64) : Sv (wd I_1 L R_1) := by
  refine ⟨I_1, L, R_1, 55, 10, s_0, rfl, Lay_1, ⟨WV_0, ⟨Nat.zero_le _, fun i hi => absurd (show i < 0 from hi) (by omega)⟩, Nat.zero_le _, fun j hj => absurd (show j < 0 from hj) (by omega), Nat.zero_le _⟩, ⟨⟨Or.inr rfl, Or.inl rfl, by decide⟩, by decide +kernel, by decide +kernel, CT_0, rfl, ⟨rfl, fun i hi => absurd (show i < 0 from hi) (by omega)⟩, TP_0 rfl, TP_0 rfl, rfl, rfl, rfl⟩, MT_0, rfl, ⟨rfl, fun i hi => absurd (show i < 0 from hi) (by omega)⟩, TP_0 rfl, TP_0 rfl, rfl, rfl, rfl⟩
