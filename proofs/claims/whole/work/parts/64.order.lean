/-! every place has its ATHLETE -/
theorem surj_of : ∀ {n : Nat} {f : Nat → Nat}, (∀ i, i < n → f i < n) → (∀ i j, i < n → j < n → f i = f j → i = j) → ∀ k, k < n → ∃ i, i < n ∧ f i = k
  | 0, _, _, _, k, hk => absurd hk (by omega)
  | n + 1, f, hb, hi, k, hk => by
    have hm := hb n (by omega)
    have ih := surj_of (n := n) (f := fun i => if f i = n then f n else f i) (fun i h => by
      show (if f i = n then f n else f i) < n
      by_cases c : f i = n
      · rw [if_pos c]
        have : ¬ f n = n := fun z => by have := hi i n (by omega) (by omega) (by omega); omega
        omega
      · rw [if_neg c]; have := hb i (by omega); omega) (fun i j h1 h2 e => by
      have e : (if f i = n then f n else f i) = (if f j = n then f n else f j) := e
      by_cases c : f i = n
      · by_cases d : f j = n
        · exact hi i j (by omega) (by omega) (by omega)
        · rw [if_pos c, if_neg d] at e; have := hi j n (by omega) (by omega) (by omega); omega
      · by_cases d : f j = n
        · rw [if_neg c, if_pos d] at e; have := hi i n (by omega) (by omega) (by omega); omega
        · rw [if_neg c, if_neg d] at e; exact hi i j (by omega) (by omega) e)
    by_cases c1 : k = f n
    · exact ⟨n, by omega, c1.symm⟩
    · by_cases c2 : k = n
      · obtain ⟨i, h1, h2⟩ := ih (f n) (by omega)
        have h2 : (if f i = n then f n else f i) = f n := h2
        by_cases c : f i = n
        · exact ⟨i, by omega, by omega⟩
        · rw [if_neg c] at h2; have := hi i n (by omega) (by omega) h2; omega
      · obtain ⟨i, h1, h2⟩ := ih k (by omega)
        have h2 : (if f i = n then f n else f i) = k := h2
        by_cases c : f i = n
        · rw [if_pos c] at h2; omega
        · rw [if_neg c] at h2; exact ⟨i, by omega, h2⟩
