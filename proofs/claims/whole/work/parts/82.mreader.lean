/-! the model's Reader: good, and behind a FAULT -/
def nP (b j : Nat) : Prop := b = 172 ∧ ((29 ≤ j ∧ j ≤ 32) ∨ j = 34 ∨ j = 35)
theorem aPn (b j : Nat) (h : aP b j) : nP b j := ⟨h.1, Or.inl h.2⟩
def MX {α : Type} (I : Nat → Nat → Int32) (L : Nat → Nat → Int64) (R : Nat → Nat → Option Nat) (P : Nat → Nat → Prop) (ok : α → (Nat → Nat → Int32) → Prop) (res : RS α) : Option Value → Wd → Prop := fun r w' => r = none ∧ ∃ I', w' = wd I' L R ∧ Fx P I I' ∧ (∀ e, res = .inl e → I' 172 34 = nI e.1 ∧ I' 172 35 = nI e.2) ∧ (∀ a, res = .inr a → I' 172 34 = nI 0 ∧ I' 172 35 = I 172 35 ∧ ok a I')
theorem MX_e {α : Type} {I I' : Nat → Nat → Int32} {L : Nat → Nat → Int64} {R : Nat → Nat → Option Nat} {P : Nat → Nat → Prop} {ok : α → (Nat → Nat → Int32) → Prop} {res : RS α} {e : Nat × Nat} (h : res = .inl e) (hF : Fx P I I') (h0 : I' 172 34 = nI e.1) (h1 : I' 172 35 = nI e.2) : MX I L R P ok res none (wd I' L R) := by
  subst h
  exact ⟨rfl, I', rfl, hF, fun e' he => by cases he; exact ⟨h0, h1⟩, fun a ha => by cases ha⟩
theorem MX_o {α : Type} {I I' : Nat → Nat → Int32} {L : Nat → Nat → Int64} {R : Nat → Nat → Option Nat} {P : Nat → Nat → Prop} {ok : α → (Nat → Nat → Int32) → Prop} {res : RS α} {a : α} (h : res = .inr a) (hF : Fx P I I') (h0 : I' 172 34 = nI 0) (h1 : I' 172 35 = I 172 35) (h2 : ok a I') : MX I L R P ok res none (wd I' L R) := by
  subst h
  exact ⟨rfl, I', rfl, hF, fun e' he => (by cases he), fun a' ha => by cases ha; exact ⟨h0, h1, h2⟩⟩
theorem dd_of {I : Nat → Nat → Int32} {k : Nat} (h : I 172 34 = nI k) (hk : 1 ≤ k ∧ k ≤ 4) : ¬ I 172 34 = 0 := fun z => by
  rw [h, i_eq, nI_int (by omega), i0] at z
  omega
theorem MS_1 {I : Nat → Nat → Int32} {f : Nat → Int32} {n i : Nat} (h : MS I f n i) : I 172 31 = nI 1 ↔ spo f n i < n ∧ ltr (f (spo f n i)) = true := by
  have hle := spo_le f n i
  rcases Nat.lt_or_ge (spo f n i) n with q | q
  · obtain ⟨h1, h2, h3, h4⟩ := h.2.2.2 q
    constructor
    · intro z
      refine ⟨q, ?_⟩
      by_cases c : ltr (f (spo f n i)) = true
      · exact c
      · exfalso
        by_cases d : dgt (f (spo f n i)) = true
        · rw [(h3 d).1] at z; exact absurd z (by decide)
        · rw [(h4 c d).1] at z; exact absurd z (by decide)
    · intro z; exact h2 z.2
  · have := (h.2.2.1 (by omega)).1
    rw [this]
    exact ⟨fun z => absurd z (by decide), fun z => absurd z.1 (by omega)⟩
theorem MS_2 {I : Nat → Nat → Int32} {f : Nat → Int32} {n i : Nat} (h : MS I f n i) : I 172 31 = nI 2 ↔ (tok f n i).1 = 39 := by
  rw [tok_39]
  have hle := spo_le f n i
  rcases Nat.lt_or_ge (spo f n i) n with q | q
  · obtain ⟨h1, h2, h3, h4⟩ := h.2.2.2 q
    constructor
    · intro z
      refine ⟨q, ?_⟩
      by_cases c : dgt (f (spo f n i)) = true
      · exact c
      · exfalso
        by_cases d : ltr (f (spo f n i)) = true
        · rw [h2 d] at z; exact absurd z (by decide)
        · rw [(h4 d c).1] at z; exact absurd z (by decide)
    · intro z; exact (h3 z.2).1
  · have := (h.2.2.1 (by omega)).1
    rw [this]
    exact ⟨fun z => absurd z (by decide), fun z => absurd z.1 (by omega)⟩
theorem MS_3 {I : Nat → Nat → Int32} {f : Nat → Int32} {n i : Nat} (h : MS I f n i) : I 172 31 = nI 3 ↔ spo f n i < n ∧ ¬ ltr (f (spo f n i)) = true ∧ ¬ dgt (f (spo f n i)) = true := by
  have hle := spo_le f n i
  rcases Nat.lt_or_ge (spo f n i) n with q | q
  · obtain ⟨h1, h2, h3, h4⟩ := h.2.2.2 q
    constructor
    · intro z
      refine ⟨q, fun d => ?_, fun d => ?_⟩
      · rw [h2 d] at z; exact absurd z (by decide)
      · rw [(h3 d).1] at z; exact absurd z (by decide)
    · intro z; exact (h4 z.2.1 z.2.2).1
  · have := (h.2.2.1 (by omega)).1
    rw [this]
    exact ⟨fun z => absurd z (by decide), fun z => absurd z.1 (by omega)⟩
theorem MS_0 {I : Nat → Nat → Int32} {f : Nat → Int32} {n i : Nat} (h : MS I f n i) : I 172 31 = 0 ↔ (tok f n i).1 = 41 := by
  rw [tok_41]
  have hle := spo_le f n i
  rcases Nat.lt_or_ge (spo f n i) n with q | q
  · obtain ⟨h1, h2, h3, h4⟩ := h.2.2.2 q
    refine ⟨fun z => ?_, fun z => by omega⟩
    exfalso
    by_cases d : ltr (f (spo f n i)) = true
    · rw [h2 d] at z; exact absurd z (by decide)
    · by_cases c : dgt (f (spo f n i)) = true
      · rw [(h3 c).1] at z; exact absurd z (by decide)
      · rw [(h4 d c).1] at z; exact absurd z (by decide)
  · exact ⟨fun _ => by omega, fun _ => (h.2.2.1 (by omega)).1⟩
theorem tok_w {f : Nat → Int32} {n i s : Nat} (hs : s < 27) (h : (tok f n i).1 = s) : spo f n i < n ∧ ltr (f (spo f n i)) = true := by
  have hle := spo_le f n i
  rcases Nat.lt_or_ge (spo f n i) n with q | q
  · refine ⟨q, ?_⟩
    by_cases c : ltr (f (spo f n i)) = true
    · exact c
    · exfalso
      by_cases d : dgt (f (spo f n i)) = true
      · rw [tok_d q d] at h; have h : 39 = s := h; omega
      · rw [tok_s q d] at h
        have h : sgOf f (spo f n i) (ten f n (spo f n i)) = s := h
        have := sgOf_b (f := f) (q := spo f n i) (e := ten f n (spo f n i)) (by have := ten_rng f q; omega) (Bool.eq_false_iff.mpr c)
        omega
  · rw [tok_e (by omega)] at h; have h : 41 = s := h; omega
theorem tok_wi {f : Nat → Int32} {n i s : Nat} (hs : s < 27) (hq : spo f n i < n) (hl : ltr (f (spo f n i)) = true) : (tok f n i).1 = s ↔ spB (txt (spl s)) f (spo f n i) (ten f n (spo f n i)) = true := by
  rw [tok_s hq (ltr_nd hl)]
  exact sgOf_iff (by have := ten_rng f hq; omega) (by omega)
theorem tok_b {f : Nat → Int32} {n i s v : Nat} (hb : BY f n) (hs : s < 39) (h27 : 27 ≤ s) (hv : v < 128) (ht : txt (spl s) = [nI v]) : (tok f n i).1 = s ↔ (spo f n i < n ∧ ¬ ltr (f (spo f n i)) = true ∧ ¬ dgt (f (spo f n i)) = true) ∧ f (spo f n i) &&& 255 = nI v := by
  have hle := spo_le f n i
  rcases Nat.lt_or_ge (spo f n i) n with q | q
  · by_cases d : dgt (f (spo f n i)) = true
    · rw [tok_d q d]
      exact ⟨fun z => by have z : 39 = s := z; omega, fun z => absurd d z.1.2.2⟩
    · rw [tok_s q d]
      show sgOf f (spo f n i) (ten f n (spo f n i)) = s ↔ _
      by_cases c : ltr (f (spo f n i)) = true
      · have := sgOf_w (f := f) (q := spo f n i) (e := ten f n (spo f n i)) (by have := ten_rng f q; omega) c
        exact ⟨fun z => by omega, fun z => absurd c z.1.2.1⟩
      · have e1 : ten f n (spo f n i) = spo f n i + 1 := by unfold ten; rw [if_neg c, if_neg d]
        rw [e1, sgOf_1 hs h27, ht]
        have := sv_eq (f := f) (n := n) (k := spo f n i) (v := v) hb hv
        unfold sv at this
        rw [if_pos q] at this
        rw [this]
        exact ⟨fun z => ⟨⟨q, c, d⟩, q, z⟩, fun z => z.2.2⟩
  · rw [tok_e (by omega)]
    exact ⟨fun z => by have z : 41 = s := z; omega, fun z => absurd z.1.1 (by omega)⟩
theorem tok_lt_n {f : Nat → Int32} {n i : Nat} (h : ¬ (tok f n i).1 = 41) : spo f n i < n := by
  have := spo_le f n i
  rw [tok_41] at h
  omega
def mws : List Nat := [0, 2, 1, 3, 6, 7, 8, 9, 4, 5, 10, 11, 12, 13, 14, 15, 22, 23, 24, 25, 26, 21, 20, 16, 17, 18, 19]
theorem mws_ok : ∀ k, k < 27 → txt k = txt (spl (mws.getD k 0)) ∧ mws.getD k 0 < 27 := by decide +kernel
set_option maxRecDepth 20000 in
theorem d_goodT (l : Launch) (G : GT) {I : Nat → Nat → Int32} {L : Nat → Nat → Int64} {R : Nat → Nat → Option Nat} (hL : Lay R) (hg : I 172 34 = nI 0) : Mt l G mX12_good (0) 0 0 [.ref (ra G 172)] (wd I L R) (pV (.int (nI 1)) (wd I L R)) := by
  refine mt_of (own := RX12) (by decide) rfl rfl (fun Z C P B => ?_)
  have D := @dc_of _ _ dX12_good
  refine j_aload_n C (D 0 rfl) rfl ?_
  refine j_geti C f_X12_103 (lit (kd := 12) (n := 48) rfl) rfl rfl (D 1 rfl) ?_
  rw [hg]
  refine j_if_ne C  11 (D 2 rfl) (by decide) (fun h4 => absurd h4 (fun z => z rfl)) (fun h4 => ?_)
  refine j_iconst C (v := nI 1) (D 3 rfl) rfl ?_
  refine j_goto C 12 (D 4 rfl) (by decide) ?_
  exact j_zret C P rfl (by first | exact Or.inl rfl | exact Or.inr rfl | assumption) (D 6 rfl) ⟨Nat.le_refl _, Nat.le_refl _⟩ (pv_i rfl)
set_option maxRecDepth 20000 in
theorem d_goodF (l : Launch) (G : GT) {I : Nat → Nat → Int32} {L : Nat → Nat → Int64} {R : Nat → Nat → Option Nat} (hL : Lay R) (hd : ¬ I 172 34 = 0) : Mt l G mX12_good (0) 0 0 [.ref (ra G 172)] (wd I L R) (pV (.int (nI 0)) (wd I L R)) := by
  refine mt_of (own := RX12) (by decide) rfl rfl (fun Z C P B => ?_)
  have D := @dc_of _ _ dX12_good
  refine j_aload_n C (D 0 rfl) rfl ?_
  refine j_geti C f_X12_103 (lit (kd := 12) (n := 48) rfl) rfl rfl (D 1 rfl) ?_
  refine j_if_ne C  11 (D 2 rfl) (by decide) (fun h4 => ?_) (fun h4 => absurd h4 (fun z => hd z))
  refine j_iconst C (v := nI 0) (D 5 rfl) rfl ?_
  exact j_zret C P rfl (by first | exact Or.inl rfl | exact Or.inr rfl | assumption) (D 6 rfl) ⟨Nat.le_refl _, Nat.le_refl _⟩ (pv_i rfl)
set_option maxRecDepth 20000 in
theorem d_errsT (l : Launch) (G : GT) {I : Nat → Nat → Int32} {L : Nat → Nat → Int64} {R : Nat → Nat → Option Nat} (hL : Lay R) (hg : I 172 34 = nI 0) (k q : Int32) : Mt l G mX12_errs (1) 0 0 [.ref (ra G 172), .int k, .int q] (wd I L R) (fun r w' => r = none ∧ w' = wd (up2 (up2 I 172 34 k) 172 35 q) L R) := by
  refine mt_of (own := RX12) (by decide) rfl rfl (fun Z C P B => ?_)
  have D := @dc_of _ _ dX12_errs
  refine j_aload_n C (D 0 rfl) rfl ?_
  refine j_cVp C B k_X12_106 (rc_obj C (lit (kd := 12) (n := 48) rfl) rfl rfl) (d_goodT _ _ hL hg) rfl rfl rfl rfl ⟨Nat.le_refl _, Nat.le_refl _⟩ (D 1 rfl) ?_
  refine j_if_ne C  8 (D 2 rfl) (by decide) (fun h4 => ?_) (fun h4 => absurd h4 (by decide))
  refine j_aload_n C (D 4 rfl) rfl ?_
  refine j_iload_n C (D 5 rfl) rfl ?_
  refine j_puti C f_X12_103 (lit (kd := 12) (n := 48) rfl) rfl rfl (D 6 rfl) ?_
  refine j_aload_n C (D 7 rfl) rfl ?_
  refine j_iload_n C (D 8 rfl) rfl ?_
  refine j_puti C f_X12_56 (lit (kd := 12) (n := 48) rfl) rfl rfl (D 9 rfl) ?_
  exact j_vret C P rfl (D 10 rfl) ⟨Nat.le_refl _, Nat.le_refl _⟩ ⟨rfl, rfl⟩
set_option maxRecDepth 20000 in
theorem d_errsF (l : Launch) (G : GT) {I : Nat → Nat → Int32} {L : Nat → Nat → Int64} {R : Nat → Nat → Option Nat} (hL : Lay R) (hd : ¬ I 172 34 = 0) (k q : Int32) : Mt l G mX12_errs (1) 0 0 [.ref (ra G 172), .int k, .int q] (wd I L R) (fun r w' => r = none ∧ w' = wd I L R) := by
  refine mt_of (own := RX12) (by decide) rfl rfl (fun Z C P B => ?_)
  have D := @dc_of _ _ dX12_errs
  refine j_aload_n C (D 0 rfl) rfl ?_
  refine j_cVp C B k_X12_106 (rc_obj C (lit (kd := 12) (n := 48) rfl) rfl rfl) (d_goodF _ _ hL hd) rfl rfl rfl rfl ⟨Nat.le_refl _, Nat.le_refl _⟩ (D 1 rfl) ?_
  refine j_if_ne C  8 (D 2 rfl) (by decide) (fun h4 => absurd h4 (fun z => z rfl)) (fun h4 => ?_)
  exact j_vret C P rfl (D 3 rfl) ⟨Nat.le_refl _, Nat.le_refl _⟩ ⟨rfl, rfl⟩
set_option maxRecDepth 20000 in
theorem d_isWordF (l : Launch) (G : GT) {I : Nat → Nat → Int32} {L : Nat → Nat → Int64} {R : Nat → Nat → Option Nat} (hL : Lay R) (hd : ¬ I 172 34 = 0) (k : Nat) (hk : k < 27) : Mt l G mX12_isWord (4) 0 0 [.ref (ra G 172), .ref (ra G (2000 + k))] (wd I L R) (pV (.int (nI 0)) (wd I L R)) := by
  refine mt_of (own := RX12) (by decide) rfl rfl (fun Z C P B => ?_)
  have D := @dc_of _ _ dX12_isWord
  refine j_aload_n C (D 0 rfl) rfl ?_
  refine j_cVp C B k_X12_106 (rc_obj C (lit (kd := 12) (n := 48) rfl) rfl rfl) (d_goodF _ _ hL hd) rfl rfl rfl rfl ⟨Nat.le_refl _, Nat.le_refl _⟩ (D 1 rfl) ?_
  refine j_if_eq C  35 (D 2 rfl) (by decide) (fun h4 => ?_) (fun h4 => absurd h4 (fun z => z rfl))
  refine j_iconst C (v := nI 0) (D 17 rfl) rfl ?_
  refine j_istore_n C (D 18 rfl) rfl ?_
  refine j_iconst C (v := nI 0) (D 19 rfl) rfl ?_
  refine j_istore_n C (D 20 rfl) rfl ?_
  refine j_iload_n C (D 21 rfl) rfl ?_
  refine j_aload_n C (D 22 rfl) rfl ?_
  refine j_cVp C B k_X12_144 (rc_str C (by omega)) (t_length _ _ _ (show k < 67 by omega)) rfl rfl rfl rfl ⟨Nat.le_refl _, Nat.le_refl _⟩ (D 23 rfl) ?_
  refine j_icmp_ge C  82 (D 24 rfl) (by decide) (fun h44 => ?_) (fun h44 => ?_)
  · refine j_iload_n C (D 44 rfl) rfl ?_
    exact j_zret C P rfl (by first | exact Or.inl rfl | exact Or.inr rfl | assumption) (D 45 rfl) ⟨Nat.le_refl _, Nat.le_refl _⟩ (pv_i rfl)
  · refine j_iload_n C (D 25 rfl) rfl ?_
    refine j_if_eq C  82 (D 26 rfl) (by decide) (fun h48 => ?_) (fun h48 => absurd h48 (fun z => z rfl))
    refine j_iload_n C (D 44 rfl) rfl ?_
    exact j_zret C P rfl (by first | exact Or.inl rfl | exact Or.inr rfl | assumption) (D 45 rfl) ⟨Nat.le_refl _, Nat.le_refl _⟩ (pv_i rfl)
set_option maxRecDepth 20000 in
theorem d_isWord (l : Launch) (G : GT) {I : Nat → Nat → Int32} {L : Nat → Nat → Int64} {R : Nat → Nat → Option Nat} (hL : Lay R) {f : Nat → Int32} {n : Nat} (hb : BY f n) {i : Nat} (hS : MS I f n i) (hg : I 172 34 = nI 0) (k : Nat) (hk : k < 27) : Mt l G mX12_isWord (4) 0 0 [.ref (ra G 172), .ref (ra G (2000 + k))] (wd I L R) (pV (.int (b2 ((tok f n i).1 = mws.getD k 0))) (wd I L R)) := by
  refine mt_of (own := RX12) (by decide) rfl rfl (fun Z C P B => ?_)
  have D := @dc_of _ _ dX12_isWord
  have hn := hb.1
  have htx := mws_ok k hk
  have h100 := stl7 k (by omega)
  have hle := spo_le f n i
  generalize hsd : mws.getD k 0 = s at htx
  have htx1 : (txt (spl s)).length = stLen k := by rw [← htx.1]; rfl
  have htx2 : ∀ j, (txt (spl s)).getD j 0 = stByt k j := fun j => by rw [← htx.1]; rfl
  have L0 : ∀ j, ¬ (tok f n i).1 = s → J Z (0, 0) 39 [some (.ref (ra G 172)), some (.ref (ra G (2000 + k))), some (.int (nI 0)), some (.int (nI j))] [] (wd I L R) := by
    intro j hno
    refine j_iload_n C (D 21 rfl) rfl ?_
    refine j_aload_n C (D 22 rfl) rfl ?_
    refine j_cVp C B k_X12_144 (rc_str C (by omega)) (t_length _ _ _ (show k < 67 by omega)) rfl rfl rfl rfl ⟨Nat.le_refl _, Nat.le_refl _⟩ (D 23 rfl) ?_
    refine j_icmp_ge C  82 (D 24 rfl) (by decide) (fun h44 => ?_) (fun h44 => ?_)
    · refine j_iload_n C (D 44 rfl) rfl ?_
      exact j_zret C P rfl (by first | exact Or.inl rfl | exact Or.inr rfl | assumption) (D 45 rfl) ⟨Nat.le_refl _, Nat.le_refl _⟩ (pv_i (by rw [hsd]; exact b2_f hno))
    · refine j_iload_n C (D 25 rfl) rfl ?_
      refine j_if_eq C  82 (D 26 rfl) (by decide) (fun h48 => ?_) (fun h48 => absurd h48 (fun z => z rfl))
      refine j_iload_n C (D 44 rfl) rfl ?_
      exact j_zret C P rfl (by first | exact Or.inl rfl | exact Or.inr rfl | assumption) (D 45 rfl) ⟨Nat.le_refl _, Nat.le_refl _⟩ (pv_i (by rw [hsd]; exact b2_f hno))
  have L1 : ∀ m j, j + m = stLen k → spo f n i < n → ltr (f (spo f n i)) = true → ten f n (spo f n i) - spo f n i = stLen k → (∀ x, x < j → f (spo f n i + x) = stByt k x) → J Z (0, 0) 39 [some (.ref (ra G 172)), some (.ref (ra G (2000 + k))), some (.int (nI 1)), some (.int (nI j))] [] (wd I L R) := by
    intro m
    induction m with
    | zero =>
      intro j hj hq hl hlen hx
      refine j_iload_n C (D 21 rfl) rfl ?_
      refine j_aload_n C (D 22 rfl) rfl ?_
      refine j_cVp C B k_X12_144 (rc_str C (by omega)) (t_length _ _ _ (show k < 67 by omega)) rfl rfl rfl rfl ⟨Nat.le_refl _, Nat.le_refl _⟩ (D 23 rfl) ?_
      refine j_icmp_ge C  82 (D 24 rfl) (by decide) (fun h44 => ?_) (fun h44 => absurd h44 (fun z => z ((nle (by omega) (by omega)).mpr (by omega))))
      refine j_iload_n C (D 44 rfl) rfl ?_
      exact j_zret C P rfl (by first | exact Or.inl rfl | exact Or.inr rfl | assumption) (D 45 rfl) ⟨Nat.le_refl _, Nat.le_refl _⟩ (pv_i (by rw [hsd]; exact b2_t ((tok_wi htx.2 hq hl).mpr (spB_iff.mpr ⟨by rw [htx1]; exact hlen, fun x h => by rw [htx2]; exact hx x (by omega)⟩))))
    | succ m ih =>
      intro j hj hq hl hlen hx
      have htr := ten_rng f hq
      refine j_iload_n C (D 21 rfl) rfl ?_
      refine j_aload_n C (D 22 rfl) rfl ?_
      refine j_cVp C B k_X12_144 (rc_str C (by omega)) (t_length _ _ _ (show k < 67 by omega)) rfl rfl rfl rfl ⟨Nat.le_refl _, Nat.le_refl _⟩ (D 23 rfl) ?_
      refine j_icmp_ge C  82 (D 24 rfl) (by decide) (fun h44 => absurd h44 (fun z => by rw [nle (by omega) (by omega)] at z; omega)) (fun h44 => ?_)
      refine j_iload_n C (D 25 rfl) rfl ?_
      refine j_if_eq C  82 (D 26 rfl) (by decide) (fun h48 => absurd h48 (by decide)) (fun h48 => ?_)
      refine j_aload_n C (D 27 rfl) rfl ?_
      refine j_getr C f_X12_52 (lit (kd := 12) (n := 48) rfl) rfl rfl (hL _ _ _ rfl) (D 28 rfl) ?_
      refine j_aload_n C (D 29 rfl) rfl ?_
      refine j_geti C f_X12_120 (lit (kd := 12) (n := 48) rfl) rfl rfl (D 30 rfl) ?_
      rw [hS.2.1]
      refine j_iload_n C (D 31 rfl) rfl ?_
      refine j_iadd C (D 32 rfl) ?_
      rw [nI_add]
      refine j_bald C (lit (kd := 21) (n := 1200) rfl) (ix_n (by omega) (by decide)) (D 33 rfl) ?_
      rw [hS.1.2 _ (by omega)]
      refine j_aload_n C (D 34 rfl) rfl ?_
      refine j_iload_n C (D 35 rfl) rfl ?_
      refine j_cVp C B k_X12_150 (rc_str C (by omega)) (t_charAt _ _ _ (show k < 67 by omega) (show j < stLen k by omega)) rfl rfl rfl rfl ⟨Nat.le_refl _, Nat.le_refl _⟩ (D 36 rfl) ?_
      refine j_icmp_ne C  74 (D 37 rfl) (by decide) (fun h67 => ?_) (fun h67 => ?_)
      · refine j_iconst C (v := nI 0) (D 40 rfl) rfl ?_
        refine j_istore_n C (D 41 rfl) rfl ?_
        first | refine j_iinc1 C (D 42 rfl) rfl rfl ?_ | refine j_iinc C (D 42 rfl) rfl rfl rfl ?_
        refine j_goto C 39 (D 43 rfl) (by decide) ?_
        exact L0 (j + 1) (fun z => h67 (by have := (spB_iff.mp ((tok_wi htx.2 hq hl).mp z)).2 j (by omega); rw [htx2] at this; exact this))
      · refine j_iconst C (v := nI 1) (D 38 rfl) rfl ?_
        refine j_goto C 75 (D 39 rfl) (by decide) ?_
        refine j_istore_n C (D 41 rfl) rfl ?_
        first | refine j_iinc1 C (D 42 rfl) rfl rfl ?_ | refine j_iinc C (D 42 rfl) rfl rfl rfl ?_
        refine j_goto C 39 (D 43 rfl) (by decide) ?_
        exact ih (j + 1) (by omega) hq hl hlen (fun x h => by
          by_cases q : x = j
          · rw [q]; exact h67
          · exact hx x (by omega))
  refine j_aload_n C (D 0 rfl) rfl ?_
  refine j_cVp C B k_X12_106 (rc_obj C (lit (kd := 12) (n := 48) rfl) rfl rfl) (d_goodT _ _ hL hg) rfl rfl rfl rfl ⟨Nat.le_refl _, Nat.le_refl _⟩ (D 1 rfl) ?_
  refine j_if_eq C  35 (D 2 rfl) (by decide) (fun h4 => absurd h4 (by decide)) (fun h4 => ?_)
  refine j_aload_n C (D 3 rfl) rfl ?_
  refine j_geti C f_X12_123 (lit (kd := 12) (n := 48) rfl) rfl rfl (D 4 rfl) ?_
  refine j_iconst C (v := nI 1) (D 5 rfl) rfl ?_
  refine j_icmp_ne C  35 (D 6 rfl) (by decide) (fun h12 => ?_) (fun h12 => ?_)
  · refine j_iconst C (v := nI 0) (D 17 rfl) rfl ?_
    refine j_istore_n C (D 18 rfl) rfl ?_
    refine j_iconst C (v := nI 0) (D 19 rfl) rfl ?_
    refine j_istore_n C (D 20 rfl) rfl ?_
    exact L0 0 (fun z => h12 ((MS_1 hS).mpr (tok_w htx.2 z)))
  · have h1 := (MS_1 hS).mp h12
    have htr := ten_rng f h1.1
    refine j_aload_n C (D 7 rfl) rfl ?_
    refine j_geti C f_X12_113 (lit (kd := 12) (n := 48) rfl) rfl rfl (D 8 rfl) ?_
    rw [(hS.2.2.2 h1.1).1]
    refine j_aload_n C (D 9 rfl) rfl ?_
    refine j_geti C f_X12_120 (lit (kd := 12) (n := 48) rfl) rfl rfl (D 10 rfl) ?_
    rw [hS.2.1]
    refine j_isub C (D 11 rfl) ?_
    rw [pk_sub (by omega)]
    refine j_aload_n C (D 12 rfl) rfl ?_
    refine j_cVp C B k_X12_144 (rc_str C (by omega)) (t_length _ _ _ (show k < 67 by omega)) rfl rfl rfl rfl ⟨Nat.le_refl _, Nat.le_refl _⟩ (D 13 rfl) ?_
    refine j_icmp_ne C  35 (D 14 rfl) (by decide) (fun h28 => ?_) (fun h28 => ?_)
    · refine j_iconst C (v := nI 0) (D 17 rfl) rfl ?_
      refine j_istore_n C (D 18 rfl) rfl ?_
      refine j_iconst C (v := nI 0) (D 19 rfl) rfl ?_
      refine j_istore_n C (D 20 rfl) rfl ?_
      exact L0 0 (fun z => h28 (by rw [show ten f n (spo f n i) - spo f n i = stLen k from by have := (spB_iff.mp ((tok_wi htx.2 h1.1 h1.2).mp z)).1; omega]))
    · refine j_iconst C (v := nI 1) (D 15 rfl) rfl ?_
      refine j_goto C 36 (D 16 rfl) (by decide) ?_
      refine j_istore_n C (D 18 rfl) rfl ?_
      refine j_iconst C (v := nI 0) (D 19 rfl) rfl ?_
      refine j_istore_n C (D 20 rfl) rfl ?_
      exact L1 _ 0 (Nat.zero_add _) h1.1 h1.2 (nI_inj (by omega) (by omega) h28) (fun x h => by omega)
set_option maxRecDepth 20000 in
theorem d_isByteF (l : Launch) (G : GT) {I : Nat → Nat → Int32} {L : Nat → Nat → Int64} {R : Nat → Nat → Option Nat} (hL : Lay R) (hd : ¬ I 172 34 = 0) (x : Int32) : Mt l G mX12_isByte (1) 0 0 [.ref (ra G 172), .int x] (wd I L R) (pV (.int (nI 0)) (wd I L R)) := by
  refine mt_of (own := RX12) (by decide) rfl rfl (fun Z C P B => ?_)
  have D := @dc_of _ _ dX12_isByte
  refine j_aload_n C (D 0 rfl) rfl ?_
  refine j_cVp C B k_X12_106 (rc_obj C (lit (kd := 12) (n := 48) rfl) rfl rfl) (d_goodF _ _ hL hd) rfl rfl rfl rfl ⟨Nat.le_refl _, Nat.le_refl _⟩ (D 1 rfl) ?_
  refine j_if_eq C  27 (D 2 rfl) (by decide) (fun h4 => ?_) (fun h4 => absurd h4 (fun z => z rfl))
  refine j_iconst C (v := nI 0) (D 13 rfl) rfl ?_
  exact j_zret C P rfl (by first | exact Or.inl rfl | exact Or.inr rfl | assumption) (D 14 rfl) ⟨Nat.le_refl _, Nat.le_refl _⟩ (pv_i rfl)
set_option maxRecDepth 20000 in
theorem d_isByte (l : Launch) (G : GT) {I : Nat → Nat → Int32} {L : Nat → Nat → Int64} {R : Nat → Nat → Option Nat} (hL : Lay R) {f : Nat → Int32} {n : Nat} (hb : BY f n) {i : Nat} (hS : MS I f n i) (hg : I 172 34 = nI 0) {s v : Nat} (hs : s < 39) (h27 : 27 ≤ s) (hv : v < 128) (ht : txt (spl s) = [nI v]) : Mt l G mX12_isByte (1) 0 0 [.ref (ra G 172), .int (nI v)] (wd I L R) (pV (.int (b2 ((tok f n i).1 = s))) (wd I L R)) := by
  refine mt_of (own := RX12) (by decide) rfl rfl (fun Z C P B => ?_)
  have D := @dc_of _ _ dX12_isByte
  refine j_aload_n C (D 0 rfl) rfl ?_
  refine j_cVp C B k_X12_106 (rc_obj C (lit (kd := 12) (n := 48) rfl) rfl rfl) (d_goodT _ _ hL hg) rfl rfl rfl rfl ⟨Nat.le_refl _, Nat.le_refl _⟩ (D 1 rfl) ?_
  refine j_if_eq C  27 (D 2 rfl) (by decide) (fun h4 => absurd h4 (by decide)) (fun h4 => ?_)
  refine j_aload_n C (D 3 rfl) rfl ?_
  refine j_geti C f_X12_123 (lit (kd := 12) (n := 48) rfl) rfl rfl (D 4 rfl) ?_
  refine j_iconst C (v := nI 3) (D 5 rfl) rfl ?_
  refine j_icmp_ne C  27 (D 6 rfl) (by decide) (fun h12 => ?_) (fun h12 => ?_)
  · refine j_iconst C (v := nI 0) (D 13 rfl) rfl ?_
    exact j_zret C P rfl (by first | exact Or.inl rfl | exact Or.inr rfl | assumption) (D 14 rfl) ⟨Nat.le_refl _, Nat.le_refl _⟩ (pv_i (b2_f (fun z => h12 ((MS_3 hS).mpr ((tok_b hb hs h27 hv ht).mp z).1))))
  · have h3 := (MS_3 hS).mp h12
    refine j_aload_n C (D 7 rfl) rfl ?_
    refine j_geti C f_X12_134 (lit (kd := 12) (n := 48) rfl) rfl rfl (D 8 rfl) ?_
    rw [((hS.2.2.2 h3.1).2.2.2 h3.2.1 h3.2.2).2]
    refine j_iload_n C (D 9 rfl) rfl ?_
    refine j_icmp_ne C  27 (D 10 rfl) (by decide) (fun h20 => ?_) (fun h20 => ?_)
    · refine j_iconst C (v := nI 0) (D 13 rfl) rfl ?_
      exact j_zret C P rfl (by first | exact Or.inl rfl | exact Or.inr rfl | assumption) (D 14 rfl) ⟨Nat.le_refl _, Nat.le_refl _⟩ (pv_i (b2_f (fun z => h20 ((tok_b hb hs h27 hv ht).mp z).2)))
    · refine j_iconst C (v := nI 1) (D 11 rfl) rfl ?_
      refine j_goto C 28 (D 12 rfl) (by decide) ?_
      exact j_zret C P rfl (by first | exact Or.inl rfl | exact Or.inr rfl | assumption) (D 14 rfl) ⟨Nat.le_refl _, Nat.le_refl _⟩ (pv_i (b2_t ((tok_b hb hs h27 hv ht).mpr ⟨h3, h20⟩)))
set_option maxRecDepth 20000 in
theorem d_eats (l : Launch) (G : GT) {I : Nat → Nat → Int32} {L : Nat → Nat → Int64} {R : Nat → Nat → Option Nat} (hL : Lay R) {f : Nat → Int32} {n : Nat} (hb : BY f n) {i : Nat} (hS : MS I f n i) (hg : I 172 34 = nI 0) (k : Nat) (hk : k < 27) : Mt l G mX12_eats (5) 0 0 [.ref (ra G 172), .ref (ra G (2000 + k))] (wd I L R) (fun r w' => r = some (.int (b2 ((tok f n i).1 = mws.getD k 0))) ∧ ∃ I', w' = wd I' L R ∧ Fx aP I I' ∧ ((tok f n i).1 = mws.getD k 0 → MS I' f n (i + 1)) ∧ (¬ (tok f n i).1 = mws.getD k 0 → MS I' f n i)) := by
  refine mt_of (own := RX12) (by decide) rfl rfl (fun Z C P B => ?_)
  have D := @dc_of _ _ dX12_eats
  refine j_aload_n C (D 0 rfl) rfl ?_
  refine j_aload_n C (D 1 rfl) rfl ?_
  refine j_cVp C B k_X12_154 (rc_obj C (lit (kd := 12) (n := 48) rfl) rfl rfl) (d_isWord _ _ hL hb hS hg k hk) rfl rfl rfl rfl ⟨Nat.le_refl _, Nat.le_refl _⟩ (D 2 rfl) ?_
  refine j_if_ne C  10 (D 3 rfl) (by decide) (fun h5 => ?_) (fun h5 => ?_)
  · refine j_aload_n C (D 6 rfl) rfl ?_
    refine j_callV C B k_X12_158 (rc_obj C (lit (kd := 12) (n := 48) rfl) rfl rfl) (d_advance _ _ hL hb hS (tok_w (mws_ok k hk).2 (b2_ne h5)).1) rfl rfl rfl rfl ⟨Nat.le_refl _, Nat.le_refl _⟩ (D 7 rfl) ?_
    rintro r w' ⟨rfl, I2, rfl, hF2, hS2⟩
    refine j_iconst C (v := nI 1) (D 8 rfl) rfl ?_
    exact j_zret C P rfl (by first | exact Or.inl rfl | exact Or.inr rfl | assumption) (D 9 rfl) ⟨Nat.le_refl _, Nat.le_refl _⟩ ⟨by rw [show nI 1 = _ from b2_t (b2_ne h5)], I2, rfl, hF2, fun _ => hS2, fun z => absurd (b2_ne h5) z⟩
  · refine j_iconst C (v := nI 0) (D 4 rfl) rfl ?_
    exact j_zret C P rfl (by first | exact Or.inl rfl | exact Or.inr rfl | assumption) (D 5 rfl) ⟨Nat.le_refl _, Nat.le_refl _⟩ ⟨by rw [show nI 0 = _ from b2_f (b2_eq h5)], I, rfl, Fx.rf _ _, fun z => absurd z (b2_eq h5), fun _ => hS⟩
set_option maxRecDepth 20000 in
theorem d_eatsF (l : Launch) (G : GT) {I : Nat → Nat → Int32} {L : Nat → Nat → Int64} {R : Nat → Nat → Option Nat} (hL : Lay R) (hd : ¬ I 172 34 = 0) (k : Nat) (hk : k < 27) : Mt l G mX12_eats (5) 0 0 [.ref (ra G 172), .ref (ra G (2000 + k))] (wd I L R) (pV (.int (nI 0)) (wd I L R)) := by
  refine mt_of (own := RX12) (by decide) rfl rfl (fun Z C P B => ?_)
  have D := @dc_of _ _ dX12_eats
  refine j_aload_n C (D 0 rfl) rfl ?_
  refine j_aload_n C (D 1 rfl) rfl ?_
  refine j_cVp C B k_X12_154 (rc_obj C (lit (kd := 12) (n := 48) rfl) rfl rfl) (d_isWordF _ _ hL hd k hk) rfl rfl rfl rfl ⟨Nat.le_refl _, Nat.le_refl _⟩ (D 2 rfl) ?_
  refine j_if_ne C  10 (D 3 rfl) (by decide) (fun h5 => absurd h5 (fun z => z rfl)) (fun h5 => ?_)
  refine j_iconst C (v := nI 0) (D 4 rfl) rfl ?_
  exact j_zret C P rfl (by first | exact Or.inl rfl | exact Or.inr rfl | assumption) (D 5 rfl) ⟨Nat.le_refl _, Nat.le_refl _⟩ (pv_i rfl)
set_option maxRecDepth 20000 in
theorem d_eatsByte (l : Launch) (G : GT) {I : Nat → Nat → Int32} {L : Nat → Nat → Int64} {R : Nat → Nat → Option Nat} (hL : Lay R) {f : Nat → Int32} {n : Nat} (hb : BY f n) {i : Nat} (hS : MS I f n i) (hg : I 172 34 = nI 0) {s v : Nat} (hs : s < 39) (h27 : 27 ≤ s) (hv : v < 128) (ht : txt (spl s) = [nI v]) : Mt l G mX12_eatsByte (2) 0 0 [.ref (ra G 172), .int (nI v)] (wd I L R) (fun r w' => r = some (.int (b2 ((tok f n i).1 = s))) ∧ ∃ I', w' = wd I' L R ∧ Fx aP I I' ∧ ((tok f n i).1 = s → MS I' f n (i + 1)) ∧ (¬ (tok f n i).1 = s → MS I' f n i)) := by
  refine mt_of (own := RX12) (by decide) rfl rfl (fun Z C P B => ?_)
  have D := @dc_of _ _ dX12_eatsByte
  refine j_aload_n C (D 0 rfl) rfl ?_
  refine j_iload_n C (D 1 rfl) rfl ?_
  refine j_cVp C B k_X12_161 (rc_obj C (lit (kd := 12) (n := 48) rfl) rfl rfl) (d_isByte _ _ hL hb hS hg hs h27 hv ht) rfl rfl rfl rfl ⟨Nat.le_refl _, Nat.le_refl _⟩ (D 2 rfl) ?_
  refine j_if_ne C  10 (D 3 rfl) (by decide) (fun h5 => ?_) (fun h5 => ?_)
  · refine j_aload_n C (D 6 rfl) rfl ?_
    refine j_callV C B k_X12_158 (rc_obj C (lit (kd := 12) (n := 48) rfl) rfl rfl) (d_advance _ _ hL hb hS (tok_lt_n (by rw [b2_ne h5]; omega))) rfl rfl rfl rfl ⟨Nat.le_refl _, Nat.le_refl _⟩ (D 7 rfl) ?_
    rintro r w' ⟨rfl, I2, rfl, hF2, hS2⟩
    refine j_iconst C (v := nI 1) (D 8 rfl) rfl ?_
    exact j_zret C P rfl (by first | exact Or.inl rfl | exact Or.inr rfl | assumption) (D 9 rfl) ⟨Nat.le_refl _, Nat.le_refl _⟩ ⟨by rw [show nI 1 = _ from b2_t (b2_ne h5)], I2, rfl, hF2, fun _ => hS2, fun z => absurd (b2_ne h5) z⟩
  · refine j_iconst C (v := nI 0) (D 4 rfl) rfl ?_
    exact j_zret C P rfl (by first | exact Or.inl rfl | exact Or.inr rfl | assumption) (D 5 rfl) ⟨Nat.le_refl _, Nat.le_refl _⟩ ⟨by rw [show nI 0 = _ from b2_f (b2_eq h5)], I, rfl, Fx.rf _ _, fun z => absurd z (b2_eq h5), fun _ => hS⟩
set_option maxRecDepth 20000 in
theorem d_eatsByteF (l : Launch) (G : GT) {I : Nat → Nat → Int32} {L : Nat → Nat → Int64} {R : Nat → Nat → Option Nat} (hL : Lay R) (hd : ¬ I 172 34 = 0) (x : Int32) : Mt l G mX12_eatsByte (2) 0 0 [.ref (ra G 172), .int x] (wd I L R) (pV (.int (nI 0)) (wd I L R)) := by
  refine mt_of (own := RX12) (by decide) rfl rfl (fun Z C P B => ?_)
  have D := @dc_of _ _ dX12_eatsByte
  refine j_aload_n C (D 0 rfl) rfl ?_
  refine j_iload_n C (D 1 rfl) rfl ?_
  refine j_cVp C B k_X12_161 (rc_obj C (lit (kd := 12) (n := 48) rfl) rfl rfl) (d_isByteF _ _ hL hd _) rfl rfl rfl rfl ⟨Nat.le_refl _, Nat.le_refl _⟩ (D 2 rfl) ?_
  refine j_if_ne C  10 (D 3 rfl) (by decide) (fun h5 => absurd h5 (fun z => z rfl)) (fun h5 => ?_)
  refine j_iconst C (v := nI 0) (D 4 rfl) rfl ?_
  exact j_zret C P rfl (by first | exact Or.inl rfl | exact Or.inr rfl | assumption) (D 5 rfl) ⟨Nat.le_refl _, Nat.le_refl _⟩ (pv_i rfl)
set_option maxRecDepth 20000 in
theorem d_passes (l : Launch) (G : GT) {I : Nat → Nat → Int32} {L : Nat → Nat → Int64} {R : Nat → Nat → Option Nat} (hL : Lay R) {f : Nat → Int32} {n : Nat} (hb : BY f n) {i : Nat} (hS : MS I f n i) (hg : I 172 34 = nI 0) (k : Nat) (hk : k < 27) : Mt l G mX12_passes (6) 0 0 [.ref (ra G 172), .ref (ra G (2000 + k))] (wd I L R) (MX I L R nP (fun j I' => MS I' f n j) (pTake (tok f n) i (mws.getD k 0))) := by
  refine mt_of (own := RX12) (by decide) rfl rfl (fun Z C P B => ?_)
  have D := @dc_of _ _ dX12_passes
  refine j_aload_n C (D 0 rfl) rfl ?_
  refine j_aload_n C (D 1 rfl) rfl ?_
  refine j_callV C B k_X12_165 (rc_obj C (lit (kd := 12) (n := 48) rfl) rfl rfl) (d_eats _ _ hL hb hS hg k hk) rfl rfl rfl rfl ⟨Nat.le_refl _, Nat.le_refl _⟩ (D 2 rfl) ?_
  rintro r w' ⟨rfl, I2, rfl, hF2, y1, y2⟩
  refine j_if_ne C  17 (D 3 rfl) (by decide) (fun h5 => ?_) (fun h5 => ?_)
  · exact j_vret C P rfl (D 9 rfl) ⟨Nat.le_refl _, Nat.le_refl _⟩ (MX_o (a := i + 1) (by unfold pTake; rw [if_pos (b2_ne h5)]) (hF2.mo aPn) (by rw [hF2 _ _ (fun z => by unfold aP at z; omega)]; exact hg) (hF2 _ _ (fun z => by unfold aP at z; omega)) (y1 (b2_ne h5)))
  · refine j_aload_n C (D 4 rfl) rfl ?_
    refine j_iconst C (v := nI 1) (D 5 rfl) rfl ?_
    refine j_aload_n C (D 6 rfl) rfl ?_
    refine j_geti C f_X12_120 (lit (kd := 12) (n := 48) rfl) rfl rfl (D 7 rfl) ?_
    refine j_callV C B k_X12_168 (rc_obj C (lit (kd := 12) (n := 48) rfl) rfl rfl) (d_errsT _ _ hL (by rw [hF2 _ _ (fun z => by unfold aP at z; omega)]; exact hg) _ _) rfl rfl rfl rfl ⟨Nat.le_refl _, Nat.le_refl _⟩ (D 8 rfl) ?_
    rintro r w' ⟨rfl, rfl⟩
    exact j_vret C P rfl (D 9 rfl) ⟨Nat.le_refl _, Nat.le_refl _⟩ (MX_e (e := fl (tok f n) i 1) (by unfold pTake; rw [if_neg (b2_eq h5)]) (Fx.up (Fx.up (hF2.mo aPn) ⟨rfl, by omega⟩) ⟨rfl, by omega⟩) (by rw [up2_i (by omega), up2_same]; rfl) (by rw [up2_same, (y2 (b2_eq h5)).2.1]; show _ = nI (tok f n i).2.1; rw [tok_2]))
set_option maxRecDepth 20000 in
theorem d_passesF (l : Launch) (G : GT) {I : Nat → Nat → Int32} {L : Nat → Nat → Int64} {R : Nat → Nat → Option Nat} (hL : Lay R) (hd : ¬ I 172 34 = 0) (k : Nat) (hk : k < 27) : Mt l G mX12_passes (6) 0 0 [.ref (ra G 172), .ref (ra G (2000 + k))] (wd I L R) (fun r w' => r = none ∧ w' = wd I L R) := by
  refine mt_of (own := RX12) (by decide) rfl rfl (fun Z C P B => ?_)
  have D := @dc_of _ _ dX12_passes
  refine j_aload_n C (D 0 rfl) rfl ?_
  refine j_aload_n C (D 1 rfl) rfl ?_
  refine j_cVp C B k_X12_165 (rc_obj C (lit (kd := 12) (n := 48) rfl) rfl rfl) (d_eatsF _ _ hL hd k hk) rfl rfl rfl rfl ⟨Nat.le_refl _, Nat.le_refl _⟩ (D 2 rfl) ?_
  refine j_if_ne C  17 (D 3 rfl) (by decide) (fun h5 => absurd h5 (fun z => z rfl)) (fun h5 => ?_)
  refine j_aload_n C (D 4 rfl) rfl ?_
  refine j_iconst C (v := nI 1) (D 5 rfl) rfl ?_
  refine j_aload_n C (D 6 rfl) rfl ?_
  refine j_geti C f_X12_120 (lit (kd := 12) (n := 48) rfl) rfl rfl (D 7 rfl) ?_
  refine j_callV C B k_X12_168 (rc_obj C (lit (kd := 12) (n := 48) rfl) rfl rfl) (d_errsF _ _ hL hd _ _) rfl rfl rfl rfl ⟨Nat.le_refl _, Nat.le_refl _⟩ (D 8 rfl) ?_
  rintro r w' ⟨rfl, rfl⟩
  exact j_vret C P rfl (D 9 rfl) ⟨Nat.le_refl _, Nat.le_refl _⟩ ⟨rfl, rfl⟩
set_option maxRecDepth 20000 in
theorem d_passesByte (l : Launch) (G : GT) {I : Nat → Nat → Int32} {L : Nat → Nat → Int64} {R : Nat → Nat → Option Nat} (hL : Lay R) {f : Nat → Int32} {n : Nat} (hb : BY f n) {i : Nat} (hS : MS I f n i) (hg : I 172 34 = nI 0) {s v : Nat} (hs : s < 39) (h27 : 27 ≤ s) (hv : v < 128) (ht : txt (spl s) = [nI v]) : Mt l G mX12_passesByte (3) 0 0 [.ref (ra G 172), .int (nI v)] (wd I L R) (MX I L R nP (fun j I' => MS I' f n j) (pTake (tok f n) i s)) := by
  refine mt_of (own := RX12) (by decide) rfl rfl (fun Z C P B => ?_)
  have D := @dc_of _ _ dX12_passesByte
  refine j_aload_n C (D 0 rfl) rfl ?_
  refine j_iload_n C (D 1 rfl) rfl ?_
  refine j_callV C B k_X12_172 (rc_obj C (lit (kd := 12) (n := 48) rfl) rfl rfl) (d_eatsByte _ _ hL hb hS hg hs h27 hv ht) rfl rfl rfl rfl ⟨Nat.le_refl _, Nat.le_refl _⟩ (D 2 rfl) ?_
  rintro r w' ⟨rfl, I2, rfl, hF2, y1, y2⟩
  refine j_if_ne C  17 (D 3 rfl) (by decide) (fun h5 => ?_) (fun h5 => ?_)
  · exact j_vret C P rfl (D 9 rfl) ⟨Nat.le_refl _, Nat.le_refl _⟩ (MX_o (a := i + 1) (by unfold pTake; rw [if_pos (b2_ne h5)]) (hF2.mo aPn) (by rw [hF2 _ _ (fun z => by unfold aP at z; omega)]; exact hg) (hF2 _ _ (fun z => by unfold aP at z; omega)) (y1 (b2_ne h5)))
  · refine j_aload_n C (D 4 rfl) rfl ?_
    refine j_iconst C (v := nI 1) (D 5 rfl) rfl ?_
    refine j_aload_n C (D 6 rfl) rfl ?_
    refine j_geti C f_X12_120 (lit (kd := 12) (n := 48) rfl) rfl rfl (D 7 rfl) ?_
    refine j_callV C B k_X12_168 (rc_obj C (lit (kd := 12) (n := 48) rfl) rfl rfl) (d_errsT _ _ hL (by rw [hF2 _ _ (fun z => by unfold aP at z; omega)]; exact hg) _ _) rfl rfl rfl rfl ⟨Nat.le_refl _, Nat.le_refl _⟩ (D 8 rfl) ?_
    rintro r w' ⟨rfl, rfl⟩
    exact j_vret C P rfl (D 9 rfl) ⟨Nat.le_refl _, Nat.le_refl _⟩ (MX_e (e := fl (tok f n) i 1) (by unfold pTake; rw [if_neg (b2_eq h5)]) (Fx.up (Fx.up (hF2.mo aPn) ⟨rfl, by omega⟩) ⟨rfl, by omega⟩) (by rw [up2_i (by omega), up2_same]; rfl) (by rw [up2_same, (y2 (b2_eq h5)).2.1]; show _ = nI (tok f n i).2.1; rw [tok_2]))
set_option maxRecDepth 20000 in
theorem d_passesByteF (l : Launch) (G : GT) {I : Nat → Nat → Int32} {L : Nat → Nat → Int64} {R : Nat → Nat → Option Nat} (hL : Lay R) (hd : ¬ I 172 34 = 0) (x : Int32) : Mt l G mX12_passesByte (3) 0 0 [.ref (ra G 172), .int x] (wd I L R) (fun r w' => r = none ∧ w' = wd I L R) := by
  refine mt_of (own := RX12) (by decide) rfl rfl (fun Z C P B => ?_)
  have D := @dc_of _ _ dX12_passesByte
  refine j_aload_n C (D 0 rfl) rfl ?_
  refine j_iload_n C (D 1 rfl) rfl ?_
  refine j_cVp C B k_X12_172 (rc_obj C (lit (kd := 12) (n := 48) rfl) rfl rfl) (d_eatsByteF _ _ hL hd _) rfl rfl rfl rfl ⟨Nat.le_refl _, Nat.le_refl _⟩ (D 2 rfl) ?_
  refine j_if_ne C  17 (D 3 rfl) (by decide) (fun h5 => absurd h5 (fun z => z rfl)) (fun h5 => ?_)
  refine j_aload_n C (D 4 rfl) rfl ?_
  refine j_iconst C (v := nI 1) (D 5 rfl) rfl ?_
  refine j_aload_n C (D 6 rfl) rfl ?_
  refine j_geti C f_X12_120 (lit (kd := 12) (n := 48) rfl) rfl rfl (D 7 rfl) ?_
  refine j_callV C B k_X12_168 (rc_obj C (lit (kd := 12) (n := 48) rfl) rfl rfl) (d_errsF _ _ hL hd _ _) rfl rfl rfl rfl ⟨Nat.le_refl _, Nat.le_refl _⟩ (D 8 rfl) ?_
  rintro r w' ⟨rfl, rfl⟩
  exact j_vret C P rfl (D 9 rfl) ⟨Nat.le_refl _, Nat.le_refl _⟩ ⟨rfl, rfl⟩
def MN (I : Nat → Nat → Int32) (L : Nat → Nat → Int64) (R : Nat → Nat → Option Nat) (f : Nat → Int32) (n : Nat) (res : RS (Nat × Nat)) : Option Value → Wd → Prop := fun r w' => ∃ I' v, r = some (.int v) ∧ w' = wd I' L R ∧ Fx nP I I' ∧ (∀ e, res = .inl e → I' 172 34 = nI e.1 ∧ I' 172 35 = nI e.2) ∧ (∀ x, res = .inr x → v = nI x.1 ∧ I' 172 34 = nI 0 ∧ I' 172 35 = I 172 35 ∧ MS I' f n x.2)
theorem MN_e {I I' : Nat → Nat → Int32} {L : Nat → Nat → Int64} {R : Nat → Nat → Option Nat} {f : Nat → Int32} {n : Nat} {res : RS (Nat × Nat)} {e : Nat × Nat} {v : Int32} (h : res = .inl e) (hF : Fx nP I I') (h0 : I' 172 34 = nI e.1) (h1 : I' 172 35 = nI e.2) : MN I L R f n res (some (.int v)) (wd I' L R) := by
  subst h
  exact ⟨I', v, rfl, rfl, hF, fun e' he => by cases he; exact ⟨h0, h1⟩, fun a ha => by cases ha⟩
theorem MN_o {I I' : Nat → Nat → Int32} {L : Nat → Nat → Int64} {R : Nat → Nat → Option Nat} {f : Nat → Int32} {n : Nat} {res : RS (Nat × Nat)} {x : Nat × Nat} {v : Int32} (h : res = .inr x) (hF : Fx nP I I') (h0 : v = nI x.1) (h1 : I' 172 34 = nI 0) (h2 : I' 172 35 = I 172 35) (h3 : MS I' f n x.2) : MN I L R f n res (some (.int v)) (wd I' L R) := by
  subst h
  exact ⟨I', v, rfl, rfl, hF, fun e' he => (by cases he), fun a ha => by cases ha; exact ⟨h0, h1, h2, h3⟩⟩
theorem win_M {lo hx v : Nat} {hi : Int32} (hlo : lo ≤ 100000) (hh : hx ≤ 100000) (hhi : hi.toInt + 1 = hx) : ((nI lo).toInt64.toInt ≤ (nI (min 9999999 v)).toInt64.toInt ∧ (nI (min 9999999 v)).toInt64.toInt ≤ hi.toInt64.toInt) ↔ (lo ≤ v ∧ v < hx) := by
  rw [i_l, i_l, i_l, nI_int (by omega), nI_int (by omega)]
  omega
theorem tok_v {f : Nat → Int32} {n i : Nat} (h : (tok f n i).1 = 39) : (tok f n i).2.2 = vlN f (spo f n i) (ten f n (spo f n i) - spo f n i) := by
  have := tok_39.mp h
  rw [tok_d this.1 this.2]
set_option maxRecDepth 20000 in
theorem d_number (l : Launch) (G : GT) {I : Nat → Nat → Int32} {L : Nat → Nat → Int64} {R : Nat → Nat → Option Nat} (hL : Lay R) {f : Nat → Int32} {n : Nat} (hb : BY f n) {i : Nat} (hS : MS I f n i) (hg : I 172 34 = nI 0) {lo hx : Nat} {hi : Int32} (hlo : lo ≤ 100000) (hh : hx ≤ 100000) (hhi : hi.toInt + 1 = hx) : Mt l G mX12_number (2) 0 0 [.ref (ra G 172), .int (nI lo), .int hi] (wd I L R) (MN I L R f n (pNum (tok f n) i lo hx)) := by
  refine mt_of (own := RX12) (by decide) rfl rfl (fun Z C P B => ?_)
  have D := @dc_of _ _ dX12_number
  refine j_aload_n C (D 0 rfl) rfl ?_
  refine j_cVp C B k_X12_106 (rc_obj C (lit (kd := 12) (n := 48) rfl) rfl rfl) (d_goodT _ _ hL hg) rfl rfl rfl rfl ⟨Nat.le_refl _, Nat.le_refl _⟩ (D 1 rfl) ?_
  refine j_if_eq C  24 (D 2 rfl) (by decide) (fun h4 => absurd h4 (by decide)) (fun h4 => ?_)
  refine j_aload_n C (D 3 rfl) rfl ?_
  refine j_geti C f_X12_123 (lit (kd := 12) (n := 48) rfl) rfl rfl (D 4 rfl) ?_
  refine j_iconst C (v := nI 2) (D 5 rfl) rfl ?_
  refine j_icmp_eq C  24 (D 6 rfl) (by decide) (fun h12 => ?_) (fun h12 => ?_)
  · have h39 := (MS_2 hS).mp h12
    have h39q := tok_39.mp h39
    refine j_aload_n C (D 12 rfl) rfl ?_
    refine j_cVp C B k_X12_106 (rc_obj C (lit (kd := 12) (n := 48) rfl) rfl rfl) (d_goodT _ _ hL hg) rfl rfl rfl rfl ⟨Nat.le_refl _, Nat.le_refl _⟩ (D 13 rfl) ?_
    refine j_if_eq C  55 (D 14 rfl) (by decide) (fun h28 => absurd h28 (by decide)) (fun h28 => ?_)
    refine j_aload_n C (D 15 rfl) rfl ?_
    refine j_geti C f_X12_134 (lit (kd := 12) (n := 48) rfl) rfl rfl (D 16 rfl) ?_
    rw [((hS.2.2.2 h39q.1).2.2.1 h39q.2).2]
    refine j_i2l C (D 17 rfl) ?_
    refine j_iload_n C (D 18 rfl) rfl ?_
    refine j_i2l C (D 19 rfl) ?_
    refine j_iload_n C (D 20 rfl) rfl ?_
    refine j_i2l C (D 21 rfl) ?_
    refine j_cSp C B k_X12_99 (d_in _ _ _ _ _ _) rfl rfl rfl rfl ⟨Nat.le_refl _, Nat.le_refl _⟩ (D 22 rfl) ?_
    refine j_if_ne C  55 (D 23 rfl) (by decide) (fun h43 => ?_) (fun h43 => ?_)
    · refine j_aload_n C (D 29 rfl) rfl ?_
      refine j_geti C f_X12_134 (lit (kd := 12) (n := 48) rfl) rfl rfl (D 30 rfl) ?_
      rw [((hS.2.2.2 h39q.1).2.2.1 h39q.2).2]
      refine j_istore_n C (D 31 rfl) rfl ?_
      refine j_aload_n C (D 32 rfl) rfl ?_
      refine j_cVp C B k_X12_106 (rc_obj C (lit (kd := 12) (n := 48) rfl) rfl rfl) (d_goodT _ _ hL hg) rfl rfl rfl rfl ⟨Nat.le_refl _, Nat.le_refl _⟩ (D 33 rfl) ?_
      refine j_if_eq C  71 (D 34 rfl) (by decide) (fun h64 => absurd h64 (by decide)) (fun h64 => ?_)
      refine j_aload_n C (D 35 rfl) rfl ?_
      refine j_callV C B k_X12_158 (rc_obj C (lit (kd := 12) (n := 48) rfl) rfl rfl) (d_advance _ _ hL hb hS h39q.1) rfl rfl rfl rfl ⟨Nat.le_refl _, Nat.le_refl _⟩ (D 36 rfl) ?_
      rintro r w' ⟨rfl, I2, rfl, hF2, hS2⟩
      refine j_iload_n C (D 37 rfl) rfl ?_
      exact j_iret C P rfl (D 38 rfl) ⟨Nat.le_refl _, Nat.le_refl _⟩ (MN_o (x := ((tok f n i).2.2, i + 1)) (by unfold pNum; rw [if_pos h39, if_pos (by rw [tok_v h39]; exact (win_M hlo hh hhi).mp (b2_ne h43))]) (hF2.mo aPn) (by rw [tok_v h39]; congr 1; have := (win_M hlo hh hhi).mp (b2_ne h43); omega) (by rw [hF2 _ _ (fun z => by unfold aP at z; omega)]; exact hg) (hF2 _ _ (fun z => by unfold aP at z; omega)) hS2)
    · refine j_aload_n C (D 24 rfl) rfl ?_
      refine j_iconst C (v := nI 2) (D 25 rfl) rfl ?_
      refine j_aload_n C (D 26 rfl) rfl ?_
      refine j_geti C f_X12_120 (lit (kd := 12) (n := 48) rfl) rfl rfl (D 27 rfl) ?_
      rw [hS.2.1]
      refine j_callV C B k_X12_168 (rc_obj C (lit (kd := 12) (n := 48) rfl) rfl rfl) (d_errsT _ _ hL hg _ _) rfl rfl rfl rfl ⟨Nat.le_refl _, Nat.le_refl _⟩ (D 28 rfl) ?_
      rintro r w' ⟨rfl, rfl⟩
      have hdd : ¬ up2 (up2 I 172 34 (nI 2)) 172 35 (I 172 30) 172 34 = 0 := dd_of (k := 2) (by rw [up2_i (by omega), up2_same]) (by omega)
      rw [hS.2.1] at hdd
      refine j_aload_n C (D 29 rfl) rfl ?_
      refine j_geti C f_X12_134 (lit (kd := 12) (n := 48) rfl) rfl rfl (D 30 rfl) ?_
      refine j_istore_n C (D 31 rfl) rfl ?_
      refine j_aload_n C (D 32 rfl) rfl ?_
      refine j_cVp C B k_X12_106 (rc_obj C (lit (kd := 12) (n := 48) rfl) rfl rfl) (d_goodF _ _ hL hdd) rfl rfl rfl rfl ⟨Nat.le_refl _, Nat.le_refl _⟩ (D 33 rfl) ?_
      refine j_if_eq C  71 (D 34 rfl) (by decide) (fun h64 => ?_) (fun h64 => absurd h64 (fun z => z rfl))
      refine j_iload_n C (D 37 rfl) rfl ?_
      exact j_iret C P rfl (D 38 rfl) ⟨Nat.le_refl _, Nat.le_refl _⟩ (MN_e (e := fl (tok f n) i 2) (by unfold pNum; rw [if_pos h39, if_neg (fun z => b2_eq h43 ((win_M hlo hh hhi).mpr (by rw [← tok_v h39]; exact z)))]) (Fx.up (Fx.up (Fx.rf _ _) ⟨rfl, by omega⟩) ⟨rfl, by omega⟩) (by rw [up2_i (by omega), up2_same]; rfl) (by rw [up2_same]; show _ = nI (tok f n i).2.1; rw [tok_2]))
  · refine j_aload_n C (D 7 rfl) rfl ?_
    refine j_iconst C (v := nI 1) (D 8 rfl) rfl ?_
    refine j_aload_n C (D 9 rfl) rfl ?_
    refine j_geti C f_X12_120 (lit (kd := 12) (n := 48) rfl) rfl rfl (D 10 rfl) ?_
    rw [hS.2.1]
    refine j_callV C B k_X12_168 (rc_obj C (lit (kd := 12) (n := 48) rfl) rfl rfl) (d_errsT _ _ hL hg _ _) rfl rfl rfl rfl ⟨Nat.le_refl _, Nat.le_refl _⟩ (D 11 rfl) ?_
    rintro r w' ⟨rfl, rfl⟩
    have hdd : ¬ up2 (up2 I 172 34 (nI 1)) 172 35 (I 172 30) 172 34 = 0 := dd_of (k := 1) (by rw [up2_i (by omega), up2_same]) (by omega)
    rw [hS.2.1] at hdd
    refine j_aload_n C (D 12 rfl) rfl ?_
    refine j_cVp C B k_X12_106 (rc_obj C (lit (kd := 12) (n := 48) rfl) rfl rfl) (d_goodF _ _ hL hdd) rfl rfl rfl rfl ⟨Nat.le_refl _, Nat.le_refl _⟩ (D 13 rfl) ?_
    refine j_if_eq C  55 (D 14 rfl) (by decide) (fun h28 => ?_) (fun h28 => absurd h28 (fun z => z rfl))
    refine j_aload_n C (D 29 rfl) rfl ?_
    refine j_geti C f_X12_134 (lit (kd := 12) (n := 48) rfl) rfl rfl (D 30 rfl) ?_
    refine j_istore_n C (D 31 rfl) rfl ?_
    refine j_aload_n C (D 32 rfl) rfl ?_
    refine j_cVp C B k_X12_106 (rc_obj C (lit (kd := 12) (n := 48) rfl) rfl rfl) (d_goodF _ _ hL hdd) rfl rfl rfl rfl ⟨Nat.le_refl _, Nat.le_refl _⟩ (D 33 rfl) ?_
    refine j_if_eq C  71 (D 34 rfl) (by decide) (fun h64 => ?_) (fun h64 => absurd h64 (fun z => z rfl))
    refine j_iload_n C (D 37 rfl) rfl ?_
    exact j_iret C P rfl (D 38 rfl) ⟨Nat.le_refl _, Nat.le_refl _⟩ (MN_e (e := fl (tok f n) i 1) (by unfold pNum; rw [if_neg (fun z => h12 ((MS_2 hS).mpr z))]) (Fx.up (Fx.up (Fx.rf _ _) ⟨rfl, by omega⟩) ⟨rfl, by omega⟩) (by rw [up2_i (by omega), up2_same]; rfl) (by rw [up2_same]; show _ = nI (tok f n i).2.1; rw [tok_2]))
set_option maxRecDepth 20000 in
theorem d_numberF (l : Launch) (G : GT) {I : Nat → Nat → Int32} {L : Nat → Nat → Int64} {R : Nat → Nat → Option Nat} (hL : Lay R) (hd : ¬ I 172 34 = 0) (x y : Int32) : Mt l G mX12_number (2) 0 0 [.ref (ra G 172), .int x, .int y] (wd I L R) (fun r w' => ∃ v, r = some (.int v) ∧ w' = wd I L R) := by
  refine mt_of (own := RX12) (by decide) rfl rfl (fun Z C P B => ?_)
  have D := @dc_of _ _ dX12_number
  refine j_aload_n C (D 0 rfl) rfl ?_
  refine j_cVp C B k_X12_106 (rc_obj C (lit (kd := 12) (n := 48) rfl) rfl rfl) (d_goodF _ _ hL hd) rfl rfl rfl rfl ⟨Nat.le_refl _, Nat.le_refl _⟩ (D 1 rfl) ?_
  refine j_if_eq C  24 (D 2 rfl) (by decide) (fun h4 => ?_) (fun h4 => absurd h4 (fun z => z rfl))
  refine j_aload_n C (D 12 rfl) rfl ?_
  refine j_cVp C B k_X12_106 (rc_obj C (lit (kd := 12) (n := 48) rfl) rfl rfl) (d_goodF _ _ hL hd) rfl rfl rfl rfl ⟨Nat.le_refl _, Nat.le_refl _⟩ (D 13 rfl) ?_
  refine j_if_eq C  55 (D 14 rfl) (by decide) (fun h28 => ?_) (fun h28 => absurd h28 (fun z => z rfl))
  refine j_aload_n C (D 29 rfl) rfl ?_
  refine j_geti C f_X12_134 (lit (kd := 12) (n := 48) rfl) rfl rfl (D 30 rfl) ?_
  refine j_istore_n C (D 31 rfl) rfl ?_
  refine j_aload_n C (D 32 rfl) rfl ?_
  refine j_cVp C B k_X12_106 (rc_obj C (lit (kd := 12) (n := 48) rfl) rfl rfl) (d_goodF _ _ hL hd) rfl rfl rfl rfl ⟨Nat.le_refl _, Nat.le_refl _⟩ (D 33 rfl) ?_
  refine j_if_eq C  71 (D 34 rfl) (by decide) (fun h64 => ?_) (fun h64 => absurd h64 (fun z => z rfl))
  refine j_iload_n C (D 37 rfl) rfl ?_
  exact j_iret C P rfl (D 38 rfl) ⟨Nat.le_refl _, Nat.le_refl _⟩ ⟨_, rfl, rfl⟩
set_option maxRecDepth 20000 in
theorem d_puts (l : Launch) (G : GT) {I : Nat → Nat → Int32} {L : Nat → Nat → Int64} {R : Nat → Nat → Option Nat} (hL : Lay R) (hg : I 172 34 = nI 0) {m : Nat} (hm : I 172 17 = nI m) (hm2 : m < 1300) (q : Nat × Int32) : Mt l G mX12_puts (1) 0 0 [.ref (ra G 172), .int (nI q.1), .int q.2] (wd I L R) (fun r w' => r = none ∧ w' = wd (up2 (up2 I 183 m (encM q)) 172 17 (nI (m + 1))) L R) := by
  refine mt_of (own := RX12) (by decide) rfl rfl (fun Z C P B => ?_)
  have D := @dc_of _ _ dX12_puts
  refine j_aload_n C (D 0 rfl) rfl ?_
  refine j_cVp C B k_X12_106 (rc_obj C (lit (kd := 12) (n := 48) rfl) rfl rfl) (d_goodT _ _ hL hg) rfl rfl rfl rfl ⟨Nat.le_refl _, Nat.le_refl _⟩ (D 1 rfl) ?_
  refine j_if_ne C  8 (D 2 rfl) (by decide) (fun h4 => ?_) (fun h4 => absurd h4 (by decide))
  refine j_aload_n C (D 4 rfl) rfl ?_
  refine j_getr C f_X12_40 (lit (kd := 12) (n := 48) rfl) rfl rfl (hL _ _ _ rfl) (D 5 rfl) ?_
  refine j_aload_n C (D 6 rfl) rfl ?_
  refine j_geti C f_X12_212 (lit (kd := 12) (n := 48) rfl) rfl rfl (D 7 rfl) ?_
  rw [hm]
  refine j_iload_n C (D 8 rfl) rfl ?_
  refine j_bipush C (v := nI 16) (D 9 rfl) rfl ?_
  refine j_iload_n C (D 10 rfl) rfl ?_
  refine j_imul C (D 11 rfl) ?_
  refine j_iadd C (D 12 rfl) ?_
  refine j_iast C (lit (kd := 20) (n := 1300) rfl) (ix_n (by omega) (by decide)) (D 13 rfl) ?_
  refine j_aload_n C (D 14 rfl) rfl ?_
  refine j_dup C (D 15 rfl) rfl ?_
  refine j_geti C f_X12_212 (lit (kd := 12) (n := 48) rfl) rfl rfl (D 16 rfl) ?_
  rw [up2_i (by omega), hm]
  refine j_iconst C (v := nI 1) (D 17 rfl) rfl ?_
  refine j_iadd C (D 18 rfl) ?_
  rw [nI_add]
  refine j_puti C f_X12_212 (lit (kd := 12) (n := 48) rfl) rfl rfl (D 19 rfl) ?_
  exact j_vret C P rfl (D 20 rfl) ⟨Nat.le_refl _, Nat.le_refl _⟩ ⟨rfl, rfl⟩
set_option maxRecDepth 20000 in
theorem d_putsF (l : Launch) (G : GT) {I : Nat → Nat → Int32} {L : Nat → Nat → Int64} {R : Nat → Nat → Option Nat} (hL : Lay R) (hd : ¬ I 172 34 = 0) (x y : Int32) : Mt l G mX12_puts (1) 0 0 [.ref (ra G 172), .int x, .int y] (wd I L R) (fun r w' => r = none ∧ w' = wd I L R) := by
  refine mt_of (own := RX12) (by decide) rfl rfl (fun Z C P B => ?_)
  have D := @dc_of _ _ dX12_puts
  refine j_aload_n C (D 0 rfl) rfl ?_
  refine j_cVp C B k_X12_106 (rc_obj C (lit (kd := 12) (n := 48) rfl) rfl rfl) (d_goodF _ _ hL hd) rfl rfl rfl rfl ⟨Nat.le_refl _, Nat.le_refl _⟩ (D 1 rfl) ?_
  refine j_if_ne C  8 (D 2 rfl) (by decide) (fun h4 => absurd h4 (fun z => z rfl)) (fun h4 => ?_)
  exact j_vret C P rfl (D 3 rfl) ⟨Nat.le_refl _, Nat.le_refl _⟩ ⟨rfl, rfl⟩
