/-! THE STATE that class and model share -/
abbrev STt : Type := (Bool × VT) × (Nat × (Nat → SN)) × (BT × BT) × (Int32 × Int32)
def sL (s : STt) : Bool := s.1.1
def sV (s : STt) : VT := s.1.2
def sN (s : STt) : Nat := s.2.1.1
def sH (s : STt) : Nat → SN := s.2.1.2
def sT (s : STt) : BT := s.2.2.1.1
def sO (s : STt) : BT := s.2.2.1.2
def sF (s : STt) : Int32 := s.2.2.2.1
def sP (s : STt) : Int32 := s.2.2.2.2
def CRx (I : Nat → Nat → Int32) (R : Nat → Nat → Option Nat) (c c' : Nat) (s : STt) : Prop := (isC c ∧ isC c' ∧ ¬ c = c') ∧ R 0 5 = some c ∧ R 4 3 = some c' ∧ CT I c (sV s) ∧ I 0 6 = b2 (sL s = true) ∧ HC I (sV s) (sN s) (sH s) ∧ TP I 0 1 1 (sT s) ∧ TP I 2 1 3 (sO s) ∧ I 4 0 = sF s ∧ I 4 1 = sP s ∧ I (c' + 7) 0 = nI 0
def MRx (I : Nat → Nat → Int32) (s : STt) : Prop := MT I (sV s) ∧ I 172 1 = b2 (sL s = true) ∧ HMo I (sN s) (sH s) ∧ TP I 172 27 187 (sT s) ∧ TP I 172 47 196 (sO s) ∧ I 172 34 = sF s ∧ I 172 35 = sP s ∧ I 182 0 = nI 0
def OKx (s : STt) : Prop := WV (sV s) ∧ WH (sV s) (sN s) (sH s) ∧ (sT s).1 ≤ 1200 ∧ (∀ j, j < (sT s).1 → isBy ((sT s).2 j)) ∧ (sO s).1 ≤ 64
theorem TP_hi {I I' : Nat → Nat → Int32} {o f t : Nat} {b : BT} (h : TP I o f t b) (h0 : ∀ j, I' o j = I o j) (h1 : ∀ j, I' t j = I t j) : TP I' o f t b := TP_fr h (h0 f) h1
theorem MR_lo {I I' : Nat → Nat → Int32} {s : STt} (h : MRx I s) (hF : ∀ b j, 172 ≤ b → I' b j = I b j) : MRx I' s := by
  obtain ⟨a1, a2, a3, a4, a5, a6, a7, a8⟩ := h
  refine ⟨?_, by rw [hF _ _ (by omega)]; exact a2, ?_, TP_hi a4 (fun j => hF _ _ (by omega)) (fun j => hF _ _ (by omega)), TP_hi a5 (fun j => hF _ _ (by omega)) (fun j => hF _ _ (by omega)), by rw [hF _ _ (by omega)]; exact a6, by rw [hF _ _ (by omega)]; exact a7, by rw [hF _ _ (by omega)]; exact a8⟩
  · obtain ⟨b0, b1, b2, b3, b4, b5, b6, b7, b8⟩ := a1
    refine ⟨by rw [hF _ _ (by omega)]; exact b0, by rw [hF _ _ (by omega)]; exact b1, by rw [hF _ _ (by omega)]; exact b2, by rw [hF _ _ (by omega)]; exact b3, fun e he => ?_, fun a e ha he => by rw [hF _ _ (by omega), hF _ _ (by omega), hF _ _ (by omega)]; exact b5 a e ha he, fun k hk => by rw [hF _ _ (by omega)]; exact b6 k hk, fun k hk => by rw [hF _ _ (by omega)]; exact b7 k hk, fun k hk i q hq => by rw [hF _ _ (by omega)]; exact b8 k hk i q hq⟩
    rw [show mE I' e = mE I e from by funext k; exact hF _ _ (by omega)]; exact b4 e he
  · exact ⟨by rw [hF _ _ (by omega)]; exact a3.1, fun i hi => by
      obtain ⟨c1, c2, c3⟩ := a3.2 i hi
      exact ⟨by rw [hF _ _ (by omega)]; exact c1, by rw [hF _ _ (by omega)]; exact c2, fun a e ha he => by rw [hF _ _ (by omega), hF _ _ (by omega), hF _ _ (by omega)]; exact c3 a e ha he⟩⟩
theorem CR_hi {I I' : Nat → Nat → Int32} {R : Nat → Nat → Option Nat} {c c' : Nat} {s : STt} (hE : vE (sV s) ≤ 10) (h : CRx I R c c' s) (hF : ∀ b j, b < 172 → I' b j = I b j) : CRx I' R c c' s := by
  obtain ⟨⟨hc, hc2, hne⟩, a1, a2, a3, a4, a5, a6, a7, a8, a9, a10⟩ := h
  have hr := isC_rng hc
  have hr2 := isC_rng hc2
  exact ⟨⟨hc, hc2, hne⟩, a1, a2, CT_of a3 (fun j k _ _ _ => hF _ _ (by omega)) hE, by rw [hF _ _ (by omega)]; exact a4, HC_fr a5 (fun b j _ _ => hF _ _ (by omega)), TP_hi a6 (fun j => hF _ _ (by omega)) (fun j => hF _ _ (by omega)), TP_hi a7 (fun j => hF _ _ (by omega)) (fun j => hF _ _ (by omega)), by rw [hF _ _ (by omega)]; exact a8, by rw [hF _ _ (by omega)]; exact a9, by rw [hF _ _ (by omega)]; exact a10⟩
/-- questions -/
theorem k_qC {I I' : Nat → Nat → Int32} {R : Nat → Nat → Option Nat} {c c' : Nat} {s : STt} (hO : OKx s) (hC : CRx I R c c' s) (hM : MRx I s) (hF : FrS I I') : CRx I' R c c' s ∧ MRx I' s := by
  obtain ⟨⟨hc, hc2, hne⟩, a1, a2, a3, a4, a5, a6, a7, a8, a9, a10⟩ := hC
  have hr := isC_rng hc
  have hr2 := isC_rng hc2
  have hk : ∀ b j, ¬ (((b = 15 ∨ b = 60) ∧ j = 7) ∨ b = 19 ∨ b = 64 ∨ (95 ≤ b ∧ b ≤ 171)) → I' b j = I b j := fun b j z => hF b j z
  refine ⟨⟨⟨hc, hc2, hne⟩, a1, a2, CT_fr hc a3 hF hO.1.1, by rw [hk _ _ (by omega)]; exact a4, HC_fr a5 (fun b j _ _ => hk _ _ (by omega)), TP_hi a6 (fun j => hk _ _ (by omega)) (fun j => hk _ _ (by omega)), TP_hi a7 (fun j => hk _ _ (by omega)) (fun j => hk _ _ (by omega)), by rw [hk _ _ (by omega)]; exact a8, by rw [hk _ _ (by omega)]; exact a9, by rw [hk _ _ (by omega)]; exact a10⟩, MR_lo hM (fun b j _ => hk _ _ (by omega))⟩
theorem k_qM {I I' : Nat → Nat → Int32} {R : Nat → Nat → Option Nat} {c c' : Nat} {s s' : STt} (hE : vE (sV s) ≤ 10) (hC : CRx I R c c' s) (hM : MRx I s') (hF : FrM I I') : CRx I' R c c' s ∧ MRx I' s' := by
  have hk : ∀ b j, ¬ (188 ≤ b ∧ b ≤ 194) → I' b j = I b j := fun b j z => hF b j z
  obtain ⟨a1, a2, a3, a4, a5, a6, a7, a8⟩ := hM
  refine ⟨CR_hi hE hC (fun b j _ => hk _ _ (by omega)), MT_fr a1 hF, by rw [hk _ _ (by omega)]; exact a2, ⟨by rw [hk _ _ (by omega)]; exact a3.1, fun i hi => ?_⟩, TP_hi a4 (fun j => hk _ _ (by omega)) (fun j => hk _ _ (by omega)), TP_hi a5 (fun j => hk _ _ (by omega)) (fun j => hk _ _ (by omega)), by rw [hk _ _ (by omega)]; exact a6, by rw [hk _ _ (by omega)]; exact a7, by rw [hk _ _ (by omega)]; exact a8⟩
  obtain ⟨c1, c2, c3⟩ := a3.2 i hi
  exact ⟨by rw [hk _ _ (by omega)]; exact c1, by rw [hk _ _ (by omega)]; exact c2, fun a e ha he => by rw [hk _ _ (by omega), hk _ _ (by omega), hk _ _ (by omega)]; exact c3 a e ha he⟩
/-- acts -/
def aS (s : STt) (x : S3) : STt := ((sL s, x.1), (x.2.1, x.2.2), s.2.2)
theorem k_aC {I I' : Nat → Nat → Int32} {R : Nat → Nat → Option Nat} {c c' : Nat} {s : STt} {x : S3} (hC : CRx I R c c' s) (hM : MRx I s) (hT : CT I' c x.1) (hH : HC I' x.1 x.2.1 x.2.2) (hF : ∀ b j, ¬ (b = c ∨ b = c + 2 ∨ b = c + 3 ∨ b = c + 4 ∨ (50 ≤ b ∧ b ≤ 54)) → I' b j = I b j) : CRx I' R c c' (aS s x) ∧ MRx I' s := by
  obtain ⟨⟨hc, hc2, hne⟩, a1, a2, a3, a4, a5, a6, a7, a8, a9, a10⟩ := hC
  have hr := isC_rng hc
  have hr2 := isC_rng hc2
  exact ⟨⟨⟨hc, hc2, hne⟩, a1, a2, hT, by rw [hF _ _ (by omega)]; exact a4, hH, TP_hi a6 (fun j => hF _ _ (by omega)) (fun j => hF _ _ (by omega)), TP_hi a7 (fun j => hF _ _ (by omega)) (fun j => hF _ _ (by omega)), by rw [hF _ _ (by omega)]; exact a8, by rw [hF _ _ (by omega)]; exact a9, by rw [hF _ _ (by omega)]; exact a10⟩, MR_lo hM (fun b j _ => hF _ _ (by omega))⟩
theorem k_aM {I I' : Nat → Nat → Int32} {R : Nat → Nat → Option Nat} {c c' : Nat} {s : STt} {x : S3} (hE : vE x.1 ≤ 10) (hC : CRx I R c c' (aS s x)) (hM : MRx I s) (hT : MT I' x.1) (hH : HMo I' x.2.1 x.2.2) (hF : ∀ b j, ¬ (b = 172 ∧ (j = 3 ∨ j = 5 ∨ j = 44)) → ¬ (177 ≤ b ∧ b ≤ 179) → ¬ b = 195 → I' b j = I b j) : CRx I' R c c' (aS s x) ∧ MRx I' (aS s x) := by
  obtain ⟨a1, a2, a3, a4, a5, a6, a7, a8⟩ := hM
  refine ⟨CR_hi hE hC (fun b j _ => hF _ _ (by omega) (by omega) (by omega)), hT, by rw [hF _ _ (by omega) (by omega) (by omega)]; exact a2, hH, TP_fr a4 (hF _ _ (by omega) (by omega) (by omega)) (fun j => hF _ _ (by omega) (by omega) (by omega)), TP_fr a5 (hF _ _ (by omega) (by omega) (by omega)) (fun j => hF _ _ (by omega) (by omega) (by omega)), by rw [hF _ _ (by omega) (by omega) (by omega)]; exact a6, by rw [hF _ _ (by omega) (by omega) (by omega)]; exact a7, by rw [hF _ _ (by omega) (by omega) (by omega)]; exact a8⟩
def ok3 (x : S3) : Prop := WV x.1 ∧ WH x.1 x.2.1 x.2.2
theorem OK_a {s : STt} {x : S3} (hO : OKx s) (h : ok3 x) : OKx (aS s x) := ⟨h.1, h.2, hO.2.2⟩
theorem ok_push {V V' : VT} {n : Nat} {h : Nat → SN} (hV : WV V) (hs : ∃ s, V' = setV V s) (hW : WH V n h) (hV2 : WV V') : ok3 (pushS V V' n h) := ⟨hV2, push_WH hV hs hW⟩
theorem ok_mk {V : VT} {n a e : Nat} {h : Nat → SN} {m : Int32} (hV : WV V) (hW : WH V n h) (hm : okM m) : ok3 (mkS V n h a e m) := by
  unfold mkS
  by_cases c : vmk V a e = m
  · rw [if_pos c]; exact ⟨hV, hW⟩
  · rw [if_neg c]; exact ok_push hV ⟨_, rfl⟩ hW (WV_mk hV hm)
theorem ok_sets {V : VT} {ld : Bool} {n : Nat} {h : Nat → SN} {a e m : Int32} (hV : WV V) (hW : WH V n h) : ok3 (s_sets V ld n h a e m) := by
  unfold s_sets
  by_cases c : (inR (vA V) a ∧ inR (vE V) e) ∧ wi (-1) 99999 m
  · rw [if_pos c]
    refine ok_mk hV hW ?_
    have := c.2
    unfold wi at this
    unfold okM
    by_cases q : m = -1
    · exact Or.inl q
    · right
      rw [i_eq, show (-1 : Int32).toInt = -1 by decide] at q
      omega
  · rw [if_neg c]; exact ⟨hV, hW⟩
theorem ok_trains {V : VT} {ld : Bool} {n : Nat} {h : Nat → SN} {a e u : Int32} (hV : WV V) (hW : WH V n h) : ok3 (s_trains V ld n h a e u) := by
  unfold s_trains
  by_cases c : (inR (vA V) a ∧ inR (vE V) e) ∧ wi 0 999 u
  · rw [if_pos c]
    obtain ⟨x, hx, rfl⟩ := inR_n c.1.1
    obtain ⟨y, hy, rfl⟩ := inR_n c.1.2
    have hE := hV.1
    have hA := hV.2.1
    have := hV.2.2.2.2.2.1 x y hx (by omega)
    rw [tn_n (by omega), tn_n (by omega)]
    exact ok_mk hV hW (trS_ok this.1 this.2 _)
  · rw [if_neg c]; exact ⟨hV, hW⟩
theorem ok_gain {V : VT} {ld : Bool} {n : Nat} {h : Nat → SN} {a e g u : Int32} (hV : WV V) (hW : WH V n h) : ok3 (s_gain V ld n h a e g u) := by
  unfold s_gain
  by_cases c : (inR (vA V) a ∧ inR (vE V) e) ∧ wi 0 99999 g ∧ wi 1 999 u
  · rw [if_pos c]
    unfold gnS
    by_cases q : vgo V (tn a) (tn e) = g ∧ vgi V (tn a) (tn e) = u
    · rw [if_pos q]; exact ⟨hV, hW⟩
    · rw [if_neg q]
      have h1 := c.2.1
      have h2 := c.2.2
      unfold wi at h1 h2
      exact ok_push hV ⟨_, rfl⟩ hW (WV_gn hV (Or.inr ⟨by omega, by omega⟩))
  · rw [if_neg c]; exact ⟨hV, hW⟩
theorem ok_tie {V : VT} {ld : Bool} {n : Nat} {h : Nat → SN} {t : Int32} (hV : WV V) (hW : WH V n h) : ok3 (s_tie V ld n h t) := by
  unfold s_tie
  by_cases c : ld = true ∧ wi 0 2 t
  · rw [if_pos c]
    unfold tiS
    by_cases q : vt V = t
    · rw [if_pos q]; exact ⟨hV, hW⟩
    · rw [if_neg q]
      have h1 := c.2
      unfold wi at h1
      refine ok_push hV ⟨_, rfl⟩ hW (WV_ti hV ?_)
      rw [i_eq, i_eq, i_eq, i0, show (1 : Int32).toInt = 1 by decide, show (2 : Int32).toInt = 2 by decide]
      omega
  · rw [if_neg c]; exact ⟨hV, hW⟩
theorem ok_athlete {V : VT} {ld : Bool} {n : Nat} {h : Nat → SN} (hV : WV V) (hW : WH V n h) : ok3 (s_athlete V ld n h) := by
  unfold s_athlete
  by_cases c : ld = true
  · rw [if_pos c]
    by_cases q : vA V < 8
    · rw [if_pos q]; exact ok_push hV ⟨_, rfl⟩ hW (WV_at hV q)
    · rw [if_neg q]; exact ⟨hV, hW⟩
  · rw [if_neg c]; exact ⟨hV, hW⟩
theorem ok_undo {V : VT} {n : Nat} {h : Nat → SN} (hV : WV V) (hW : WH V n h) : ok3 (s_undo V n h) := by
  unfold s_undo
  by_cases c : n = 0
  · rw [if_pos c]; exact ⟨hV, hW⟩
  · rw [if_neg c]
    refine ⟨hW.2 (n - 1) (by omega), by have := hW.1; show n - 1 ≤ 10; omega, fun i hi => ?_⟩
    have hi : i < n - 1 := hi
    show WV (setV (setV V (h (n - 1))) (h i))
    rw [setV_setV]
    exact hW.2 i (by omega)
/-- the TAPE -/
def tS (s : STt) (b : BT) : STt := (s.1, s.2.1, (b, sO s), s.2.2.2)
theorem k_tC {I I' : Nat → Nat → Int32} {R : Nat → Nat → Option Nat} {c c' : Nat} {s : STt} {b : BT} (hE : vE (sV s) ≤ 10) (hC : CRx I R c c' s) (hM : MRx I s) (hT : TP I' 0 1 1 b) (hF : FrT 0 1 1 I I') : CRx I' R c c' (tS s b) ∧ MRx I' s := by
  obtain ⟨⟨hc, hc2, hne⟩, a1, a2, a3, a4, a5, a6, a7, a8, a9, a10⟩ := hC
  have hr := isC_rng hc
  have hr2 := isC_rng hc2
  exact ⟨⟨⟨hc, hc2, hne⟩, a1, a2, CT_of a3 (fun j k _ _ _ => hF _ _ (by omega) (by omega)) hE, by rw [hF _ _ (by omega) (by omega)]; exact a4, HC_fr a5 (fun b j _ _ => hF _ _ (by omega) (by omega)), hT, TP_hi a7 (fun j => hF _ _ (by omega) (by omega)) (fun j => hF _ _ (by omega) (by omega)), by rw [hF _ _ (by omega) (by omega)]; exact a8, by rw [hF _ _ (by omega) (by omega)]; exact a9, by rw [hF _ _ (by omega) (by omega)]; exact a10⟩, MR_lo hM (fun b j _ => hF _ _ (by omega) (by omega))⟩
theorem HM_f2 {I I' : Nat → Nat → Int32} {n : Nat} {h : Nat → SN} (hH : HMo I n h) (h44 : I' 172 44 = I 172 44) (hF : ∀ j, I' 195 j = I 195 j) : HMo I' n h := ⟨by rw [h44]; exact hH.1, fun i hi => by
  obtain ⟨c1, c2, c3⟩ := hH.2 i hi
  exact ⟨by rw [hF]; exact c1, by rw [hF]; exact c2, fun a e ha he => by rw [hF, hF, hF]; exact c3 a e ha he⟩⟩
theorem MT_k2 {I I' : Nat → Nat → Int32} {V : VT} (h : MT I V) (hF : ∀ b j, (b = 172 ∧ 2 ≤ j ∧ j ≤ 5) ∨ (173 ≤ b ∧ b ≤ 179) → I' b j = I b j) : MT I' V := by
  obtain ⟨b0, b1, b2, b3, b4, b5, b6, b7, b8⟩ := h
  refine ⟨by rw [hF _ _ (by omega)]; exact b0, by rw [hF _ _ (by omega)]; exact b1, by rw [hF _ _ (by omega)]; exact b2, by rw [hF _ _ (by omega)]; exact b3, fun e he => ?_, fun a e ha he => by rw [hF _ _ (by omega), hF _ _ (by omega), hF _ _ (by omega)]; exact b5 a e ha he, fun k hk => by rw [hF _ _ (by omega)]; exact b6 k hk, fun k hk => by rw [hF _ _ (by omega)]; exact b7 k hk, fun k hk i q hq => by rw [hF _ _ (by omega)]; exact b8 k hk i q hq⟩
  rw [show mE I' e = mE I e from by funext k; exact hF _ _ (by omega)]; exact b4 e he
theorem k_tM {I I' : Nat → Nat → Int32} {R : Nat → Nat → Option Nat} {c c' : Nat} {s : STt} {b : BT} (hE : vE (sV s) ≤ 10) (hC : CRx I R c c' (tS s b)) (hM : MRx I s) (hT : TP I' 172 27 187 b) (hF : FrT 172 27 187 I I') : CRx I' R c c' (tS s b) ∧ MRx I' (tS s b) := by
  obtain ⟨a1, a2, a3, a4, a5, a6, a7, a8⟩ := hM
  refine ⟨CR_hi hE hC (fun b j _ => hF _ _ (by omega) (by omega)), MT_k2 a1 (fun b j _ => hF _ _ (by omega) (by omega)), by rw [hF _ _ (by omega) (by omega)]; exact a2, HM_f2 a3 (hF _ _ (by omega) (by omega)) (fun j => hF _ _ (by omega) (by omega)), hT, TP_fr a5 (hF _ _ (by omega) (by omega)) (fun j => hF _ _ (by omega) (by omega)), by rw [hF _ _ (by omega) (by omega)]; exact a6, by rw [hF _ _ (by omega) (by omega)]; exact a7, by rw [hF _ _ (by omega) (by omega)]; exact a8⟩
def okT (b : BT) : Prop := b.1 ≤ 1200 ∧ ∀ j, j < b.1 → isBy (b.2 j)
theorem OK_t {s : STt} {b : BT} (hO : OKx s) (h : okT b) : OKx (tS s b) := ⟨hO.1, hO.2.1, h.1, h.2, hO.2.2.2.2⟩
theorem isBy_8 (y : Int8) : isBy y.toInt32 := by unfold isBy; rw [Int8.toInt8_toInt32]
theorem okT_1 {b : BT} {v : Int32} (h : okT b) (hv : isBy v) (h1 : b.1 < 1200) : okT (put1 b v) := ⟨by show b.1 + 1 ≤ 1200; omega, fun j hj => by
  have hj : j < b.1 + 1 := hj
  show isBy (va_up b.2 b.1 v j)
  by_cases q : j = b.1
  · rw [q, vu_same]; exact hv
  · rw [vu_ne _ _ q]; exact h.2 j (by omega)⟩
theorem okT_4 {b : BT} {x : Int32} (h : okT b) (h1 : b.1 + 4 ≤ 1200) : okT (put4 b x) :=
  okT_1 (okT_1 (okT_1 (okT_1 h (isBy_8 _) (by omega)) (isBy_8 _) (by show b.1 + 1 < 1200; omega)) (isBy_8 _) (by show b.1 + 1 + 1 < 1200; omega)) (isBy_8 _) (by show b.1 + 1 + 1 + 1 < 1200; omega)
theorem ok_feed {b : BT} {x1 x2 x3 x4 x5 : Int32} (h : okT b) : okT (s_feed b x1 x2 x3 x4 x5) := by
  unfold s_feed
  by_cases c : b.1 ≤ 1180
  · rw [if_pos c]
    exact okT_4 (okT_4 (okT_4 (okT_4 (okT_4 h (by omega)) (by rw [put4_1]; omega)) (by rw [put4_1, put4_1]; omega)) (by rw [put4_1, put4_1, put4_1]; omega)) (by rw [put4_1, put4_1, put4_1, put4_1]; omega)
  · rw [if_neg c]; exact h
theorem ok_end {b : BT} {k : Int32} (h : okT b) : okT (s_end b k) := by
  unfold s_end
  by_cases c : 0 ≤ k.toInt ∧ k.toInt ≤ b.1
  · rw [if_pos c]
    have : tn k ≤ b.1 := by unfold tn; omega
    exact ⟨by show tn k ≤ 1200; have := h.1; omega, fun j hj => h.2 j (by have hj : j < tn k := hj; omega)⟩
  · rw [if_neg c]; exact h
/-- OUT -/
def oS (s : STt) (b : BT) : STt := (s.1, s.2.1, (sT s, b), s.2.2.2)
theorem k_oC {I I' : Nat → Nat → Int32} {R : Nat → Nat → Option Nat} {c c' : Nat} {s : STt} {b : BT} (hE : vE (sV s) ≤ 10) (hC : CRx I R c c' s) (hM : MRx I s) (hT : TP I' 2 1 3 b) (hF : FrO 2 1 3 scr I I') : CRx I' R c c' (oS s b) ∧ MRx I' s := by
  obtain ⟨⟨hc, hc2, hne⟩, a1, a2, a3, a4, a5, a6, a7, a8, a9, a10⟩ := hC
  have hr := isC_rng hc
  have hr2 := isC_rng hc2
  have hk : ∀ b j, ¬ (((b = 15 ∨ b = 60) ∧ j = 7) ∨ b = 19 ∨ b = 64 ∨ (95 ≤ b ∧ b ≤ 171)) → ¬ b = 3 → ¬ (b = 2 ∧ j = 1) → I' b j = I b j := fun b j z1 z2 z3 => hF b j z1 z2 z3
  exact ⟨⟨⟨hc, hc2, hne⟩, a1, a2, CT_of a3 (fun j k _ _ _ => hk _ _ (by omega) (by omega) (by omega)) hE, by rw [hk _ _ (by omega) (by omega) (by omega)]; exact a4, HC_fr a5 (fun b j _ _ => hk _ _ (by omega) (by omega) (by omega)), TP_hi a6 (fun j => hk _ _ (by omega) (by omega) (by omega)) (fun j => hk _ _ (by omega) (by omega) (by omega)), hT, by rw [hk _ _ (by omega) (by omega) (by omega)]; exact a8, by rw [hk _ _ (by omega) (by omega) (by omega)]; exact a9, by rw [hk _ _ (by omega) (by omega) (by omega)]; exact a10⟩, MR_lo hM (fun b j _ => hk _ _ (by omega) (by omega) (by omega))⟩
theorem k_oM {I I' : Nat → Nat → Int32} {R : Nat → Nat → Option Nat} {c c' : Nat} {s : STt} {b : BT} (hE : vE (sV s) ≤ 10) (hC : CRx I R c c' (oS s b)) (hM : MRx I s) (hT : TP I' 172 47 196 b) (hF : FrO 172 47 196 scM I I') : CRx I' R c c' (oS s b) ∧ MRx I' (oS s b) := by
  obtain ⟨a1, a2, a3, a4, a5, a6, a7, a8⟩ := hM
  have hk : ∀ b j, ¬ (188 ≤ b ∧ b ≤ 194) → ¬ b = 196 → ¬ (b = 172 ∧ j = 47) → I' b j = I b j := fun b j z1 z2 z3 => hF b j z1 z2 z3
  refine ⟨CR_hi hE hC (fun b j _ => hk _ _ (by omega) (by omega) (by omega)), MT_k2 a1 (fun b j _ => hk _ _ (by omega) (by omega) (by omega)), by rw [hk _ _ (by omega) (by omega) (by omega)]; exact a2, HM_f2 a3 (hk _ _ (by omega) (by omega) (by omega)) (fun j => hk _ _ (by omega) (by omega) (by omega)), TP_fr a4 (hk _ _ (by omega) (by omega) (by omega)) (fun j => hk _ _ (by omega) (by omega) (by omega)), hT, by rw [hk _ _ (by omega) (by omega) (by omega)]; exact a6, by rw [hk _ _ (by omega) (by omega) (by omega)]; exact a7, by rw [hk _ _ (by omega) (by omega) (by omega)]; exact a8⟩
theorem OK_o {s : STt} {b : BT} (hO : OKx s) (h : b.1 ≤ 64) : OKx (oS s b) := ⟨hO.1, hO.2.1, hO.2.2.1, hO.2.2.2.1, h⟩
theorem ok_tell {V : VT} {ld : Bool} {b : BT} (hV : WV V) (h : b.1 ≤ 64) : (s_tell V ld b).1 ≤ 64 := by
  unfold s_tell
  by_cases c : ld = true
  · rw [if_pos c]; have := tlN_1 hV.2.1 (Nat.le_refl (vA V)); have := hV.2.1; omega
  · rw [if_neg c]; exact h
theorem ok_card {V : VT} {ld : Bool} {b : BT} {a : Int32} (hV : WV V) (h : b.1 ≤ 64) : (s_card V ld b a).1 ≤ 64 := by
  unfold s_card
  by_cases c : inR (vA V) a
  · rw [if_pos c]; have := cdN_2 hV (a := tn a) (Nat.le_refl (vE V)); have := hV.1; omega
  · rw [if_neg c]; exact h
/-- a new TEXT: the EVENTS as the model holds them -/
def reV (I : Nat → Nat → Int32) (V : VT) : VT := (V.1, mE I, V.2.2)
theorem rel_at {Im : Nat → Nat → Int32} {e : Nat} {E : Nat → Int32} (h : REL Im 173 (22 * e) E) {k : Nat} (hk : k < 6) : mE Im e k = E k := h.1 k hk
theorem TR_rel {I Im : Nat → Nat → Int32} {t e : Nat} {E : Nat → Int32} (h : TR I t E) (hr : REL Im 173 (22 * e) E) : TR I t (mE Im e) := by
  obtain ⟨a0, a1, a2, a3, a4, a5⟩ := h
  refine ⟨by rw [rel_at hr (by omega)]; exact a0, by rw [rel_at hr (by omega)]; exact a1, by rw [rel_at hr (by omega)]; exact a2, by rw [rel_at hr (by omega)]; exact a3, fun z => ?_, fun z => ?_⟩
  · rw [rel_at hr (by omega)] at z
    obtain ⟨b1, b2⟩ := a4 z
    refine ⟨by rw [rel_at hr (by omega)]; exact b1, fun k hk => ?_⟩
    rw [rel_at hr (by omega)] at hk
    have q := hr.2 z k hk
    have q1 : mE Im e (6 + 2 * k) = E (6 + 2 * k) := by show Im 173 (22 * e + (6 + 2 * k)) = _; rw [← Nat.add_assoc]; exact q.1
    have q2 : mE Im e (6 + 2 * k + 1) = E (6 + 2 * k + 1) := by show Im 173 (22 * e + (6 + 2 * k + 1)) = _; rw [← Nat.add_assoc, ← Nat.add_assoc]; exact q.2
    rw [q1, q2]; exact b2 k hk
  · rw [rel_at hr (by omega)] at z
    rw [rel_at hr (by omega), rel_at hr (by omega)]; exact a5 z
theorem WE_rel {Im : Nat → Nat → Int32} {e : Nat} {E : Nat → Int32} (h : WE E) (hr : REL Im 173 (22 * e) E) : WE (mE Im e) := by
  obtain ⟨a0, a1, a2, a3⟩ := h
  refine ⟨by rw [rel_at hr (by omega)]; exact a0, by rw [rel_at hr (by omega)]; exact a1, by rw [rel_at hr (by omega)]; exact a2, ?_⟩
  rcases a3 with ⟨b1, b2, b3⟩ | ⟨b1, b2, n, b3, b4, b5, b6, b7⟩
  · left
    rw [rel_at hr (by omega), rel_at hr (by omega), rel_at hr (by omega)]; exact ⟨b1, b2, b3⟩
  · right
    have hq : ∀ k, k < n → tabW (mE Im e) k = tabW E k ∧ tabX (mE Im e) k = tabX E k := fun k hk => by
      have q := hr.2 b1 k (by rw [b5, nI_int (by omega)]; omega)
      have q1 : mE Im e (6 + 2 * k) = E (6 + 2 * k) := by show Im 173 (22 * e + (6 + 2 * k)) = _; rw [← Nat.add_assoc]; exact q.1
      have q2 : mE Im e (6 + 2 * k + 1) = E (6 + 2 * k + 1) := by show Im 173 (22 * e + (6 + 2 * k + 1)) = _; rw [← Nat.add_assoc, ← Nat.add_assoc]; exact q.2
      unfold tabW tabX
      rw [q1, q2]; exact ⟨rfl, rfl⟩
    refine ⟨by rw [rel_at hr (by omega)]; exact b1, by rw [rel_at hr (by omega)]; exact b2, n, b3, b4, by rw [rel_at hr (by omega)]; exact b5, fun k hk => ?_, fun k hk => ?_⟩
    · rw [(hq k hk).1, (hq k hk).2]; exact b6 k hk
    · rw [(hq k (by omega)).1, (hq k (by omega)).2, (hq (k + 1) hk).1, (hq (k + 1) hk).2]; exact b7 k hk
theorem CT_re {I Im : Nat → Nat → Int32} {c : Nat} {V : VT} (h : CT I c V) (hr : ∀ e, e < vE V → REL Im 173 (22 * e) (vev V e)) : CT I c (reV Im V) := by
  obtain ⟨a0, a1, a2, a3, a4, a5, a6, a7, a8, a9, a10⟩ := h
  exact ⟨a0, a1, a2, a3, fun e he => TR_rel (a4 e he) (hr e he), a5, a6, a7, a8, a9, a10⟩
theorem WV_re {Im : Nat → Nat → Int32} {V : VT} (h : WV V) (hr : ∀ e, e < vE V → REL Im 173 (22 * e) (vev V e)) : WV (reV Im V) := by
  obtain ⟨a0, a1, a2, a3, a4, a5, a6, a7⟩ := h
  exact ⟨a0, a1, a2, a3, fun e he => WE_rel (a4 e he) (hr e he), a5, a6, a7⟩
theorem MT_re {I : Nat → Nat → Int32} {V : VT} (h : MTx I V) : MT I (reV I V) := by
  obtain ⟨a0, a1, a2, a3, a4, a5, a6, a7, a8⟩ := h
  exact ⟨a0, a1, a2, a3, fun e he => rfl, a5, a6, a7, a8⟩
/-- both have read a TEXT -/
theorem txt_step {I I1 I2 : Nat → Nat → Int32} {L L1 : Nat → Nat → Int64} {R R1 : Nat → Nat → Option Nat} {c c' : Nat} {s : STt} (hO : OKx s) (hC : CRx I R c c' s) (hM : MRx I s)
    (x0 : I1 0 1 = nI 0) (xF : Fx (rBx c') I I1) (xe : ∀ e, pTxt (sT s) = .inl e → (∀ b j, ¬ b = 6 → R1 b j = R b j) ∧ I1 4 0 = nI e.1 ∧ I1 4 1 = nI e.2 ∧ I1 0 6 = I 0 6 ∧ I1 50 4 = I 50 4) (xo : ∀ x, pTxt (sT s) = .inr x → R1 0 5 = some c' ∧ R1 4 3 = some c ∧ (∀ b j, ¬ b = 6 → ¬ (b = 0 ∧ j = 5) → ¬ (b = 4 ∧ j = 3) → R1 b j = R b j) ∧ CT I1 c' x.2 ∧ WV x.2 ∧ I1 4 0 = nI 0 ∧ I1 4 1 = -1 ∧ I1 0 6 = nI 1 ∧ I1 50 4 = nI 0)
    (y0 : I2 172 27 = nI 0) (yF : Fx tG I1 I2) (ye : ∀ e, pTxt (sT s) = .inl e → Fx tF I1 I2 ∧ I2 172 34 = nI e.1 ∧ I2 172 35 = nI e.2) (yo : ∀ x, pTxt (sT s) = .inr x → MTx I2 x.2 ∧ I2 172 34 = nI 0 ∧ I2 172 35 = -1 ∧ I2 172 1 = nI 1 ∧ I2 172 44 = nI 0) (hL : Lay R) : Lay R1 ∧ ∃ d d' s', OKx s' ∧ CRx I2 R1 d d' s' ∧ MRx I2 s' := by
  obtain ⟨⟨hc, hc2, hne⟩, a1, a2, a3, a4, a5, a6, a7, a8, a9, a10⟩ := hC
  have hr := isC_rng hc
  have hr2 := isC_rng hc2
  have hk1 : ∀ b j, ¬ (b = 4 ∨ b = 5 ∨ b = 7 ∨ b = 8 ∨ (c' ≤ b ∧ b < c' + 40 ∧ ¬ (b = c' + 7 ∧ j = 0))) → ¬ (b = 0 ∧ (j = 1 ∨ j = 6)) → ¬ (b = 50 ∧ j = 4) → I1 b j = I b j := fun b j z1 z2 z3 => xF b j (fun z => z.elim z1 (fun y => y.elim z2 z3))
  have hk2 : ∀ b j, b < 172 → I2 b j = I1 b j := fun b j z => yF b j (fun y => by unfold tG tF at y; omega)
  have hk3 : ∀ b j, 187 ≤ b → I2 b j = I1 b j := fun b j z => yF b j (fun y => by unfold tG tF at y; omega)
  have m1 : ∀ b j, 172 ≤ b → I1 b j = I b j := fun b j z => hk1 b j (by omega) (by omega) (by omega)
  have h182 : I2 182 0 = nI 0 := by rw [yF _ _ (fun y => by unfold tG tF at y; omega), m1 _ _ (by omega)]; exact hM.2.2.2.2.2.2.2
  have tp0 : ∀ (J : Nat → Nat → Int32) (o f t : Nat), J o f = nI 0 → TP J o f t bt0 := fun J o f t z => ⟨z, fun i hi => absurd (show i < 0 from hi) (by omega)⟩
  rcases rs_c (pTxt (sT s)) with ⟨e, he⟩ | ⟨x, hx⟩
  · obtain ⟨e1, e2, e3, e4, e5⟩ := xe e he
    obtain ⟨f1, f2, f3⟩ := ye e he
    have hk4 : ∀ b j, ¬ (b = 172 ∧ ((27 ≤ j ∧ j ≤ 35) ∨ (13 ≤ j ∧ j ≤ 18))) → ¬ (180 ≤ b ∧ b ≤ 186) → I2 b j = I1 b j := fun b j z1 z2 => f1 b j (fun y => by unfold tF at y; omega)
    refine ⟨Lay_6 hL e1, c, c', (s.1, s.2.1, (bt0, sO s), (nI e.1, nI e.2)), ⟨hO.1, hO.2.1, (by show (0 : Nat) ≤ 1200; omega), fun j hj => absurd (show j < 0 from hj) (by omega), hO.2.2.2.2⟩, ⟨⟨hc, hc2, hne⟩, by rw [e1 _ _ (by omega)]; exact a1, by rw [e1 _ _ (by omega)]; exact a2, ?_, ?_, ?_, ?_, ?_, ?_, ?_, ?_⟩, ?_⟩
    · exact CT_of a3 (fun j k _ _ _ => by rw [hk2 _ _ (by omega)]; exact hk1 _ _ (by omega) (by omega) (by omega)) hO.1.1
    · rw [hk2 _ _ (by omega), e4]; exact a4
    · exact ⟨by rw [hk2 _ _ (by omega), e5]; exact a5.1, fun i hi => by rw [hk2 _ _ (by omega), hk2 _ _ (by omega), hk2 _ _ (by omega), hk2 _ _ (by omega), hk1 _ _ (by omega) (by omega) (by omega), hk1 _ _ (by omega) (by omega) (by omega), hk1 _ _ (by omega) (by omega) (by omega), hk1 _ _ (by omega) (by omega) (by omega)]; exact a5.2 i hi⟩
    · exact tp0 _ _ _ _ (by rw [hk2 _ _ (by omega)]; exact x0)
    · exact TP_fr a7 (by rw [hk2 _ _ (by omega)]; exact hk1 _ _ (by omega) (by omega) (by omega)) (fun j => by rw [hk2 _ _ (by omega)]; exact hk1 _ _ (by omega) (by omega) (by omega))
    · rw [hk2 _ _ (by omega)]; exact e2
    · rw [hk2 _ _ (by omega)]; exact e3
    · rw [hk2 _ _ (by omega), hk1 _ _ (by omega) (by omega) (by omega)]; exact a10
    · obtain ⟨b1, b2, b3, b4, b5, b6, b7, b8⟩ := hM
      have hm : ∀ b j, ¬ (b = 172 ∧ ((27 ≤ j ∧ j ≤ 35) ∨ (13 ≤ j ∧ j ≤ 18))) → ¬ (180 ≤ b ∧ b ≤ 186) → 172 ≤ b → I2 b j = I b j := fun b j z1 z2 z3 => by rw [hk4 b j z1 z2]; exact m1 b j z3
      exact ⟨MT_k2 b1 (fun b j _ => hm _ _ (by omega) (by omega) (by omega)), by rw [hm _ _ (by omega) (by omega) (by omega)]; exact b2, HM_f2 b3 (hm _ _ (by omega) (by omega) (by omega)) (fun j => hm _ _ (by omega) (by omega) (by omega)), tp0 _ _ _ _ y0, TP_fr b5 (hm _ _ (by omega) (by omega) (by omega)) (fun j => hm _ _ (by omega) (by omega) (by omega)), f2, f3, h182⟩
  · obtain ⟨e1, e2, e3, e4, e5, e6, e7, e8, e9⟩ := xo x hx
    obtain ⟨f1, f2, f3, f4, f5⟩ := yo x hx
    have hR : Lay R1 := fun a k r hrr => by
      by_cases q1 : a = 6
      · rw [q1, rfx6] at hrr; cases hrr
      · by_cases q2 : a = 0 ∧ k = 5
        · rw [q2.1, q2.2] at hrr; cases hrr
        · by_cases q3 : a = 4 ∧ k = 3
          · rw [q3.1, q3.2] at hrr; cases hrr
          · rw [e3 a k q1 q2 q3]; exact hL a k r hrr
    refine ⟨hR, c', c, ((true, reV I2 x.2), (0, sH s), (bt0, sO s), (nI 0, -1)), ⟨WV_re e5 f1.2.2.2.2.1, ⟨by show (0 : Nat) ≤ 10; omega, fun i hi => absurd (show i < 0 from hi) (by omega)⟩, (by show (0 : Nat) ≤ 1200; omega), fun j hj => absurd (show j < 0 from hj) (by omega), hO.2.2.2.2⟩, ⟨⟨hc2, hc, fun z => hne z.symm⟩, e1, e2, ?_, ?_, ?_, ?_, ?_, ?_, ?_, ?_⟩, ?_⟩
    · exact CT_re (CT_of e4 (fun j k _ _ _ => hk2 _ _ (by omega)) e5.1) f1.2.2.2.2.1
    · rw [hk2 _ _ (by omega), e8]; rfl
    · exact ⟨by rw [hk2 _ _ (by omega)]; exact e9, fun i hi => absurd (show i < 0 from hi) (by omega)⟩
    · exact tp0 _ _ _ _ (by rw [hk2 _ _ (by omega)]; exact x0)
    · exact TP_fr a7 (by rw [hk2 _ _ (by omega)]; exact hk1 _ _ (by omega) (by omega) (by omega)) (fun j => by rw [hk2 _ _ (by omega)]; exact hk1 _ _ (by omega) (by omega) (by omega))
    · rw [hk2 _ _ (by omega)]; exact e6
    · rw [hk2 _ _ (by omega)]; exact e7
    · rw [hk2 _ _ (by omega), hk1 _ _ (by omega) (by omega) (by omega)]
      have := a3.2.2.2.2.2.2.2.1 0 (Nat.zero_le _)
      exact this
    · obtain ⟨b1, b2, b3, b4, b5, b6, b7, b8⟩ := hM
      have hm : ∀ j, I2 196 j = I 196 j := fun j => by rw [hk3 _ _ (by omega)]; exact m1 _ _ (by omega)
      exact ⟨MT_re f1, by rw [f4]; rfl, ⟨f5, fun i hi => absurd (show i < 0 from hi) (by omega)⟩, tp0 _ _ _ _ y0, TP_fr b5 (by rw [yF _ _ (fun y => by unfold tG tF at y; omega)]; exact m1 _ _ (by omega)) hm, f2, f3, h182⟩
