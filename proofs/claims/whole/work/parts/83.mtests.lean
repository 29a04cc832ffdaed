theorem j_ldc_wS {Z : ZT} {G : GT} {mi : MI} {own : String} {cs : Nat × Nat} {pc idx : Nat} {ls : LV} {st : List Value} {w : Wd} (C : CX Z G mi own) {i : Nat} {tx : String} {by9 : List Int32} (hi : i < 67) (hq : stL[i]? = some (own, idx, tx, by9)) (hd : decode mi.2.1 pc = .ok (.ldc_w idx, 3)) (kk : J Z cs (pc + 3) ls (.ref (ra G (2000 + i)) :: st) w) : J Z cs pc ls st w := by
  intro H locs la hH hS hl
  have kk := kk H locs la hH hS hl
  rw [ra_k G hi] at kk
  have hZ := C.2.2.2.2.2.2.2.2.1.2.2.2.2.2.1 i _ hq
  intro T hT X
  obtain ⟨t, a1, b1⟩ := kk T hT X
  exact ⟨t, X.ldcStringW C.1 C.2.2.2.2.2.1 (text := tx) (a := gK G i) hZ.1 hZ.2 (g := F0 (zm Z) pc la st) rfl (by rw [C.2.1]; exact hd) t a1, b1⟩
theorem rs_c {α : Type} (r : RS α) : (∃ e, r = .inl e) ∨ ∃ a, r = .inr a := by
  match r with
  | .inl e => exact Or.inl ⟨e, rfl⟩
  | .inr a => exact Or.inr ⟨a, rfl⟩
/-! TESTS as the model reads them -/
def xP (b j : Nat) : Prop := (b = 172 ∧ ((29 ≤ j ∧ j ≤ 35) ∨ j = 17)) ∨ b = 183
theorem aPx (b j : Nat) (h : aP b j) : xP b j := Or.inl ⟨h.1, Or.inl (by have := h.2; omega)⟩
theorem nPx (b j : Nat) (h : nP b j) : xP b j := Or.inl ⟨h.1, Or.inl (by have := h.2; omega)⟩
def oP (b j : Nat) : Prop := b = 172 ∧ 29 ≤ j ∧ j ≤ 35
theorem oPx (b j : Nat) (h : oP b j) : xP b j := Or.inl ⟨h.1, Or.inl h.2⟩
def CDM (I I' : Nat → Nat → Int32) (m : Nat) (o : OPS) : Prop := I' 172 17 = nI (m + o.length) ∧ (∀ x q, o[x]? = some q → I' 183 (m + x) = encM q) ∧ ∀ x, x < m → I' 183 x = I 183 x
theorem CDM_nil {I I' : Nat → Nat → Int32} {m : Nat} {P : Nat → Nat → Prop} (h : I 172 17 = nI m) (hF : Fx P I I') (hP : ∀ b j, P b j → ¬ b = 183 ∧ ¬ (b = 172 ∧ j = 17)) : CDM I I' m [] :=
  ⟨by rw [hF _ _ (fun z => (hP _ _ z).2 ⟨rfl, rfl⟩)]; exact h, fun x q hq => (by cases hq), fun x hx => hF _ _ (fun z => (hP _ _ z).1 rfl)⟩
theorem CDM_app {I I1 I2 : Nat → Nat → Int32} {m : Nat} {a b : OPS} (h1 : CDM I I1 m a) (h2 : CDM I1 I2 (m + a.length) b) : CDM I I2 m (a ++ b) := by
  refine ⟨by rw [h2.1, List.length_append, Nat.add_assoc], fun x q hq => ?_, fun x hx => by rw [h2.2.2 x (by omega)]; exact h1.2.2 x hx⟩
  by_cases c : x < a.length
  · rw [List.getElem?_append_left c] at hq
    rw [h2.2.2 (m + x) (by omega)]
    exact h1.2.1 x q hq
  · rw [List.getElem?_append_right (by omega)] at hq
    have := h2.2.1 (x - a.length) q hq
    rw [show m + a.length + (x - a.length) = m + x by omega] at this
    exact this
theorem CDM_l {I I1 I2 : Nat → Nat → Int32} {m : Nat} {o : OPS} {P : Nat → Nat → Prop} (hF : Fx P I I1) (hP : ∀ b j, P b j → ¬ b = 183 ∧ ¬ (b = 172 ∧ j = 17)) (h : CDM I1 I2 m o) : CDM I I2 m o :=
  ⟨h.1, h.2.1, fun x hx => by rw [h.2.2 x hx]; exact hF _ _ (fun z => (hP _ _ z).1 rfl)⟩
theorem CDM_r {I I1 I2 : Nat → Nat → Int32} {m : Nat} {o : OPS} {P : Nat → Nat → Prop} (h : CDM I I1 m o) (hF : Fx P I1 I2) (hP : ∀ b j, P b j → ¬ b = 183 ∧ ¬ (b = 172 ∧ j = 17)) : CDM I I2 m o := by
  have e : ∀ x, I2 183 x = I1 183 x := fun x => hF _ _ (fun z => (hP _ _ z).1 rfl)
  exact ⟨by rw [hF _ _ (fun z => (hP _ _ z).2 ⟨rfl, rfl⟩)]; exact h.1, fun x q hq => by rw [e]; exact h.2.1 x q hq, fun x hx => by rw [e]; exact h.2.2 x hx⟩
theorem CDM_put {I : Nat → Nat → Int32} {m : Nat} {q : Nat × Int32} : CDM I (up2 (up2 I 183 m (encM q)) 172 17 (nI (m + 1))) m [q] := by
  refine ⟨by rw [up2_same]; rfl, fun x r hr => ?_, fun x hx => by rw [up2_i (by omega), up2_i (by omega)]⟩
  match x, hr with
  | 0, hr =>
    cases hr
    rw [up2_i (by omega)]
    exact up2_same _ _ _ _
theorem put_F {I : Nat → Nat → Int32} {m : Nat} {v w : Int32} : Fx xP I (up2 (up2 I 183 m v) 172 17 w) := Fx.up (Fx.up (Fx.rf _ _) (Or.inr rfl)) (Or.inl ⟨rfl, Or.inr rfl⟩)
def qP (b j : Nat) : Prop := (b = 172 ∧ j = 17) ∨ b = 183
theorem put_Fq {I : Nat → Nat → Int32} {m : Nat} {v w : Int32} : Fx qP I (up2 (up2 I 183 m v) 172 17 w) := Fx.up (Fx.up (Fx.rf _ _) (Or.inr rfl)) (Or.inl ⟨rfl, rfl⟩)
def mO (I : Nat → Nat → Int32) (f : Nat → Int32) (n m d : Nat) (x : OPS × Nat) (I' : Nat → Nat → Int32) : Prop := MS I' f n x.2 ∧ CDM I I' m x.1 ∧ I' 172 33 = nI d
def PMx (I : Nat → Nat → Int32) (f : Nat → Int32) (n N nE m d i : Nat) : Prop := MS I f n i ∧ I 172 34 = nI 0 ∧ I 172 17 = nI m ∧ m ≤ i ∧ i ≤ N ∧ I 172 33 = nI d ∧ I 172 13 = nI nE
theorem PM_go {I I' : Nat → Nat → Int32} {f : Nat → Int32} {n N nE m d d' i j : Nat} {o : OPS} (h : PMx I f n N nE m d i) (hF : Fx xP I I') (hS : MS I' f n j) (hg : I' 172 34 = nI 0) (hC : CDM I I' m o) (hm : m + o.length ≤ j) (hj : j ≤ N) (h33 : I' 172 33 = nI d') : PMx I' f n N nE (m + o.length) d' j :=
  ⟨hS, hg, hC.1, hm, hj, h33, by rw [hF _ _ (fun z => by unfold xP at z; omega)]; exact h.2.2.2.2.2.2⟩
theorem aN (b j : Nat) (h : aP b j) : ¬ b = 183 ∧ ¬ (b = 172 ∧ j = 17) := by unfold aP at h; omega
theorem PM_a {I I' : Nat → Nat → Int32} {f : Nat → Int32} {n N nE m d i j : Nat} (h : PMx I f n N nE m d i) (hF : Fx aP I I') (hS : MS I' f n j) (hij : i ≤ j) (hj : j ≤ N) : PMx I' f n N nE m d j :=
  PM_go (o := []) h (hF.mo aPx) hS (by rw [hF _ _ (fun z => by unfold aP at z; omega)]; exact h.2.1) (CDM_nil h.2.2.1 hF aN) (by have := h.2.2.2.1; simp only [List.length_nil]; omega) hj (by rw [hF _ _ (fun z => by unfold aP at z; omega)]; exact h.2.2.2.2.2.1)
set_option maxRecDepth 20000 in
theorem d_readTermF (l : Launch) (G : GT) {I : Nat → Nat → Int32} {L : Nat → Nat → Int64} {R : Nat → Nat → Option Nat} (hL : Lay R) (hd : ¬ I 172 34 = 0) : Mt l G mX12_readTerm (1) 0 0 [.ref (ra G 172)] (wd I L R) (fun r w' => r = none ∧ w' = wd I L R) := by
  refine mt_of (own := RX12) (by decide) rfl rfl (fun Z C P B => ?_)
  have D := @dc_of _ _ dX12_readTerm
  refine j_aload_n C (D 0 rfl) rfl ?_
  refine j_cVp C B k_X12_106 (rc_obj C (lit (kd := 12) (n := 48) rfl) rfl rfl) (d_goodF _ _ hL hd) rfl rfl rfl rfl ⟨Nat.le_refl _, Nat.le_refl _⟩ (D 1 rfl) ?_
  refine j_if_ne C  8 (D 2 rfl) (by decide) (fun h4 => absurd h4 (fun z => z rfl)) (fun h4 => ?_)
  exact j_vret C P rfl (D 3 rfl) ⟨Nat.le_refl _, Nat.le_refl _⟩ ⟨rfl, rfl⟩
set_option maxRecDepth 20000 in
theorem d_readSumF (l : Launch) (G : GT) {I : Nat → Nat → Int32} {L : Nat → Nat → Int64} {R : Nat → Nat → Option Nat} (hL : Lay R) (hd : ¬ I 172 34 = 0) : Mt l G mX12_readSum (2) 0 0 [.ref (ra G 172)] (wd I L R) (fun r w' => r = none ∧ w' = wd I L R) := by
  refine mt_of (own := RX12) (by decide) rfl rfl (fun Z C P B => ?_)
  have D := @dc_of _ _ dX12_readSum
  refine j_aload_n C (D 0 rfl) rfl ?_
  refine j_callV C B k_X12_237 (rc_obj C (lit (kd := 12) (n := 48) rfl) rfl rfl) (d_readTermF _ _ hL hd) rfl rfl rfl rfl ⟨Nat.le_refl _, Nat.le_refl _⟩ (D 1 rfl) ?_
  rintro r w' ⟨rfl, rfl⟩
  refine j_aload_n C (D 2 rfl) rfl ?_
  refine j_bipush C (v := nI 43) (D 3 rfl) rfl ?_
  refine j_cVp C B k_X12_161 (rc_obj C (lit (kd := 12) (n := 48) rfl) rfl rfl) (d_isByteF _ _ hL hd _) rfl rfl rfl rfl ⟨Nat.le_refl _, Nat.le_refl _⟩ (D 4 rfl) ?_
  refine j_if_ne C  22 (D 5 rfl) (by decide) (fun h10 => absurd h10 (fun z => z rfl)) (fun h10 => ?_)
  refine j_aload_n C (D 6 rfl) rfl ?_
  refine j_bipush C (v := nI 45) (D 7 rfl) rfl ?_
  refine j_cVp C B k_X12_161 (rc_obj C (lit (kd := 12) (n := 48) rfl) rfl rfl) (d_isByteF _ _ hL hd _) rfl rfl rfl rfl ⟨Nat.le_refl _, Nat.le_refl _⟩ (D 8 rfl) ?_
  refine j_if_eq C  56 (D 9 rfl) (by decide) (fun h19 => ?_) (fun h19 => absurd h19 (fun z => z rfl))
  exact j_vret C P rfl (D 27 rfl) ⟨Nat.le_refl _, Nat.le_refl _⟩ ⟨rfl, rfl⟩
set_option maxRecDepth 20000 in
theorem d_readFactF (l : Launch) (G : GT) {I : Nat → Nat → Int32} {L : Nat → Nat → Int64} {R : Nat → Nat → Option Nat} (hL : Lay R) (hd : ¬ I 172 34 = 0) : Mt l G mX12_readFact (5) 0 0 [.ref (ra G 172)] (wd I L R) (fun r w' => r = none ∧ w' = wd I L R) := by
  refine mt_of (own := RX12) (by decide) rfl rfl (fun Z C P B => ?_)
  have D := @dc_of _ _ dX12_readFact
  refine j_aload_n C (D 0 rfl) rfl ?_
  refine j_ldcS C (i := 16) (by decide) rfl (D 1 rfl) ?_
  refine j_cVp C B k_X12_154 (rc_obj C (lit (kd := 12) (n := 48) rfl) rfl rfl) (d_isWordF _ _ hL hd 16 (by decide)) rfl rfl rfl rfl ⟨Nat.le_refl _, Nat.le_refl _⟩ (D 2 rfl) ?_
  refine j_if_eq C  37 (D 3 rfl) (by decide) (fun h6 => ?_) (fun h6 => absurd h6 (fun z => z rfl))
  refine j_aload_n C (D 19 rfl) rfl ?_
  refine j_bipush C (v := nI 91) (D 20 rfl) rfl ?_
  refine j_cVp C B k_X12_161 (rc_obj C (lit (kd := 12) (n := 48) rfl) rfl rfl) (d_isByteF _ _ hL hd _) rfl rfl rfl rfl ⟨Nat.le_refl _, Nat.le_refl _⟩ (D 21 rfl) ?_
  refine j_if_eq C  73 (D 22 rfl) (by decide) (fun h43 => ?_) (fun h43 => absurd h43 (fun z => z rfl))
  refine j_aload_n C (D 37 rfl) rfl ?_
  refine j_callV C B k_X12_226 (rc_obj C (lit (kd := 12) (n := 48) rfl) rfl rfl) (d_readSumF _ _ hL hd) rfl rfl rfl rfl ⟨Nat.le_refl _, Nat.le_refl _⟩ (D 38 rfl) ?_
  rintro r w' ⟨rfl, rfl⟩
  refine j_aload_n C (D 39 rfl) rfl ?_
  refine j_bipush C (v := nI 60) (D 40 rfl) rfl ?_
  refine j_cVp C B k_X12_161 (rc_obj C (lit (kd := 12) (n := 48) rfl) rfl rfl) (d_isByteF _ _ hL hd _) rfl rfl rfl rfl ⟨Nat.le_refl _, Nat.le_refl _⟩ (D 41 rfl) ?_
  refine j_if_eq C  91 (D 42 rfl) (by decide) (fun h83 => ?_) (fun h83 => absurd h83 (fun z => z rfl))
  refine j_aload_n C (D 45 rfl) rfl ?_
  refine j_bipush C (v := nI 61) (D 46 rfl) rfl ?_
  refine j_cVp C B k_X12_161 (rc_obj C (lit (kd := 12) (n := 48) rfl) rfl rfl) (d_isByteF _ _ hL hd _) rfl rfl rfl rfl ⟨Nat.le_refl _, Nat.le_refl _⟩ (D 47 rfl) ?_
  refine j_if_eq C  105 (D 48 rfl) (by decide) (fun h97 => ?_) (fun h97 => absurd h97 (fun z => z rfl))
  refine j_aload_n C (D 51 rfl) rfl ?_
  refine j_bipush C (v := nI 62) (D 52 rfl) rfl ?_
  refine j_cVp C B k_X12_161 (rc_obj C (lit (kd := 12) (n := 48) rfl) rfl rfl) (d_isByteF _ _ hL hd _) rfl rfl rfl rfl ⟨Nat.le_refl _, Nat.le_refl _⟩ (D 53 rfl) ?_
  refine j_if_eq C  119 (D 54 rfl) (by decide) (fun h111 => ?_) (fun h111 => absurd h111 (fun z => z rfl))
  refine j_iconst C (v := (-1)) (D 57 rfl) (by decide) ?_
  refine j_istore_n C (D 58 rfl) rfl ?_
  refine j_iload_n C (D 59 rfl) rfl ?_
  refine j_iconst C (v := (-1)) (D 60 rfl) (by decide) ?_
  refine j_icmp_ne C  135 (D 61 rfl) (by decide) (fun h123 => absurd h123 (fun z => z rfl)) (fun h123 => ?_)
  refine j_aload_n C (D 62 rfl) rfl ?_
  refine j_iconst C (v := nI 1) (D 63 rfl) rfl ?_
  refine j_aload_n C (D 64 rfl) rfl ?_
  refine j_geti C f_X12_120 (lit (kd := 12) (n := 48) rfl) rfl rfl (D 65 rfl) ?_
  refine j_callV C B k_X12_168 (rc_obj C (lit (kd := 12) (n := 48) rfl) rfl rfl) (d_errsF _ _ hL hd _ _) rfl rfl rfl rfl ⟨Nat.le_refl _, Nat.le_refl _⟩ (D 66 rfl) ?_
  rintro r w' ⟨rfl, rfl⟩
  refine j_aload_n C (D 67 rfl) rfl ?_
  refine j_cVp C B k_X12_106 (rc_obj C (lit (kd := 12) (n := 48) rfl) rfl rfl) (d_goodF _ _ hL hd) rfl rfl rfl rfl ⟨Nat.le_refl _, Nat.le_refl _⟩ (D 68 rfl) ?_
  refine j_if_ne C  143 (D 69 rfl) (by decide) (fun h139 => absurd h139 (fun z => z rfl)) (fun h139 => ?_)
  exact j_vret C P rfl (D 70 rfl) ⟨Nat.le_refl _, Nat.le_refl _⟩ ⟨rfl, rfl⟩
set_option maxRecDepth 20000 in
theorem d_readSideF (l : Launch) (G : GT) {I : Nat → Nat → Int32} {L : Nat → Nat → Int64} {R : Nat → Nat → Option Nat} (hL : Lay R) (hd : ¬ I 172 34 = 0) : Mt l G mX12_readSide (6) 0 0 [.ref (ra G 172)] (wd I L R) (fun r w' => r = none ∧ w' = wd I L R) := by
  refine mt_of (own := RX12) (by decide) rfl rfl (fun Z C P B => ?_)
  have D := @dc_of _ _ dX12_readSide
  refine j_aload_n C (D 0 rfl) rfl ?_
  refine j_cVp C B k_X12_106 (rc_obj C (lit (kd := 12) (n := 48) rfl) rfl rfl) (d_goodF _ _ hL hd) rfl rfl rfl rfl ⟨Nat.le_refl _, Nat.le_refl _⟩ (D 1 rfl) ?_
  refine j_if_eq C  11 (D 2 rfl) (by decide) (fun h4 => ?_) (fun h4 => absurd h4 (fun z => z rfl))
  refine j_aload_n C (D 5 rfl) rfl ?_
  refine j_ldcS C (i := 21) (by decide) rfl (D 6 rfl) ?_
  refine j_cVp C B k_X12_165 (rc_obj C (lit (kd := 12) (n := 48) rfl) rfl rfl) (d_eatsF _ _ hL hd 21 (by decide)) rfl rfl rfl rfl ⟨Nat.le_refl _, Nat.le_refl _⟩ (D 7 rfl) ?_
  refine j_if_eq C  34 (D 8 rfl) (by decide) (fun h17 => ?_) (fun h17 => absurd h17 (fun z => z rfl))
  exact j_vret C P rfl (D 16 rfl) ⟨Nat.le_refl _, Nat.le_refl _⟩ ⟨rfl, rfl⟩
set_option maxRecDepth 20000 in
theorem d_readTestF (l : Launch) (G : GT) {I : Nat → Nat → Int32} {L : Nat → Nat → Int64} {R : Nat → Nat → Option Nat} (hL : Lay R) (hd : ¬ I 172 34 = 0) : Mt l G mX12_readTest (6) 0 0 [.ref (ra G 172)] (wd I L R) (fun r w' => r = none ∧ w' = wd I L R) := by
  refine mt_of (own := RX12) (by decide) rfl rfl (fun Z C P B => ?_)
  have D := @dc_of _ _ dX12_readTest
  refine j_aload_n C (D 0 rfl) rfl ?_
  refine j_cVp C B k_X12_106 (rc_obj C (lit (kd := 12) (n := 48) rfl) rfl rfl) (d_goodF _ _ hL hd) rfl rfl rfl rfl ⟨Nat.le_refl _, Nat.le_refl _⟩ (D 1 rfl) ?_
  refine j_if_eq C  11 (D 2 rfl) (by decide) (fun h4 => ?_) (fun h4 => absurd h4 (fun z => z rfl))
  refine j_aload_n C (D 5 rfl) rfl ?_
  refine j_ldcS C (i := 22) (by decide) rfl (D 6 rfl) ?_
  refine j_cVp C B k_X12_165 (rc_obj C (lit (kd := 12) (n := 48) rfl) rfl rfl) (d_eatsF _ _ hL hd 22 (by decide)) rfl rfl rfl rfl ⟨Nat.le_refl _, Nat.le_refl _⟩ (D 7 rfl) ?_
  refine j_if_eq C  34 (D 8 rfl) (by decide) (fun h17 => ?_) (fun h17 => absurd h17 (fun z => z rfl))
  exact j_vret C P rfl (D 16 rfl) ⟨Nat.le_refl _, Nat.le_refl _⟩ ⟨rfl, rfl⟩
set_option maxRecDepth 20000 in
theorem d_opens (l : Launch) (G : GT) {I : Nat → Nat → Int32} {L : Nat → Nat → Int64} {R : Nat → Nat → Option Nat} (hL : Lay R) {f : Nat → Int32} {n : Nat} (hb : BY f n) {i : Nat} (hS : MS I f n i) (hg : I 172 34 = nI 0) (hlt : spo f n i < n) {d : Nat} (hdp : I 172 33 = nI d) (hd6 : d ≤ 6) : Mt l G mX12_opens (2) 0 0 [.ref (ra G 172)] (wd I L R) (MX I L R oP (fun j I' => MS I' f n j ∧ I' 172 33 = nI (d + 1)) (if d < 6 then .inr (i + 1) else .inl (fl (tok f n) i 4))) := by
  refine mt_of (own := RX12) (by decide) rfl rfl (fun Z C P B => ?_)
  have D := @dc_of _ _ dX12_opens
  refine j_aload_n C (D 0 rfl) rfl ?_
  refine j_geti C f_X12_215 (lit (kd := 12) (n := 48) rfl) rfl rfl (D 1 rfl) ?_
  rw [hdp]
  refine j_bipush C (v := nI 6) (D 2 rfl) rfl ?_
  refine j_icmp_ne C  18 (D 3 rfl) (by decide) (fun h6 => ?_) (fun h6 => ?_)
  · have h6d : d < 6 := by
      by_cases z : d = 6
      · exact absurd (by rw [z]) h6
      · omega
    refine j_aload_n C (D 9 rfl) rfl ?_
    refine j_dup C (D 10 rfl) rfl ?_
    refine j_geti C f_X12_215 (lit (kd := 12) (n := 48) rfl) rfl rfl (D 11 rfl) ?_
    rw [hdp]
    refine j_iconst C (v := nI 1) (D 12 rfl) rfl ?_
    refine j_iadd C (D 13 rfl) ?_
    rw [nI_add]
    refine j_puti C f_X12_215 (lit (kd := 12) (n := 48) rfl) rfl rfl (D 14 rfl) ?_
    refine j_aload_n C (D 15 rfl) rfl ?_
    refine j_cVp C B k_X12_106 (rc_obj C (lit (kd := 12) (n := 48) rfl) rfl rfl) (d_goodT _ _ hL (by rw [up2_i (by omega)]; exact hg)) rfl rfl rfl rfl ⟨Nat.le_refl _, Nat.le_refl _⟩ (D 16 rfl) ?_
    refine j_if_eq C  39 (D 17 rfl) (by decide) (fun h32 => absurd h32 (by decide)) (fun h32 => ?_)
    refine j_aload_n C (D 18 rfl) rfl ?_
    refine j_callV C B k_X12_158 (rc_obj C (lit (kd := 12) (n := 48) rfl) rfl rfl) (d_advance _ _ hL hb (MS_go hS (Fx.up (Fx.rf (fun b j => b = 172 ∧ j = 33) I) ⟨rfl, rfl⟩) (fun b j z => by omega)) hlt) rfl rfl rfl rfl ⟨Nat.le_refl _, Nat.le_refl _⟩ (D 19 rfl) ?_
    rintro r w' ⟨rfl, I2, rfl, hF2, hS2⟩
    exact j_vret C P rfl (D 20 rfl) ⟨Nat.le_refl _, Nat.le_refl _⟩ (MX_o (a := i + 1) (by rw [if_pos h6d]) (Fx.tr (Fx.up (Fx.rf _ _) ⟨rfl, by omega⟩) (hF2.mo (fun b j z => ⟨z.1, by have := z.2; omega⟩))) (by rw [hF2 _ _ (fun z => by unfold aP at z; omega), up2_i (by omega)]; exact hg) (by rw [hF2 _ _ (fun z => by unfold aP at z; omega), up2_i (by omega)]) ⟨hS2, by rw [hF2 _ _ (fun z => by unfold aP at z; omega), up2_same]⟩)
  · have h6d : ¬ d < 6 := by have := nI_inj (by omega) (by omega) h6; omega
    refine j_aload_n C (D 4 rfl) rfl ?_
    refine j_iconst C (v := nI 4) (D 5 rfl) rfl ?_
    refine j_aload_n C (D 6 rfl) rfl ?_
    refine j_geti C f_X12_120 (lit (kd := 12) (n := 48) rfl) rfl rfl (D 7 rfl) ?_
    rw [hS.2.1]
    refine j_callV C B k_X12_168 (rc_obj C (lit (kd := 12) (n := 48) rfl) rfl rfl) (d_errsT _ _ hL hg _ _) rfl rfl rfl rfl ⟨Nat.le_refl _, Nat.le_refl _⟩ (D 8 rfl) ?_
    rintro r w' ⟨rfl, rfl⟩
    refine j_aload_n C (D 9 rfl) rfl ?_
    refine j_dup C (D 10 rfl) rfl ?_
    refine j_geti C f_X12_215 (lit (kd := 12) (n := 48) rfl) rfl rfl (D 11 rfl) ?_
    rw [up2_i (by omega), up2_i (by omega), hdp]
    refine j_iconst C (v := nI 1) (D 12 rfl) rfl ?_
    refine j_iadd C (D 13 rfl) ?_
    rw [nI_add]
    refine j_puti C f_X12_215 (lit (kd := 12) (n := 48) rfl) rfl rfl (D 14 rfl) ?_
    refine j_aload_n C (D 15 rfl) rfl ?_
    refine j_cVp C B k_X12_106 (rc_obj C (lit (kd := 12) (n := 48) rfl) rfl rfl) (d_goodF _ _ hL (dd_of (k := 4) (by rw [up2_i (by omega), up2_i (by omega), up2_same]) (by omega))) rfl rfl rfl rfl ⟨Nat.le_refl _, Nat.le_refl _⟩ (D 16 rfl) ?_
    refine j_if_eq C  39 (D 17 rfl) (by decide) (fun h32 => ?_) (fun h32 => absurd h32 (fun z => z rfl))
    exact j_vret C P rfl (D 20 rfl) ⟨Nat.le_refl _, Nat.le_refl _⟩ (MX_e (e := fl (tok f n) i 4) (by rw [if_neg h6d]) (Fx.up (Fx.up (Fx.up (Fx.rf _ _) ⟨rfl, by omega⟩) ⟨rfl, by omega⟩) ⟨rfl, by omega⟩) (by rw [up2_i (by omega), up2_i (by omega), up2_same]; rfl) (by rw [up2_i (by omega), up2_same]; show _ = nI (tok f n i).2.1; rw [tok_2]))
set_option maxRecDepth 20000 in
theorem d_readSum_of (l : Launch) (G : GT) {I : Nat → Nat → Int32} {L : Nat → Nat → Int64} {R : Nat → Nat → Option Nat} (hL : Lay R) {f : Nat → Int32} {n N nE m d i : Nat} (hb : BY f n) (hN : TN (tok f n) N) (hE : nE ≤ 10) (hP : PMx I f n N nE m d i) {g : Nat → RE} {DD D : Nat} (hD : 6 ≤ D) (hok : OKR N nE false DD g) (hg : ∀ (l : Launch) (I : Nat → Nat → Int32) (m i : Nat), PMx I f n N nE m d i → Mt l G mX12_readTerm D 0 0 [.ref (ra G 172)] (wd I L R) (MX I L R xP (mO I f n m d) (g i))) : Mt l G mX12_readSum (D + 1) 0 0 [.ref (ra G 172)] (wd I L R) (MX I L R xP (mO I f n m d) (sq (tok f n) g sepS i)) := by
  refine mt_of (own := RX12) (by decide) rfl rfl (fun Z C P B => ?_)
  have D := @dc_of _ _ dX12_readSum
  have hn := hb.1
  have hN1 := hN.1
  have hi1 := hP.2.2.2.2.1
  have hm1 := hP.2.2.2.1
  have D4 : ∀ (e : Nat × Nat) (I1 : Nat → Nat → Int32) (x1 : Option Value), sq (tok f n) g sepS i = .inl e → Fx xP I I1 → I1 172 34 = nI e.1 → I1 172 35 = nI e.2 → ¬ I1 172 34 = 0 → J Z (0, 0) 4 [some (.ref (ra G 172)), x1] [] (wd I1 L R) := by
    intro e I1 x1 hres hF e0 e1 hd
    refine j_aload_n C (D 2 rfl) rfl ?_
    refine j_bipush C (v := nI 43) (D 3 rfl) rfl ?_
    refine j_cVp C B k_X12_161 (rc_obj C (lit (kd := 12) (n := 48) rfl) rfl rfl) (d_isByteF _ _ hL hd _) rfl rfl (Nat.ble_eq_true_of_le (by omega)) rfl ⟨Nat.le_refl _, Nat.le_refl _⟩ (D 4 rfl) ?_
    refine j_if_ne C  22 (D 5 rfl) (by decide) (fun h10 => absurd h10 (fun z => z rfl)) (fun h10 => ?_)
    refine j_aload_n C (D 6 rfl) rfl ?_
    refine j_bipush C (v := nI 45) (D 7 rfl) rfl ?_
    refine j_cVp C B k_X12_161 (rc_obj C (lit (kd := 12) (n := 48) rfl) rfl rfl) (d_isByteF _ _ hL hd _) rfl rfl (Nat.ble_eq_true_of_le (by omega)) rfl ⟨Nat.le_refl _, Nat.le_refl _⟩ (D 8 rfl) ?_
    refine j_if_eq C  56 (D 9 rfl) (by decide) (fun h19 => ?_) (fun h19 => absurd h19 (fun z => z rfl))
    exact j_vret C P rfl (D 27 rfl) ⟨Nat.le_refl _, Nat.le_refl _⟩ (MX_e hres hF e0 e1)
  have L4 : ∀ mm o i1 (I1 : Nat → Nat → Int32) (x1 : Option Value), N ≤ i1 + mm → i < i1 → PMx I1 f n N nE (m + o.length) d i1 → I1 172 35 = I 172 35 → o.length + i ≤ i1 → CDM I I1 m o → Fx xP I I1 → chn (tok f n) g sepS mm o i1 = sq (tok f n) g sepS i → J Z (0, 0) 4 [some (.ref (ra G 172)), x1] [] (wd I1 L R) := by
    intro mm
    induction mm with
    | zero =>
      intro o i1 I1 x1 hNm hi0 hP1 h35 hl hC hF he
      have hj1 := hP1.2.2.2.2.1
      have hm2 := hP1.2.2.2.1
      have h41 : (tok f n i1).1 = 41 := (hN.2.1 i1 hj1).mpr (by omega)
      refine j_aload_n C (D 2 rfl) rfl ?_
      refine j_bipush C (v := nI 43) (D 3 rfl) rfl ?_
      refine j_cVp C B k_X12_161 (rc_obj C (lit (kd := 12) (n := 48) rfl) rfl rfl) (d_isByte _ _ hL hb hP1.1 hP1.2.1 (s := 33) (v := 43) (by decide) (by decide) (by decide) (by decide)) rfl rfl (Nat.ble_eq_true_of_le (by omega)) rfl ⟨Nat.le_refl _, Nat.le_refl _⟩ (D 4 rfl) ?_
      refine j_if_ne C  22 (D 5 rfl) (by decide) (fun h10 => absurd h10 (fun z => z (b2_zero (by rw [h41]; decide)))) (fun h10 => ?_)
      refine j_aload_n C (D 6 rfl) rfl ?_
      refine j_bipush C (v := nI 45) (D 7 rfl) rfl ?_
      refine j_cVp C B k_X12_161 (rc_obj C (lit (kd := 12) (n := 48) rfl) rfl rfl) (d_isByte _ _ hL hb hP1.1 hP1.2.1 (s := 34) (v := 45) (by decide) (by decide) (by decide) (by decide)) rfl rfl (Nat.ble_eq_true_of_le (by omega)) rfl ⟨Nat.le_refl _, Nat.le_refl _⟩ (D 8 rfl) ?_
      refine j_if_eq C  56 (D 9 rfl) (by decide) (fun h19 => ?_) (fun h19 => absurd h19 (fun z => absurd (b2_ne z) (by rw [h41]; decide)))
      exact j_vret C P rfl (D 27 rfl) ⟨Nat.le_refl _, Nat.le_refl _⟩ (MX_o (a := (o, i1)) (by rw [← he, chn]) hF hP1.2.1 h35 ⟨hP1.1, hC, hP1.2.2.2.2.2.1⟩)
    | succ mm ih =>
      intro o i1 I1 x1 hNm hi0 hP1 h35 hl hC hF he
      have hj1 := hP1.2.2.2.2.1
      have hm2 := hP1.2.2.2.1
      refine j_aload_n C (D 2 rfl) rfl ?_
      refine j_bipush C (v := nI 43) (D 3 rfl) rfl ?_
      refine j_cVp C B k_X12_161 (rc_obj C (lit (kd := 12) (n := 48) rfl) rfl rfl) (d_isByte _ _ hL hb hP1.1 hP1.2.1 (s := 33) (v := 43) (by decide) (by decide) (by decide) (by decide)) rfl rfl (Nat.ble_eq_true_of_le (by omega)) rfl ⟨Nat.le_refl _, Nat.le_refl _⟩ (D 4 rfl) ?_
      refine j_if_ne C  22 (D 5 rfl) (by decide) (fun h10 => ?_) (fun h10 => ?_)
      · have hsep : sepS (tok f n i1).1 = 6 := by unfold sepS; rw [if_pos (b2_ne h10)]
        have hlt : i1 < N := lt_sg hN hj1 (b2_ne h10) (by decide)
        have hv := (tok_b (v := 43) hb (by decide) (by decide) (by decide) (by decide)).mp (b2_ne h10)
        have hv2 : I1 172 32 = nI 43 := by rw [((hP1.1.2.2.2 hv.1.1).2.2.2 hv.1.2.1 hv.1.2.2).2]; exact hv.2
        refine j_aload_n C (D 10 rfl) rfl ?_
        refine j_geti C f_X12_134 (lit (kd := 12) (n := 48) rfl) rfl rfl (D 11 rfl) ?_
        rw [hv2]
        refine j_bipush C (v := nI 43) (D 12 rfl) rfl ?_
        refine j_icmp_ne C  36 (D 13 rfl) (by decide) (fun h28 => absurd h28 (fun z => z rfl)) (fun h28 => ?_)
        refine j_bipush C (v := nI 6) (D 14 rfl) rfl ?_
        refine j_goto C 38 (D 15 rfl) (by decide) ?_
        refine j_istore_n C (D 17 rfl) rfl ?_
        refine j_aload_n C (D 18 rfl) rfl ?_
        refine j_callV C B k_X12_158 (rc_obj C (lit (kd := 12) (n := 48) rfl) rfl rfl) (d_advance _ _ hL hb hP1.1 hv.1.1) rfl rfl (Nat.ble_eq_true_of_le (by omega)) rfl ⟨Nat.le_refl _, Nat.le_refl _⟩ (D 19 rfl) ?_
        rintro r w' ⟨rfl, I2, rfl, hF2, hS2⟩
        refine j_aload_n C (D 20 rfl) rfl ?_
        refine j_callV C B k_X12_237 (rc_obj C (lit (kd := 12) (n := 48) rfl) rfl rfl) (hg _ _ _ _ (PM_a hP1 hF2 hS2 (by omega) hlt)) rfl rfl (Nat.ble_eq_true_of_le (by omega)) rfl ⟨Nat.le_refl _, Nat.le_refl _⟩ (D 21 rfl) ?_
        rintro r w' ⟨rfl, I3, rfl, F2, k0, k1⟩
        obtain ⟨e, hq⟩ | ⟨⟨o2, i2⟩, hq⟩ := rs_c (g (i1 + 1))
        · obtain ⟨e0, e1⟩ := k0 e hq
          have hk := hok (i1 + 1) (by omega)
          rw [hq] at hk
          have hd : ¬ I3 172 34 = 0 := dd_of e0 hk
          refine j_aload_n C (D 22 rfl) rfl ?_
          refine j_iload_n C (D 23 rfl) rfl ?_
          refine j_iconst C (v := nI 0) (D 24 rfl) rfl ?_
          refine j_callV C B k_X12_218 (rc_obj C (lit (kd := 12) (n := 48) rfl) rfl rfl) (d_putsF _ _ hL hd _ _) rfl rfl (Nat.ble_eq_true_of_le (by omega)) rfl ⟨Nat.le_refl _, Nat.le_refl _⟩ (D 25 rfl) ?_
          rintro r w' ⟨rfl, rfl⟩
          refine j_goto C 4 (D 26 rfl) (by decide) ?_
          exact D4 e I3 _ (by rw [← he, chn, if_neg (by rw [hsep]; decide), hq]) ((hF.tr (hF2.mo aPx)).tr F2) e0 e1 hd
        · obtain ⟨g0, g1, g2, g3, g4⟩ := k1 _ hq
          have g2 : MS I3 f n i2 := g2
          have hk := hok (i1 + 1) (by omega)
          rw [hq] at hk
          obtain ⟨a1, a2, a3, -⟩ := hk
          refine j_aload_n C (D 22 rfl) rfl ?_
          refine j_iload_n C (D 23 rfl) rfl ?_
          refine j_iconst C (v := nI 0) (D 24 rfl) rfl ?_
          refine j_callV C B k_X12_218 (rc_obj C (lit (kd := 12) (n := 48) rfl) rfl rfl) (d_puts _ _ hL g0 g3.1 (by show m + o.length + o2.length < 1300; omega) (6, 0)) rfl rfl (Nat.ble_eq_true_of_le (by omega)) rfl ⟨Nat.le_refl _, Nat.le_refl _⟩ (D 25 rfl) ?_
          rintro r w' ⟨rfl, rfl⟩
          refine j_goto C 4 (D 26 rfl) (by decide) ?_
          have g3 : CDM I2 I3 (m + o.length) o2 := g3
          have c2 := CDM_app (CDM_l hF2 aN g3) (CDM_put (I := I3) (q := (6, 0)))
          have f2 := (hF2.mo aPx).tr (F2.tr (put_F (I := I3) (m := m + o.length + o2.length) (v := encM (6, 0)) (w := nI (m + o.length + o2.length + 1))))
          have hS3 : MS (up2 (up2 I3 183 (m + o.length + o2.length) (encM (6, 0))) 172 17 (nI (m + o.length + o2.length + 1))) f n i2 := MS_go g2 put_Fq (fun b j z => by unfold qP at z; omega)
          have hP3 := PM_go hP1 f2 hS3 (by rw [up2_i (by omega), up2_i (by omega)]; exact g0) c2 (by simp only [List.length_append, List.length_cons, List.length_nil]; omega) a2 (by rw [up2_i (by omega), up2_i (by omega)]; exact g4)
          have hP4 : PMx (up2 (up2 I3 183 (m + o.length + o2.length) (encM (6, 0))) 172 17 (nI (m + o.length + o2.length + 1))) f n N nE (m + (o ++ (o2 ++ [(6, (0 : Int32))])).length) d i2 := by rw [List.length_append, ← Nat.add_assoc]; exact hP3
          exact ih (o ++ (o2 ++ [(6, 0)])) i2 _ _ (by omega) (by omega) hP4 (by rw [up2_i (by omega), up2_i (by omega), g1, hF2 _ _ (fun z => by unfold aP at z; omega)]; exact h35) (by simp only [List.length_append, List.length_cons, List.length_nil]; omega) (CDM_app hC c2) (hF.tr f2) (by rw [← he, chn, if_neg (by rw [hsep]; decide), hq, hsep])
      · refine j_aload_n C (D 6 rfl) rfl ?_
        refine j_bipush C (v := nI 45) (D 7 rfl) rfl ?_
        refine j_cVp C B k_X12_161 (rc_obj C (lit (kd := 12) (n := 48) rfl) rfl rfl) (d_isByte _ _ hL hb hP1.1 hP1.2.1 (s := 34) (v := 45) (by decide) (by decide) (by decide) (by decide)) rfl rfl (Nat.ble_eq_true_of_le (by omega)) rfl ⟨Nat.le_refl _, Nat.le_refl _⟩ (D 8 rfl) ?_
        refine j_if_eq C  56 (D 9 rfl) (by decide) (fun h19 => ?_) (fun h19 => ?_)
        · exact j_vret C P rfl (D 27 rfl) ⟨Nat.le_refl _, Nat.le_refl _⟩ (MX_o (a := (o, i1)) (by rw [← he, chn, if_pos (by unfold sepS; rw [if_neg (b2_eq h10), if_neg (b2_eq h19)])]) hF hP1.2.1 h35 ⟨hP1.1, hC, hP1.2.2.2.2.2.1⟩)
        · have hsep : sepS (tok f n i1).1 = 7 := by unfold sepS; rw [if_neg (b2_eq h10), if_pos (b2_ne h19)]
          have hlt : i1 < N := lt_sg hN hj1 (b2_ne h19) (by decide)
          have hv := (tok_b (v := 45) hb (by decide) (by decide) (by decide) (by decide)).mp (b2_ne h19)
          have hv2 : I1 172 32 = nI 45 := by rw [((hP1.1.2.2.2 hv.1.1).2.2.2 hv.1.2.1 hv.1.2.2).2]; exact hv.2
          refine j_aload_n C (D 10 rfl) rfl ?_
          refine j_geti C f_X12_134 (lit (kd := 12) (n := 48) rfl) rfl rfl (D 11 rfl) ?_
          rw [hv2]
          refine j_bipush C (v := nI 43) (D 12 rfl) rfl ?_
          refine j_icmp_ne C  36 (D 13 rfl) (by decide) (fun h28 => ?_) (fun h28 => absurd h28 (by decide))
          refine j_bipush C (v := nI 7) (D 16 rfl) rfl ?_
          refine j_istore_n C (D 17 rfl) rfl ?_
          refine j_aload_n C (D 18 rfl) rfl ?_
          refine j_callV C B k_X12_158 (rc_obj C (lit (kd := 12) (n := 48) rfl) rfl rfl) (d_advance _ _ hL hb hP1.1 hv.1.1) rfl rfl (Nat.ble_eq_true_of_le (by omega)) rfl ⟨Nat.le_refl _, Nat.le_refl _⟩ (D 19 rfl) ?_
          rintro r w' ⟨rfl, I2, rfl, hF2, hS2⟩
          refine j_aload_n C (D 20 rfl) rfl ?_
          refine j_callV C B k_X12_237 (rc_obj C (lit (kd := 12) (n := 48) rfl) rfl rfl) (hg _ _ _ _ (PM_a hP1 hF2 hS2 (by omega) hlt)) rfl rfl (Nat.ble_eq_true_of_le (by omega)) rfl ⟨Nat.le_refl _, Nat.le_refl _⟩ (D 21 rfl) ?_
          rintro r w' ⟨rfl, I3, rfl, F2, k0, k1⟩
          obtain ⟨e, hq⟩ | ⟨⟨o2, i2⟩, hq⟩ := rs_c (g (i1 + 1))
          · obtain ⟨e0, e1⟩ := k0 e hq
            have hk := hok (i1 + 1) (by omega)
            rw [hq] at hk
            have hd : ¬ I3 172 34 = 0 := dd_of e0 hk
            refine j_aload_n C (D 22 rfl) rfl ?_
            refine j_iload_n C (D 23 rfl) rfl ?_
            refine j_iconst C (v := nI 0) (D 24 rfl) rfl ?_
            refine j_callV C B k_X12_218 (rc_obj C (lit (kd := 12) (n := 48) rfl) rfl rfl) (d_putsF _ _ hL hd _ _) rfl rfl (Nat.ble_eq_true_of_le (by omega)) rfl ⟨Nat.le_refl _, Nat.le_refl _⟩ (D 25 rfl) ?_
            rintro r w' ⟨rfl, rfl⟩
            refine j_goto C 4 (D 26 rfl) (by decide) ?_
            exact D4 e I3 _ (by rw [← he, chn, if_neg (by rw [hsep]; decide), hq]) ((hF.tr (hF2.mo aPx)).tr F2) e0 e1 hd
          · obtain ⟨g0, g1, g2, g3, g4⟩ := k1 _ hq
            have g2 : MS I3 f n i2 := g2
            have hk := hok (i1 + 1) (by omega)
            rw [hq] at hk
            obtain ⟨a1, a2, a3, -⟩ := hk
            refine j_aload_n C (D 22 rfl) rfl ?_
            refine j_iload_n C (D 23 rfl) rfl ?_
            refine j_iconst C (v := nI 0) (D 24 rfl) rfl ?_
            refine j_callV C B k_X12_218 (rc_obj C (lit (kd := 12) (n := 48) rfl) rfl rfl) (d_puts _ _ hL g0 g3.1 (by show m + o.length + o2.length < 1300; omega) (7, 0)) rfl rfl (Nat.ble_eq_true_of_le (by omega)) rfl ⟨Nat.le_refl _, Nat.le_refl _⟩ (D 25 rfl) ?_
            rintro r w' ⟨rfl, rfl⟩
            refine j_goto C 4 (D 26 rfl) (by decide) ?_
            have g3 : CDM I2 I3 (m + o.length) o2 := g3
            have c2 := CDM_app (CDM_l hF2 aN g3) (CDM_put (I := I3) (q := (7, 0)))
            have f2 := (hF2.mo aPx).tr (F2.tr (put_F (I := I3) (m := m + o.length + o2.length) (v := encM (7, 0)) (w := nI (m + o.length + o2.length + 1))))
            have hS3 : MS (up2 (up2 I3 183 (m + o.length + o2.length) (encM (7, 0))) 172 17 (nI (m + o.length + o2.length + 1))) f n i2 := MS_go g2 put_Fq (fun b j z => by unfold qP at z; omega)
            have hP3 := PM_go hP1 f2 hS3 (by rw [up2_i (by omega), up2_i (by omega)]; exact g0) c2 (by simp only [List.length_append, List.length_cons, List.length_nil]; omega) a2 (by rw [up2_i (by omega), up2_i (by omega)]; exact g4)
            have hP4 : PMx (up2 (up2 I3 183 (m + o.length + o2.length) (encM (7, 0))) 172 17 (nI (m + o.length + o2.length + 1))) f n N nE (m + (o ++ (o2 ++ [(7, (0 : Int32))])).length) d i2 := by rw [List.length_append, ← Nat.add_assoc]; exact hP3
            exact ih (o ++ (o2 ++ [(7, 0)])) i2 _ _ (by omega) (by omega) hP4 (by rw [up2_i (by omega), up2_i (by omega), g1, hF2 _ _ (fun z => by unfold aP at z; omega)]; exact h35) (by simp only [List.length_append, List.length_cons, List.length_nil]; omega) (CDM_app hC c2) (hF.tr f2) (by rw [← he, chn, if_neg (by rw [hsep]; decide), hq, hsep])
  refine j_aload_n C (D 0 rfl) rfl ?_
  refine j_callV C B k_X12_237 (rc_obj C (lit (kd := 12) (n := 48) rfl) rfl rfl) (hg _ _ _ _ hP) rfl rfl (Nat.ble_eq_true_of_le (by omega)) rfl ⟨Nat.le_refl _, Nat.le_refl _⟩ (D 1 rfl) ?_
  rintro r w' ⟨rfl, I2, rfl, F2, k0, k1⟩
  obtain ⟨e, hq⟩ | ⟨⟨o2, i2⟩, hq⟩ := rs_c (g i)
  · obtain ⟨e0, e1⟩ := k0 e hq
    have hk := hok i hi1
    rw [hq] at hk
    have hd : ¬ I2 172 34 = 0 := dd_of e0 hk
    exact D4 e I2 _ (by rw [sq, hq]) F2 e0 e1 hd
  · obtain ⟨g0, g1, g2, g3, g4⟩ := k1 _ hq
    have g2 : MS I2 f n i2 := g2
    have hk := hok i hi1
    rw [hq] at hk
    obtain ⟨a1, a2, a3, -⟩ := hk
    exact L4 1200 o2 i2 I2 _ (by omega) a1 (PM_go hP F2 g2 g0 g3 (by have := g3.1; show m + o2.length ≤ i2; omega) a2 g4) g1 a3 g3 F2 (by rw [sq, hq])
set_option maxRecDepth 20000 in
theorem d_readSide_of (l : Launch) (G : GT) {I : Nat → Nat → Int32} {L : Nat → Nat → Int64} {R : Nat → Nat → Option Nat} (hL : Lay R) {f : Nat → Int32} {n N nE m d i : Nat} (hb : BY f n) (hN : TN (tok f n) N) (hE : nE ≤ 10) (hP : PMx I f n N nE m d i) {g : Nat → RE} {DD D : Nat} (hD : 6 ≤ D) (hok : OKR N nE true DD g) (hg : ∀ (l : Launch) (I : Nat → Nat → Int32) (m i : Nat), PMx I f n N nE m d i → Mt l G mX12_readFact D 0 0 [.ref (ra G 172)] (wd I L R) (MX I L R xP (mO I f n m d) (g i))) : Mt l G mX12_readSide (D + 1) 0 0 [.ref (ra G 172)] (wd I L R) (MX I L R xP (mO I f n m d) (sq (tok f n) g sepA i)) := by
  refine mt_of (own := RX12) (by decide) rfl rfl (fun Z C P B => ?_)
  have D := @dc_of _ _ dX12_readSide
  have hn := hb.1
  have hN1 := hN.1
  have hi1 := hP.2.2.2.2.1
  have hm1 := hP.2.2.2.1
  have D4 : ∀ (e : Nat × Nat) (I1 : Nat → Nat → Int32), sq (tok f n) g sepA i = .inl e → Fx xP I I1 → I1 172 34 = nI e.1 → I1 172 35 = nI e.2 → ¬ I1 172 34 = 0 → J Z (0, 0) 11 [some (.ref (ra G 172))] [] (wd I1 L R) := by
    intro e I1 hres hF e0 e1 hd
    refine j_aload_n C (D 5 rfl) rfl ?_
    refine j_ldcS C (i := 21) (by decide) rfl (D 6 rfl) ?_
    refine j_cVp C B k_X12_165 (rc_obj C (lit (kd := 12) (n := 48) rfl) rfl rfl) (d_eatsF _ _ hL hd 21 (by decide)) rfl rfl (Nat.ble_eq_true_of_le (by omega)) rfl ⟨Nat.le_refl _, Nat.le_refl _⟩ (D 7 rfl) ?_
    refine j_if_eq C  34 (D 8 rfl) (by decide) (fun h17 => ?_) (fun h17 => absurd h17 (fun z => z rfl))
    exact j_vret C P rfl (D 16 rfl) ⟨Nat.le_refl _, Nat.le_refl _⟩ (MX_e hres hF e0 e1)
  have L4 : ∀ mm o i1 (I1 : Nat → Nat → Int32), N ≤ i1 + mm → i < i1 → PMx I1 f n N nE (m + o.length) d i1 → I1 172 35 = I 172 35 → o.length + i ≤ i1 → CDM I I1 m o → Fx xP I I1 → chn (tok f n) g sepA mm o i1 = sq (tok f n) g sepA i → J Z (0, 0) 11 [some (.ref (ra G 172))] [] (wd I1 L R) := by
    intro mm
    induction mm with
    | zero =>
      intro o i1 I1 hNm hi0 hP1 h35 hl hC hF he
      have hj1 := hP1.2.2.2.2.1
      have hm2 := hP1.2.2.2.1
      have h41 : (tok f n i1).1 = 41 := (hN.2.1 i1 hj1).mpr (by omega)
      refine j_aload_n C (D 5 rfl) rfl ?_
      refine j_ldcS C (i := 21) (by decide) rfl (D 6 rfl) ?_
      refine j_callV C B k_X12_165 (rc_obj C (lit (kd := 12) (n := 48) rfl) rfl rfl) (d_eats _ _ hL hb hP1.1 hP1.2.1 21 (by decide)) rfl rfl (Nat.ble_eq_true_of_le (by omega)) rfl ⟨Nat.le_refl _, Nat.le_refl _⟩ (D 7 rfl) ?_
      rintro r w' ⟨rfl, I2, rfl, hF2, y1, y2⟩
      refine j_if_eq C  34 (D 8 rfl) (by decide) (fun h17 => ?_) (fun h17 => absurd h17 (fun z => absurd (b2_ne z) (by rw [h41]; decide)))
      exact j_vret C P rfl (D 16 rfl) ⟨Nat.le_refl _, Nat.le_refl _⟩ (MX_o (a := (o, i1)) (by rw [← he, chn]) (hF.tr (hF2.mo aPx)) (by rw [hF2 _ _ (fun z => by unfold aP at z; omega)]; exact hP1.2.1) (by rw [hF2 _ _ (fun z => by unfold aP at z; omega)]; exact h35) ⟨y2 (by rw [h41]; decide), CDM_r hC hF2 aN, by rw [hF2 _ _ (fun z => by unfold aP at z; omega)]; exact hP1.2.2.2.2.2.1⟩)
    | succ mm ih =>
      intro o i1 I1 hNm hi0 hP1 h35 hl hC hF he
      have hj1 := hP1.2.2.2.2.1
      have hm2 := hP1.2.2.2.1
      refine j_aload_n C (D 5 rfl) rfl ?_
      refine j_ldcS C (i := 21) (by decide) rfl (D 6 rfl) ?_
      refine j_callV C B k_X12_165 (rc_obj C (lit (kd := 12) (n := 48) rfl) rfl rfl) (d_eats _ _ hL hb hP1.1 hP1.2.1 21 (by decide)) rfl rfl (Nat.ble_eq_true_of_le (by omega)) rfl ⟨Nat.le_refl _, Nat.le_refl _⟩ (D 7 rfl) ?_
      rintro r w' ⟨rfl, I2, rfl, hF2, y1, y2⟩
      refine j_if_eq C  34 (D 8 rfl) (by decide) (fun h17 => ?_) (fun h17 => ?_)
      · exact j_vret C P rfl (D 16 rfl) ⟨Nat.le_refl _, Nat.le_refl _⟩ (MX_o (a := (o, i1)) (by rw [← he, chn, if_pos (by unfold sepA; exact if_neg (b2_eq h17))]) (hF.tr (hF2.mo aPx)) (by rw [hF2 _ _ (fun z => by unfold aP at z; omega)]; exact hP1.2.1) (by rw [hF2 _ _ (fun z => by unfold aP at z; omega)]; exact h35) ⟨y2 (b2_eq h17), CDM_r hC hF2 aN, by rw [hF2 _ _ (fun z => by unfold aP at z; omega)]; exact hP1.2.2.2.2.2.1⟩)
      · have hsep : sepA (tok f n i1).1 = 12 := by unfold sepA; exact if_pos (b2_ne h17)
        have hlt : i1 < N := lt_sg hN hj1 (b2_ne h17) (by decide)
        refine j_aload_n C (D 9 rfl) rfl ?_
        refine j_callV C B k_X12_242 (rc_obj C (lit (kd := 12) (n := 48) rfl) rfl rfl) (hg _ _ _ _ (PM_a hP1 hF2 (y1 (b2_ne h17)) (by omega) hlt)) rfl rfl (Nat.ble_eq_true_of_le (by omega)) rfl ⟨Nat.le_refl _, Nat.le_refl _⟩ (D 10 rfl) ?_
        rintro r w' ⟨rfl, I3, rfl, F2, k0, k1⟩
        obtain ⟨e, hq⟩ | ⟨⟨o2, i2⟩, hq⟩ := rs_c (g (i1 + 1))
        · obtain ⟨e0, e1⟩ := k0 e hq
          have hk := hok (i1 + 1) (by omega)
          rw [hq] at hk
          have hd : ¬ I3 172 34 = 0 := dd_of e0 hk
          refine j_aload_n C (D 11 rfl) rfl ?_
          refine j_bipush C (v := nI 12) (D 12 rfl) rfl ?_
          refine j_iconst C (v := nI 0) (D 13 rfl) rfl ?_
          refine j_callV C B k_X12_218 (rc_obj C (lit (kd := 12) (n := 48) rfl) rfl rfl) (d_putsF _ _ hL hd _ _) rfl rfl (Nat.ble_eq_true_of_le (by omega)) rfl ⟨Nat.le_refl _, Nat.le_refl _⟩ (D 14 rfl) ?_
          rintro r w' ⟨rfl, rfl⟩
          refine j_goto C 11 (D 15 rfl) (by decide) ?_
          exact D4 e I3 (by rw [← he, chn, if_neg (by rw [hsep]; decide), hq]) ((hF.tr (hF2.mo aPx)).tr F2) e0 e1 hd
        · obtain ⟨g0, g1, g2, g3, g4⟩ := k1 _ hq
          have g2 : MS I3 f n i2 := g2
          have hk := hok (i1 + 1) (by omega)
          rw [hq] at hk
          obtain ⟨a1, a2, a3, -⟩ := hk
          refine j_aload_n C (D 11 rfl) rfl ?_
          refine j_bipush C (v := nI 12) (D 12 rfl) rfl ?_
          refine j_iconst C (v := nI 0) (D 13 rfl) rfl ?_
          refine j_callV C B k_X12_218 (rc_obj C (lit (kd := 12) (n := 48) rfl) rfl rfl) (d_puts _ _ hL g0 g3.1 (by show m + o.length + o2.length < 1300; omega) (12, 0)) rfl rfl (Nat.ble_eq_true_of_le (by omega)) rfl ⟨Nat.le_refl _, Nat.le_refl _⟩ (D 14 rfl) ?_
          rintro r w' ⟨rfl, rfl⟩
          refine j_goto C 11 (D 15 rfl) (by decide) ?_
          have g3 : CDM I2 I3 (m + o.length) o2 := g3
          have c2 := CDM_app (CDM_l hF2 aN g3) (CDM_put (I := I3) (q := (12, 0)))
          have f2 := (hF2.mo aPx).tr (F2.tr (put_F (I := I3) (m := m + o.length + o2.length) (v := encM (12, 0)) (w := nI (m + o.length + o2.length + 1))))
          have hS3 : MS (up2 (up2 I3 183 (m + o.length + o2.length) (encM (12, 0))) 172 17 (nI (m + o.length + o2.length + 1))) f n i2 := MS_go g2 put_Fq (fun b j z => by unfold qP at z; omega)
          have hP3 := PM_go hP1 f2 hS3 (by rw [up2_i (by omega), up2_i (by omega)]; exact g0) c2 (by simp only [List.length_append, List.length_cons, List.length_nil]; omega) a2 (by rw [up2_i (by omega), up2_i (by omega)]; exact g4)
          have hP4 : PMx (up2 (up2 I3 183 (m + o.length + o2.length) (encM (12, 0))) 172 17 (nI (m + o.length + o2.length + 1))) f n N nE (m + (o ++ (o2 ++ [(12, (0 : Int32))])).length) d i2 := by rw [List.length_append, ← Nat.add_assoc]; exact hP3
          exact ih (o ++ (o2 ++ [(12, 0)])) i2 _ (by omega) (by omega) hP4 (by rw [up2_i (by omega), up2_i (by omega), g1, hF2 _ _ (fun z => by unfold aP at z; omega)]; exact h35) (by simp only [List.length_append, List.length_cons, List.length_nil]; omega) (CDM_app hC c2) (hF.tr f2) (by rw [← he, chn, if_neg (by rw [hsep]; decide), hq, hsep])
  refine j_aload_n C (D 0 rfl) rfl ?_
  refine j_cVp C B k_X12_106 (rc_obj C (lit (kd := 12) (n := 48) rfl) rfl rfl) (d_goodT _ _ hL hP.2.1) rfl rfl (Nat.ble_eq_true_of_le (by omega)) rfl ⟨Nat.le_refl _, Nat.le_refl _⟩ (D 1 rfl) ?_
  refine j_if_eq C  11 (D 2 rfl) (by decide) (fun h4 => absurd h4 (by decide)) (fun h4 => ?_)
  refine j_aload_n C (D 3 rfl) rfl ?_
  refine j_callV C B k_X12_242 (rc_obj C (lit (kd := 12) (n := 48) rfl) rfl rfl) (hg _ _ _ _ hP) rfl rfl (Nat.ble_eq_true_of_le (by omega)) rfl ⟨Nat.le_refl _, Nat.le_refl _⟩ (D 4 rfl) ?_
  rintro r w' ⟨rfl, I2, rfl, F2, k0, k1⟩
  obtain ⟨e, hq⟩ | ⟨⟨o2, i2⟩, hq⟩ := rs_c (g i)
  · obtain ⟨e0, e1⟩ := k0 e hq
    have hk := hok i hi1
    rw [hq] at hk
    have hd : ¬ I2 172 34 = 0 := dd_of e0 hk
    exact D4 e I2 (by rw [sq, hq]) F2 e0 e1 hd
  · obtain ⟨g0, g1, g2, g3, g4⟩ := k1 _ hq
    have g2 : MS I2 f n i2 := g2
    have hk := hok i hi1
    rw [hq] at hk
    obtain ⟨a1, a2, a3, -⟩ := hk
    exact L4 1200 o2 i2 I2 (by omega) a1 (PM_go hP F2 g2 g0 g3 (by have := g3.1; show m + o2.length ≤ i2; omega) a2 g4) g1 a3 g3 F2 (by rw [sq, hq])
set_option maxRecDepth 20000 in
theorem d_readTest_of (l : Launch) (G : GT) {I : Nat → Nat → Int32} {L : Nat → Nat → Int64} {R : Nat → Nat → Option Nat} (hL : Lay R) {f : Nat → Int32} {n N nE m d i : Nat} (hb : BY f n) (hN : TN (tok f n) N) (hE : nE ≤ 10) (hP : PMx I f n N nE m d i) {g : Nat → RE} {DD D : Nat} (hD : 6 ≤ D) (hok : OKR N nE true DD g) (hg : ∀ (l : Launch) (I : Nat → Nat → Int32) (m i : Nat), PMx I f n N nE m d i → Mt l G mX12_readSide D 0 0 [.ref (ra G 172)] (wd I L R) (MX I L R xP (mO I f n m d) (g i))) : Mt l G mX12_readTest (D + 1) 0 0 [.ref (ra G 172)] (wd I L R) (MX I L R xP (mO I f n m d) (sq (tok f n) g sepO i)) := by
  refine mt_of (own := RX12) (by decide) rfl rfl (fun Z C P B => ?_)
  have D := @dc_of _ _ dX12_readTest
  have hn := hb.1
  have hN1 := hN.1
  have hi1 := hP.2.2.2.2.1
  have hm1 := hP.2.2.2.1
  have D4 : ∀ (e : Nat × Nat) (I1 : Nat → Nat → Int32), sq (tok f n) g sepO i = .inl e → Fx xP I I1 → I1 172 34 = nI e.1 → I1 172 35 = nI e.2 → ¬ I1 172 34 = 0 → J Z (0, 0) 11 [some (.ref (ra G 172))] [] (wd I1 L R) := by
    intro e I1 hres hF e0 e1 hd
    refine j_aload_n C (D 5 rfl) rfl ?_
    refine j_ldcS C (i := 22) (by decide) rfl (D 6 rfl) ?_
    refine j_cVp C B k_X12_165 (rc_obj C (lit (kd := 12) (n := 48) rfl) rfl rfl) (d_eatsF _ _ hL hd 22 (by decide)) rfl rfl (Nat.ble_eq_true_of_le (by omega)) rfl ⟨Nat.le_refl _, Nat.le_refl _⟩ (D 7 rfl) ?_
    refine j_if_eq C  34 (D 8 rfl) (by decide) (fun h17 => ?_) (fun h17 => absurd h17 (fun z => z rfl))
    exact j_vret C P rfl (D 16 rfl) ⟨Nat.le_refl _, Nat.le_refl _⟩ (MX_e hres hF e0 e1)
  have L4 : ∀ mm o i1 (I1 : Nat → Nat → Int32), N ≤ i1 + mm → i < i1 → PMx I1 f n N nE (m + o.length) d i1 → I1 172 35 = I 172 35 → o.length + i ≤ i1 → CDM I I1 m o → Fx xP I I1 → chn (tok f n) g sepO mm o i1 = sq (tok f n) g sepO i → J Z (0, 0) 11 [some (.ref (ra G 172))] [] (wd I1 L R) := by
    intro mm
    induction mm with
    | zero =>
      intro o i1 I1 hNm hi0 hP1 h35 hl hC hF he
      have hj1 := hP1.2.2.2.2.1
      have hm2 := hP1.2.2.2.1
      have h41 : (tok f n i1).1 = 41 := (hN.2.1 i1 hj1).mpr (by omega)
      refine j_aload_n C (D 5 rfl) rfl ?_
      refine j_ldcS C (i := 22) (by decide) rfl (D 6 rfl) ?_
      refine j_callV C B k_X12_165 (rc_obj C (lit (kd := 12) (n := 48) rfl) rfl rfl) (d_eats _ _ hL hb hP1.1 hP1.2.1 22 (by decide)) rfl rfl (Nat.ble_eq_true_of_le (by omega)) rfl ⟨Nat.le_refl _, Nat.le_refl _⟩ (D 7 rfl) ?_
      rintro r w' ⟨rfl, I2, rfl, hF2, y1, y2⟩
      refine j_if_eq C  34 (D 8 rfl) (by decide) (fun h17 => ?_) (fun h17 => absurd h17 (fun z => absurd (b2_ne z) (by rw [h41]; decide)))
      exact j_vret C P rfl (D 16 rfl) ⟨Nat.le_refl _, Nat.le_refl _⟩ (MX_o (a := (o, i1)) (by rw [← he, chn]) (hF.tr (hF2.mo aPx)) (by rw [hF2 _ _ (fun z => by unfold aP at z; omega)]; exact hP1.2.1) (by rw [hF2 _ _ (fun z => by unfold aP at z; omega)]; exact h35) ⟨y2 (by rw [h41]; decide), CDM_r hC hF2 aN, by rw [hF2 _ _ (fun z => by unfold aP at z; omega)]; exact hP1.2.2.2.2.2.1⟩)
    | succ mm ih =>
      intro o i1 I1 hNm hi0 hP1 h35 hl hC hF he
      have hj1 := hP1.2.2.2.2.1
      have hm2 := hP1.2.2.2.1
      refine j_aload_n C (D 5 rfl) rfl ?_
      refine j_ldcS C (i := 22) (by decide) rfl (D 6 rfl) ?_
      refine j_callV C B k_X12_165 (rc_obj C (lit (kd := 12) (n := 48) rfl) rfl rfl) (d_eats _ _ hL hb hP1.1 hP1.2.1 22 (by decide)) rfl rfl (Nat.ble_eq_true_of_le (by omega)) rfl ⟨Nat.le_refl _, Nat.le_refl _⟩ (D 7 rfl) ?_
      rintro r w' ⟨rfl, I2, rfl, hF2, y1, y2⟩
      refine j_if_eq C  34 (D 8 rfl) (by decide) (fun h17 => ?_) (fun h17 => ?_)
      · exact j_vret C P rfl (D 16 rfl) ⟨Nat.le_refl _, Nat.le_refl _⟩ (MX_o (a := (o, i1)) (by rw [← he, chn, if_pos (by unfold sepO; exact if_neg (b2_eq h17))]) (hF.tr (hF2.mo aPx)) (by rw [hF2 _ _ (fun z => by unfold aP at z; omega)]; exact hP1.2.1) (by rw [hF2 _ _ (fun z => by unfold aP at z; omega)]; exact h35) ⟨y2 (b2_eq h17), CDM_r hC hF2 aN, by rw [hF2 _ _ (fun z => by unfold aP at z; omega)]; exact hP1.2.2.2.2.2.1⟩)
      · have hsep : sepO (tok f n i1).1 = 13 := by unfold sepO; exact if_pos (b2_ne h17)
        have hlt : i1 < N := lt_sg hN hj1 (b2_ne h17) (by decide)
        refine j_aload_n C (D 9 rfl) rfl ?_
        refine j_callV C B k_X12_250 (rc_obj C (lit (kd := 12) (n := 48) rfl) rfl rfl) (hg _ _ _ _ (PM_a hP1 hF2 (y1 (b2_ne h17)) (by omega) hlt)) rfl rfl (Nat.ble_eq_true_of_le (by omega)) rfl ⟨Nat.le_refl _, Nat.le_refl _⟩ (D 10 rfl) ?_
        rintro r w' ⟨rfl, I3, rfl, F2, k0, k1⟩
        obtain ⟨e, hq⟩ | ⟨⟨o2, i2⟩, hq⟩ := rs_c (g (i1 + 1))
        · obtain ⟨e0, e1⟩ := k0 e hq
          have hk := hok (i1 + 1) (by omega)
          rw [hq] at hk
          have hd : ¬ I3 172 34 = 0 := dd_of e0 hk
          refine j_aload_n C (D 11 rfl) rfl ?_
          refine j_bipush C (v := nI 13) (D 12 rfl) rfl ?_
          refine j_iconst C (v := nI 0) (D 13 rfl) rfl ?_
          refine j_callV C B k_X12_218 (rc_obj C (lit (kd := 12) (n := 48) rfl) rfl rfl) (d_putsF _ _ hL hd _ _) rfl rfl (Nat.ble_eq_true_of_le (by omega)) rfl ⟨Nat.le_refl _, Nat.le_refl _⟩ (D 14 rfl) ?_
          rintro r w' ⟨rfl, rfl⟩
          refine j_goto C 11 (D 15 rfl) (by decide) ?_
          exact D4 e I3 (by rw [← he, chn, if_neg (by rw [hsep]; decide), hq]) ((hF.tr (hF2.mo aPx)).tr F2) e0 e1 hd
        · obtain ⟨g0, g1, g2, g3, g4⟩ := k1 _ hq
          have g2 : MS I3 f n i2 := g2
          have hk := hok (i1 + 1) (by omega)
          rw [hq] at hk
          obtain ⟨a1, a2, a3, -⟩ := hk
          refine j_aload_n C (D 11 rfl) rfl ?_
          refine j_bipush C (v := nI 13) (D 12 rfl) rfl ?_
          refine j_iconst C (v := nI 0) (D 13 rfl) rfl ?_
          refine j_callV C B k_X12_218 (rc_obj C (lit (kd := 12) (n := 48) rfl) rfl rfl) (d_puts _ _ hL g0 g3.1 (by show m + o.length + o2.length < 1300; omega) (13, 0)) rfl rfl (Nat.ble_eq_true_of_le (by omega)) rfl ⟨Nat.le_refl _, Nat.le_refl _⟩ (D 14 rfl) ?_
          rintro r w' ⟨rfl, rfl⟩
          refine j_goto C 11 (D 15 rfl) (by decide) ?_
          have g3 : CDM I2 I3 (m + o.length) o2 := g3
          have c2 := CDM_app (CDM_l hF2 aN g3) (CDM_put (I := I3) (q := (13, 0)))
          have f2 := (hF2.mo aPx).tr (F2.tr (put_F (I := I3) (m := m + o.length + o2.length) (v := encM (13, 0)) (w := nI (m + o.length + o2.length + 1))))
          have hS3 : MS (up2 (up2 I3 183 (m + o.length + o2.length) (encM (13, 0))) 172 17 (nI (m + o.length + o2.length + 1))) f n i2 := MS_go g2 put_Fq (fun b j z => by unfold qP at z; omega)
          have hP3 := PM_go hP1 f2 hS3 (by rw [up2_i (by omega), up2_i (by omega)]; exact g0) c2 (by simp only [List.length_append, List.length_cons, List.length_nil]; omega) a2 (by rw [up2_i (by omega), up2_i (by omega)]; exact g4)
          have hP4 : PMx (up2 (up2 I3 183 (m + o.length + o2.length) (encM (13, 0))) 172 17 (nI (m + o.length + o2.length + 1))) f n N nE (m + (o ++ (o2 ++ [(13, (0 : Int32))])).length) d i2 := by rw [List.length_append, ← Nat.add_assoc]; exact hP3
          exact ih (o ++ (o2 ++ [(13, 0)])) i2 _ (by omega) (by omega) hP4 (by rw [up2_i (by omega), up2_i (by omega), g1, hF2 _ _ (fun z => by unfold aP at z; omega)]; exact h35) (by simp only [List.length_append, List.length_cons, List.length_nil]; omega) (CDM_app hC c2) (hF.tr f2) (by rw [← he, chn, if_neg (by rw [hsep]; decide), hq, hsep])
  refine j_aload_n C (D 0 rfl) rfl ?_
  refine j_cVp C B k_X12_106 (rc_obj C (lit (kd := 12) (n := 48) rfl) rfl rfl) (d_goodT _ _ hL hP.2.1) rfl rfl (Nat.ble_eq_true_of_le (by omega)) rfl ⟨Nat.le_refl _, Nat.le_refl _⟩ (D 1 rfl) ?_
  refine j_if_eq C  11 (D 2 rfl) (by decide) (fun h4 => absurd h4 (by decide)) (fun h4 => ?_)
  refine j_aload_n C (D 3 rfl) rfl ?_
  refine j_callV C B k_X12_250 (rc_obj C (lit (kd := 12) (n := 48) rfl) rfl rfl) (hg _ _ _ _ hP) rfl rfl (Nat.ble_eq_true_of_le (by omega)) rfl ⟨Nat.le_refl _, Nat.le_refl _⟩ (D 4 rfl) ?_
  rintro r w' ⟨rfl, I2, rfl, F2, k0, k1⟩
  obtain ⟨e, hq⟩ | ⟨⟨o2, i2⟩, hq⟩ := rs_c (g i)
  · obtain ⟨e0, e1⟩ := k0 e hq
    have hk := hok i hi1
    rw [hq] at hk
    have hd : ¬ I2 172 34 = 0 := dd_of e0 hk
    exact D4 e I2 (by rw [sq, hq]) F2 e0 e1 hd
  · obtain ⟨g0, g1, g2, g3, g4⟩ := k1 _ hq
    have g2 : MS I2 f n i2 := g2
    have hk := hok i hi1
    rw [hq] at hk
    obtain ⟨a1, a2, a3, -⟩ := hk
    exact L4 1200 o2 i2 I2 (by omega) a1 (PM_go hP F2 g2 g0 g3 (by have := g3.1; show m + o2.length ≤ i2; omega) a2 g4) g1 a3 g3 F2 (by rw [sq, hq])
