/-! TAPE and OUT: a length and bytes -/
abbrev BT : Type := Nat × (Nat → Int32)
def TP (I : Nat → Nat → Int32) (o f t : Nat) (b : BT) : Prop := I o f = nI b.1 ∧ ∀ i, i < b.1 → I t i = b.2 i
def put1 (b : BT) (v : Int32) : BT := (b.1 + 1, va_up b.2 b.1 v)
def oct (x : Int32) (s : Int32) : Int32 := (x >>> (s &&& 31)).toInt8.toInt32.toInt8.toInt32
def put4 (b : BT) (x : Int32) : BT := put1 (put1 (put1 (put1 b (oct x 24)) (oct x 16)) (oct x 8)) (oct x 0)
theorem put4_1 (b : BT) (x : Int32) : (put4 b x).1 = b.1 + 4 := rfl
theorem TP_put {I : Nat → Nat → Int32} {o f t : Nat} {b : BT} {v : Int32} (hto : ¬ t = o) (h : TP I o f t b) : TP (up2 (up2 I t b.1 v) o f (nI (b.1 + 1))) o f t (put1 b v) := by
  refine ⟨by rw [up2_same]; rfl, fun i hi => ?_⟩
  rw [up2_i (by omega)]
  by_cases q : i = b.1
  · rw [q, up2_same]; show _ = va_up b.2 b.1 v b.1; rw [vu_same]
  · rw [up2_i (by omega)]
    show _ = va_up b.2 b.1 v i
    rw [vu_ne _ _ q]
    exact h.2 i (by have : i < b.1 + 1 := hi; omega)
theorem TP_fr {I I' : Nat → Nat → Int32} {o f t : Nat} {b : BT} (h : TP I o f t b) (h0 : I' o f = I o f) (h1 : ∀ i, I' t i = I t i) : TP I' o f t b := ⟨by rw [h0]; exact h.1, fun i hi => by rw [h1]; exact h.2 i hi⟩
/-- only the cell t and the field f of o -/
def FrT (o f t : Nat) (I I' : Nat → Nat → Int32) : Prop := ∀ b j, ¬ b = t → ¬ (b = o ∧ j = f) → I' b j = I b j
theorem FrT.tr {o f t : Nat} {I I' I'' : Nat → Nat → Int32} (h : FrT o f t I I') (h' : FrT o f t I' I'') : FrT o f t I I'' := fun b j h1 h2 => (h' b j h1 h2).trans (h b j h1 h2)
theorem FrT.up {o f t k : Nat} {I I' : Nat → Nat → Int32} {v w : Int32} (h : FrT o f t I I') : FrT o f t I (up2 (up2 I' t k v) o f w) := fun b j h1 h2 => by rw [up2_i h2, up2_i (fun z => h1 z.1)]; exact h b j h1 h2
set_option maxRecDepth 20000 in
theorem c_append (l : Launch) (G : GT) {I : Nat → Nat → Int32} {L : Nat → Nat → Int64} {R : Nat → Nat → Option Nat} (hL : Lay R) (b0 : BT) (x : Int32) (hb0 : b0.1 + 4 ≤ 1200) (hT : TP I 0 1 1 b0) : Mt l G mX11_append (0) 0 0 [.ref (ra G 0), .int x] (wd I L R) (fun r w' => r = none ∧ ∃ I', w' = wd I' L R ∧ TP I' 0 1 1 (put4 b0 x) ∧ FrT 0 1 1 I I') := by
  refine mt_of (own := RX11) (by decide) rfl rfl (fun Z C P B => ?_)
  have D := @dc_of _ _ dX11_append
  have L0 : ∀ (b : BT) (I1 : Nat → Nat → Int32), b.1 + 0 ≤ 1200 → TP I1 0 1 1 b → FrT 0 1 1 I I1 → b = put4 b0 x → J Z (0, 0) 3 [some (.ref (ra G 0)), some (.int x), some (.int (-8))] [] (wd I1 L R) := by
    intro b I1 hb hT hF hE
    refine j_iload_n C (D 2 rfl) rfl ?_
    refine j_if_lt C  46 (D 3 rfl) (by decide) (fun h4 => ?_) (fun h4 => absurd h4 (fun z => z (by decide)))
    exact j_vret C P rfl (D 25 rfl) ⟨Nat.le_refl _, Nat.le_refl _⟩ ⟨rfl, I1, rfl, by rw [← hE]; exact hT, hF⟩
  have L1 : ∀ (b : BT) (I1 : Nat → Nat → Int32), b.1 + 1 ≤ 1200 → TP I1 0 1 1 b → FrT 0 1 1 I I1 → (put1 b (oct x 0)) = put4 b0 x → J Z (0, 0) 3 [some (.ref (ra G 0)), some (.int x), some (.int 0)] [] (wd I1 L R) := by
    intro b I1 hb hT hF hE
    refine j_iload_n C (D 2 rfl) rfl ?_
    refine j_if_lt C  46 (D 3 rfl) (by decide) (fun h4 => absurd h4 (fun z => absurd z (by decide))) (fun h4 => ?_)
    refine j_aload_n C (D 4 rfl) rfl ?_
    refine j_geti C f_X11_69 (lit (kd := 11) (n := 12) rfl) rfl rfl (D 5 rfl) ?_
    refine j_sipush C (v := nI 1200) (D 6 rfl) rfl ?_
    rw [hT.1]
    refine j_icmp_ge C  40 (D 7 rfl) (by decide) (fun h14 => absurd h14 (fun z => by rw [nle (by omega) (by omega)] at z; omega)) (fun h14 => ?_)
    refine j_aload_n C (D 8 rfl) rfl ?_
    refine j_getr C f_X11_9 (lit (kd := 11) (n := 12) rfl) rfl rfl (hL _ _ _ rfl) (D 9 rfl) ?_
    refine j_aload_n C (D 10 rfl) rfl ?_
    refine j_geti C f_X11_69 (lit (kd := 11) (n := 12) rfl) rfl rfl (D 11 rfl) ?_
    rw [hT.1]
    refine j_iload_n C (D 12 rfl) rfl ?_
    refine j_iload_n C (D 13 rfl) rfl ?_
    refine j_ishr C (D 14 rfl) ?_
    refine j_i2b C (D 15 rfl) ?_
    refine j_bast C (lit (kd := 21) (n := 1200) rfl) (ix_n (by omega) (by decide)) (D 16 rfl) ?_
    refine j_aload_n C (D 17 rfl) rfl ?_
    refine j_dup C (D 18 rfl) rfl ?_
    refine j_geti C f_X11_69 (lit (kd := 11) (n := 12) rfl) rfl rfl (D 19 rfl) ?_
    refine j_iconst C (v := nI 1) (D 20 rfl) rfl ?_
    refine j_iadd C (D 21 rfl) ?_
    rw [up2_i (show ¬ ((0 : Nat) = 1 ∧ 1 = b.1) by omega), hT.1, nI_add]
    refine j_puti C f_X11_69 (lit (kd := 11) (n := 12) rfl) rfl rfl (D 22 rfl) ?_
    refine j_iinc C (D 23 rfl) rfl rfl rfl ?_
    refine j_goto C 3 (D 24 rfl) (by decide) ?_
    exact L0 _ _ (by show b.1 + 1 + 0 ≤ 1200; omega) (TP_put (by decide) hT) hF.up hE
  have L2 : ∀ (b : BT) (I1 : Nat → Nat → Int32), b.1 + 2 ≤ 1200 → TP I1 0 1 1 b → FrT 0 1 1 I I1 → (put1 (put1 b (oct x 8)) (oct x 0)) = put4 b0 x → J Z (0, 0) 3 [some (.ref (ra G 0)), some (.int x), some (.int 8)] [] (wd I1 L R) := by
    intro b I1 hb hT hF hE
    refine j_iload_n C (D 2 rfl) rfl ?_
    refine j_if_lt C  46 (D 3 rfl) (by decide) (fun h4 => absurd h4 (fun z => absurd z (by decide))) (fun h4 => ?_)
    refine j_aload_n C (D 4 rfl) rfl ?_
    refine j_geti C f_X11_69 (lit (kd := 11) (n := 12) rfl) rfl rfl (D 5 rfl) ?_
    refine j_sipush C (v := nI 1200) (D 6 rfl) rfl ?_
    rw [hT.1]
    refine j_icmp_ge C  40 (D 7 rfl) (by decide) (fun h14 => absurd h14 (fun z => by rw [nle (by omega) (by omega)] at z; omega)) (fun h14 => ?_)
    refine j_aload_n C (D 8 rfl) rfl ?_
    refine j_getr C f_X11_9 (lit (kd := 11) (n := 12) rfl) rfl rfl (hL _ _ _ rfl) (D 9 rfl) ?_
    refine j_aload_n C (D 10 rfl) rfl ?_
    refine j_geti C f_X11_69 (lit (kd := 11) (n := 12) rfl) rfl rfl (D 11 rfl) ?_
    rw [hT.1]
    refine j_iload_n C (D 12 rfl) rfl ?_
    refine j_iload_n C (D 13 rfl) rfl ?_
    refine j_ishr C (D 14 rfl) ?_
    refine j_i2b C (D 15 rfl) ?_
    refine j_bast C (lit (kd := 21) (n := 1200) rfl) (ix_n (by omega) (by decide)) (D 16 rfl) ?_
    refine j_aload_n C (D 17 rfl) rfl ?_
    refine j_dup C (D 18 rfl) rfl ?_
    refine j_geti C f_X11_69 (lit (kd := 11) (n := 12) rfl) rfl rfl (D 19 rfl) ?_
    refine j_iconst C (v := nI 1) (D 20 rfl) rfl ?_
    refine j_iadd C (D 21 rfl) ?_
    rw [up2_i (show ¬ ((0 : Nat) = 1 ∧ 1 = b.1) by omega), hT.1, nI_add]
    refine j_puti C f_X11_69 (lit (kd := 11) (n := 12) rfl) rfl rfl (D 22 rfl) ?_
    refine j_iinc C (D 23 rfl) rfl rfl rfl ?_
    refine j_goto C 3 (D 24 rfl) (by decide) ?_
    exact L1 _ _ (by show b.1 + 1 + 1 ≤ 1200; omega) (TP_put (by decide) hT) hF.up hE
  have L3 : ∀ (b : BT) (I1 : Nat → Nat → Int32), b.1 + 3 ≤ 1200 → TP I1 0 1 1 b → FrT 0 1 1 I I1 → (put1 (put1 (put1 b (oct x 16)) (oct x 8)) (oct x 0)) = put4 b0 x → J Z (0, 0) 3 [some (.ref (ra G 0)), some (.int x), some (.int 16)] [] (wd I1 L R) := by
    intro b I1 hb hT hF hE
    refine j_iload_n C (D 2 rfl) rfl ?_
    refine j_if_lt C  46 (D 3 rfl) (by decide) (fun h4 => absurd h4 (fun z => absurd z (by decide))) (fun h4 => ?_)
    refine j_aload_n C (D 4 rfl) rfl ?_
    refine j_geti C f_X11_69 (lit (kd := 11) (n := 12) rfl) rfl rfl (D 5 rfl) ?_
    refine j_sipush C (v := nI 1200) (D 6 rfl) rfl ?_
    rw [hT.1]
    refine j_icmp_ge C  40 (D 7 rfl) (by decide) (fun h14 => absurd h14 (fun z => by rw [nle (by omega) (by omega)] at z; omega)) (fun h14 => ?_)
    refine j_aload_n C (D 8 rfl) rfl ?_
    refine j_getr C f_X11_9 (lit (kd := 11) (n := 12) rfl) rfl rfl (hL _ _ _ rfl) (D 9 rfl) ?_
    refine j_aload_n C (D 10 rfl) rfl ?_
    refine j_geti C f_X11_69 (lit (kd := 11) (n := 12) rfl) rfl rfl (D 11 rfl) ?_
    rw [hT.1]
    refine j_iload_n C (D 12 rfl) rfl ?_
    refine j_iload_n C (D 13 rfl) rfl ?_
    refine j_ishr C (D 14 rfl) ?_
    refine j_i2b C (D 15 rfl) ?_
    refine j_bast C (lit (kd := 21) (n := 1200) rfl) (ix_n (by omega) (by decide)) (D 16 rfl) ?_
    refine j_aload_n C (D 17 rfl) rfl ?_
    refine j_dup C (D 18 rfl) rfl ?_
    refine j_geti C f_X11_69 (lit (kd := 11) (n := 12) rfl) rfl rfl (D 19 rfl) ?_
    refine j_iconst C (v := nI 1) (D 20 rfl) rfl ?_
    refine j_iadd C (D 21 rfl) ?_
    rw [up2_i (show ¬ ((0 : Nat) = 1 ∧ 1 = b.1) by omega), hT.1, nI_add]
    refine j_puti C f_X11_69 (lit (kd := 11) (n := 12) rfl) rfl rfl (D 22 rfl) ?_
    refine j_iinc C (D 23 rfl) rfl rfl rfl ?_
    refine j_goto C 3 (D 24 rfl) (by decide) ?_
    exact L2 _ _ (by show b.1 + 1 + 2 ≤ 1200; omega) (TP_put (by decide) hT) hF.up hE
  have L4 : ∀ (b : BT) (I1 : Nat → Nat → Int32), b.1 + 4 ≤ 1200 → TP I1 0 1 1 b → FrT 0 1 1 I I1 → (put1 (put1 (put1 (put1 b (oct x 24)) (oct x 16)) (oct x 8)) (oct x 0)) = put4 b0 x → J Z (0, 0) 3 [some (.ref (ra G 0)), some (.int x), some (.int 24)] [] (wd I1 L R) := by
    intro b I1 hb hT hF hE
    refine j_iload_n C (D 2 rfl) rfl ?_
    refine j_if_lt C  46 (D 3 rfl) (by decide) (fun h4 => absurd h4 (fun z => absurd z (by decide))) (fun h4 => ?_)
    refine j_aload_n C (D 4 rfl) rfl ?_
    refine j_geti C f_X11_69 (lit (kd := 11) (n := 12) rfl) rfl rfl (D 5 rfl) ?_
    refine j_sipush C (v := nI 1200) (D 6 rfl) rfl ?_
    rw [hT.1]
    refine j_icmp_ge C  40 (D 7 rfl) (by decide) (fun h14 => absurd h14 (fun z => by rw [nle (by omega) (by omega)] at z; omega)) (fun h14 => ?_)
    refine j_aload_n C (D 8 rfl) rfl ?_
    refine j_getr C f_X11_9 (lit (kd := 11) (n := 12) rfl) rfl rfl (hL _ _ _ rfl) (D 9 rfl) ?_
    refine j_aload_n C (D 10 rfl) rfl ?_
    refine j_geti C f_X11_69 (lit (kd := 11) (n := 12) rfl) rfl rfl (D 11 rfl) ?_
    rw [hT.1]
    refine j_iload_n C (D 12 rfl) rfl ?_
    refine j_iload_n C (D 13 rfl) rfl ?_
    refine j_ishr C (D 14 rfl) ?_
    refine j_i2b C (D 15 rfl) ?_
    refine j_bast C (lit (kd := 21) (n := 1200) rfl) (ix_n (by omega) (by decide)) (D 16 rfl) ?_
    refine j_aload_n C (D 17 rfl) rfl ?_
    refine j_dup C (D 18 rfl) rfl ?_
    refine j_geti C f_X11_69 (lit (kd := 11) (n := 12) rfl) rfl rfl (D 19 rfl) ?_
    refine j_iconst C (v := nI 1) (D 20 rfl) rfl ?_
    refine j_iadd C (D 21 rfl) ?_
    rw [up2_i (show ¬ ((0 : Nat) = 1 ∧ 1 = b.1) by omega), hT.1, nI_add]
    refine j_puti C f_X11_69 (lit (kd := 11) (n := 12) rfl) rfl rfl (D 22 rfl) ?_
    refine j_iinc C (D 23 rfl) rfl rfl rfl ?_
    refine j_goto C 3 (D 24 rfl) (by decide) ?_
    exact L3 _ _ (by show b.1 + 1 + 3 ≤ 1200; omega) (TP_put (by decide) hT) hF.up hE
  refine j_bipush C (v := nI 24) (D 0 rfl) rfl ?_
  refine j_istore_n C (D 1 rfl) rfl ?_
  exact L4 b0 I hb0 hT (fun _ _ _ _ => rfl) rfl
set_option maxRecDepth 20000 in
theorem d_puts4 (l : Launch) (G : GT) {I : Nat → Nat → Int32} {L : Nat → Nat → Int64} {R : Nat → Nat → Option Nat} (hL : Lay R) (b0 : BT) (x : Int32) (hb0 : b0.1 + 4 ≤ 1200) (hT : TP I 172 27 187 b0) : Mt l G mX12_puts4 (0) 0 0 [.ref (ra G 172), .int x] (wd I L R) (fun r w' => r = none ∧ ∃ I', w' = wd I' L R ∧ TP I' 172 27 187 (put4 b0 x) ∧ FrT 172 27 187 I I') := by
  refine mt_of (own := RX12) (by decide) rfl rfl (fun Z C P B => ?_)
  have D := @dc_of _ _ dX12_puts4
  have L0 : ∀ (b : BT) (I1 : Nat → Nat → Int32), b.1 + 0 ≤ 1200 → TP I1 172 27 187 b → FrT 172 27 187 I I1 → b = put4 b0 x → J Z (0, 0) 3 [some (.ref (ra G 172)), some (.int x), some (.int (-8))] [] (wd I1 L R) := by
    intro b I1 hb hT hF hE
    refine j_iload_n C (D 2 rfl) rfl ?_
    refine j_if_lt C  36 (D 3 rfl) (by decide) (fun h4 => ?_) (fun h4 => absurd h4 (fun z => z (by decide)))
    exact j_vret C P rfl (D 21 rfl) ⟨Nat.le_refl _, Nat.le_refl _⟩ ⟨rfl, I1, rfl, by rw [← hE]; exact hT, hF⟩
  have L1 : ∀ (b : BT) (I1 : Nat → Nat → Int32), b.1 + 1 ≤ 1200 → TP I1 172 27 187 b → FrT 172 27 187 I I1 → (put1 b (oct x 0)) = put4 b0 x → J Z (0, 0) 3 [some (.ref (ra G 172)), some (.int x), some (.int 0)] [] (wd I1 L R) := by
    intro b I1 hb hT hF hE
    refine j_iload_n C (D 2 rfl) rfl ?_
    refine j_if_lt C  36 (D 3 rfl) (by decide) (fun h4 => absurd h4 (fun z => absurd z (by decide))) (fun h4 => ?_)
    refine j_aload_n C (D 4 rfl) rfl ?_
    refine j_getr C f_X12_52 (lit (kd := 12) (n := 48) rfl) rfl rfl (hL _ _ _ rfl) (D 5 rfl) ?_
    refine j_aload_n C (D 6 rfl) rfl ?_
    refine j_geti C f_X12_92 (lit (kd := 12) (n := 48) rfl) rfl rfl (D 7 rfl) ?_
    rw [hT.1]
    refine j_iload_n C (D 8 rfl) rfl ?_
    refine j_iload_n C (D 9 rfl) rfl ?_
    refine j_ishr C (D 10 rfl) ?_
    refine j_i2b C (D 11 rfl) ?_
    refine j_bast C (lit (kd := 21) (n := 1200) rfl) (ix_n (by omega) (by decide)) (D 12 rfl) ?_
    refine j_aload_n C (D 13 rfl) rfl ?_
    refine j_dup C (D 14 rfl) rfl ?_
    refine j_geti C f_X12_92 (lit (kd := 12) (n := 48) rfl) rfl rfl (D 15 rfl) ?_
    refine j_iconst C (v := nI 1) (D 16 rfl) rfl ?_
    refine j_iadd C (D 17 rfl) ?_
    rw [up2_i (show ¬ ((172 : Nat) = 187 ∧ 27 = b.1) by omega), hT.1, nI_add]
    refine j_puti C f_X12_92 (lit (kd := 12) (n := 48) rfl) rfl rfl (D 18 rfl) ?_
    refine j_iinc C (D 19 rfl) rfl rfl rfl ?_
    refine j_goto C 3 (D 20 rfl) (by decide) ?_
    exact L0 _ _ (by show b.1 + 1 + 0 ≤ 1200; omega) (TP_put (by decide) hT) hF.up hE
  have L2 : ∀ (b : BT) (I1 : Nat → Nat → Int32), b.1 + 2 ≤ 1200 → TP I1 172 27 187 b → FrT 172 27 187 I I1 → (put1 (put1 b (oct x 8)) (oct x 0)) = put4 b0 x → J Z (0, 0) 3 [some (.ref (ra G 172)), some (.int x), some (.int 8)] [] (wd I1 L R) := by
    intro b I1 hb hT hF hE
    refine j_iload_n C (D 2 rfl) rfl ?_
    refine j_if_lt C  36 (D 3 rfl) (by decide) (fun h4 => absurd h4 (fun z => absurd z (by decide))) (fun h4 => ?_)
    refine j_aload_n C (D 4 rfl) rfl ?_
    refine j_getr C f_X12_52 (lit (kd := 12) (n := 48) rfl) rfl rfl (hL _ _ _ rfl) (D 5 rfl) ?_
    refine j_aload_n C (D 6 rfl) rfl ?_
    refine j_geti C f_X12_92 (lit (kd := 12) (n := 48) rfl) rfl rfl (D 7 rfl) ?_
    rw [hT.1]
    refine j_iload_n C (D 8 rfl) rfl ?_
    refine j_iload_n C (D 9 rfl) rfl ?_
    refine j_ishr C (D 10 rfl) ?_
    refine j_i2b C (D 11 rfl) ?_
    refine j_bast C (lit (kd := 21) (n := 1200) rfl) (ix_n (by omega) (by decide)) (D 12 rfl) ?_
    refine j_aload_n C (D 13 rfl) rfl ?_
    refine j_dup C (D 14 rfl) rfl ?_
    refine j_geti C f_X12_92 (lit (kd := 12) (n := 48) rfl) rfl rfl (D 15 rfl) ?_
    refine j_iconst C (v := nI 1) (D 16 rfl) rfl ?_
    refine j_iadd C (D 17 rfl) ?_
    rw [up2_i (show ¬ ((172 : Nat) = 187 ∧ 27 = b.1) by omega), hT.1, nI_add]
    refine j_puti C f_X12_92 (lit (kd := 12) (n := 48) rfl) rfl rfl (D 18 rfl) ?_
    refine j_iinc C (D 19 rfl) rfl rfl rfl ?_
    refine j_goto C 3 (D 20 rfl) (by decide) ?_
    exact L1 _ _ (by show b.1 + 1 + 1 ≤ 1200; omega) (TP_put (by decide) hT) hF.up hE
  have L3 : ∀ (b : BT) (I1 : Nat → Nat → Int32), b.1 + 3 ≤ 1200 → TP I1 172 27 187 b → FrT 172 27 187 I I1 → (put1 (put1 (put1 b (oct x 16)) (oct x 8)) (oct x 0)) = put4 b0 x → J Z (0, 0) 3 [some (.ref (ra G 172)), some (.int x), some (.int 16)] [] (wd I1 L R) := by
    intro b I1 hb hT hF hE
    refine j_iload_n C (D 2 rfl) rfl ?_
    refine j_if_lt C  36 (D 3 rfl) (by decide) (fun h4 => absurd h4 (fun z => absurd z (by decide))) (fun h4 => ?_)
    refine j_aload_n C (D 4 rfl) rfl ?_
    refine j_getr C f_X12_52 (lit (kd := 12) (n := 48) rfl) rfl rfl (hL _ _ _ rfl) (D 5 rfl) ?_
    refine j_aload_n C (D 6 rfl) rfl ?_
    refine j_geti C f_X12_92 (lit (kd := 12) (n := 48) rfl) rfl rfl (D 7 rfl) ?_
    rw [hT.1]
    refine j_iload_n C (D 8 rfl) rfl ?_
    refine j_iload_n C (D 9 rfl) rfl ?_
    refine j_ishr C (D 10 rfl) ?_
    refine j_i2b C (D 11 rfl) ?_
    refine j_bast C (lit (kd := 21) (n := 1200) rfl) (ix_n (by omega) (by decide)) (D 12 rfl) ?_
    refine j_aload_n C (D 13 rfl) rfl ?_
    refine j_dup C (D 14 rfl) rfl ?_
    refine j_geti C f_X12_92 (lit (kd := 12) (n := 48) rfl) rfl rfl (D 15 rfl) ?_
    refine j_iconst C (v := nI 1) (D 16 rfl) rfl ?_
    refine j_iadd C (D 17 rfl) ?_
    rw [up2_i (show ¬ ((172 : Nat) = 187 ∧ 27 = b.1) by omega), hT.1, nI_add]
    refine j_puti C f_X12_92 (lit (kd := 12) (n := 48) rfl) rfl rfl (D 18 rfl) ?_
    refine j_iinc C (D 19 rfl) rfl rfl rfl ?_
    refine j_goto C 3 (D 20 rfl) (by decide) ?_
    exact L2 _ _ (by show b.1 + 1 + 2 ≤ 1200; omega) (TP_put (by decide) hT) hF.up hE
  have L4 : ∀ (b : BT) (I1 : Nat → Nat → Int32), b.1 + 4 ≤ 1200 → TP I1 172 27 187 b → FrT 172 27 187 I I1 → (put1 (put1 (put1 (put1 b (oct x 24)) (oct x 16)) (oct x 8)) (oct x 0)) = put4 b0 x → J Z (0, 0) 3 [some (.ref (ra G 172)), some (.int x), some (.int 24)] [] (wd I1 L R) := by
    intro b I1 hb hT hF hE
    refine j_iload_n C (D 2 rfl) rfl ?_
    refine j_if_lt C  36 (D 3 rfl) (by decide) (fun h4 => absurd h4 (fun z => absurd z (by decide))) (fun h4 => ?_)
    refine j_aload_n C (D 4 rfl) rfl ?_
    refine j_getr C f_X12_52 (lit (kd := 12) (n := 48) rfl) rfl rfl (hL _ _ _ rfl) (D 5 rfl) ?_
    refine j_aload_n C (D 6 rfl) rfl ?_
    refine j_geti C f_X12_92 (lit (kd := 12) (n := 48) rfl) rfl rfl (D 7 rfl) ?_
    rw [hT.1]
    refine j_iload_n C (D 8 rfl) rfl ?_
    refine j_iload_n C (D 9 rfl) rfl ?_
    refine j_ishr C (D 10 rfl) ?_
    refine j_i2b C (D 11 rfl) ?_
    refine j_bast C (lit (kd := 21) (n := 1200) rfl) (ix_n (by omega) (by decide)) (D 12 rfl) ?_
    refine j_aload_n C (D 13 rfl) rfl ?_
    refine j_dup C (D 14 rfl) rfl ?_
    refine j_geti C f_X12_92 (lit (kd := 12) (n := 48) rfl) rfl rfl (D 15 rfl) ?_
    refine j_iconst C (v := nI 1) (D 16 rfl) rfl ?_
    refine j_iadd C (D 17 rfl) ?_
    rw [up2_i (show ¬ ((172 : Nat) = 187 ∧ 27 = b.1) by omega), hT.1, nI_add]
    refine j_puti C f_X12_92 (lit (kd := 12) (n := 48) rfl) rfl rfl (D 18 rfl) ?_
    refine j_iinc C (D 19 rfl) rfl rfl rfl ?_
    refine j_goto C 3 (D 20 rfl) (by decide) ?_
    exact L3 _ _ (by show b.1 + 1 + 3 ≤ 1200; omega) (TP_put (by decide) hT) hF.up hE
  refine j_bipush C (v := nI 24) (D 0 rfl) rfl ?_
  refine j_istore_n C (D 1 rfl) rfl ?_
  exact L4 b0 I hb0 hT (fun _ _ _ _ => rfl) rfl
