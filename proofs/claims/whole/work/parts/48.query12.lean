theorem spC {N : Nat} {e lo : Int32} (hN : N ≤ 1000) (hlo : lo = -1) : (lo ≤ e ∧ e ≤ nI N - nI 1) ↔ (e = -1 ∨ inR N e) := by
  have h := pr_int2 (b := N) hN
  unfold pr at h
  have e1 : (-1 : Int32).toInt = -1 := by decide
  rw [hlo, i_le, i_le, h, i_eq, e1]
  constructor
  · intro z; by_cases q : e.toInt = -1
    · exact Or.inl q
    · exact Or.inr ⟨by have := z.1; omega, by have := z.2; omega⟩
  · intro z; rcases z with z | z
    · exact ⟨by omega, by omega⟩
    · exact ⟨by have := z.1; omega, by have := z.2; omega⟩
def a_spread (V : VT) (ld : Bool) (a n e : Int32) : Int32 := if inR (vA V) a ∧ wi 0 60 n ∧ (e = -1 ∨ inR (vE V) e) then if e = -1 then nI (mstS (evW V (tn a)) (vE V) (tn n)) else nI (shrS (evW V (tn a)) (vE V) (tn e) (tn n)) else -2
theorem a_spread_t {V : VT} {ld : Bool} {a n e : Int32} (hX : inR (vA V) a ∧ wi 0 60 n ∧ (e = -1 ∨ inR (vE V) e)) : a_spread V ld a n e = if e = -1 then nI (mstS (evW V (tn a)) (vE V) (tn n)) else nI (shrS (evW V (tn a)) (vE V) (tn e) (tn n)) := if_pos hX
theorem a_spread_f {V : VT} {ld : Bool} {a n e : Int32} (hX : ¬ (inR (vA V) a ∧ wi 0 60 n ∧ (e = -1 ∨ inR (vE V) e))) : a_spread V ld a n e = -2 := if_neg hX
set_option maxRecDepth 20000 in
theorem c_spreadQ (l : Launch) (G : GT) {c : Nat} (hc : isC c) {I : Nat → Nat → Int32} {L : Nat → Nat → Int64} {R : Nat → Nat → Option Nat} (hL : Lay R) (hr5 : R 0 5 = some c) {V : VT} (hV : WV V) (hT : CT I c V) (ld : Bool) (hld : I 0 6 = b2 (ld = true)) (a n e : Int32) : Mt l G mX11_spread (6) 0 0 [.ref (ra G 0), .int a, .int n, .int e] (wd I L R) (qC (a_spread V ld a n e) I R) := by
  refine mt_of (own := RX11) (by decide) rfl rfl (fun Z C P B => ?_)
  have D := @dc_of _ _ dX11_spread
  have hE10 := hV.1
  have hA8 := hV.2.1
  refine j_aload_n C (D 0 rfl) rfl ?_
  refine j_iload_n C (D 1 rfl) rfl ?_
  refine j_cVp C B k_X11_184 (rc_obj C (lit (kd := 11) (n := 12) rfl) rfl rfl) (c_hasAthlete _ _ hc hL hr5 hV hT ld hld _) rfl rfl rfl rfl ⟨Nat.le_refl _, Nat.le_refl _⟩ (D 2 rfl) ?_
  refine j_if_eq C  35 (D 3 rfl) (by decide) (fun h5 => ?_) (fun h5 => ?_)
  · refine j_bipush C (v := (-2)) (D 18 rfl) rfl ?_
    exact j_iret C P rfl (D 19 rfl) ⟨Nat.le_refl _, Nat.le_refl _⟩ (qc0 (a_spread_f (fun z => b2_eq h5 z.1)).symm)
  · refine j_iload_n C (D 4 rfl) rfl ?_
    refine j_iconst C (v := nI 0) (D 5 rfl) rfl ?_
    refine j_bipush C (v := nI 60) (D 6 rfl) rfl ?_
    refine j_cSp C B k_X11_158 (c_isWithin _ _ _ _ _ _) rfl rfl rfl rfl ⟨Nat.le_refl _, Nat.le_refl _⟩ (D 7 rfl) ?_
    refine j_if_eq C  35 (D 8 rfl) (by decide) (fun h15 => ?_) (fun h15 => ?_)
    · refine j_bipush C (v := (-2)) (D 18 rfl) rfl ?_
      exact j_iret C P rfl (D 19 rfl) ⟨Nat.le_refl _, Nat.le_refl _⟩ (qc0 (a_spread_f (fun z => b2_eq h15 ((wC (by decide) (by decide)).mpr z.2.1))).symm)
    · refine j_iload_n C (D 9 rfl) rfl ?_
      refine j_iconst C (v := (-1)) (D 10 rfl) rfl ?_
      refine j_aload_n C (D 11 rfl) rfl ?_
      refine j_getr C f_X11_37 (lit (kd := 11) (n := 12) rfl) rfl rfl hr5 (D 12 rfl) ?_
      refine j_geti C f_X11_98 (sC0 hc) rfl rfl (D 13 rfl) ?_
      refine j_iconst C (v := nI 1) (D 14 rfl) rfl ?_
      refine j_isub C (D 15 rfl) ?_
      rw [hT.1]
      refine j_cSp C B k_X11_158 (c_isWithin _ _ _ _ _ _) rfl rfl rfl rfl ⟨Nat.le_refl _, Nat.le_refl _⟩ (D 16 rfl) ?_
      refine j_if_ne C  38 (D 17 rfl) (by decide) (fun h32 => ?_) (fun h32 => ?_)
      · obtain ⟨a, ha, rfl⟩ := inR_n (b2_ne h5)
        have ha8 : a < 8 := by omega
        obtain ⟨n, _, hn, rfl⟩ := wi_n (a := 0) (b := 60) ((wC (by decide) (by decide)).mp (b2_ne h15))
        refine j_aload_n C (D 20 rfl) rfl ?_
        refine j_iload_n C (D 21 rfl) rfl ?_
        refine j_iload_n C (D 22 rfl) rfl ?_
        refine j_callV C B k_X11_274 (rc_obj C (lit (kd := 11) (n := 12) rfl) rfl rfl) (c_shareByEvent _ _ hc hL hr5 hV hT a n ha hn) rfl rfl rfl rfl ⟨Nat.le_refl _, Nat.le_refl _⟩ (D 23 rfl) ?_
        rintro r w' ⟨rfl, I2, rfl, hF2, k1, k2, k3⟩
        refine j_iload_n C (D 24 rfl) rfl ?_
        refine j_iconst C (v := (-1)) (D 25 rfl) rfl ?_
        refine j_icmp_ne C  60 (D 26 rfl) (by decide) (fun h46 => ?_) (fun h46 => ?_)
        · obtain ⟨e, he, rfl⟩ := inR_n (((spC (by omega) rfl).mp (b2_ne h32)).resolve_left h46)
          refine j_aload_n C (D 32 rfl) rfl ?_
          refine j_getr C f_X11_58 (lit (kd := 11) (n := 12) rfl) rfl rfl (hL _ _ _ rfl) (D 33 rfl) ?_
          refine j_iload_n C (D 34 rfl) rfl ?_
          refine j_iload_n C (D 35 rfl) rfl ?_
          refine j_cVp C B k_X11_280 (rc_obj C (lit (kd := 6) (n := 3) rfl) rfl rfl) (c_shareOf _ _ h125 hL (evW V a) (vE V) n hE10 hn (evW_M hV a n) k1 k2 k3 e n he (Nat.le_refl _)) rfl rfl rfl rfl ⟨Nat.le_refl _, Nat.le_refl _⟩ (D 36 rfl) ?_
          exact j_iret C P rfl (D 37 rfl) ⟨Nat.le_refl _, Nat.le_refl _⟩ (qc1 hF2.S (by rw [a_spread_t ⟨(b2_ne h5), ((wC (by decide) (by decide)).mp (b2_ne h15)), ((spC (by omega) rfl).mp (b2_ne h32))⟩, if_neg h46, tn_n (by omega), tn_n (by omega), tn_n (by omega)]))
        · refine j_aload_n C (D 27 rfl) rfl ?_
          refine j_getr C f_X11_58 (lit (kd := 11) (n := 12) rfl) rfl rfl (hL _ _ _ rfl) (D 28 rfl) ?_
          refine j_iload_n C (D 29 rfl) rfl ?_
          refine j_cVp C B k_X11_277 (rc_obj C (lit (kd := 6) (n := 3) rfl) rfl rfl) (c_mostFor _ _ h125 hL (evW V a) (vE V) n hE10 hn (evW_M hV a n) k1 k2 k3 n (Nat.le_refl _)) rfl rfl rfl rfl ⟨Nat.le_refl _, Nat.le_refl _⟩ (D 30 rfl) ?_
          refine j_goto C 69 (D 31 rfl) (by decide) ?_
          exact j_iret C P rfl (D 37 rfl) ⟨Nat.le_refl _, Nat.le_refl _⟩ (qc1 hF2.S (by rw [a_spread_t ⟨(b2_ne h5), ((wC (by decide) (by decide)).mp (b2_ne h15)), ((spC (by omega) rfl).mp (b2_ne h32))⟩, if_pos h46, tn_n (by omega), tn_n (by omega)]))
      · refine j_bipush C (v := (-2)) (D 18 rfl) rfl ?_
        exact j_iret C P rfl (D 19 rfl) ⟨Nat.le_refl _, Nat.le_refl _⟩ (qc0 (a_spread_f (fun z => b2_eq h32 ((spC (by omega) rfl).mpr z.2.2))).symm)
def a_squad (V : VT) (ld : Bool) (n a : Int32) : Int32 := if ld = true ∧ wi 0 60 n ∧ (a = -1 ∨ inR (vA V) a) then if a = -1 then nI (mstS (sqW V) (vA V) (tn n)) else nI (shrS (sqW V) (vA V) (tn a) (tn n)) else -2
theorem a_squad_t {V : VT} {ld : Bool} {n a : Int32} (hX : ld = true ∧ wi 0 60 n ∧ (a = -1 ∨ inR (vA V) a)) : a_squad V ld n a = if a = -1 then nI (mstS (sqW V) (vA V) (tn n)) else nI (shrS (sqW V) (vA V) (tn a) (tn n)) := if_pos hX
theorem a_squad_f {V : VT} {ld : Bool} {n a : Int32} (hX : ¬ (ld = true ∧ wi 0 60 n ∧ (a = -1 ∨ inR (vA V) a))) : a_squad V ld n a = -2 := if_neg hX
set_option maxRecDepth 20000 in
theorem c_squadQ (l : Launch) (G : GT) {c : Nat} (hc : isC c) {I : Nat → Nat → Int32} {L : Nat → Nat → Int64} {R : Nat → Nat → Option Nat} (hL : Lay R) (hr5 : R 0 5 = some c) {V : VT} (hV : WV V) (hT : CT I c V) (ld : Bool) (hld : I 0 6 = b2 (ld = true)) (n a : Int32) : Mt l G mX11_squad (6) 0 0 [.ref (ra G 0), .int n, .int a] (wd I L R) (qC (a_squad V ld n a) I R) := by
  refine mt_of (own := RX11) (by decide) rfl rfl (fun Z C P B => ?_)
  have D := @dc_of _ _ dX11_squad
  have hE10 := hV.1
  have hA8 := hV.2.1
  refine j_aload_n C (D 0 rfl) rfl ?_
  refine j_geti C f_X11_85 (lit (kd := 11) (n := 12) rfl) rfl rfl (D 1 rfl) ?_
  rw [hld]
  refine j_if_eq C  34 (D 2 rfl) (by decide) (fun h4 => ?_) (fun h4 => ?_)
  · refine j_bipush C (v := (-2)) (D 17 rfl) rfl ?_
    exact j_iret C P rfl (D 18 rfl) ⟨Nat.le_refl _, Nat.le_refl _⟩ (qc0 (a_squad_f (fun z => b2_eq h4 z.1)).symm)
  · refine j_iload_n C (D 3 rfl) rfl ?_
    refine j_iconst C (v := nI 0) (D 4 rfl) rfl ?_
    refine j_bipush C (v := nI 60) (D 5 rfl) rfl ?_
    refine j_cSp C B k_X11_158 (c_isWithin _ _ _ _ _ _) rfl rfl rfl rfl ⟨Nat.le_refl _, Nat.le_refl _⟩ (D 6 rfl) ?_
    refine j_if_eq C  34 (D 7 rfl) (by decide) (fun h14 => ?_) (fun h14 => ?_)
    · refine j_bipush C (v := (-2)) (D 17 rfl) rfl ?_
      exact j_iret C P rfl (D 18 rfl) ⟨Nat.le_refl _, Nat.le_refl _⟩ (qc0 (a_squad_f (fun z => b2_eq h14 ((wC (by decide) (by decide)).mpr z.2.1))).symm)
    · refine j_iload_n C (D 8 rfl) rfl ?_
      refine j_iconst C (v := (-1)) (D 9 rfl) rfl ?_
      refine j_aload_n C (D 10 rfl) rfl ?_
      refine j_getr C f_X11_37 (lit (kd := 11) (n := 12) rfl) rfl rfl hr5 (D 11 rfl) ?_
      refine j_geti C f_X11_101 (sC0 hc) rfl rfl (D 12 rfl) ?_
      refine j_iconst C (v := nI 1) (D 13 rfl) rfl ?_
      refine j_isub C (D 14 rfl) ?_
      rw [hT.2.1]
      refine j_cSp C B k_X11_158 (c_isWithin _ _ _ _ _ _) rfl rfl rfl rfl ⟨Nat.le_refl _, Nat.le_refl _⟩ (D 15 rfl) ?_
      refine j_if_ne C  37 (D 16 rfl) (by decide) (fun h31 => ?_) (fun h31 => ?_)
      · obtain ⟨n, _, hn, rfl⟩ := wi_n (a := 0) (b := 60) ((wC (by decide) (by decide)).mp (b2_ne h14))
        refine j_aload_n C (D 19 rfl) rfl ?_
        refine j_iload_n C (D 20 rfl) rfl ?_
        refine j_callV C B k_X11_317 (rc_obj C (lit (kd := 11) (n := 12) rfl) rfl rfl) (c_shareByAthlete _ _ hc hL hr5 hV hT n hn) rfl rfl rfl rfl ⟨Nat.le_refl _, Nat.le_refl _⟩ (D 21 rfl) ?_
        rintro r w' ⟨rfl, I2, rfl, hF2, k1, k2, k3⟩
        refine j_iload_n C (D 22 rfl) rfl ?_
        refine j_iconst C (v := (-1)) (D 23 rfl) rfl ?_
        refine j_icmp_ne C  58 (D 24 rfl) (by decide) (fun h44 => ?_) (fun h44 => ?_)
        · obtain ⟨a, ha, rfl⟩ := inR_n (((spC (by omega) rfl).mp (b2_ne h31)).resolve_left h44)
          refine j_aload_n C (D 30 rfl) rfl ?_
          refine j_getr C f_X11_62 (lit (kd := 11) (n := 12) rfl) rfl rfl (hL _ _ _ rfl) (D 31 rfl) ?_
          refine j_iload_n C (D 32 rfl) rfl ?_
          refine j_iload_n C (D 33 rfl) rfl ?_
          refine j_cVp C B k_X11_280 (rc_obj C (lit (kd := 6) (n := 3) rfl) rfl rfl) (c_shareOf _ _ h148 hL (sqW V) (vA V) n (by omega) hn (sqW_M hV n) k1 k2 k3 a n ha (Nat.le_refl _)) rfl rfl rfl rfl ⟨Nat.le_refl _, Nat.le_refl _⟩ (D 34 rfl) ?_
          exact j_iret C P rfl (D 35 rfl) ⟨Nat.le_refl _, Nat.le_refl _⟩ (qc1 hF2.S (by rw [a_squad_t ⟨(b2_ne h4), ((wC (by decide) (by decide)).mp (b2_ne h14)), ((spC (by omega) rfl).mp (b2_ne h31))⟩, if_neg h44, tn_n (by omega), tn_n (by omega)]))
        · refine j_aload_n C (D 25 rfl) rfl ?_
          refine j_getr C f_X11_62 (lit (kd := 11) (n := 12) rfl) rfl rfl (hL _ _ _ rfl) (D 26 rfl) ?_
          refine j_iload_n C (D 27 rfl) rfl ?_
          refine j_cVp C B k_X11_277 (rc_obj C (lit (kd := 6) (n := 3) rfl) rfl rfl) (c_mostFor _ _ h148 hL (sqW V) (vA V) n (by omega) hn (sqW_M hV n) k1 k2 k3 n (Nat.le_refl _)) rfl rfl rfl rfl ⟨Nat.le_refl _, Nat.le_refl _⟩ (D 28 rfl) ?_
          refine j_goto C 67 (D 29 rfl) (by decide) ?_
          exact j_iret C P rfl (D 35 rfl) ⟨Nat.le_refl _, Nat.le_refl _⟩ (qc1 hF2.S (by rw [a_squad_t ⟨(b2_ne h4), ((wC (by decide) (by decide)).mp (b2_ne h14)), ((spC (by omega) rfl).mp (b2_ne h31))⟩, if_pos h44, tn_n (by omega)]))
      · refine j_bipush C (v := (-2)) (D 17 rfl) rfl ?_
        exact j_iret C P rfl (D 18 rfl) ⟨Nat.le_refl _, Nat.le_refl _⟩ (qc0 (a_squad_f (fun z => b2_eq h31 ((spC (by omega) rfl).mpr z.2.2))).symm)
def hrF (V : VT) (a : Nat) (n : Int32) (h : Nat) : Bool := decide (n ≤ nI (sqW V a h))
def a_hours (V : VT) (ld : Bool) (a n : Int32) : Int32 := if inR (vA V) a ∧ wi 0 99999 n then fst1 (hrF V (tn a) n) 61 0 else -2
theorem a_hours_t {V : VT} {ld : Bool} {a n : Int32} (hX : inR (vA V) a ∧ wi 0 99999 n) : a_hours V ld a n = fst1 (hrF V (tn a) n) 61 0 := if_pos hX
theorem a_hours_f {V : VT} {ld : Bool} {a n : Int32} (hX : ¬ (inR (vA V) a ∧ wi 0 99999 n)) : a_hours V ld a n = -2 := if_neg hX
set_option maxRecDepth 20000 in
theorem c_hoursQ (l : Launch) (G : GT) {c : Nat} (hc : isC c) {I : Nat → Nat → Int32} {L : Nat → Nat → Int64} {R : Nat → Nat → Option Nat} (hL : Lay R) (hr5 : R 0 5 = some c) {V : VT} (hV : WV V) (hT : CT I c V) (ld : Bool) (hld : I 0 6 = b2 (ld = true)) (a n : Int32) : Mt l G mX11_hours (6) 0 0 [.ref (ra G 0), .int a, .int n] (wd I L R) (qC (a_hours V ld a n) I R) := by
  refine mt_of (own := RX11) (by decide) rfl rfl (fun Z C P B => ?_)
  have D := @dc_of _ _ dX11_hours
  have hE10 := hV.1
  have hA8 := hV.2.1
  refine j_aload_n C (D 0 rfl) rfl ?_
  refine j_iload_n C (D 1 rfl) rfl ?_
  refine j_cVp C B k_X11_184 (rc_obj C (lit (kd := 11) (n := 12) rfl) rfl rfl) (c_hasAthlete _ _ hc hL hr5 hV hT ld hld _) rfl rfl rfl rfl ⟨Nat.le_refl _, Nat.le_refl _⟩ (D 2 rfl) ?_
  refine j_if_eq C  18 (D 3 rfl) (by decide) (fun h5 => ?_) (fun h5 => ?_)
  · refine j_bipush C (v := (-2)) (D 9 rfl) rfl ?_
    exact j_iret C P rfl (D 10 rfl) ⟨Nat.le_refl _, Nat.le_refl _⟩ (qc0 (a_hours_f (fun z => b2_eq h5 z.1)).symm)
  · refine j_iload_n C (D 4 rfl) rfl ?_
    refine j_iconst C (v := nI 0) (D 5 rfl) rfl ?_
    refine j_ldc C (v := 99999) (D 6 rfl) n_X11_236 ?_
    refine j_cSp C B k_X11_158 (c_isWithin _ _ _ _ _ _) rfl rfl rfl rfl ⟨Nat.le_refl _, Nat.le_refl _⟩ (D 7 rfl) ?_
    refine j_if_ne C  21 (D 8 rfl) (by decide) (fun h15 => ?_) (fun h15 => ?_)
    · obtain ⟨a, ha, rfl⟩ := inR_n (b2_ne h5)
      have ha8 : a < 8 := by omega
      refine j_aload_n C (D 11 rfl) rfl ?_
      refine j_iload_n C (D 12 rfl) rfl ?_
      refine j_bipush C (v := nI 60) (D 13 rfl) rfl ?_
      refine j_callV C B k_X11_274 (rc_obj C (lit (kd := 11) (n := 12) rfl) rfl rfl) (c_shareByEvent _ _ hc hL hr5 hV hT a 60 ha (by omega)) rfl rfl rfl rfl ⟨Nat.le_refl _, Nat.le_refl _⟩ (D 14 rfl) ?_
      rintro r w' ⟨rfl, I2, rfl, hF2, k1, k2, k3⟩
      refine j_iconst C (v := nI 0) (D 15 rfl) rfl ?_
      refine j_istore_n C (D 16 rfl) rfl ?_
      have Lp : ∀ (m h : Nat), h + m = 61 → fst1 (hrF V a n) 61 0 = fst1 (hrF V a n) m h → J Z (0, 0) 30 [some (.ref (ra G 0)), some (.int (nI a)), some (.int n), some (.int (nI h))] [] (wd I2 L R) := by
        intro m
        induction m with
        | zero =>
          intro h hh hf
          refine j_iload_n C (D 17 rfl) rfl ?_
          refine j_bipush C (v := nI 60) (D 18 rfl) rfl ?_
          refine j_icmp_gt C  56 (D 19 rfl) (by decide) (fun h33 => ?_) (fun h33 => absurd h33 (fun z => z ((nlt (by omega) (by omega)).mpr (by omega))))
          refine j_iconst C (v := (-1)) (D 30 rfl) rfl ?_
          exact j_iret C P rfl (D 31 rfl) ⟨Nat.le_refl _, Nat.le_refl _⟩ (qc1 hF2.S (by rw [a_hours_t ⟨(b2_ne h5), ((wC (by decide) (by decide)).mp (b2_ne h15))⟩, tn_n (by omega), hf]; rfl))
        | succ m ih =>
          intro h hh hf
          refine j_iload_n C (D 17 rfl) rfl ?_
          refine j_bipush C (v := nI 60) (D 18 rfl) rfl ?_
          refine j_icmp_gt C  56 (D 19 rfl) (by decide) (fun h33 => absurd h33 (fun z => by rw [nlt (by omega) (by omega)] at z; omega)) (fun h33 => ?_)
          refine j_aload_n C (D 20 rfl) rfl ?_
          refine j_getr C f_X11_58 (lit (kd := 11) (n := 12) rfl) rfl rfl (hL _ _ _ rfl) (D 21 rfl) ?_
          refine j_iload_n C (D 22 rfl) rfl ?_
          refine j_cVp C B k_X11_277 (rc_obj C (lit (kd := 6) (n := 3) rfl) rfl rfl) (c_mostFor _ _ h125 hL (evW V a) (vE V) 60 hE10 (by omega) (evW_M hV a 60) k1 k2 k3 h (by omega)) rfl rfl rfl rfl ⟨Nat.le_refl _, Nat.le_refl _⟩ (D 23 rfl) ?_
          refine j_iload_n C (D 24 rfl) rfl ?_
          refine j_icmp_lt C  50 (D 25 rfl) (by decide) (fun h45 => ?_) (fun h45 => ?_)
          · first | refine j_iinc1 C (D 28 rfl) rfl rfl ?_ | refine j_iinc C (D 28 rfl) rfl rfl rfl ?_
            refine j_goto C 30 (D 29 rfl) (by decide) ?_
            exact ih (h + 1) (by omega) (by rw [hf, fst1, if_neg (fun (z : hrF V a n h = true) => by have z := of_decide_eq_true z; unfold sqW at z; rw [i_lt] at h45; rw [i_le] at z; omega)])
          · refine j_iload_n C (D 26 rfl) rfl ?_
            exact j_iret C P rfl (D 27 rfl) ⟨Nat.le_refl _, Nat.le_refl _⟩ (qc1 hF2.S (by rw [a_hours_t ⟨(b2_ne h5), ((wC (by decide) (by decide)).mp (b2_ne h15))⟩, tn_n (by omega), hf, fst1, if_pos (show hrF V a n h = true from decide_eq_true (by rw [i_lt] at h45; rw [i_le]; unfold sqW; omega))]))
      exact Lp 61 0 (by omega) rfl
    · refine j_bipush C (v := (-2)) (D 9 rfl) rfl ?_
      exact j_iret C P rfl (D 10 rfl) ⟨Nat.le_refl _, Nat.le_refl _⟩ (qc0 (a_hours_f (fun z => b2_eq h15 ((wC (by decide) (by decide)).mpr z.2))).symm)
set_option maxRecDepth 20000 in
theorem d_hoursQ (l : Launch) (G : GT) {I : Nat → Nat → Int32} {L : Nat → Nat → Int64} {R : Nat → Nat → Option Nat} (hL : Lay R) {V : VT} (hV : WV V) (hM : MT I V) (ld : Bool) (hld : I 172 1 = b2 (ld = true)) (a n : Int32) : Mt l G mX12_hours (9) 0 0 [.ref (ra G 172), .int a, .int n] (wd I L R) (qM (a_hours V ld a n) I R) := by
  refine mt_of (own := RX12) (by decide) rfl rfl (fun Z C P B => ?_)
  have D := @dc_of _ _ dX12_hours
  have hE10 := hV.1
  have hA8 := hV.2.1
  refine j_aload_n C (D 0 rfl) rfl ?_
  refine j_iload_n C (D 1 rfl) rfl ?_
  refine j_cVp C B k_X12_317 (rc_obj C (lit (kd := 12) (n := 48) rfl) rfl rfl) (d_isOne _ _ hL (vA V) hM.2.1 (by omega) _) rfl rfl rfl rfl ⟨Nat.le_refl _, Nat.le_refl _⟩ (D 2 rfl) ?_
  refine j_if_eq C  20 (D 3 rfl) (by decide) (fun h5 => ?_) (fun h5 => ?_)
  · refine j_bipush C (v := (-2)) (D 10 rfl) rfl ?_
    exact j_iret C P rfl (D 11 rfl) ⟨Nat.le_refl _, Nat.le_refl _⟩ (qm0 (a_hours_f (fun z => b2_eq h5 z.1)).symm)
  · refine j_iload_n C (D 4 rfl) rfl ?_
    refine j_i2l C (D 5 rfl) ?_
    refine j_lconst C (v := 0) (D 6 rfl) rfl ?_
    refine j_ldc2_w C (v := 99999) (D 7 rfl) n_X12_175 ?_
    refine j_cSp C B k_X12_99 (d_in _ _ _ _ _ _) rfl rfl rfl rfl ⟨Nat.le_refl _, Nat.le_refl _⟩ (D 8 rfl) ?_
    refine j_if_ne C  23 (D 9 rfl) (by decide) (fun h17 => ?_) (fun h17 => ?_)
    · obtain ⟨a, ha, rfl⟩ := inR_n (b2_ne h5)
      have ha8 : a < 8 := by omega
      refine j_aload_n C (D 12 rfl) rfl ?_
      refine j_iload_n C (D 13 rfl) rfl ?_
      refine j_callV C B k_X12_448 (rc_obj C (lit (kd := 12) (n := 48) rfl) rfl rfl) (d_laysSpread _ _ hL hV hM a ha) rfl rfl rfl rfl ⟨Nat.le_refl _, Nat.le_refl _⟩ (D 14 rfl) ?_
      rintro r w' ⟨rfl, I2, rfl, hF2, hB⟩
      have hM2 := MT_fr hM (show FrM I I2 from fun b j q => hF2 b j (by omega))
      refine j_iconst C (v := nI 0) (D 15 rfl) rfl ?_
      refine j_istore_n C (D 16 rfl) rfl ?_
      have Lp : ∀ (m h : Nat), h + m = 61 → fst1 (hrF V a n) 61 0 = fst1 (hrF V a n) m h → J Z (0, 0) 30 [some (.ref (ra G 172)), some (.int (nI a)), some (.int n), some (.int (nI h))] [] (wd I2 L R) := by
        intro m
        induction m with
        | zero =>
          intro h hh hf
          refine j_iload_n C (D 17 rfl) rfl ?_
          refine j_bipush C (v := nI 60) (D 18 rfl) rfl ?_
          refine j_icmp_gt C  58 (D 19 rfl) (by decide) (fun h33 => ?_) (fun h33 => absurd h33 (fun z => z ((nlt (by omega) (by omega)).mpr (by omega))))
          refine j_iconst C (v := (-1)) (D 32 rfl) rfl ?_
          exact j_iret C P rfl (D 33 rfl) ⟨Nat.le_refl _, Nat.le_refl _⟩ (qm1 (fun b j q => hF2 b j (by omega)) (by rw [a_hours_t ⟨(b2_ne h5), ((wL (by decide) (by decide)).mp (b2_ne h17))⟩, tn_n (by omega), hf]; rfl))
        | succ m ih =>
          intro h hh hf
          refine j_iload_n C (D 17 rfl) rfl ?_
          refine j_bipush C (v := nI 60) (D 18 rfl) rfl ?_
          refine j_icmp_gt C  58 (D 19 rfl) (by decide) (fun h33 => absurd h33 (fun z => by rw [nlt (by omega) (by omega)] at z; omega)) (fun h33 => ?_)
          refine j_aload_n C (D 20 rfl) rfl ?_
          refine j_getr C f_X12_71 (lit (kd := 12) (n := 48) rfl) rfl rfl (hL _ _ _ rfl) (D 21 rfl) ?_
          refine j_iconst C (v := nI 0) (D 22 rfl) rfl ?_
          refine j_iload_n C (D 23 rfl) rfl ?_
          refine j_cSp C B k_X12_437 (d_byAt _ _ hL (0) (h)) rfl rfl rfl rfl ⟨Nat.le_refl _, Nat.le_refl _⟩ (D 24 rfl) ?_
          refine j_iald C (lit (kd := 20) (n := 671) rfl) (ix_n (by omega) (by decide)) (D 25 rfl) ?_
          rw [hB 0 h (by omega) (by omega) (by omega), mB_0]
          refine j_iload_n C (D 26 rfl) rfl ?_
          refine j_icmp_lt C  52 (D 27 rfl) (by decide) (fun h47 => ?_) (fun h47 => ?_)
          · first | refine j_iinc1 C (D 30 rfl) rfl rfl ?_ | refine j_iinc C (D 30 rfl) rfl rfl rfl ?_
            refine j_goto C 30 (D 31 rfl) (by decide) ?_
            exact ih (h + 1) (by omega) (by rw [hf, fst1, if_neg (fun (z : hrF V a n h = true) => by have z := of_decide_eq_true z; unfold sqW at z; rw [i_lt] at h47; rw [i_le] at z; omega)])
          · refine j_iload_n C (D 28 rfl) rfl ?_
            exact j_iret C P rfl (D 29 rfl) ⟨Nat.le_refl _, Nat.le_refl _⟩ (qm1 (fun b j q => hF2 b j (by omega)) (by rw [a_hours_t ⟨(b2_ne h5), ((wL (by decide) (by decide)).mp (b2_ne h17))⟩, tn_n (by omega), hf, fst1, if_pos (show hrF V a n h = true from decide_eq_true (by rw [i_lt] at h47; rw [i_le]; unfold sqW; omega))]))
      exact Lp 61 0 (by omega) rfl
    · refine j_bipush C (v := (-2)) (D 10 rfl) rfl ?_
      exact j_iret C P rfl (D 11 rfl) ⟨Nat.le_refl _, Nat.le_refl _⟩ (qm0 (a_hours_f (fun z => b2_eq h17 ((wL (by decide) (by decide)).mpr z.2))).symm)
set_option maxRecDepth 20000 in
theorem d_spreadQ (l : Launch) (G : GT) {I : Nat → Nat → Int32} {L : Nat → Nat → Int64} {R : Nat → Nat → Option Nat} (hL : Lay R) {V : VT} (hV : WV V) (hM : MT I V) (ld : Bool) (hld : I 172 1 = b2 (ld = true)) (a n e : Int32) : Mt l G mX12_spread (9) 0 0 [.ref (ra G 172), .int a, .int n, .int e] (wd I L R) (qM (a_spread V ld a n e) I R) := by
  refine mt_of (own := RX12) (by decide) rfl rfl (fun Z C P B => ?_)
  have D := @dc_of _ _ dX12_spread
  have hE10 := hV.1
  have hA8 := hV.2.1
  refine j_aload_n C (D 0 rfl) rfl ?_
  refine j_iload_n C (D 1 rfl) rfl ?_
  refine j_cVp C B k_X12_317 (rc_obj C (lit (kd := 12) (n := 48) rfl) rfl rfl) (d_isOne _ _ hL (vA V) hM.2.1 (by omega) _) rfl rfl rfl rfl ⟨Nat.le_refl _, Nat.le_refl _⟩ (D 2 rfl) ?_
  refine j_if_eq C  33 (D 3 rfl) (by decide) (fun h5 => ?_) (fun h5 => ?_)
  · refine j_bipush C (v := (-2)) (D 17 rfl) rfl ?_
    exact j_iret C P rfl (D 18 rfl) ⟨Nat.le_refl _, Nat.le_refl _⟩ (qm0 (a_spread_f (fun z => b2_eq h5 z.1)).symm)
  · refine j_iload_n C (D 4 rfl) rfl ?_
    refine j_i2l C (D 5 rfl) ?_
    refine j_lconst C (v := 0) (D 6 rfl) rfl ?_
    refine j_ldc2_w C (v := 60) (D 7 rfl) n_X12_446 ?_
    refine j_cSp C B k_X12_99 (d_in _ _ _ _ _ _) rfl rfl rfl rfl ⟨Nat.le_refl _, Nat.le_refl _⟩ (D 8 rfl) ?_
    refine j_if_eq C  33 (D 9 rfl) (by decide) (fun h17 => ?_) (fun h17 => ?_)
    · refine j_bipush C (v := (-2)) (D 17 rfl) rfl ?_
      exact j_iret C P rfl (D 18 rfl) ⟨Nat.le_refl _, Nat.le_refl _⟩ (qm0 (a_spread_f (fun z => b2_eq h17 ((wL (by decide) (by decide)).mpr z.2.1))).symm)
    · refine j_iload_n C (D 10 rfl) rfl ?_
      refine j_iconst C (v := (-1)) (D 11 rfl) rfl ?_
      refine j_icmp_eq C  36 (D 12 rfl) (by decide) (fun h22 => ?_) (fun h22 => ?_)
      · obtain ⟨a, ha, rfl⟩ := inR_n (b2_ne h5)
        have ha8 : a < 8 := by omega
        obtain ⟨n, _, hn, rfl⟩ := wi_n (a := 0) (b := 60) ((wL (by decide) (by decide)).mp (b2_ne h17))
        have hor : e = -1 ∨ inR (vE V) e := Or.inl h22
        refine j_aload_n C (D 19 rfl) rfl ?_
        refine j_iload_n C (D 20 rfl) rfl ?_
        refine j_callV C B k_X12_448 (rc_obj C (lit (kd := 12) (n := 48) rfl) rfl rfl) (d_laysSpread _ _ hL hV hM a ha) rfl rfl rfl rfl ⟨Nat.le_refl _, Nat.le_refl _⟩ (D 21 rfl) ?_
        rintro r w' ⟨rfl, I2, rfl, hF2, hB⟩
        have hM2 := MT_fr hM (show FrM I I2 from fun b j q => hF2 b j (by omega))
        refine j_iload_n C (D 22 rfl) rfl ?_
        refine j_iconst C (v := (-1)) (D 23 rfl) rfl ?_
        refine j_icmp_ne C  57 (D 24 rfl) (by decide) (fun h43 => ?_) (fun h43 => ?_)
        · obtain ⟨e, he, rfl⟩ := inR_n (hor.resolve_left h43)
          have hne := h43
          refine j_iload_n C (D 32 rfl) rfl ?_
          refine j_istore C (D 33 rfl) rfl ?_
          refine j_iconst C (v := nI 0) (D 34 rfl) rfl ?_
          refine j_istore C (D 35 rfl) rfl ?_
          refine j_iconst C (v := nI 0) (D 36 rfl) rfl ?_
          refine j_istore C (D 37 rfl) rfl ?_
          have Lp : ∀ (m i lf h0 : Nat), i + m = e + 1 → h0 ≤ lf → lf ≤ 60 → lf - h0 = lftS (evW V a) (vE V) n i → (i = e + 1 → h0 = shrS (evW V a) (vE V) e n) → J Z (0, 0) 66 [some (.ref (ra G 172)), some (.int (nI a)), some (.int (nI n)), some (.int (nI e)), some (.int (nI lf)), some (.int (nI h0)), some (.int (nI i))] [] (wd I2 L R) := by
            intro m
            induction m with
            | zero =>
              intro i lf h0 hi hle hl60a hlf hlast
              refine j_iload C (D 38 rfl) rfl ?_
              refine j_iload_n C (D 39 rfl) rfl ?_
              refine j_icmp_gt C  120 (D 40 rfl) (by decide) (fun h69 => ?_) (fun h69 => absurd h69 (fun z => z ((nlt (by omega) (by omega)).mpr (by omega))))
              refine j_iload C (D 64 rfl) rfl ?_
              exact j_iret C P rfl (D 65 rfl) ⟨Nat.le_refl _, Nat.le_refl _⟩ (qm1 (fun b j q => hF2 b j (by omega)) (by rw [a_spread_t ⟨b2_ne h5, (wL (by decide) (by decide)).mp (b2_ne h17), hor⟩, if_neg hne, tn_n (by omega), tn_n (by omega), tn_n (by omega), hlast (by omega)]))
            | succ m ih =>
              intro i lf h0 hi hle hl60a hlf hlast
              refine j_iload C (D 38 rfl) rfl ?_
              refine j_iload_n C (D 39 rfl) rfl ?_
              refine j_icmp_gt C  120 (D 40 rfl) (by decide) (fun h69 => absurd h69 (fun z => by rw [nlt (by omega) (by omega)] at z; omega)) (fun h69 => ?_)
              refine j_iload C (D 41 rfl) rfl ?_
              refine j_iload C (D 42 rfl) rfl ?_
              refine j_isub C (D 43 rfl) ?_
              rw [pk_sub hle]
              obtain ⟨lz, hlz0⟩ : ∃ x, x = lf - h0 := ⟨_, rfl⟩
              rw [← hlz0]
              have hlz : lz = lftS (evW V a) (vE V) n i := hlz0.trans hlf
              have hl60 : lz ≤ 60 := by have := lftS_le (evW V a) (vE V) n i; omega
              have hfl := fewS_le (evW V a) (vE V) i lz
              refine j_istore C (D 44 rfl) rfl ?_
              refine j_iconst C (v := nI 0) (D 45 rfl) rfl ?_
              refine j_istore C (D 46 rfl) rfl ?_
              have Lw : ∀ (m h : Nat), h + m = fewS (evW V a) (vE V) i lz → J Z (0, 0) 82 [some (.ref (ra G 172)), some (.int (nI a)), some (.int (nI n)), some (.int (nI e)), some (.int (nI lz)), some (.int (nI h)), some (.int (nI i))] [] (wd I2 L R) := by
                intro m
                induction m with
                | zero =>
                  intro h hh
                  refine j_aload_n C (D 47 rfl) rfl ?_
                  refine j_iload_n C (D 48 rfl) rfl ?_
                  refine j_iload C (D 49 rfl) rfl ?_
                  refine j_iload C (D 50 rfl) rfl ?_
                  refine j_iload C (D 51 rfl) rfl ?_
                  refine j_cVp C B k_X12_442 (rc_obj C (lit (kd := 12) (n := 48) rfl) rfl rfl) (d_spreadBy _ _ hL hV hM2 a i h lz ha (by omega) (by omega) hl60 (fun j h9 q1 q2 q3 => hB j h9 (by omega) q2 q3)) rfl rfl rfl rfl ⟨Nat.le_refl _, Nat.le_refl _⟩ (D 52 rfl) ?_
                  refine j_aload_n C (D 53 rfl) rfl ?_
                  refine j_getr C f_X12_71 (lit (kd := 12) (n := 48) rfl) rfl rfl (hL _ _ _ rfl) (D 54 rfl) ?_
                  refine j_iload C (D 55 rfl) rfl ?_
                  refine j_iload C (D 56 rfl) rfl ?_
                  refine j_cSp C B k_X12_437 (d_byAt _ _ hL (i) (lz)) rfl rfl rfl rfl ⟨Nat.le_refl _, Nat.le_refl _⟩ (D 57 rfl) ?_
                  refine j_iald C (lit (kd := 20) (n := 671) rfl) (ix_n (by omega) (by decide)) (D 58 rfl) ?_
                  rw [hB i lz (by omega) (by omega) (by omega)]
                  refine j_icmp_eq C  114 (D 59 rfl) (by decide) (fun h105 => ?_) (fun h105 => absurd h105 (fun z => z ((few_iff KB_1 (evW_M hV a 60) hE10 (by omega) (by omega) (by omega)).mpr (by omega))))
                  first | refine j_iinc1 C (D 62 rfl) rfl rfl ?_ | refine j_iinc C (D 62 rfl) rfl rfl rfl ?_
                  refine j_goto C 66 (D 63 rfl) (by decide) ?_
                  have hfe := (few_iff KB_1 (evW_M hV a 60) hE10 (by omega) (by omega) (by omega)).mp h105
                  exact ih (i + 1) lz h (by omega) (by omega) (by omega) (by rw [lftS, ← hlz, ← hfe]) (fun z => by rw [hfe, shrS, show e = i by omega, hlz])
                | succ m ihw =>
                  intro h hh
                  refine j_aload_n C (D 47 rfl) rfl ?_
                  refine j_iload_n C (D 48 rfl) rfl ?_
                  refine j_iload C (D 49 rfl) rfl ?_
                  refine j_iload C (D 50 rfl) rfl ?_
                  refine j_iload C (D 51 rfl) rfl ?_
                  refine j_cVp C B k_X12_442 (rc_obj C (lit (kd := 12) (n := 48) rfl) rfl rfl) (d_spreadBy _ _ hL hV hM2 a i h lz ha (by omega) (by omega) hl60 (fun j h9 q1 q2 q3 => hB j h9 (by omega) q2 q3)) rfl rfl rfl rfl ⟨Nat.le_refl _, Nat.le_refl _⟩ (D 52 rfl) ?_
                  refine j_aload_n C (D 53 rfl) rfl ?_
                  refine j_getr C f_X12_71 (lit (kd := 12) (n := 48) rfl) rfl rfl (hL _ _ _ rfl) (D 54 rfl) ?_
                  refine j_iload C (D 55 rfl) rfl ?_
                  refine j_iload C (D 56 rfl) rfl ?_
                  refine j_cSp C B k_X12_437 (d_byAt _ _ hL (i) (lz)) rfl rfl rfl rfl ⟨Nat.le_refl _, Nat.le_refl _⟩ (D 57 rfl) ?_
                  refine j_iald C (lit (kd := 20) (n := 671) rfl) (ix_n (by omega) (by decide)) (D 58 rfl) ?_
                  rw [hB i lz (by omega) (by omega) (by omega)]
                  refine j_icmp_eq C  114 (D 59 rfl) (by decide) (fun h105 => ?_) (fun h105 => ?_)
                  · first | refine j_iinc1 C (D 62 rfl) rfl rfl ?_ | refine j_iinc C (D 62 rfl) rfl rfl rfl ?_
                    refine j_goto C 66 (D 63 rfl) (by decide) ?_
                    have hfe := (few_iff KB_1 (evW_M hV a 60) hE10 (by omega) (by omega) (by omega)).mp h105
                    exact ih (i + 1) lz h (by omega) (by omega) (by omega) (by rw [lftS, ← hlz, ← hfe]) (fun z => by rw [hfe, shrS, show e = i by omega, hlz])
                  · first | refine j_iinc1 C (D 60 rfl) rfl rfl ?_ | refine j_iinc C (D 60 rfl) rfl rfl rfl ?_
                    refine j_goto C 82 (D 61 rfl) (by decide) ?_
                    have hfe := fun z => h105 ((few_iff KB_1 (evW_M hV a 60) hE10 (by omega) (by omega) (by omega)).mpr z)
                    exact ihw (h + 1) (by omega)
              exact Lw (fewS (evW V a) (vE V) i lz) 0 (by omega)
          exact Lp (e + 1) 0 n 0 (by omega) (by omega) hn (by rw [lftS]; omega) (fun z => absurd z (by omega))
        · refine j_aload_n C (D 25 rfl) rfl ?_
          refine j_getr C f_X12_71 (lit (kd := 12) (n := 48) rfl) rfl rfl (hL _ _ _ rfl) (D 26 rfl) ?_
          refine j_iconst C (v := nI 0) (D 27 rfl) rfl ?_
          refine j_iload_n C (D 28 rfl) rfl ?_
          refine j_cSp C B k_X12_437 (d_byAt _ _ hL (0) (n)) rfl rfl rfl rfl ⟨Nat.le_refl _, Nat.le_refl _⟩ (D 29 rfl) ?_
          refine j_iald C (lit (kd := 20) (n := 671) rfl) (ix_n (by omega) (by decide)) (D 30 rfl) ?_
          rw [hB 0 n (by omega) (by omega) (by omega), mB_0]
          exact j_iret C P rfl (D 31 rfl) ⟨Nat.le_refl _, Nat.le_refl _⟩ (qm1 (fun b j q => hF2 b j (by omega)) (by rw [a_spread_t ⟨b2_ne h5, (wL (by decide) (by decide)).mp (b2_ne h17), hor⟩, if_pos h43, tn_n (by omega), tn_n (by omega)]))
      · refine j_aload_n C (D 13 rfl) rfl ?_
        refine j_iload_n C (D 14 rfl) rfl ?_
        refine j_cVp C B k_X12_320 (rc_obj C (lit (kd := 12) (n := 48) rfl) rfl rfl) (d_isEvent _ _ hL (vE V) hM.1 (by omega) _) rfl rfl rfl rfl ⟨Nat.le_refl _, Nat.le_refl _⟩ (D 15 rfl) ?_
        refine j_if_ne C  36 (D 16 rfl) (by decide) (fun h30 => ?_) (fun h30 => ?_)
        · obtain ⟨a, ha, rfl⟩ := inR_n (b2_ne h5)
          have ha8 : a < 8 := by omega
          obtain ⟨n, _, hn, rfl⟩ := wi_n (a := 0) (b := 60) ((wL (by decide) (by decide)).mp (b2_ne h17))
          have hor : e = -1 ∨ inR (vE V) e := Or.inr (b2_ne h30)
          refine j_aload_n C (D 19 rfl) rfl ?_
          refine j_iload_n C (D 20 rfl) rfl ?_
          refine j_callV C B k_X12_448 (rc_obj C (lit (kd := 12) (n := 48) rfl) rfl rfl) (d_laysSpread _ _ hL hV hM a ha) rfl rfl rfl rfl ⟨Nat.le_refl _, Nat.le_refl _⟩ (D 21 rfl) ?_
          rintro r w' ⟨rfl, I2, rfl, hF2, hB⟩
          have hM2 := MT_fr hM (show FrM I I2 from fun b j q => hF2 b j (by omega))
          refine j_iload_n C (D 22 rfl) rfl ?_
          refine j_iconst C (v := (-1)) (D 23 rfl) rfl ?_
          refine j_icmp_ne C  57 (D 24 rfl) (by decide) (fun h43 => ?_) (fun h43 => ?_)
          · obtain ⟨e, he, rfl⟩ := inR_n (hor.resolve_left h43)
            have hne := h43
            refine j_iload_n C (D 32 rfl) rfl ?_
            refine j_istore C (D 33 rfl) rfl ?_
            refine j_iconst C (v := nI 0) (D 34 rfl) rfl ?_
            refine j_istore C (D 35 rfl) rfl ?_
            refine j_iconst C (v := nI 0) (D 36 rfl) rfl ?_
            refine j_istore C (D 37 rfl) rfl ?_
            have Lp : ∀ (m i lf h0 : Nat), i + m = e + 1 → h0 ≤ lf → lf ≤ 60 → lf - h0 = lftS (evW V a) (vE V) n i → (i = e + 1 → h0 = shrS (evW V a) (vE V) e n) → J Z (0, 0) 66 [some (.ref (ra G 172)), some (.int (nI a)), some (.int (nI n)), some (.int (nI e)), some (.int (nI lf)), some (.int (nI h0)), some (.int (nI i))] [] (wd I2 L R) := by
              intro m
              induction m with
              | zero =>
                intro i lf h0 hi hle hl60a hlf hlast
                refine j_iload C (D 38 rfl) rfl ?_
                refine j_iload_n C (D 39 rfl) rfl ?_
                refine j_icmp_gt C  120 (D 40 rfl) (by decide) (fun h69 => ?_) (fun h69 => absurd h69 (fun z => z ((nlt (by omega) (by omega)).mpr (by omega))))
                refine j_iload C (D 64 rfl) rfl ?_
                exact j_iret C P rfl (D 65 rfl) ⟨Nat.le_refl _, Nat.le_refl _⟩ (qm1 (fun b j q => hF2 b j (by omega)) (by rw [a_spread_t ⟨b2_ne h5, (wL (by decide) (by decide)).mp (b2_ne h17), hor⟩, if_neg hne, tn_n (by omega), tn_n (by omega), tn_n (by omega), hlast (by omega)]))
              | succ m ih =>
                intro i lf h0 hi hle hl60a hlf hlast
                refine j_iload C (D 38 rfl) rfl ?_
                refine j_iload_n C (D 39 rfl) rfl ?_
                refine j_icmp_gt C  120 (D 40 rfl) (by decide) (fun h69 => absurd h69 (fun z => by rw [nlt (by omega) (by omega)] at z; omega)) (fun h69 => ?_)
                refine j_iload C (D 41 rfl) rfl ?_
                refine j_iload C (D 42 rfl) rfl ?_
                refine j_isub C (D 43 rfl) ?_
                rw [pk_sub hle]
                obtain ⟨lz, hlz0⟩ : ∃ x, x = lf - h0 := ⟨_, rfl⟩
                rw [← hlz0]
                have hlz : lz = lftS (evW V a) (vE V) n i := hlz0.trans hlf
                have hl60 : lz ≤ 60 := by have := lftS_le (evW V a) (vE V) n i; omega
                have hfl := fewS_le (evW V a) (vE V) i lz
                refine j_istore C (D 44 rfl) rfl ?_
                refine j_iconst C (v := nI 0) (D 45 rfl) rfl ?_
                refine j_istore C (D 46 rfl) rfl ?_
                have Lw : ∀ (m h : Nat), h + m = fewS (evW V a) (vE V) i lz → J Z (0, 0) 82 [some (.ref (ra G 172)), some (.int (nI a)), some (.int (nI n)), some (.int (nI e)), some (.int (nI lz)), some (.int (nI h)), some (.int (nI i))] [] (wd I2 L R) := by
                  intro m
                  induction m with
                  | zero =>
                    intro h hh
                    refine j_aload_n C (D 47 rfl) rfl ?_
                    refine j_iload_n C (D 48 rfl) rfl ?_
                    refine j_iload C (D 49 rfl) rfl ?_
                    refine j_iload C (D 50 rfl) rfl ?_
                    refine j_iload C (D 51 rfl) rfl ?_
                    refine j_cVp C B k_X12_442 (rc_obj C (lit (kd := 12) (n := 48) rfl) rfl rfl) (d_spreadBy _ _ hL hV hM2 a i h lz ha (by omega) (by omega) hl60 (fun j h9 q1 q2 q3 => hB j h9 (by omega) q2 q3)) rfl rfl rfl rfl ⟨Nat.le_refl _, Nat.le_refl _⟩ (D 52 rfl) ?_
                    refine j_aload_n C (D 53 rfl) rfl ?_
                    refine j_getr C f_X12_71 (lit (kd := 12) (n := 48) rfl) rfl rfl (hL _ _ _ rfl) (D 54 rfl) ?_
                    refine j_iload C (D 55 rfl) rfl ?_
                    refine j_iload C (D 56 rfl) rfl ?_
                    refine j_cSp C B k_X12_437 (d_byAt _ _ hL (i) (lz)) rfl rfl rfl rfl ⟨Nat.le_refl _, Nat.le_refl _⟩ (D 57 rfl) ?_
                    refine j_iald C (lit (kd := 20) (n := 671) rfl) (ix_n (by omega) (by decide)) (D 58 rfl) ?_
                    rw [hB i lz (by omega) (by omega) (by omega)]
                    refine j_icmp_eq C  114 (D 59 rfl) (by decide) (fun h105 => ?_) (fun h105 => absurd h105 (fun z => z ((few_iff KB_1 (evW_M hV a 60) hE10 (by omega) (by omega) (by omega)).mpr (by omega))))
                    first | refine j_iinc1 C (D 62 rfl) rfl rfl ?_ | refine j_iinc C (D 62 rfl) rfl rfl rfl ?_
                    refine j_goto C 66 (D 63 rfl) (by decide) ?_
                    have hfe := (few_iff KB_1 (evW_M hV a 60) hE10 (by omega) (by omega) (by omega)).mp h105
                    exact ih (i + 1) lz h (by omega) (by omega) (by omega) (by rw [lftS, ← hlz, ← hfe]) (fun z => by rw [hfe, shrS, show e = i by omega, hlz])
                  | succ m ihw =>
                    intro h hh
                    refine j_aload_n C (D 47 rfl) rfl ?_
                    refine j_iload_n C (D 48 rfl) rfl ?_
                    refine j_iload C (D 49 rfl) rfl ?_
                    refine j_iload C (D 50 rfl) rfl ?_
                    refine j_iload C (D 51 rfl) rfl ?_
                    refine j_cVp C B k_X12_442 (rc_obj C (lit (kd := 12) (n := 48) rfl) rfl rfl) (d_spreadBy _ _ hL hV hM2 a i h lz ha (by omega) (by omega) hl60 (fun j h9 q1 q2 q3 => hB j h9 (by omega) q2 q3)) rfl rfl rfl rfl ⟨Nat.le_refl _, Nat.le_refl _⟩ (D 52 rfl) ?_
                    refine j_aload_n C (D 53 rfl) rfl ?_
                    refine j_getr C f_X12_71 (lit (kd := 12) (n := 48) rfl) rfl rfl (hL _ _ _ rfl) (D 54 rfl) ?_
                    refine j_iload C (D 55 rfl) rfl ?_
                    refine j_iload C (D 56 rfl) rfl ?_
                    refine j_cSp C B k_X12_437 (d_byAt _ _ hL (i) (lz)) rfl rfl rfl rfl ⟨Nat.le_refl _, Nat.le_refl _⟩ (D 57 rfl) ?_
                    refine j_iald C (lit (kd := 20) (n := 671) rfl) (ix_n (by omega) (by decide)) (D 58 rfl) ?_
                    rw [hB i lz (by omega) (by omega) (by omega)]
                    refine j_icmp_eq C  114 (D 59 rfl) (by decide) (fun h105 => ?_) (fun h105 => ?_)
                    · first | refine j_iinc1 C (D 62 rfl) rfl rfl ?_ | refine j_iinc C (D 62 rfl) rfl rfl rfl ?_
                      refine j_goto C 66 (D 63 rfl) (by decide) ?_
                      have hfe := (few_iff KB_1 (evW_M hV a 60) hE10 (by omega) (by omega) (by omega)).mp h105
                      exact ih (i + 1) lz h (by omega) (by omega) (by omega) (by rw [lftS, ← hlz, ← hfe]) (fun z => by rw [hfe, shrS, show e = i by omega, hlz])
                    · first | refine j_iinc1 C (D 60 rfl) rfl rfl ?_ | refine j_iinc C (D 60 rfl) rfl rfl rfl ?_
                      refine j_goto C 82 (D 61 rfl) (by decide) ?_
                      have hfe := fun z => h105 ((few_iff KB_1 (evW_M hV a 60) hE10 (by omega) (by omega) (by omega)).mpr z)
                      exact ihw (h + 1) (by omega)
                exact Lw (fewS (evW V a) (vE V) i lz) 0 (by omega)
            exact Lp (e + 1) 0 n 0 (by omega) (by omega) hn (by rw [lftS]; omega) (fun z => absurd z (by omega))
          · refine j_aload_n C (D 25 rfl) rfl ?_
            refine j_getr C f_X12_71 (lit (kd := 12) (n := 48) rfl) rfl rfl (hL _ _ _ rfl) (D 26 rfl) ?_
            refine j_iconst C (v := nI 0) (D 27 rfl) rfl ?_
            refine j_iload_n C (D 28 rfl) rfl ?_
            refine j_cSp C B k_X12_437 (d_byAt _ _ hL (0) (n)) rfl rfl rfl rfl ⟨Nat.le_refl _, Nat.le_refl _⟩ (D 29 rfl) ?_
            refine j_iald C (lit (kd := 20) (n := 671) rfl) (ix_n (by omega) (by decide)) (D 30 rfl) ?_
            rw [hB 0 n (by omega) (by omega) (by omega), mB_0]
            exact j_iret C P rfl (D 31 rfl) ⟨Nat.le_refl _, Nat.le_refl _⟩ (qm1 (fun b j q => hF2 b j (by omega)) (by rw [a_spread_t ⟨b2_ne h5, (wL (by decide) (by decide)).mp (b2_ne h17), hor⟩, if_pos h43, tn_n (by omega), tn_n (by omega)]))
        · refine j_bipush C (v := (-2)) (D 17 rfl) rfl ?_
          exact j_iret C P rfl (D 18 rfl) ⟨Nat.le_refl _, Nat.le_refl _⟩ (qm0 (a_spread_f (fun z => z.2.2.elim h22 (fun y => b2_eq h30 y))).symm)
set_option maxRecDepth 20000 in
theorem d_squadQ (l : Launch) (G : GT) {I : Nat → Nat → Int32} {L : Nat → Nat → Int64} {R : Nat → Nat → Option Nat} (hL : Lay R) {V : VT} (hV : WV V) (hM : MT I V) (ld : Bool) (hld : I 172 1 = b2 (ld = true)) (n a : Int32) : Mt l G mX12_squad (9) 0 0 [.ref (ra G 172), .int n, .int a] (wd I L R) (qM (a_squad V ld n a) I R) := by
  refine mt_of (own := RX12) (by decide) rfl rfl (fun Z C P B => ?_)
  have D := @dc_of _ _ dX12_squad
  have hE10 := hV.1
  have hA8 := hV.2.1
  refine j_aload_n C (D 0 rfl) rfl ?_
  refine j_geti C f_X12_297 (lit (kd := 12) (n := 48) rfl) rfl rfl (D 1 rfl) ?_
  rw [hld]
  refine j_if_eq C  32 (D 2 rfl) (by decide) (fun h4 => ?_) (fun h4 => ?_)
  · refine j_bipush C (v := (-2)) (D 16 rfl) rfl ?_
    exact j_iret C P rfl (D 17 rfl) ⟨Nat.le_refl _, Nat.le_refl _⟩ (qm0 (a_squad_f (fun z => b2_eq h4 z.1)).symm)
  · refine j_iload_n C (D 3 rfl) rfl ?_
    refine j_i2l C (D 4 rfl) ?_
    refine j_lconst C (v := 0) (D 5 rfl) rfl ?_
    refine j_ldc2_w C (v := 60) (D 6 rfl) n_X12_446 ?_
    refine j_cSp C B k_X12_99 (d_in _ _ _ _ _ _) rfl rfl rfl rfl ⟨Nat.le_refl _, Nat.le_refl _⟩ (D 7 rfl) ?_
    refine j_if_eq C  32 (D 8 rfl) (by decide) (fun h16 => ?_) (fun h16 => ?_)
    · refine j_bipush C (v := (-2)) (D 16 rfl) rfl ?_
      exact j_iret C P rfl (D 17 rfl) ⟨Nat.le_refl _, Nat.le_refl _⟩ (qm0 (a_squad_f (fun z => b2_eq h16 ((wL (by decide) (by decide)).mpr z.2.1))).symm)
    · refine j_iload_n C (D 9 rfl) rfl ?_
      refine j_iconst C (v := (-1)) (D 10 rfl) rfl ?_
      refine j_icmp_eq C  35 (D 11 rfl) (by decide) (fun h21 => ?_) (fun h21 => ?_)
      · obtain ⟨n, _, hn, rfl⟩ := wi_n (a := 0) (b := 60) ((wL (by decide) (by decide)).mp (b2_ne h16))
        have hA10 : vA V ≤ 10 := by omega
        have hor : a = -1 ∨ inR (vA V) a := Or.inl h21
        refine j_aload_n C (D 18 rfl) rfl ?_
        refine j_callV C B k_X12_459 (rc_obj C (lit (kd := 12) (n := 48) rfl) rfl rfl) (d_laysSquad _ _ hL hV hM) rfl rfl rfl rfl ⟨Nat.le_refl _, Nat.le_refl _⟩ (D 19 rfl) ?_
        rintro r w' ⟨rfl, I2, rfl, hF2, hO, hB⟩
        have hM2 := MT_fr hM hF2.M
        refine j_iload_n C (D 20 rfl) rfl ?_
        refine j_iconst C (v := (-1)) (D 21 rfl) rfl ?_
        refine j_icmp_ne C  55 (D 22 rfl) (by decide) (fun h41 => ?_) (fun h41 => ?_)
        · obtain ⟨a, he, rfl⟩ := inR_n (hor.resolve_left h41)
          have hne := h41
          refine j_iload_n C (D 30 rfl) rfl ?_
          refine j_istore_n C (D 31 rfl) rfl ?_
          refine j_iconst C (v := nI 0) (D 32 rfl) rfl ?_
          refine j_istore C (D 33 rfl) rfl ?_
          refine j_iconst C (v := nI 0) (D 34 rfl) rfl ?_
          refine j_istore C (D 35 rfl) rfl ?_
          have Lp : ∀ (m i lf h0 : Nat), i + m = a + 1 → h0 ≤ lf → lf ≤ 60 → lf - h0 = lftS (sqW V) (vA V) n i → (i = a + 1 → h0 = shrS (sqW V) (vA V) a n) → J Z (0, 0) 63 [some (.ref (ra G 172)), some (.int (nI n)), some (.int (nI a)), some (.int (nI lf)), some (.int (nI h0)), some (.int (nI i))] [] (wd I2 L R) := by
            intro m
            induction m with
            | zero =>
              intro i lf h0 hi hle hl60a hlf hlast
              refine j_iload C (D 36 rfl) rfl ?_
              refine j_iload_n C (D 37 rfl) rfl ?_
              refine j_icmp_gt C  112 (D 38 rfl) (by decide) (fun h66 => ?_) (fun h66 => absurd h66 (fun z => z ((nlt (by omega) (by omega)).mpr (by omega))))
              refine j_iload C (D 61 rfl) rfl ?_
              exact j_iret C P rfl (D 62 rfl) ⟨Nat.le_refl _, Nat.le_refl _⟩ (qm1 hF2.M (by rw [a_squad_t ⟨b2_ne h4, (wL (by decide) (by decide)).mp (b2_ne h16), hor⟩, if_neg hne, tn_n (by omega), tn_n (by omega), hlast (by omega)]))
            | succ m ih =>
              intro i lf h0 hi hle hl60a hlf hlast
              refine j_iload C (D 36 rfl) rfl ?_
              refine j_iload_n C (D 37 rfl) rfl ?_
              refine j_icmp_gt C  112 (D 38 rfl) (by decide) (fun h66 => absurd h66 (fun z => by rw [nlt (by omega) (by omega)] at z; omega)) (fun h66 => ?_)
              refine j_iload_n C (D 39 rfl) rfl ?_
              refine j_iload C (D 40 rfl) rfl ?_
              refine j_isub C (D 41 rfl) ?_
              rw [pk_sub hle]
              obtain ⟨lz, hlz0⟩ : ∃ x, x = lf - h0 := ⟨_, rfl⟩
              rw [← hlz0]
              have hlz : lz = lftS (sqW V) (vA V) n i := hlz0.trans hlf
              have hl60 : lz ≤ 60 := by have := lftS_le (sqW V) (vA V) n i; omega
              have hfl := fewS_le (sqW V) (vA V) i lz
              refine j_istore_n C (D 42 rfl) rfl ?_
              refine j_iconst C (v := nI 0) (D 43 rfl) rfl ?_
              refine j_istore C (D 44 rfl) rfl ?_
              have Lw : ∀ (m h : Nat), h + m = fewS (sqW V) (vA V) i lz → J Z (0, 0) 77 [some (.ref (ra G 172)), some (.int (nI n)), some (.int (nI a)), some (.int (nI lz)), some (.int (nI h)), some (.int (nI i))] [] (wd I2 L R) := by
                intro m
                induction m with
                | zero =>
                  intro h hh
                  refine j_aload_n C (D 45 rfl) rfl ?_
                  refine j_iload C (D 46 rfl) rfl ?_
                  refine j_iload C (D 47 rfl) rfl ?_
                  refine j_iload_n C (D 48 rfl) rfl ?_
                  refine j_cVp C B k_X12_456 (rc_obj C (lit (kd := 12) (n := 48) rfl) rfl rfl) (d_squadOf _ _ hL hV hM2 i h lz (by omega) (by omega) hl60 hO (fun j h9 q1 q2 q3 => hB j h9 (by omega) q2 q3)) rfl rfl rfl rfl ⟨Nat.le_refl _, Nat.le_refl _⟩ (D 49 rfl) ?_
                  refine j_aload_n C (D 50 rfl) rfl ?_
                  refine j_getr C f_X12_77 (lit (kd := 12) (n := 48) rfl) rfl rfl (hL _ _ _ rfl) (D 51 rfl) ?_
                  refine j_iload C (D 52 rfl) rfl ?_
                  refine j_iload_n C (D 53 rfl) rfl ?_
                  refine j_cSp C B k_X12_437 (d_byAt _ _ hL (i) (lz)) rfl rfl rfl rfl ⟨Nat.le_refl _, Nat.le_refl _⟩ (D 54 rfl) ?_
                  refine j_iald C (lit (kd := 20) (n := 549) rfl) (ix_n (by omega) (by decide)) (D 55 rfl) ?_
                  rw [hB i lz (by omega) (by omega) (by omega)]
                  refine j_icmp_eq C  106 (D 56 rfl) (by decide) (fun h97 => ?_) (fun h97 => absurd h97 (fun z => z ((few_iff KB_2 (sqW_M hV 60) hA10 (by omega) (by omega) (by omega)).mpr (by omega))))
                  first | refine j_iinc1 C (D 59 rfl) rfl rfl ?_ | refine j_iinc C (D 59 rfl) rfl rfl rfl ?_
                  refine j_goto C 63 (D 60 rfl) (by decide) ?_
                  have hfe := (few_iff KB_2 (sqW_M hV 60) hA10 (by omega) (by omega) (by omega)).mp h97
                  exact ih (i + 1) lz h (by omega) (by omega) (by omega) (by rw [lftS, ← hlz, ← hfe]) (fun z => by rw [hfe, shrS, show a = i by omega, hlz])
                | succ m ihw =>
                  intro h hh
                  refine j_aload_n C (D 45 rfl) rfl ?_
                  refine j_iload C (D 46 rfl) rfl ?_
                  refine j_iload C (D 47 rfl) rfl ?_
                  refine j_iload_n C (D 48 rfl) rfl ?_
                  refine j_cVp C B k_X12_456 (rc_obj C (lit (kd := 12) (n := 48) rfl) rfl rfl) (d_squadOf _ _ hL hV hM2 i h lz (by omega) (by omega) hl60 hO (fun j h9 q1 q2 q3 => hB j h9 (by omega) q2 q3)) rfl rfl rfl rfl ⟨Nat.le_refl _, Nat.le_refl _⟩ (D 49 rfl) ?_
                  refine j_aload_n C (D 50 rfl) rfl ?_
                  refine j_getr C f_X12_77 (lit (kd := 12) (n := 48) rfl) rfl rfl (hL _ _ _ rfl) (D 51 rfl) ?_
                  refine j_iload C (D 52 rfl) rfl ?_
                  refine j_iload_n C (D 53 rfl) rfl ?_
                  refine j_cSp C B k_X12_437 (d_byAt _ _ hL (i) (lz)) rfl rfl rfl rfl ⟨Nat.le_refl _, Nat.le_refl _⟩ (D 54 rfl) ?_
                  refine j_iald C (lit (kd := 20) (n := 549) rfl) (ix_n (by omega) (by decide)) (D 55 rfl) ?_
                  rw [hB i lz (by omega) (by omega) (by omega)]
                  refine j_icmp_eq C  106 (D 56 rfl) (by decide) (fun h97 => ?_) (fun h97 => ?_)
                  · first | refine j_iinc1 C (D 59 rfl) rfl rfl ?_ | refine j_iinc C (D 59 rfl) rfl rfl rfl ?_
                    refine j_goto C 63 (D 60 rfl) (by decide) ?_
                    have hfe := (few_iff KB_2 (sqW_M hV 60) hA10 (by omega) (by omega) (by omega)).mp h97
                    exact ih (i + 1) lz h (by omega) (by omega) (by omega) (by rw [lftS, ← hlz, ← hfe]) (fun z => by rw [hfe, shrS, show a = i by omega, hlz])
                  · first | refine j_iinc1 C (D 57 rfl) rfl rfl ?_ | refine j_iinc C (D 57 rfl) rfl rfl rfl ?_
                    refine j_goto C 77 (D 58 rfl) (by decide) ?_
                    have hfe := fun z => h97 ((few_iff KB_2 (sqW_M hV 60) hA10 (by omega) (by omega) (by omega)).mpr z)
                    exact ihw (h + 1) (by omega)
              exact Lw (fewS (sqW V) (vA V) i lz) 0 (by omega)
          exact Lp (a + 1) 0 n 0 (by omega) (by omega) hn (by rw [lftS]; omega) (fun z => absurd z (by omega))
        · refine j_aload_n C (D 23 rfl) rfl ?_
          refine j_getr C f_X12_77 (lit (kd := 12) (n := 48) rfl) rfl rfl (hL _ _ _ rfl) (D 24 rfl) ?_
          refine j_iconst C (v := nI 0) (D 25 rfl) rfl ?_
          refine j_iload_n C (D 26 rfl) rfl ?_
          refine j_cSp C B k_X12_437 (d_byAt _ _ hL (0) (n)) rfl rfl rfl rfl ⟨Nat.le_refl _, Nat.le_refl _⟩ (D 27 rfl) ?_
          refine j_iald C (lit (kd := 20) (n := 549) rfl) (ix_n (by omega) (by decide)) (D 28 rfl) ?_
          rw [hB 0 n (by omega) (by omega) (by omega), mB_0]
          exact j_iret C P rfl (D 29 rfl) ⟨Nat.le_refl _, Nat.le_refl _⟩ (qm1 hF2.M (by rw [a_squad_t ⟨b2_ne h4, (wL (by decide) (by decide)).mp (b2_ne h16), hor⟩, if_pos h41, tn_n (by omega)]))
      · refine j_aload_n C (D 12 rfl) rfl ?_
        refine j_iload_n C (D 13 rfl) rfl ?_
        refine j_cVp C B k_X12_317 (rc_obj C (lit (kd := 12) (n := 48) rfl) rfl rfl) (d_isOne _ _ hL (vA V) hM.2.1 (by omega) _) rfl rfl rfl rfl ⟨Nat.le_refl _, Nat.le_refl _⟩ (D 14 rfl) ?_
        refine j_if_ne C  35 (D 15 rfl) (by decide) (fun h29 => ?_) (fun h29 => ?_)
        · obtain ⟨n, _, hn, rfl⟩ := wi_n (a := 0) (b := 60) ((wL (by decide) (by decide)).mp (b2_ne h16))
          have hA10 : vA V ≤ 10 := by omega
          have hor : a = -1 ∨ inR (vA V) a := Or.inr (b2_ne h29)
          refine j_aload_n C (D 18 rfl) rfl ?_
          refine j_callV C B k_X12_459 (rc_obj C (lit (kd := 12) (n := 48) rfl) rfl rfl) (d_laysSquad _ _ hL hV hM) rfl rfl rfl rfl ⟨Nat.le_refl _, Nat.le_refl _⟩ (D 19 rfl) ?_
          rintro r w' ⟨rfl, I2, rfl, hF2, hO, hB⟩
          have hM2 := MT_fr hM hF2.M
          refine j_iload_n C (D 20 rfl) rfl ?_
          refine j_iconst C (v := (-1)) (D 21 rfl) rfl ?_
          refine j_icmp_ne C  55 (D 22 rfl) (by decide) (fun h41 => ?_) (fun h41 => ?_)
          · obtain ⟨a, he, rfl⟩ := inR_n (hor.resolve_left h41)
            have hne := h41
            refine j_iload_n C (D 30 rfl) rfl ?_
            refine j_istore_n C (D 31 rfl) rfl ?_
            refine j_iconst C (v := nI 0) (D 32 rfl) rfl ?_
            refine j_istore C (D 33 rfl) rfl ?_
            refine j_iconst C (v := nI 0) (D 34 rfl) rfl ?_
            refine j_istore C (D 35 rfl) rfl ?_
            have Lp : ∀ (m i lf h0 : Nat), i + m = a + 1 → h0 ≤ lf → lf ≤ 60 → lf - h0 = lftS (sqW V) (vA V) n i → (i = a + 1 → h0 = shrS (sqW V) (vA V) a n) → J Z (0, 0) 63 [some (.ref (ra G 172)), some (.int (nI n)), some (.int (nI a)), some (.int (nI lf)), some (.int (nI h0)), some (.int (nI i))] [] (wd I2 L R) := by
              intro m
              induction m with
              | zero =>
                intro i lf h0 hi hle hl60a hlf hlast
                refine j_iload C (D 36 rfl) rfl ?_
                refine j_iload_n C (D 37 rfl) rfl ?_
                refine j_icmp_gt C  112 (D 38 rfl) (by decide) (fun h66 => ?_) (fun h66 => absurd h66 (fun z => z ((nlt (by omega) (by omega)).mpr (by omega))))
                refine j_iload C (D 61 rfl) rfl ?_
                exact j_iret C P rfl (D 62 rfl) ⟨Nat.le_refl _, Nat.le_refl _⟩ (qm1 hF2.M (by rw [a_squad_t ⟨b2_ne h4, (wL (by decide) (by decide)).mp (b2_ne h16), hor⟩, if_neg hne, tn_n (by omega), tn_n (by omega), hlast (by omega)]))
              | succ m ih =>
                intro i lf h0 hi hle hl60a hlf hlast
                refine j_iload C (D 36 rfl) rfl ?_
                refine j_iload_n C (D 37 rfl) rfl ?_
                refine j_icmp_gt C  112 (D 38 rfl) (by decide) (fun h66 => absurd h66 (fun z => by rw [nlt (by omega) (by omega)] at z; omega)) (fun h66 => ?_)
                refine j_iload_n C (D 39 rfl) rfl ?_
                refine j_iload C (D 40 rfl) rfl ?_
                refine j_isub C (D 41 rfl) ?_
                rw [pk_sub hle]
                obtain ⟨lz, hlz0⟩ : ∃ x, x = lf - h0 := ⟨_, rfl⟩
                rw [← hlz0]
                have hlz : lz = lftS (sqW V) (vA V) n i := hlz0.trans hlf
                have hl60 : lz ≤ 60 := by have := lftS_le (sqW V) (vA V) n i; omega
                have hfl := fewS_le (sqW V) (vA V) i lz
                refine j_istore_n C (D 42 rfl) rfl ?_
                refine j_iconst C (v := nI 0) (D 43 rfl) rfl ?_
                refine j_istore C (D 44 rfl) rfl ?_
                have Lw : ∀ (m h : Nat), h + m = fewS (sqW V) (vA V) i lz → J Z (0, 0) 77 [some (.ref (ra G 172)), some (.int (nI n)), some (.int (nI a)), some (.int (nI lz)), some (.int (nI h)), some (.int (nI i))] [] (wd I2 L R) := by
                  intro m
                  induction m with
                  | zero =>
                    intro h hh
                    refine j_aload_n C (D 45 rfl) rfl ?_
                    refine j_iload C (D 46 rfl) rfl ?_
                    refine j_iload C (D 47 rfl) rfl ?_
                    refine j_iload_n C (D 48 rfl) rfl ?_
                    refine j_cVp C B k_X12_456 (rc_obj C (lit (kd := 12) (n := 48) rfl) rfl rfl) (d_squadOf _ _ hL hV hM2 i h lz (by omega) (by omega) hl60 hO (fun j h9 q1 q2 q3 => hB j h9 (by omega) q2 q3)) rfl rfl rfl rfl ⟨Nat.le_refl _, Nat.le_refl _⟩ (D 49 rfl) ?_
                    refine j_aload_n C (D 50 rfl) rfl ?_
                    refine j_getr C f_X12_77 (lit (kd := 12) (n := 48) rfl) rfl rfl (hL _ _ _ rfl) (D 51 rfl) ?_
                    refine j_iload C (D 52 rfl) rfl ?_
                    refine j_iload_n C (D 53 rfl) rfl ?_
                    refine j_cSp C B k_X12_437 (d_byAt _ _ hL (i) (lz)) rfl rfl rfl rfl ⟨Nat.le_refl _, Nat.le_refl _⟩ (D 54 rfl) ?_
                    refine j_iald C (lit (kd := 20) (n := 549) rfl) (ix_n (by omega) (by decide)) (D 55 rfl) ?_
                    rw [hB i lz (by omega) (by omega) (by omega)]
                    refine j_icmp_eq C  106 (D 56 rfl) (by decide) (fun h97 => ?_) (fun h97 => absurd h97 (fun z => z ((few_iff KB_2 (sqW_M hV 60) hA10 (by omega) (by omega) (by omega)).mpr (by omega))))
                    first | refine j_iinc1 C (D 59 rfl) rfl rfl ?_ | refine j_iinc C (D 59 rfl) rfl rfl rfl ?_
                    refine j_goto C 63 (D 60 rfl) (by decide) ?_
                    have hfe := (few_iff KB_2 (sqW_M hV 60) hA10 (by omega) (by omega) (by omega)).mp h97
                    exact ih (i + 1) lz h (by omega) (by omega) (by omega) (by rw [lftS, ← hlz, ← hfe]) (fun z => by rw [hfe, shrS, show a = i by omega, hlz])
                  | succ m ihw =>
                    intro h hh
                    refine j_aload_n C (D 45 rfl) rfl ?_
                    refine j_iload C (D 46 rfl) rfl ?_
                    refine j_iload C (D 47 rfl) rfl ?_
                    refine j_iload_n C (D 48 rfl) rfl ?_
                    refine j_cVp C B k_X12_456 (rc_obj C (lit (kd := 12) (n := 48) rfl) rfl rfl) (d_squadOf _ _ hL hV hM2 i h lz (by omega) (by omega) hl60 hO (fun j h9 q1 q2 q3 => hB j h9 (by omega) q2 q3)) rfl rfl rfl rfl ⟨Nat.le_refl _, Nat.le_refl _⟩ (D 49 rfl) ?_
                    refine j_aload_n C (D 50 rfl) rfl ?_
                    refine j_getr C f_X12_77 (lit (kd := 12) (n := 48) rfl) rfl rfl (hL _ _ _ rfl) (D 51 rfl) ?_
                    refine j_iload C (D 52 rfl) rfl ?_
                    refine j_iload_n C (D 53 rfl) rfl ?_
                    refine j_cSp C B k_X12_437 (d_byAt _ _ hL (i) (lz)) rfl rfl rfl rfl ⟨Nat.le_refl _, Nat.le_refl _⟩ (D 54 rfl) ?_
                    refine j_iald C (lit (kd := 20) (n := 549) rfl) (ix_n (by omega) (by decide)) (D 55 rfl) ?_
                    rw [hB i lz (by omega) (by omega) (by omega)]
                    refine j_icmp_eq C  106 (D 56 rfl) (by decide) (fun h97 => ?_) (fun h97 => ?_)
                    · first | refine j_iinc1 C (D 59 rfl) rfl rfl ?_ | refine j_iinc C (D 59 rfl) rfl rfl rfl ?_
                      refine j_goto C 63 (D 60 rfl) (by decide) ?_
                      have hfe := (few_iff KB_2 (sqW_M hV 60) hA10 (by omega) (by omega) (by omega)).mp h97
                      exact ih (i + 1) lz h (by omega) (by omega) (by omega) (by rw [lftS, ← hlz, ← hfe]) (fun z => by rw [hfe, shrS, show a = i by omega, hlz])
                    · first | refine j_iinc1 C (D 57 rfl) rfl rfl ?_ | refine j_iinc C (D 57 rfl) rfl rfl rfl ?_
                      refine j_goto C 77 (D 58 rfl) (by decide) ?_
                      have hfe := fun z => h97 ((few_iff KB_2 (sqW_M hV 60) hA10 (by omega) (by omega) (by omega)).mpr z)
                      exact ihw (h + 1) (by omega)
                exact Lw (fewS (sqW V) (vA V) i lz) 0 (by omega)
            exact Lp (a + 1) 0 n 0 (by omega) (by omega) hn (by rw [lftS]; omega) (fun z => absurd z (by omega))
          · refine j_aload_n C (D 23 rfl) rfl ?_
            refine j_getr C f_X12_77 (lit (kd := 12) (n := 48) rfl) rfl rfl (hL _ _ _ rfl) (D 24 rfl) ?_
            refine j_iconst C (v := nI 0) (D 25 rfl) rfl ?_
            refine j_iload_n C (D 26 rfl) rfl ?_
            refine j_cSp C B k_X12_437 (d_byAt _ _ hL (0) (n)) rfl rfl rfl rfl ⟨Nat.le_refl _, Nat.le_refl _⟩ (D 27 rfl) ?_
            refine j_iald C (lit (kd := 20) (n := 549) rfl) (ix_n (by omega) (by decide)) (D 28 rfl) ?_
            rw [hB 0 n (by omega) (by omega) (by omega), mB_0]
            exact j_iret C P rfl (D 29 rfl) ⟨Nat.le_refl _, Nat.le_refl _⟩ (qm1 hF2.M (by rw [a_squad_t ⟨b2_ne h4, (wL (by decide) (by decide)).mp (b2_ne h16), hor⟩, if_pos h41, tn_n (by omega)]))
        · refine j_bipush C (v := (-2)) (D 16 rfl) rfl ?_
          exact j_iret C P rfl (D 17 rfl) ⟨Nat.le_refl _, Nat.le_refl _⟩ (qm0 (a_squad_f (fun z => z.2.2.elim h21 (fun y => b2_eq h29 y))).symm)
