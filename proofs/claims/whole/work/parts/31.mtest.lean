def PLL (f : Nat → Int64) : List Int → Prop
  | [] => True
  | x :: r => (f r.length).toInt = x ∧ PLL f r
theorem PLL_of {f f' : Nat → Int64} : ∀ {s : List Int}, PLL f s → (∀ j, j < s.length → f' j = f j) → PLL f' s
  | [], _, _ => trivial
  | x :: r, h, hf => ⟨by rw [hf r.length (by simp)]; exact h.1, PLL_of h.2 (fun j hj => hf j (by simp; omega))⟩
theorem up2_iL {I : Nat → Nat → Int64} {a k : Nat} {v : Int64} {b j : Nat} (h : ¬ (b = a ∧ j = k)) : up2 I a k v b j = I b j := by
  by_cases hb : b = a
  · subst hb; exact up2_nj I v (fun q => h ⟨rfl, q⟩)
  · rw [up2_ne I v hb]
theorem encm_n {q : Nat × Int32} {n : Nat} (h : WO n q) : ∃ m : Nat, m ≤ 99999 ∧ q.2 = nI m ∧ encM q = nI (q.1 + 16 * m) := by
  obtain ⟨m, h1, h2, h3⟩ := i_nat h.2.1
  have h4 := h.2.2.1
  refine ⟨m, by omega, h2, ?_⟩
  unfold encM
  rw [h2, pk_mul, nI_add]
theorem encm_div {q : Nat × Int32} {n : Nat} (h : WO n q) : encM q / nI 16 = q.2 := by
  obtain ⟨m, h1, h2, h3⟩ := encm_n h
  have h4 := h.1
  rw [h3, pk_div (by omega) (by decide) (by decide), h2]
  congr 1
  omega
theorem encm_rem {q : Nat × Int32} {n : Nat} (h : WO n q) : encM q - encM q / nI 16 * nI 16 = nI q.1 := by
  obtain ⟨m, h1, h2, h3⟩ := encm_n h
  have h4 := h.1
  rw [h3, pk_rem (by omega) (by decide) (by decide)]
  congr 1
  omega
theorem BL_of {x : Int64} {z : Int} (h : x.toInt = z) (hz : z = 0 ∨ z = 1) : isBL x := hz.elim (fun q => Or.inl (l_eq.mpr (by rw [h, q]; rfl))) (fun q => Or.inr (l_eq.mpr (by rw [h, q]; rfl)))
theorem l1_int : (1 : Int64).toInt = 1 := by decide
set_option maxRecDepth 20000 in
theorem d_isSo (l : Launch) (G : GT) {I : Nat → Nat → Int32} {L : Nat → Nat → Int64} {R : Nat → Nat → Option Nat} (hL : Lay R) {V : VT} (hV : WV V) (hM : MT I V) {Pt : Nat → Nat → Int32} {g : Nat → Nat → Bool} (hz : pza V Pt g) (hl : ML I V Pt g) (k a : Nat) (hk : k < vB V) (ha : a < vA V) : Mt l G mX12_isSo (3) 0 0 [.ref (ra G 172), .int (nI k), .int (nI a)] (wd I L R) (pL (.int (b2 (tstS (envZ (Pt a) (g a) (vE V)) (vts V k) = true))) I R) := by
  refine mt_of (own := RX12) (by decide) rfl rfl (fun Z C P B => ?_)
  have D := @dc_of _ _ dX12_isSo
  have hk4 := hV.2.2.1
  have hE10 := hV.1
  have hoff := hV.2.2.2.2.2.2.2
  have hofk : off (vts V) k + (vts V k).length ≤ off (vts V) (vB V) := off_mono (vts V) (j := k + 1) (k := vB V) (by omega)
  have Lp : ∀ (t2 t1 : OPS) (s : List Int) (ts : List Bool) (x5 : Option Value) (L1 : Nat → Nat → Int64), vts V k = t1 ++ t2 → ckS t2 ts = some [true] → fitsK ts s → sumA s ≤ 99999 * t1.length → evS (envZ (Pt a) (g a) (vE V)) t2 s = evS (envZ (Pt a) (g a) (vE V)) (vts V k) [] → PLL (L1 190) s → ts.length ≤ 60 → J Z (0, 0) 10 [some (.ref (ra G 172)), some (.int (nI k)), some (.int (nI a)), some (.int (nI s.length)), some (.int (nI (off (vts V) k + t1.length))), x5] [] (wd I L1 R) := by
    intro t2
    induction t2 with
    | nil =>
      intro t1 s ts x5 L1 hq hck hfit hsum hev hPL hts60
      have ht1 : vts V k = t1 := by rw [hq]; simp
      have hlen : (vts V k).length = t1.length := by rw [ht1]
      have hok : off (vts V) (k + 1) = off (vts V) k + (vts V k).length := rfl
      have hts : ts = [true] := Option.some.inj hck
      subst hts
      obtain ⟨x, rfl⟩ : ∃ x, s = [x] := by
        match s, hfit with
        | [x], _ => exact ⟨x, rfl⟩
        | _ :: _ :: _, h => exact h.2.elim
      have hPL0 : (L1 190 0).toInt = x := hPL.1
      refine j_iload C (D 7 rfl) rfl ?_
      refine j_aload_n C (D 8 rfl) rfl ?_
      refine j_getr C f_X12_16 (lit (kd := 12) (n := 48) rfl) rfl rfl (hL _ _ _ rfl) (D 9 rfl) ?_
      refine j_iload_n C (D 10 rfl) rfl ?_
      refine j_iconst C (v := nI 1) (D 11 rfl) rfl ?_
      refine j_iadd C (D 12 rfl) ?_
      rw [nI_add]
      refine j_iald C (lit (kd := 20) (n := 5) rfl) (ix_n (by omega) (by decide)) (D 13 rfl) ?_
      rw [hM.2.2.2.2.2.2.2.1 (k + 1) (by omega)]
      refine j_icmp_ge C  134 (D 14 rfl) (by decide) (fun h20 => ?_) (fun h20 => absurd h20 (fun z => z ((nle (by omega) (by omega)).mpr (by omega))))
      refine j_aload_n C (D 80 rfl) rfl ?_
      refine j_getr C f_X12_67 (lit (kd := 12) (n := 48) rfl) rfl rfl (hL _ _ _ rfl) (D 81 rfl) ?_
      refine j_iconst C (v := nI 0) (D 82 rfl) rfl ?_
      refine j_lald C (lit (kd := 23) (n := 1300) rfl) (ix_n (by omega) (by decide)) (D 83 rfl) ?_
      refine j_lconst C (v := 1) (D 84 rfl) rfl ?_
      refine j_lcmp C (D 85 rfl) ?_
      refine j_if_ne C  149 (D 86 rfl) (by decide) (fun h142 => ?_) (fun h142 => ?_)
      · refine j_iconst C (v := nI 0) (D 89 rfl) rfl ?_
        exact j_zret C P rfl (by first | exact isB_1 | exact isB_0) (D 90 rfl) ⟨Nat.le_refl _, Nat.le_refl _⟩ ⟨by rw [← b2_f (p := tstS (envZ (Pt a) (g a) (vE V)) (vts V k) = true) (by rw [tstS, ← hev]; simp only [evS]; simp; intro z; exact h142 ((lg_cmp_eq _ _).mpr (l_eq.mpr (by rw [hPL0, z]; rfl))))], _, rfl⟩
      · refine j_iconst C (v := nI 1) (D 87 rfl) rfl ?_
        refine j_goto C 150 (D 88 rfl) (by decide) ?_
        exact j_zret C P rfl (by first | exact isB_1 | exact isB_0) (D 90 rfl) ⟨Nat.le_refl _, Nat.le_refl _⟩ ⟨by rw [← b2_t (p := tstS (envZ (Pt a) (g a) (vE V)) (vts V k) = true) (by rw [tstS, ← hev]; simp only [evS]; simp; rw [← hPL0]; exact l_eq.mp ((lg_cmp_eq _ _).mp h142))], _, rfl⟩
    | cons q t ih =>
      intro t1 s ts x5 L1 hq hck hfit hsum hev hPL hts60
      have hlen : (vts V k).length = t1.length + t.length + 1 := by rw [hq]; simp; omega
      have hok : off (vts V) (k + 1) = off (vts V) k + (vts V k).length := rfl
      have hWO : WO (vE V) q := (hV.2.2.2.2.2.2.1 k hk).2.1 q (by rw [hq]; simp)
      have hec : I 176 (off (vts V) k + t1.length) = encM q := hM.2.2.2.2.2.2.2.2 k hk t1.length q (by rw [hq]; simp)
      have hq13 := hWO.1
      obtain ⟨ts', hk1, hk2⟩ : ∃ ts', ck1 q.1 ts = some ts' ∧ ckS t ts' = some [true] := by
        rw [ckS] at hck
        cases h9 : ck1 q.1 ts with
        | none => rw [h9] at hck; cases hck
        | some ts' => rw [h9] at hck; exact ⟨ts', rfl, hck⟩
      have hst := st1_ok (env := (envZ (Pt a) (g a) (vE V))) (v := q.2) hk1 hfit (fun h5 => by have := envZ_rng hV.1 (hz a ha) h5 ⟨hWO.2.1, hWO.2.2.1⟩ hWO.2.2.2; omega)
      have hsl := fitsK_len hfit
      have hts' : ts'.length ≤ 60 := by have := ck_len hk1; omega
      have hle : (vts V k).length ≤ 1200 := by omega
      refine j_iload C (D 7 rfl) rfl ?_
      refine j_aload_n C (D 8 rfl) rfl ?_
      refine j_getr C f_X12_16 (lit (kd := 12) (n := 48) rfl) rfl rfl (hL _ _ _ rfl) (D 9 rfl) ?_
      refine j_iload_n C (D 10 rfl) rfl ?_
      refine j_iconst C (v := nI 1) (D 11 rfl) rfl ?_
      refine j_iadd C (D 12 rfl) ?_
      rw [nI_add]
      refine j_iald C (lit (kd := 20) (n := 5) rfl) (ix_n (by omega) (by decide)) (D 13 rfl) ?_
      rw [hM.2.2.2.2.2.2.2.1 (k + 1) (by omega)]
      refine j_icmp_ge C  134 (D 14 rfl) (by decide) (fun h20 => absurd h20 (fun z => by rw [nle (by omega) (by omega)] at z; omega)) (fun h20 => ?_)
      refine j_aload_n C (D 15 rfl) rfl ?_
      refine j_getr C f_X12_19 (lit (kd := 12) (n := 48) rfl) rfl rfl (hL _ _ _ rfl) (D 16 rfl) ?_
      refine j_iload C (D 17 rfl) rfl ?_
      refine j_iald C (lit (kd := 20) (n := 1300) rfl) (ix_n (by omega) (by decide)) (D 18 rfl) ?_
      rw [hec]
      refine j_bipush C (v := nI 16) (D 19 rfl) rfl ?_
      refine j_irem C (D 20 rfl) (by decide) ?_
      rw [encm_rem hWO]
      refine j_istore C (D 21 rfl) rfl ?_
      refine j_iload C (D 22 rfl) rfl ?_
      refine j_iconst C (v := nI 5) (D 23 rfl) rfl ?_
      refine j_icmp_gt C  70 (D 24 rfl) (by decide) (fun h38 => ?_) (fun h38 => ?_)
      · have h5 : ¬ q.1 ≤ 5 := fun z => by rw [nlt (by omega) (by omega)] at h38; omega
        refine j_iload C (D 41 rfl) rfl ?_
        refine j_bipush C (v := nI 11) (D 42 rfl) rfl ?_
        refine j_icmp_ne C  98 (D 43 rfl) (by decide) (fun h74 => ?_) (fun h74 => ?_)
        · have h11 : ¬ q.1 = 11 := fun z => h74 (congrArg nI z)
          obtain ⟨y, x, r, rfl, hxy⟩ := ck_2 h5 h11 hk1 hfit
          have hr60 : r.length + 1 + 1 = ts.length := hsl
          have hPLy : (L1 190 (r.length + 1)).toInt = y := hPL.1
          have hPLx : (L1 190 r.length).toInt = x := hPL.2.1
          have hsy : y.natAbs + (x.natAbs + sumA r) ≤ 99999 * t1.length := hsum
          have htw : (twoZ q.1 x y).natAbs ≤ 99999 * t1.length + 99999 := by have := hst.2; rw [st1_2 h5 h11] at this; have t2 : (twoZ q.1 x y).natAbs + sumA r ≤ y.natAbs + (x.natAbs + sumA r) + 99999 := this; omega
          rw [show (y :: x :: r).length = r.length + 1 + 1 from rfl]
          refine j_iinc C (D 59 rfl) rfl rfl rfl ?_
          rw [show nI (r.length + 1 + 1) + Int32.ofInt (-1) = nI (r.length + 1) from pk_m1 _]
          refine j_aload_n C (D 60 rfl) rfl ?_
          refine j_getr C f_X12_67 (lit (kd := 12) (n := 48) rfl) rfl rfl (hL _ _ _ rfl) (D 61 rfl) ?_
          refine j_iload_n C (D 62 rfl) rfl ?_
          refine j_iconst C (v := nI 1) (D 63 rfl) rfl ?_
          refine j_isub C (D 64 rfl) ?_
          rw [pk_sub (by omega), show r.length + 1 - 1 = r.length by omega]
          refine j_iload C (D 65 rfl) rfl ?_
          refine j_aload_n C (D 66 rfl) rfl ?_
          refine j_getr C f_X12_67 (lit (kd := 12) (n := 48) rfl) rfl rfl (hL _ _ _ rfl) (D 67 rfl) ?_
          refine j_iload_n C (D 68 rfl) rfl ?_
          refine j_iconst C (v := nI 1) (D 69 rfl) rfl ?_
          refine j_isub C (D 70 rfl) ?_
          rw [pk_sub (by omega), show r.length + 1 - 1 = r.length by omega]
          refine j_lald C (lit (kd := 23) (n := 1300) rfl) (ix_n (by omega) (by decide)) (D 71 rfl) ?_
          refine j_aload_n C (D 72 rfl) rfl ?_
          refine j_getr C f_X12_67 (lit (kd := 12) (n := 48) rfl) rfl rfl (hL _ _ _ rfl) (D 73 rfl) ?_
          refine j_iload_n C (D 74 rfl) rfl ?_
          refine j_lald C (lit (kd := 23) (n := 1300) rfl) (ix_n (by omega) (by decide)) (D 75 rfl) ?_
          refine j_cSp C B k_X12_384 (d_two _ _ _ q.1 (L1 190 r.length) (L1 190 (r.length + 1)) (by omega) (by rw [hPLx]; omega) (by rw [hPLy]; omega) (fun z => ⟨BL_of hPLx (hxy (by omega)).1, BL_of hPLy (hxy (by omega)).2⟩)) rfl rfl rfl rfl ⟨Nat.le_refl _, Nat.le_refl _⟩ (D 76 rfl) ?_
          refine j_last C (lit (kd := 23) (n := 1300) rfl) (ix_n (by omega) (by decide)) (D 77 rfl) ?_
          first | refine j_iinc1 C (D 78 rfl) rfl rfl ?_ | refine j_iinc C (D 78 rfl) rfl rfl rfl ?_
          refine j_goto C 10 (D 79 rfl) (by decide) ?_
          rw [show off (vts V) k + t1.length + 1 = off (vts V) k + (t1 ++ [q]).length by simp; omega]
          rw [st1_2 h5 h11] at hst
          exact ih (t1 ++ [q]) (twoZ q.1 x y :: r) ts' _ _ (by rw [hq]; simp) hk2 hst.1 (by rw [List.length_append]; simp only [List.length_singleton]; have := hst.2; omega) (by rw [← hev, evS, st1_2 h5 h11]) ⟨by rw [up2_same, ofL (by rw [hPLx, hPLy]; omega) (by rw [hPLx, hPLy]; omega), hPLx, hPLy], PLL_of hPL.2.2 (fun j hj => by rw [up2_iL (by omega)])⟩ hts'
        · have h11 : q.1 = 11 := nI_inj (by omega) (by decide) h74
          rw [h11] at hk1
          obtain ⟨x, r, rfl, hx01⟩ := ck_11 hk1 hfit
          rw [← h11] at hk1
          have hr60 : r.length + 1 = ts.length := hsl
          have hPLx : (L1 190 r.length).toInt = x := hPL.1
          have hsub : (1 - L1 190 r.length).toInt = 1 - x := by rw [l_sub (by rw [l1_int, hPLx]; omega) (by rw [l1_int, hPLx]; omega), l1_int, hPLx]
          rw [show (x :: r).length = r.length + 1 from rfl]
          refine j_aload_n C (D 44 rfl) rfl ?_
          refine j_getr C f_X12_67 (lit (kd := 12) (n := 48) rfl) rfl rfl (hL _ _ _ rfl) (D 45 rfl) ?_
          refine j_iload_n C (D 46 rfl) rfl ?_
          refine j_iconst C (v := nI 1) (D 47 rfl) rfl ?_
          refine j_isub C (D 48 rfl) ?_
          rw [pk_sub (by omega), show r.length + 1 - 1 = r.length by omega]
          refine j_lconst C (v := 1) (D 49 rfl) rfl ?_
          refine j_aload_n C (D 50 rfl) rfl ?_
          refine j_getr C f_X12_67 (lit (kd := 12) (n := 48) rfl) rfl rfl (hL _ _ _ rfl) (D 51 rfl) ?_
          refine j_iload_n C (D 52 rfl) rfl ?_
          refine j_iconst C (v := nI 1) (D 53 rfl) rfl ?_
          refine j_isub C (D 54 rfl) ?_
          rw [pk_sub (by omega), show r.length + 1 - 1 = r.length by omega]
          refine j_lald C (lit (kd := 23) (n := 1300) rfl) (ix_n (by omega) (by decide)) (D 55 rfl) ?_
          refine j_lsub C (D 56 rfl) ?_
          refine j_last C (lit (kd := 23) (n := 1300) rfl) (ix_n (by omega) (by decide)) (D 57 rfl) ?_
          refine j_goto C 128 (D 58 rfl) (by decide) ?_
          first | refine j_iinc1 C (D 78 rfl) rfl rfl ?_ | refine j_iinc C (D 78 rfl) rfl rfl rfl ?_
          refine j_goto C 10 (D 79 rfl) (by decide) ?_
          rw [show off (vts V) k + t1.length + 1 = off (vts V) k + (t1 ++ [q]).length by simp; omega]
          rw [h11, st1_11] at hst
          exact ih (t1 ++ [q]) ((1 - x) :: r) ts' _ _ (by rw [hq]; simp) hk2 hst.1 (by rw [List.length_append]; simp only [List.length_singleton]; have := hst.2; omega) (by rw [← hev, evS, h11, st1_11]) ⟨by rw [up2_same]; exact hsub, PLL_of hPL.2 (fun j hj => by rw [up2_iL (by omega)])⟩ hts'
      · have h5 : q.1 ≤ 5 := by rw [nlt (by omega) (by omega)] at h38; omega
        have hl60 := ck_5 h5 hk1
        have henv := envZ_rng hV.1 (hz a ha) h5 ⟨hWO.2.1, hWO.2.2.1⟩ hWO.2.2.2
        refine j_aload_n C (D 25 rfl) rfl ?_
        refine j_getr C f_X12_67 (lit (kd := 12) (n := 48) rfl) rfl rfl (hL _ _ _ rfl) (D 26 rfl) ?_
        refine j_iload_n C (D 27 rfl) rfl ?_
        refine j_aload_n C (D 28 rfl) rfl ?_
        refine j_iload C (D 29 rfl) rfl ?_
        refine j_aload_n C (D 30 rfl) rfl ?_
        refine j_getr C f_X12_19 (lit (kd := 12) (n := 48) rfl) rfl rfl (hL _ _ _ rfl) (D 31 rfl) ?_
        refine j_iload C (D 32 rfl) rfl ?_
        refine j_iald C (lit (kd := 20) (n := 1300) rfl) (ix_n (by omega) (by decide)) (D 33 rfl) ?_
        rw [hec]
        refine j_bipush C (v := nI 16) (D 34 rfl) rfl ?_
        refine j_idiv C (D 35 rfl) (by decide) ?_
        rw [encm_div hWO]
        refine j_iload_n C (D 36 rfl) rfl ?_
        refine j_cVp C B k_X12_380 (rc_obj C (lit (kd := 12) (n := 48) rfl) rfl rfl) (d_asked _ _ hL hV hM hz hl a ha q.1 q.2 h5 ⟨hWO.2.1, hWO.2.2.1⟩ hWO.2.2.2) rfl rfl rfl rfl ⟨Nat.le_refl _, Nat.le_refl _⟩ (D 37 rfl) ?_
        refine j_last C (lit (kd := 23) (n := 1300) rfl) (ix_n (by omega) (by decide)) (D 38 rfl) ?_
        first | refine j_iinc1 C (D 39 rfl) rfl rfl ?_ | refine j_iinc C (D 39 rfl) rfl rfl rfl ?_
        refine j_goto C 128 (D 40 rfl) (by decide) ?_
        first | refine j_iinc1 C (D 78 rfl) rfl rfl ?_ | refine j_iinc C (D 78 rfl) rfl rfl rfl ?_
        refine j_goto C 10 (D 79 rfl) (by decide) ?_
        rw [show off (vts V) k + t1.length + 1 = off (vts V) k + (t1 ++ [q]).length by simp; omega]
        rw [st1_5 h5] at hst
        exact ih (t1 ++ [q]) (_ :: s) ts' _ _ (by rw [hq]; simp) hk2 hst.1 (by rw [List.length_append]; simp only [List.length_singleton]; have := hst.2; omega) (by rw [← hev, evS, st1_5 h5]) ⟨by rw [up2_same, ofL (by omega) (by omega)], PLL_of hPL (fun j hj => by rw [up2_iL (by omega)])⟩ hts'
  refine j_iconst C (v := nI 0) (D 0 rfl) rfl ?_
  refine j_istore_n C (D 1 rfl) rfl ?_
  refine j_aload_n C (D 2 rfl) rfl ?_
  refine j_getr C f_X12_16 (lit (kd := 12) (n := 48) rfl) rfl rfl (hL _ _ _ rfl) (D 3 rfl) ?_
  refine j_iload_n C (D 4 rfl) rfl ?_
  refine j_iald C (lit (kd := 20) (n := 5) rfl) (ix_n (by omega) (by decide)) (D 5 rfl) ?_
  rw [hM.2.2.2.2.2.2.2.1 k (by omega)]
  refine j_istore C (D 6 rfl) rfl ?_
  exact Lp (vts V k) [] [] [] _ _ rfl (hV.2.2.2.2.2.2.1 k hk).2.2 trivial (Nat.zero_le _) rfl trivial (by decide)
set_option maxRecDepth 20000 in
theorem d_paidOf (l : Launch) (G : GT) {I : Nat → Nat → Int32} {L : Nat → Nat → Int64} {R : Nat → Nat → Option Nat} (hL : Lay R) {V : VT} (hV : WV V) (hM : MT I V) {Pt : Nat → Nat → Int32} {g : Nat → Nat → Bool} (hz : pza V Pt g) (hl : ML I V Pt g) (a : Nat) (ha : a < vA V) : Mt l G mX12_paidOf (4) 0 0 [.ref (ra G 172), .int (nI a)] (wd I L R) (pL (.int (paidS V (Pt a) (g a))) I R) := by
  refine mt_of (own := RX12) (by decide) rfl rfl (fun Z C P B => ?_)
  have D := @dc_of _ _ dX12_paidOf
  have hk4 := hV.2.2.1
  have Lp : ∀ (m k : Nat) (L1 : Nat → Nat → Int64), k + m = vB V → J Z (0, 0) 4 [some (.ref (ra G 172)), some (.int (nI a)), some (.int (sumN (fun j => if tstS (envZ (Pt a) (g a) (vE V)) (vts V j) = true then vbn V j else 0) k)), some (.int (nI k))] [] (wd I L1 R) := by
    intro m
    induction m with
    | zero =>
      intro k L1 hk
      refine j_iload_n C (D 4 rfl) rfl ?_
      refine j_aload_n C (D 5 rfl) rfl ?_
      refine j_geti C f_X12_306 (lit (kd := 12) (n := 48) rfl) rfl rfl (D 6 rfl) ?_
      rw [hM.2.2.2.1]
      refine j_icmp_ge C  40 (D 7 rfl) (by decide) (fun h9 => ?_) (fun h9 => absurd h9 (fun z => z ((nle (by omega) (by omega)).mpr (by omega))))
      refine j_iload_n C (D 24 rfl) rfl ?_
      exact j_iret C P rfl (D 25 rfl) ⟨Nat.le_refl _, Nat.le_refl _⟩ (pl_i (by rw [paidS, show vB V = k by omega]))
    | succ m ih =>
      intro k L1 hk
      refine j_iload_n C (D 4 rfl) rfl ?_
      refine j_aload_n C (D 5 rfl) rfl ?_
      refine j_geti C f_X12_306 (lit (kd := 12) (n := 48) rfl) rfl rfl (D 6 rfl) ?_
      rw [hM.2.2.2.1]
      refine j_icmp_ge C  40 (D 7 rfl) (by decide) (fun h9 => absurd h9 (fun z => by rw [nle (by omega) (by omega)] at z; omega)) (fun h9 => ?_)
      refine j_iload_n C (D 8 rfl) rfl ?_
      refine j_aload_n C (D 9 rfl) rfl ?_
      refine j_iload_n C (D 10 rfl) rfl ?_
      refine j_iload_n C (D 11 rfl) rfl ?_
      refine j_callV C B k_X12_388 (rc_obj C (lit (kd := 12) (n := 48) rfl) rfl rfl) (d_isSo _ _ hL hV hM hz hl k a (by omega) ha) rfl rfl rfl rfl ⟨Nat.le_refl _, Nat.le_refl _⟩ (D 12 rfl) ?_
      rintro r w' ⟨rfl, L2, rfl⟩
      refine j_if_eq C  31 (D 13 rfl) (by decide) (fun h19 => ?_) (fun h19 => ?_)
      · refine j_iconst C (v := nI 0) (D 19 rfl) rfl ?_
        refine j_iadd C (D 20 rfl) ?_
        refine j_istore_n C (D 21 rfl) rfl ?_
        first | refine j_iinc1 C (D 22 rfl) rfl rfl ?_ | refine j_iinc C (D 22 rfl) rfl rfl rfl ?_
        refine j_goto C 4 (D 23 rfl) (by decide) ?_
        rw [show sumN (fun j => if tstS (envZ (Pt a) (g a) (vE V)) (vts V j) = true then vbn V j else 0) k + nI 0 = sumN (fun j => if tstS (envZ (Pt a) (g a) (vE V)) (vts V j) = true then vbn V j else 0) (k + 1) by rw [sumN, if_neg (b2_eq h19)]; rfl]
        exact ih (k + 1) _ (by omega)
      · refine j_aload_n C (D 14 rfl) rfl ?_
        refine j_getr C f_X12_13 (lit (kd := 12) (n := 48) rfl) rfl rfl (hL _ _ _ rfl) (D 15 rfl) ?_
        refine j_iload_n C (D 16 rfl) rfl ?_
        refine j_iald C (lit (kd := 20) (n := 4) rfl) (ix_n (by omega) (by decide)) (D 17 rfl) ?_
        rw [hM.2.2.2.2.2.2.1 k (by omega)]
        refine j_goto C 32 (D 18 rfl) (by decide) ?_
        refine j_iadd C (D 20 rfl) ?_
        refine j_istore_n C (D 21 rfl) rfl ?_
        first | refine j_iinc1 C (D 22 rfl) rfl rfl ?_ | refine j_iinc C (D 22 rfl) rfl rfl rfl ?_
        refine j_goto C 4 (D 23 rfl) (by decide) ?_
        rw [show sumN (fun j => if tstS (envZ (Pt a) (g a) (vE V)) (vts V j) = true then vbn V j else 0) k + vbn V k = sumN (fun j => if tstS (envZ (Pt a) (g a) (vE V)) (vts V j) = true then vbn V j else 0) (k + 1) by rw [sumN, if_pos (b2_ne h19)]]
        exact ih (k + 1) _ (by omega)
  refine j_iconst C (v := nI 0) (D 0 rfl) rfl ?_
  refine j_istore_n C (D 1 rfl) rfl ?_
  refine j_iconst C (v := nI 0) (D 2 rfl) rfl ?_
  refine j_istore_n C (D 3 rfl) rfl ?_
  exact Lp (vB V) 0 _ (by omega)
set_option maxRecDepth 20000 in
theorem d_totalOf (l : Launch) (G : GT) {I : Nat → Nat → Int32} {L : Nat → Nat → Int64} {R : Nat → Nat → Option Nat} (hL : Lay R) {V : VT} (hV : WV V) (hM : MT I V) {Pt : Nat → Nat → Int32} {g : Nat → Nat → Bool} (hz : pza V Pt g) (hl : ML I V Pt g) (a : Nat) (ha : a < vA V) : Mt l G mX12_totalOf (5) 0 0 [.ref (ra G 172), .int (nI a)] (wd I L R) (pL (.int (totS V Pt g a)) I R) := by
  refine mt_of (own := RX12) (by decide) rfl rfl (fun Z C P B => ?_)
  have D := @dc_of _ _ dX12_totalOf
  refine j_aload_n C (D 0 rfl) rfl ?_
  refine j_iload_n C (D 1 rfl) rfl ?_
  refine j_cVp C B k_X12_368 (rc_obj C (lit (kd := 12) (n := 48) rfl) rfl rfl) (d_sumOf _ _ hL hV hM hz hl a ha) rfl rfl rfl rfl ⟨Nat.le_refl _, Nat.le_refl _⟩ (D 2 rfl) ?_
  refine j_aload_n C (D 3 rfl) rfl ?_
  refine j_iload_n C (D 4 rfl) rfl ?_
  refine j_callV C B k_X12_392 (rc_obj C (lit (kd := 12) (n := 48) rfl) rfl rfl) (d_paidOf _ _ hL hV hM hz hl a ha) rfl rfl rfl rfl ⟨Nat.le_refl _, Nat.le_refl _⟩ (D 5 rfl) ?_
  rintro r w' ⟨rfl, L2, rfl⟩
  refine j_iadd C (D 6 rfl) ?_
  exact j_iret C P rfl (D 7 rfl) ⟨Nat.le_refl _, Nat.le_refl _⟩ (pl_i rfl)
set_option maxRecDepth 20000 in
theorem d_isAhead (l : Launch) (G : GT) {I : Nat → Nat → Int32} {L : Nat → Nat → Int64} {R : Nat → Nat → Option Nat} (hL : Lay R) {V : VT} (hV : WV V) (hM : MT I V) {Pt : Nat → Nat → Int32} {g : Nat → Nat → Bool} (hz : pza V Pt g) (hl : ML I V Pt g) (a b : Nat) (ha : a < vA V) (hb : b < vA V) : Mt l G mX12_isAhead (6) 0 0 [.ref (ra G 172), .int (nI a), .int (nI b)] (wd I L R) (pL (.int (b2 (ahS V Pt g a b = true))) I R) := by
  refine mt_of (own := RX12) (by decide) rfl rfl (fun Z C P B => ?_)
  have D := @dc_of _ _ dX12_isAhead
  have hA8 := hV.2.1
  have hE10 := hV.1
  have hwa := wins_le Pt (vA V) (vE V) a
  have hwb := wins_le Pt (vA V) (vE V) b
  refine j_aload_n C (D 0 rfl) rfl ?_
  refine j_iload_n C (D 1 rfl) rfl ?_
  refine j_callV C B k_X12_395 (rc_obj C (lit (kd := 12) (n := 48) rfl) rfl rfl) (d_totalOf _ _ hL hV hM hz hl a ha) rfl rfl rfl rfl ⟨Nat.le_refl _, Nat.le_refl _⟩ (D 2 rfl) ?_
  rintro r w' ⟨rfl, L2, rfl⟩
  refine j_istore_n C (D 3 rfl) rfl ?_
  refine j_aload_n C (D 4 rfl) rfl ?_
  refine j_iload_n C (D 5 rfl) rfl ?_
  refine j_callV C B k_X12_395 (rc_obj C (lit (kd := 12) (n := 48) rfl) rfl rfl) (d_totalOf _ _ hL hV hM hz hl b hb) rfl rfl rfl rfl ⟨Nat.le_refl _, Nat.le_refl _⟩ (D 6 rfl) ?_
  rintro r w' ⟨rfl, L3, rfl⟩
  refine j_istore C (D 7 rfl) rfl ?_
  refine j_iload_n C (D 8 rfl) rfl ?_
  refine j_iload C (D 9 rfl) rfl ?_
  refine j_icmp_eq C  31 (D 10 rfl) (by decide) (fun h16 => ?_) (fun h16 => ?_)
  · refine j_aload_n C (D 18 rfl) rfl ?_
    refine j_geti C f_X12_309 (lit (kd := 12) (n := 48) rfl) rfl rfl (D 19 rfl) ?_
    rw [hM.2.2.1]
    refine j_iconst C (v := nI 1) (D 20 rfl) rfl ?_
    refine j_icmp_ne C  71 (D 21 rfl) (by decide) (fun h36 => ?_) (fun h36 => ?_)
    · refine j_aload_n C (D 40 rfl) rfl ?_
      refine j_geti C f_X12_309 (lit (kd := 12) (n := 48) rfl) rfl rfl (D 41 rfl) ?_
      rw [hM.2.2.1]
      refine j_iconst C (v := nI 2) (D 42 rfl) rfl ?_
      refine j_icmp_ne C  111 (D 43 rfl) (by decide) (fun h76 => ?_) (fun h76 => ?_)
      · refine j_iload_n C (D 62 rfl) rfl ?_
        refine j_iload_n C (D 63 rfl) rfl ?_
        refine j_icmp_ge C  120 (D 64 rfl) (by decide) (fun h113 => ?_) (fun h113 => ?_)
        · refine j_iconst C (v := nI 0) (D 67 rfl) rfl ?_
          exact j_zret C P rfl (by first | exact isB_1 | exact isB_0) (D 68 rfl) ⟨Nat.le_refl _, Nat.le_refl _⟩ (pl_i (b2_f (by rw [ahS, if_neg (fun z => z h16), if_neg (fun z => h36 z.1), if_neg (fun z => h76 z.1), decide_eq_true_eq]; rw [nle (by omega) (by omega)] at h113; omega)))
        · refine j_iconst C (v := nI 1) (D 65 rfl) rfl ?_
          refine j_goto C 121 (D 66 rfl) (by decide) ?_
          exact j_zret C P rfl (by first | exact isB_1 | exact isB_0) (D 68 rfl) ⟨Nat.le_refl _, Nat.le_refl _⟩ (pl_i (b2_t (by rw [ahS, if_neg (fun z => z h16), if_neg (fun z => h36 z.1), if_neg (fun z => h76 z.1), decide_eq_true_eq]; rw [nle (by omega) (by omega)] at h113; omega)))
      · refine j_aload_n C (D 44 rfl) rfl ?_
        refine j_iload_n C (D 45 rfl) rfl ?_
        refine j_cVp C B k_X12_398 (rc_obj C (lit (kd := 12) (n := 48) rfl) rfl rfl) (d_winsOf _ _ hL hV hM hz hl a ha) rfl rfl rfl rfl ⟨Nat.le_refl _, Nat.le_refl _⟩ (D 46 rfl) ?_
        refine j_aload_n C (D 47 rfl) rfl ?_
        refine j_iload_n C (D 48 rfl) rfl ?_
        refine j_cVp C B k_X12_398 (rc_obj C (lit (kd := 12) (n := 48) rfl) rfl rfl) (d_winsOf _ _ hL hV hM hz hl b hb) rfl rfl rfl rfl ⟨Nat.le_refl _, Nat.le_refl _⟩ (D 49 rfl) ?_
        refine j_icmp_eq C  111 (D 50 rfl) (by decide) (fun h89 => ?_) (fun h89 => ?_)
        · refine j_iload_n C (D 62 rfl) rfl ?_
          refine j_iload_n C (D 63 rfl) rfl ?_
          refine j_icmp_ge C  120 (D 64 rfl) (by decide) (fun h113 => ?_) (fun h113 => ?_)
          · refine j_iconst C (v := nI 0) (D 67 rfl) rfl ?_
            exact j_zret C P rfl (by first | exact isB_1 | exact isB_0) (D 68 rfl) ⟨Nat.le_refl _, Nat.le_refl _⟩ (pl_i (b2_f (by rw [ahS, if_neg (fun z => z h16), if_neg (fun z => h36 z.1), if_neg (fun z => z.2 (nI_inj (by omega) (by omega) h89)), decide_eq_true_eq]; rw [nle (by omega) (by omega)] at h113; omega)))
          · refine j_iconst C (v := nI 1) (D 65 rfl) rfl ?_
            refine j_goto C 121 (D 66 rfl) (by decide) ?_
            exact j_zret C P rfl (by first | exact isB_1 | exact isB_0) (D 68 rfl) ⟨Nat.le_refl _, Nat.le_refl _⟩ (pl_i (b2_t (by rw [ahS, if_neg (fun z => z h16), if_neg (fun z => h36 z.1), if_neg (fun z => z.2 (nI_inj (by omega) (by omega) h89)), decide_eq_true_eq]; rw [nle (by omega) (by omega)] at h113; omega)))
        · refine j_aload_n C (D 51 rfl) rfl ?_
          refine j_iload_n C (D 52 rfl) rfl ?_
          refine j_cVp C B k_X12_398 (rc_obj C (lit (kd := 12) (n := 48) rfl) rfl rfl) (d_winsOf _ _ hL hV hM hz hl a ha) rfl rfl rfl rfl ⟨Nat.le_refl _, Nat.le_refl _⟩ (D 53 rfl) ?_
          refine j_aload_n C (D 54 rfl) rfl ?_
          refine j_iload_n C (D 55 rfl) rfl ?_
          refine j_cVp C B k_X12_398 (rc_obj C (lit (kd := 12) (n := 48) rfl) rfl rfl) (d_winsOf _ _ hL hV hM hz hl b hb) rfl rfl rfl rfl ⟨Nat.le_refl _, Nat.le_refl _⟩ (D 56 rfl) ?_
          refine j_icmp_le C  109 (D 57 rfl) (by decide) (fun h102 => ?_) (fun h102 => ?_)
          · refine j_iconst C (v := nI 0) (D 60 rfl) rfl ?_
            exact j_zret C P rfl (by first | exact isB_1 | exact isB_0) (D 61 rfl) ⟨Nat.le_refl _, Nat.le_refl _⟩ (pl_i (b2_f (by rw [ahS, if_neg (fun z => z h16), if_neg (fun z => h36 z.1), if_pos ⟨h76, fun z => h89 (by rw [z])⟩, decide_eq_true_eq]; rw [nle (by omega) (by omega)] at h102; omega)))
          · refine j_iconst C (v := nI 1) (D 58 rfl) rfl ?_
            refine j_goto C 110 (D 59 rfl) (by decide) ?_
            exact j_zret C P rfl (by first | exact isB_1 | exact isB_0) (D 61 rfl) ⟨Nat.le_refl _, Nat.le_refl _⟩ (pl_i (b2_t (by rw [ahS, if_neg (fun z => z h16), if_neg (fun z => h36 z.1), if_pos ⟨h76, fun z => h89 (by rw [z])⟩, decide_eq_true_eq]; rw [nle (by omega) (by omega)] at h102; omega)))
    · refine j_aload_n C (D 22 rfl) rfl ?_
      refine j_iload_n C (D 23 rfl) rfl ?_
      refine j_cVp C B k_X12_374 (rc_obj C (lit (kd := 12) (n := 48) rfl) rfl rfl) (d_bestOf _ _ hL hV hM hz hl a ha) rfl rfl rfl rfl ⟨Nat.le_refl _, Nat.le_refl _⟩ (D 24 rfl) ?_
      refine j_aload_n C (D 25 rfl) rfl ?_
      refine j_iload_n C (D 26 rfl) rfl ?_
      refine j_cVp C B k_X12_374 (rc_obj C (lit (kd := 12) (n := 48) rfl) rfl rfl) (d_bestOf _ _ hL hV hM hz hl b hb) rfl rfl rfl rfl ⟨Nat.le_refl _, Nat.le_refl _⟩ (D 27 rfl) ?_
      refine j_icmp_eq C  71 (D 28 rfl) (by decide) (fun h49 => ?_) (fun h49 => ?_)
      · refine j_aload_n C (D 40 rfl) rfl ?_
        refine j_geti C f_X12_309 (lit (kd := 12) (n := 48) rfl) rfl rfl (D 41 rfl) ?_
        rw [hM.2.2.1]
        refine j_iconst C (v := nI 2) (D 42 rfl) rfl ?_
        refine j_icmp_ne C  111 (D 43 rfl) (by decide) (fun h76 => ?_) (fun h76 => ?_)
        · refine j_iload_n C (D 62 rfl) rfl ?_
          refine j_iload_n C (D 63 rfl) rfl ?_
          refine j_icmp_ge C  120 (D 64 rfl) (by decide) (fun h113 => ?_) (fun h113 => ?_)
          · refine j_iconst C (v := nI 0) (D 67 rfl) rfl ?_
            exact j_zret C P rfl (by first | exact isB_1 | exact isB_0) (D 68 rfl) ⟨Nat.le_refl _, Nat.le_refl _⟩ (pl_i (b2_f (by rw [ahS, if_neg (fun z => z h16), if_neg (fun z => z.2 h49), if_neg (fun z => h76 z.1), decide_eq_true_eq]; rw [nle (by omega) (by omega)] at h113; omega)))
          · refine j_iconst C (v := nI 1) (D 65 rfl) rfl ?_
            refine j_goto C 121 (D 66 rfl) (by decide) ?_
            exact j_zret C P rfl (by first | exact isB_1 | exact isB_0) (D 68 rfl) ⟨Nat.le_refl _, Nat.le_refl _⟩ (pl_i (b2_t (by rw [ahS, if_neg (fun z => z h16), if_neg (fun z => z.2 h49), if_neg (fun z => h76 z.1), decide_eq_true_eq]; rw [nle (by omega) (by omega)] at h113; omega)))
        · refine j_aload_n C (D 44 rfl) rfl ?_
          refine j_iload_n C (D 45 rfl) rfl ?_
          refine j_cVp C B k_X12_398 (rc_obj C (lit (kd := 12) (n := 48) rfl) rfl rfl) (d_winsOf _ _ hL hV hM hz hl a ha) rfl rfl rfl rfl ⟨Nat.le_refl _, Nat.le_refl _⟩ (D 46 rfl) ?_
          refine j_aload_n C (D 47 rfl) rfl ?_
          refine j_iload_n C (D 48 rfl) rfl ?_
          refine j_cVp C B k_X12_398 (rc_obj C (lit (kd := 12) (n := 48) rfl) rfl rfl) (d_winsOf _ _ hL hV hM hz hl b hb) rfl rfl rfl rfl ⟨Nat.le_refl _, Nat.le_refl _⟩ (D 49 rfl) ?_
          refine j_icmp_eq C  111 (D 50 rfl) (by decide) (fun h89 => ?_) (fun h89 => ?_)
          · refine j_iload_n C (D 62 rfl) rfl ?_
            refine j_iload_n C (D 63 rfl) rfl ?_
            refine j_icmp_ge C  120 (D 64 rfl) (by decide) (fun h113 => ?_) (fun h113 => ?_)
            · refine j_iconst C (v := nI 0) (D 67 rfl) rfl ?_
              exact j_zret C P rfl (by first | exact isB_1 | exact isB_0) (D 68 rfl) ⟨Nat.le_refl _, Nat.le_refl _⟩ (pl_i (b2_f (by rw [ahS, if_neg (fun z => z h16), if_neg (fun z => z.2 h49), if_neg (fun z => z.2 (nI_inj (by omega) (by omega) h89)), decide_eq_true_eq]; rw [nle (by omega) (by omega)] at h113; omega)))
            · refine j_iconst C (v := nI 1) (D 65 rfl) rfl ?_
              refine j_goto C 121 (D 66 rfl) (by decide) ?_
              exact j_zret C P rfl (by first | exact isB_1 | exact isB_0) (D 68 rfl) ⟨Nat.le_refl _, Nat.le_refl _⟩ (pl_i (b2_t (by rw [ahS, if_neg (fun z => z h16), if_neg (fun z => z.2 h49), if_neg (fun z => z.2 (nI_inj (by omega) (by omega) h89)), decide_eq_true_eq]; rw [nle (by omega) (by omega)] at h113; omega)))
          · refine j_aload_n C (D 51 rfl) rfl ?_
            refine j_iload_n C (D 52 rfl) rfl ?_
            refine j_cVp C B k_X12_398 (rc_obj C (lit (kd := 12) (n := 48) rfl) rfl rfl) (d_winsOf _ _ hL hV hM hz hl a ha) rfl rfl rfl rfl ⟨Nat.le_refl _, Nat.le_refl _⟩ (D 53 rfl) ?_
            refine j_aload_n C (D 54 rfl) rfl ?_
            refine j_iload_n C (D 55 rfl) rfl ?_
            refine j_cVp C B k_X12_398 (rc_obj C (lit (kd := 12) (n := 48) rfl) rfl rfl) (d_winsOf _ _ hL hV hM hz hl b hb) rfl rfl rfl rfl ⟨Nat.le_refl _, Nat.le_refl _⟩ (D 56 rfl) ?_
            refine j_icmp_le C  109 (D 57 rfl) (by decide) (fun h102 => ?_) (fun h102 => ?_)
            · refine j_iconst C (v := nI 0) (D 60 rfl) rfl ?_
              exact j_zret C P rfl (by first | exact isB_1 | exact isB_0) (D 61 rfl) ⟨Nat.le_refl _, Nat.le_refl _⟩ (pl_i (b2_f (by rw [ahS, if_neg (fun z => z h16), if_neg (fun z => z.2 h49), if_pos ⟨h76, fun z => h89 (by rw [z])⟩, decide_eq_true_eq]; rw [nle (by omega) (by omega)] at h102; omega)))
            · refine j_iconst C (v := nI 1) (D 58 rfl) rfl ?_
              refine j_goto C 110 (D 59 rfl) (by decide) ?_
              exact j_zret C P rfl (by first | exact isB_1 | exact isB_0) (D 61 rfl) ⟨Nat.le_refl _, Nat.le_refl _⟩ (pl_i (b2_t (by rw [ahS, if_neg (fun z => z h16), if_neg (fun z => z.2 h49), if_pos ⟨h76, fun z => h89 (by rw [z])⟩, decide_eq_true_eq]; rw [nle (by omega) (by omega)] at h102; omega)))
      · refine j_aload_n C (D 29 rfl) rfl ?_
        refine j_iload_n C (D 30 rfl) rfl ?_
        refine j_cVp C B k_X12_374 (rc_obj C (lit (kd := 12) (n := 48) rfl) rfl rfl) (d_bestOf _ _ hL hV hM hz hl a ha) rfl rfl rfl rfl ⟨Nat.le_refl _, Nat.le_refl _⟩ (D 31 rfl) ?_
        refine j_aload_n C (D 32 rfl) rfl ?_
        refine j_iload_n C (D 33 rfl) rfl ?_
        refine j_cVp C B k_X12_374 (rc_obj C (lit (kd := 12) (n := 48) rfl) rfl rfl) (d_bestOf _ _ hL hV hM hz hl b hb) rfl rfl rfl rfl ⟨Nat.le_refl _, Nat.le_refl _⟩ (D 34 rfl) ?_
        refine j_icmp_le C  69 (D 35 rfl) (by decide) (fun h62 => ?_) (fun h62 => ?_)
        · refine j_iconst C (v := nI 0) (D 38 rfl) rfl ?_
          exact j_zret C P rfl (by first | exact isB_1 | exact isB_0) (D 39 rfl) ⟨Nat.le_refl _, Nat.le_refl _⟩ (pl_i (b2_f (by rw [ahS, if_neg (fun z => z h16), if_pos ⟨h36, h49⟩, decide_eq_true_eq]; rw [i_le] at h62; rw [i_lt]; omega)))
        · refine j_iconst C (v := nI 1) (D 36 rfl) rfl ?_
          refine j_goto C 70 (D 37 rfl) (by decide) ?_
          exact j_zret C P rfl (by first | exact isB_1 | exact isB_0) (D 39 rfl) ⟨Nat.le_refl _, Nat.le_refl _⟩ (pl_i (b2_t (by rw [ahS, if_neg (fun z => z h16), if_pos ⟨h36, h49⟩, decide_eq_true_eq]; rw [i_le] at h62; rw [i_lt]; omega)))
  · refine j_iload_n C (D 11 rfl) rfl ?_
    refine j_iload C (D 12 rfl) rfl ?_
    refine j_icmp_le C  29 (D 13 rfl) (by decide) (fun h22 => ?_) (fun h22 => ?_)
    · refine j_iconst C (v := nI 0) (D 16 rfl) rfl ?_
      exact j_zret C P rfl (by first | exact isB_1 | exact isB_0) (D 17 rfl) ⟨Nat.le_refl _, Nat.le_refl _⟩ (pl_i (b2_f (by rw [ahS, if_pos h16, decide_eq_true_eq]; rw [i_le] at h22; rw [i_lt]; omega)))
    · refine j_iconst C (v := nI 1) (D 14 rfl) rfl ?_
      refine j_goto C 30 (D 15 rfl) (by decide) ?_
      exact j_zret C P rfl (by first | exact isB_1 | exact isB_0) (D 17 rfl) ⟨Nat.le_refl _, Nat.le_refl _⟩ (pl_i (b2_t (by rw [ahS, if_pos h16, decide_eq_true_eq]; rw [i_le] at h22; rw [i_lt]; omega)))
set_option maxRecDepth 20000 in
theorem d_rankOf (l : Launch) (G : GT) {I : Nat → Nat → Int32} {L : Nat → Nat → Int64} {R : Nat → Nat → Option Nat} (hL : Lay R) {V : VT} (hV : WV V) (hM : MT I V) {Pt : Nat → Nat → Int32} {g : Nat → Nat → Bool} (hz : pza V Pt g) (hl : ML I V Pt g) (a : Nat) (ha : a < vA V) : Mt l G mX12_rankOf (7) 0 0 [.ref (ra G 172), .int (nI a)] (wd I L R) (pL (.int (nI (rkS V Pt g a))) I R) := by
  refine mt_of (own := RX12) (by decide) rfl rfl (fun Z C P B => ?_)
  have D := @dc_of _ _ dX12_rankOf
  have hA8 := hV.2.1
  have Lp : ∀ (m b : Nat) (L1 : Nat → Nat → Int64), b + m = vA V → J Z (0, 0) 4 [some (.ref (ra G 172)), some (.int (nI a)), some (.int (nI (cnt (fun b => !decide (b = a) && ahS V Pt g b a) b))), some (.int (nI b))] [] (wd I L1 R) := by
    intro m
    induction m with
    | zero =>
      intro b L1 hb
      refine j_iload_n C (D 4 rfl) rfl ?_
      refine j_aload_n C (D 5 rfl) rfl ?_
      refine j_geti C f_X12_303 (lit (kd := 12) (n := 48) rfl) rfl rfl (D 6 rfl) ?_
      rw [hM.2.1]
      refine j_icmp_ge C  40 (D 7 rfl) (by decide) (fun h9 => ?_) (fun h9 => absurd h9 (fun z => z ((nle (by omega) (by omega)).mpr (by omega))))
      refine j_iload_n C (D 24 rfl) rfl ?_
      exact j_iret C P rfl (D 25 rfl) ⟨Nat.le_refl _, Nat.le_refl _⟩ (pl_i (by rw [rkS, show vA V = b by omega]))
    | succ m ih =>
      intro b L1 hb
      refine j_iload_n C (D 4 rfl) rfl ?_
      refine j_aload_n C (D 5 rfl) rfl ?_
      refine j_geti C f_X12_303 (lit (kd := 12) (n := 48) rfl) rfl rfl (D 6 rfl) ?_
      rw [hM.2.1]
      refine j_icmp_ge C  40 (D 7 rfl) (by decide) (fun h9 => absurd h9 (fun z => by rw [nle (by omega) (by omega)] at z; omega)) (fun h9 => ?_)
      refine j_iload_n C (D 8 rfl) rfl ?_
      refine j_iload_n C (D 9 rfl) rfl ?_
      refine j_iload_n C (D 10 rfl) rfl ?_
      refine j_icmp_eq C  31 (D 11 rfl) (by decide) (fun h15 => ?_) (fun h15 => ?_)
      · refine j_iconst C (v := nI 0) (D 19 rfl) rfl ?_
        refine j_iadd C (D 20 rfl) ?_
        refine j_istore_n C (D 21 rfl) rfl ?_
        first | refine j_iinc1 C (D 22 rfl) rfl rfl ?_ | refine j_iinc C (D 22 rfl) rfl rfl rfl ?_
        refine j_goto C 4 (D 23 rfl) (by decide) ?_
        rw [show nI (cnt (fun b => !decide (b = a) && ahS V Pt g b a) b) + nI 0 = nI (cnt (fun b => !decide (b = a) && ahS V Pt g b a) (b + 1)) by rw [nI_add, cnt_f (by rw [nI_inj (by omega) (by omega) h15]; simp)]; rfl]
        exact ih (b + 1) _ (by omega)
      · refine j_aload_n C (D 12 rfl) rfl ?_
        refine j_iload_n C (D 13 rfl) rfl ?_
        refine j_iload_n C (D 14 rfl) rfl ?_
        refine j_callV C B k_X12_401 (rc_obj C (lit (kd := 12) (n := 48) rfl) rfl rfl) (d_isAhead _ _ hL hV hM hz hl b a (by omega) ha) rfl rfl rfl rfl ⟨Nat.le_refl _, Nat.le_refl _⟩ (D 15 rfl) ?_
        rintro r w' ⟨rfl, L2, rfl⟩
        refine j_if_eq C  31 (D 16 rfl) (by decide) (fun h24 => ?_) (fun h24 => ?_)
        · refine j_iconst C (v := nI 0) (D 19 rfl) rfl ?_
          refine j_iadd C (D 20 rfl) ?_
          refine j_istore_n C (D 21 rfl) rfl ?_
          first | refine j_iinc1 C (D 22 rfl) rfl rfl ?_ | refine j_iinc C (D 22 rfl) rfl rfl rfl ?_
          refine j_goto C 4 (D 23 rfl) (by decide) ?_
          rw [show nI (cnt (fun b => !decide (b = a) && ahS V Pt g b a) b) + nI 0 = nI (cnt (fun b => !decide (b = a) && ahS V Pt g b a) (b + 1)) by rw [nI_add, cnt_f (by simp; intro _; simpa using b2_eq h24)]; rfl]
          exact ih (b + 1) _ (by omega)
        · refine j_iconst C (v := nI 1) (D 17 rfl) rfl ?_
          refine j_goto C 32 (D 18 rfl) (by decide) ?_
          refine j_iadd C (D 20 rfl) ?_
          refine j_istore_n C (D 21 rfl) rfl ?_
          first | refine j_iinc1 C (D 22 rfl) rfl rfl ?_ | refine j_iinc C (D 22 rfl) rfl rfl rfl ?_
          refine j_goto C 4 (D 23 rfl) (by decide) ?_
          rw [show nI (cnt (fun b => !decide (b = a) && ahS V Pt g b a) b) + nI 1 = nI (cnt (fun b => !decide (b = a) && ahS V Pt g b a) (b + 1)) by rw [nI_add, cnt_t (by simp; exact ⟨fun q => h15 (by rw [q]), b2_ne h24⟩)]]
          exact ih (b + 1) _ (by omega)
  refine j_iconst C (v := nI 0) (D 0 rfl) rfl ?_
  refine j_istore_n C (D 1 rfl) rfl ?_
  refine j_iconst C (v := nI 0) (D 2 rfl) rfl ?_
  refine j_istore_n C (D 3 rfl) rfl ?_
  exact Lp (vA V) 0 _ (by omega)
set_option maxRecDepth 20000 in
theorem d_placed (l : Launch) (G : GT) {I : Nat → Nat → Int32} {L : Nat → Nat → Int64} {R : Nat → Nat → Option Nat} (hL : Lay R) {V : VT} (hV : WV V) (hM : MT I V) {Pt : Nat → Nat → Int32} {g : Nat → Nat → Bool} (hz : pza V Pt g) (hl : ML I V Pt g) (k : Int32) : Mt l G mX12_placed (8) 0 0 [.ref (ra G 172), .int k] (wd I L R) (pL (.int (plS V Pt g k)) I R) := by
  refine mt_of (own := RX12) (by decide) rfl rfl (fun Z C P B => ?_)
  have D := @dc_of _ _ dX12_placed
  have hA8 := hV.2.1
  have Lp : ∀ (m a : Nat) (L1 : Nat → Nat → Int64), a + m = vA V → fst1 (fun a => decide (nI (rkS V Pt g a) = k)) (vA V) 0 = fst1 (fun a => decide (nI (rkS V Pt g a) = k)) m a → J Z (0, 0) 2 [some (.ref (ra G 172)), some (.int k), some (.int (nI a))] [] (wd I L1 R) := by
    intro m
    induction m with
    | zero =>
      intro a L1 ha hf
      refine j_iload_n C (D 2 rfl) rfl ?_
      refine j_aload_n C (D 3 rfl) rfl ?_
      refine j_geti C f_X12_303 (lit (kd := 12) (n := 48) rfl) rfl rfl (D 4 rfl) ?_
      rw [hM.2.1]
      refine j_icmp_ge C  27 (D 5 rfl) (by decide) (fun h7 => ?_) (fun h7 => absurd h7 (fun z => z ((nle (by omega) (by omega)).mpr (by omega))))
      refine j_iconst C (v := (-1)) (D 15 rfl) rfl ?_
      exact j_iret C P rfl (D 16 rfl) ⟨Nat.le_refl _, Nat.le_refl _⟩ (pl_i (by rw [plS, hf]; rfl))
    | succ m ih =>
      intro a L1 ha hf
      refine j_iload_n C (D 2 rfl) rfl ?_
      refine j_aload_n C (D 3 rfl) rfl ?_
      refine j_geti C f_X12_303 (lit (kd := 12) (n := 48) rfl) rfl rfl (D 4 rfl) ?_
      rw [hM.2.1]
      refine j_icmp_ge C  27 (D 5 rfl) (by decide) (fun h7 => absurd h7 (fun z => by rw [nle (by omega) (by omega)] at z; omega)) (fun h7 => ?_)
      refine j_aload_n C (D 6 rfl) rfl ?_
      refine j_iload_n C (D 7 rfl) rfl ?_
      refine j_callV C B k_X12_404 (rc_obj C (lit (kd := 12) (n := 48) rfl) rfl rfl) (d_rankOf _ _ hL hV hM hz hl a (by omega)) rfl rfl rfl rfl ⟨Nat.le_refl _, Nat.le_refl _⟩ (D 8 rfl) ?_
      rintro r w' ⟨rfl, L2, rfl⟩
      refine j_iload_n C (D 9 rfl) rfl ?_
      refine j_icmp_ne C  21 (D 10 rfl) (by decide) (fun h16 => ?_) (fun h16 => ?_)
      · first | refine j_iinc1 C (D 13 rfl) rfl rfl ?_ | refine j_iinc C (D 13 rfl) rfl rfl rfl ?_
        refine j_goto C 2 (D 14 rfl) (by decide) ?_
        exact ih (a + 1) _ (by omega) (by rw [hf, fst1, if_neg (by simp [h16])])
      · refine j_iload_n C (D 11 rfl) rfl ?_
        exact j_iret C P rfl (D 12 rfl) ⟨Nat.le_refl _, Nat.le_refl _⟩ (pl_i (by rw [plS, hf, fst1, if_pos (by simp [h16])]))
  refine j_iconst C (v := nI 0) (D 0 rfl) rfl ?_
  refine j_istore_n C (D 1 rfl) rfl ?_
  exact Lp (vA V) 0 _ (by omega) rfl
