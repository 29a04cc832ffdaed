/-! texts: their lengths and signs -/
section STRG
variable {Z : ZT} {G : GT} {mi : MI} {own : String} {cs : Nat × Nat} {pc idx : Nat} {ls : LV} {st : List Value} {w : Wd}
theorem ra_k (G : GT) {i : Nat} (hi : i < 67) : ra G (2000 + i) = gK G i := by
  unfold ra
  rw [if_neg (by omega), if_neg (by omega), if_pos (by omega), show 2000 + i - 2000 = i by omega]
theorem ra_v (G : GT) (i : Nat) : ra G (3000 + i) = gV G i := by
  unfold ra
  rw [if_neg (by omega), if_neg (by omega), if_neg (by omega), show 3000 + i - 3000 = i by omega]
theorem j_gval (C : CX Z G mi own) {i : Nat} (hi : i < 67) (lk : Cond.fieldLink own idx "java/lang/String" "value" "[B" ∈ tbl2) (hd : decode mi.2.1 pc = .ok (.getfield idx, 3)) (kk : J Z cs (pc + 3) ls (.ref (ra G (3000 + i)) :: st) w) : J Z cs pc ls (.ref (ra G (2000 + i)) :: st) w := by
  intro H locs la hH hS hl
  have hG : zG Z = G := C.2.2.1
  have kk := kk H locs la hH hS hl
  rw [hG] at hS
  rw [ra_v] at kk
  rw [ra_k G hi]
  exact vk_getf C.1 C.2.1 (C.2.2.2.2.2.2.2.2.1.2.2.2.2.1 i hi).2.2.1 hS C.2.2.2.2.2.1 (C.2.2.2.2.2.2.1 _ lk) (fun _ h => h) hd kk
theorem j_gcod (C : CX Z G mi own) {i : Nat} (hi : i < 67) (lk : Cond.fieldLink own idx "java/lang/String" "coder" "B" ∈ tbl2) (hd : decode mi.2.1 pc = .ok (.getfield idx, 3)) (kk : J Z cs (pc + 3) ls (.int 0 :: st) w) : J Z cs pc ls (.ref (ra G (2000 + i)) :: st) w := by
  intro H locs la hH hS hl
  have hG : zG Z = G := C.2.2.1
  have kk := kk H locs la hH hS hl
  rw [hG] at hS
  rw [ra_k G hi]
  exact vk_getf C.1 C.2.1 (C.2.2.2.2.2.2.2.2.1.2.2.2.2.1 i hi).2.1 hS C.2.2.2.2.2.1 (C.2.2.2.2.2.2.1 _ lk) (fun _ h => h) hd kk
theorem j_gspl (C : CX Z G mi own) {i : Nat} (hi : i < 42) (lk : Cond.fieldLink own idx "TenTrials$Sign" "spelling" "Ljava/lang/String;" ∈ tbl2) (hd : decode mi.2.1 pc = .ok (.getfield idx, 3)) (kk : J Z cs (pc + 3) ls (.ref (ra G (2000 + spl i)) :: st) w) : J Z cs pc ls (.ref (ra G (1000 + i)) :: st) w := by
  intro H locs la hH hS hl
  have hG : zG Z = G := C.2.2.1
  have kk := kk H locs la hH hS hl
  rw [hG] at hS
  have h67 : ∀ i, i < 42 → spl i < 67 := by decide
  rw [ra_k G (h67 i hi)] at kk
  rw [ra_sgn G hi]
  exact vk_getf C.1 C.2.1 (C.2.2.2.2.2.2.2.2.1.2.2.1 i hi).2.2 hS C.2.2.2.2.2.1 (C.2.2.2.2.2.2.1 _ lk) (fun _ h => h) hd kk
theorem j_gcmp (C : CX Z G mi own) (lk : Cond.fieldLink own idx "java/lang/String" "COMPACT_STRINGS" "Z" ∈ tbl2) (hd : decode mi.2.1 pc = .ok (.getstatic idx, 3)) (kk : J Z cs (pc + 3) ls (.int 1 :: st) w) : J Z cs pc ls st w := by
  intro H locs la hH hS hl
  have hG : zG Z = G := C.2.2.1
  have kk := kk H locs la hH hS hl
  rw [hG] at hS
  exact va_gets C.1 C.2.1 C.2.2.2.2.2.2.2.2.1.2.2.2.2.2.2.1 hS C.2.2.2.2.2.1 (C.2.2.2.2.2.2.1 _ lk) (fun _ h => h) hd kk
theorem j_gsio (C : CX Z G mi own) (lk : Cond.fieldLink own idx "jdk/internal/util/Preconditions" "SIOOBE_FORMATTER" "Ljava/util/function/BiFunction;" ∈ tbl2) (hd : decode mi.2.1 pc = .ok (.getstatic idx, 3)) (kn : J Z cs (pc + 3) ls (.null :: st) w) (kk : ∀ t, J Z cs (pc + 3) ls (.ref t :: st) w) : J Z cs pc ls st w := by
  intro H locs la hH hS hl
  have hG : zG Z = G := C.2.2.1
  have kk := fun t => kk t H locs la hH hS hl
  have kn := kn H locs la hH hS hl
  rw [hG] at hS
  rcases C.2.2.2.2.2.2.2.2.1.2.2.2.2.2.2.2.1 with hz | ⟨t, hz⟩
  · exact va_gets C.1 C.2.1 hz hS C.2.2.2.2.2.1 (C.2.2.2.2.2.2.1 _ lk) (fun _ h => h) hd kn
  · exact va_gets C.1 C.2.1 hz hS C.2.2.2.2.2.1 (C.2.2.2.2.2.2.1 _ lk) (fun _ h => h) hd (kk t)
theorem j_tlen (C : CX Z G mi own) {i : Nat} (hi : i < 67) (hd : decode mi.2.1 pc = .ok (.arraylength, 1)) (kk : J Z cs (pc + 1) ls (.int (nI (stLen i)) :: st) w) : J Z cs pc ls (.ref (ra G (3000 + i)) :: st) w := by
  intro H locs la hH hS hl
  have hG : zG Z = G := C.2.2.1
  have kk := kk H locs la hH hS hl
  rw [hG] at hS
  rw [ra_v]
  exact va_tlen C.1 C.2.1 (C.2.2.2.2.2.2.2.2.1.2.2.2.2.1 i hi).2.2.2 hS rfl hd kk
theorem j_tbald (C : CX Z G mi own) {i k : Nat} {x : Int32} (hi : i < 67) (hx : ix x k (stLen i)) (hd : decode mi.2.1 pc = .ok (.baload, 1)) (kk : J Z cs (pc + 1) ls (.int (stByt i k) :: st) w) : J Z cs pc ls (.int x :: .ref (ra G (3000 + i)) :: st) w := by
  intro H locs la hH hS hl
  have hG : zG Z = G := C.2.2.1
  have kk := kk H locs la hH hS hl
  rw [hG] at hS
  rw [ra_v]
  exact va_tb C.1 C.2.1 (C.2.2.2.2.2.2.2.2.1.2.2.2.2.1 i hi).2.2.2 hS (ix_in hx) (by rw [ix_cl hx]) hd kk
end STRG
def chOk (x : Int32) : Bool := decide (((x &&& nI 255).toUInt32 % 65536).toInt32 = x) && decide (narrow .char (.int x) = .int x) && decide (0 ≤ x.toInt ∧ x.toInt ≤ 127)
theorem st_all : ∀ i, i < 67 → ∀ j, j < stLen i → chOk (stByt i j) = true := by decide +kernel
set_option maxRecDepth 20000 in
theorem t_coder (l : Launch) (G : GT) (w : Wd) {i : Nat} (hi : i < 67) : Mt l G mJ0_coder_7d493 (0) 0 0 [.ref (ra G (2000 + i))] w (pV (.int 0) w) := by
  refine mt_of (own := RJ0) (by decide) rfl rfl (fun Z C P B => ?_)
  have D := @dc_of _ _ dJ0_coder_7d493
  refine j_gcmp C g_J0_38 (D 0 rfl) ?_
  refine j_if_eq C  13 (D 1 rfl) (by decide) (fun h3 => absurd h3 (by decide)) (fun h3 => ?_)
  refine j_aload_n C (D 2 rfl) rfl ?_
  refine j_gcod C hi g_J0_15 (D 3 rfl) ?_
  refine j_goto C 14 (D 4 rfl) (by decide) ?_
  exact j_nret C P rfl rfl (D 6 rfl) ⟨Nat.le_refl _, Nat.le_refl _⟩ (pv_i rfl)
set_option maxRecDepth 20000 in
theorem t_length (l : Launch) (G : GT) (w : Wd) {i : Nat} (hi : i < 67) : Mt l G mJ0_length_8abf5 (1) 0 0 [.ref (ra G (2000 + i))] w (pV (.int (nI (stLen i))) w) := by
  refine mt_of (own := RJ0) (by decide) rfl rfl (fun Z C P B => ?_)
  have D := @dc_of _ _ dJ0_length_8abf5
  refine j_aload_n C (D 0 rfl) rfl ?_
  refine j_gval C hi g_J0_9 (D 1 rfl) ?_
  refine j_tlen C hi (D 2 rfl) ?_
  refine j_aload_n C (D 3 rfl) rfl ?_
  refine j_cVp C B k_J0_335 (rc_str C hi) (t_coder _ _ _ hi) rfl rfl rfl rfl ⟨Nat.le_refl _, Nat.le_refl _⟩ (D 4 rfl) ?_
  refine j_ishr C (D 5 rfl) ?_
  rw [show nI (stLen i) >>> (0 &&& 31 : Int32) = nI (stLen i) from by rw [show ((0 : Int32) &&& 31) = 0 from rfl]; simp]
  exact j_iret C P rfl (D 6 rfl) ⟨Nat.le_refl _, Nat.le_refl _⟩ (pv_i rfl)
set_option maxRecDepth 20000 in
theorem t_isL (l : Launch) (G : GT) (w : Wd) {i : Nat} (hi : i < 67) : Mt l G mJ0_isLatin1_aae02 (0) 0 0 [.ref (ra G (2000 + i))] w (pV (.int 1) w) := by
  refine mt_of (own := RJ0) (by decide) rfl rfl (fun Z C P B => ?_)
  have D := @dc_of _ _ dJ0_isLatin1_aae02
  refine j_gcmp C g_J0_38 (D 0 rfl) ?_
  refine j_if_eq C  17 (D 1 rfl) (by decide) (fun h3 => absurd h3 (by decide)) (fun h3 => ?_)
  refine j_aload_n C (D 2 rfl) rfl ?_
  refine j_gcod C hi g_J0_15 (D 3 rfl) ?_
  refine j_if_ne C  17 (D 4 rfl) (by decide) (fun h10 => absurd h10 (fun z => z rfl)) (fun h10 => ?_)
  refine j_iconst C (v := nI 1) (D 5 rfl) rfl ?_
  refine j_goto C 18 (D 6 rfl) (by decide) ?_
  exact j_zret C P rfl (by first | exact Or.inl rfl | exact Or.inr rfl | assumption) (D 8 rfl) ⟨Nat.le_refl _, Nat.le_refl _⟩ (pv_i rfl)
set_option maxRecDepth 20000 in
theorem t_chkN (l : Launch) (G : GT) (w : Wd) {k n : Nat} (hk : k < n) (hn : n < 2147483648) : Mt l G mJ3_checkIndex_8e157 (0) 0 0 [.int (nI k), .int (nI n), .null] w (pV (.int (nI k)) w) := by
  refine mt_of (own := RJ3) (by decide) rfl rfl (fun Z C P B => ?_)
  have D := @dc_of _ _ dJ3_checkIndex_8e157
  refine j_iload_n C (D 0 rfl) rfl ?_
  refine j_if_lt C  9 (D 1 rfl) (by decide) (fun h1 => absurd h1 (fun z => by rw [i_lt, nI_int (by omega)] at z; exact absurd z (by simp))) (fun h1 => ?_)
  refine j_iload_n C (D 2 rfl) rfl ?_
  refine j_iload_n C (D 3 rfl) rfl ?_
  refine j_icmp_lt C  16 (D 4 rfl) (by decide) (fun h6 => ?_) (fun h6 => absurd h6 (fun z => z ((nlt (by omega) (by omega)).mpr (by omega))))
  refine j_iload_n C (D 10 rfl) rfl ?_
  exact j_iret C P rfl (D 11 rfl) ⟨Nat.le_refl _, Nat.le_refl _⟩ (pv_i rfl)
set_option maxRecDepth 20000 in
theorem t_chkR (l : Launch) (G : GT) (w : Wd) {k n : Nat} (hk : k < n) (hn : n < 2147483648) {t9 : Nat} : Mt l G mJ3_checkIndex_8e157 (0) 0 0 [.int (nI k), .int (nI n), .ref t9] w (pV (.int (nI k)) w) := by
  refine mt_of (own := RJ3) (by decide) rfl rfl (fun Z C P B => ?_)
  have D := @dc_of _ _ dJ3_checkIndex_8e157
  refine j_iload_n C (D 0 rfl) rfl ?_
  refine j_if_lt C  9 (D 1 rfl) (by decide) (fun h1 => absurd h1 (fun z => by rw [i_lt, nI_int (by omega)] at z; exact absurd z (by simp))) (fun h1 => ?_)
  refine j_iload_n C (D 2 rfl) rfl ?_
  refine j_iload_n C (D 3 rfl) rfl ?_
  refine j_icmp_lt C  16 (D 4 rfl) (by decide) (fun h6 => ?_) (fun h6 => absurd h6 (fun z => z ((nlt (by omega) (by omega)).mpr (by omega))))
  refine j_iload_n C (D 10 rfl) rfl ?_
  exact j_iret C P rfl (D 11 rfl) ⟨Nat.le_refl _, Nat.le_refl _⟩ (pv_i rfl)
set_option maxRecDepth 20000 in
theorem t_chk (l : Launch) (G : GT) (w : Wd) {k n : Nat} (hk : k < n) (hn : n < 2147483648) : Mt l G mJ0_checkIndex_df160 (1) 0 0 [.int (nI k), .int (nI n)] w (fun r w' => r = none ∧ w' = w) := by
  refine mt_of (own := RJ0) (by decide) rfl rfl (fun Z C P B => ?_)
  have D := @dc_of _ _ dJ0_checkIndex_df160
  refine j_iload_n C (D 0 rfl) rfl ?_
  refine j_iload_n C (D 1 rfl) rfl ?_
  refine j_gsio C g_J0_1053 (D 2 rfl) ?_ (fun t => ?_)
  · refine j_cSp C B k_J0_1059 (t_chkN _ _ _ hk hn) rfl rfl rfl rfl ⟨Nat.le_refl _, Nat.le_refl _⟩ (D 3 rfl) ?_
    refine j_pop C (D 4 rfl) rfl ?_
    exact j_vret C P rfl (D 5 rfl) ⟨Nat.le_refl _, Nat.le_refl _⟩ ⟨rfl, rfl⟩
  · refine j_cSp C B k_J0_1059 (t_chkR _ _ _ hk hn) rfl rfl rfl rfl ⟨Nat.le_refl _, Nat.le_refl _⟩ (D 3 rfl) ?_
    refine j_pop C (D 4 rfl) rfl ?_
    exact j_vret C P rfl (D 5 rfl) ⟨Nat.le_refl _, Nat.le_refl _⟩ ⟨rfl, rfl⟩
set_option maxRecDepth 20000 in
theorem t_chr (l : Launch) (G : GT) (w : Wd) {i k : Nat} (hi : i < 67) (hk : k < stLen i) : Mt l G mJ1_charAt_3b067 (2) 0 0 [.ref (ra G (3000 + i)), .int (nI k)] w (pV (.int (stByt i k)) w) := by
  refine mt_of (own := RJ1) (by decide) rfl rfl (fun Z C P B => ?_)
  have D := @dc_of _ _ dJ1_charAt_3b067
  have h2 : ∀ i, i < 67 → stLen i < 100 := by decide
  have h2 := h2 i hi
  have h3 := st_all i hi k hk
  unfold chOk at h3
  rw [Bool.and_eq_true, Bool.and_eq_true] at h3
  refine j_iload_n C (D 0 rfl) rfl ?_
  refine j_aload_n C (D 1 rfl) rfl ?_
  refine j_tlen C hi (D 2 rfl) ?_
  refine j_callS C B k_J1_9 (t_chk _ _ _ hk (by omega)) rfl rfl rfl rfl ⟨Nat.le_refl _, Nat.le_refl _⟩ (D 3 rfl) ?_
  rintro r w' ⟨rfl, rfl⟩
  refine j_aload_n C (D 4 rfl) rfl ?_
  refine j_iload_n C (D 5 rfl) rfl ?_
  refine j_tbald C hi (ix_n hk (by omega)) (D 6 rfl) ?_
  refine j_sipush C (v := nI 255) (D 7 rfl) rfl ?_
  refine j_iand C (D 8 rfl) ?_
  refine j_i2c C (D 9 rfl) ?_
  rw [of_decide_eq_true h3.1.1]
  exact j_nret C P rfl (of_decide_eq_true h3.1.2) (D 10 rfl) ⟨Nat.le_refl _, Nat.le_refl _⟩ (pv_i rfl)
set_option maxRecDepth 20000 in
theorem t_charAt (l : Launch) (G : GT) (w : Wd) {i k : Nat} (hi : i < 67) (hk : k < stLen i) : Mt l G mJ0_charAt_5068e (3) 0 0 [.ref (ra G (2000 + i)), .int (nI k)] w (pV (.int (stByt i k)) w) := by
  refine mt_of (own := RJ0) (by decide) rfl rfl (fun Z C P B => ?_)
  have D := @dc_of _ _ dJ0_charAt_5068e
  have h3 := st_all i hi k hk
  unfold chOk at h3
  rw [Bool.and_eq_true, Bool.and_eq_true] at h3
  refine j_aload_n C (D 0 rfl) rfl ?_
  refine j_cVp C B k_J0_492 (rc_str C hi) (t_isL _ _ _ hi) rfl rfl rfl rfl ⟨Nat.le_refl _, Nat.le_refl _⟩ (D 1 rfl) ?_
  refine j_if_eq C  16 (D 2 rfl) (by decide) (fun h4 => absurd h4 (by decide)) (fun h4 => ?_)
  refine j_aload_n C (D 3 rfl) rfl ?_
  refine j_gval C hi g_J0_9 (D 4 rfl) ?_
  refine j_iload_n C (D 5 rfl) rfl ?_
  refine j_cSp C B k_J0_495 (t_chr _ _ _ hi hk) rfl rfl rfl rfl ⟨Nat.le_refl _, Nat.le_refl _⟩ (D 6 rfl) ?_
  exact j_nret C P rfl (of_decide_eq_true h3.1.2) (D 7 rfl) ⟨Nat.le_refl _, Nat.le_refl _⟩ (pv_i rfl)
