set_option maxRecDepth 20000 in
theorem c_isWithin (l : Launch) (G : GT) (w : Wd) (n lo hi : Int32) : Mt l G mX11_isWithin 0 0 0 [.int n, .int lo, .int hi] w (pV (.int (b2 (lo ≤ n ∧ n ≤ hi))) w) := by
  refine mt_of (own := RX11) (by decide) rfl rfl (fun Z C P B => ?_)
  have D := @dc_of _ _ dX11_isWithin
  refine j_iload_n C (D 0 rfl) rfl ?_
  refine j_iload_n C (D 1 rfl) rfl ?_
  refine j_icmp_lt C  14 (D 2 rfl) (by decide) (fun h2 => ?_) (fun h2 => ?_)
  · refine j_iconst C (v := nI 0) (D 8 rfl) rfl ?_
    exact j_zret C P rfl (by first | exact isB_1 | exact isB_0) (D 9 rfl) ⟨Nat.le_refl _, Nat.le_refl _⟩ (pv_i (by first | exact b2_t ⟨by rw [i_lt] at h2; rw [i_le]; omega, by rw [i_lt] at h7; rw [i_le]; omega⟩ | exact b2_f (fun z => by have z1 := z.1; have z2 := z.2; first | (rw [i_lt] at h2; rw [i_le] at z1; omega) | (rw [i_lt] at h7; rw [i_le] at z2; omega))))
  · refine j_iload_n C (D 3 rfl) rfl ?_
    refine j_iload_n C (D 4 rfl) rfl ?_
    refine j_icmp_gt C  14 (D 5 rfl) (by decide) (fun h7 => ?_) (fun h7 => ?_)
    · refine j_iconst C (v := nI 0) (D 8 rfl) rfl ?_
      exact j_zret C P rfl (by first | exact isB_1 | exact isB_0) (D 9 rfl) ⟨Nat.le_refl _, Nat.le_refl _⟩ (pv_i (by first | exact b2_t ⟨by rw [i_lt] at h2; rw [i_le]; omega, by rw [i_lt] at h7; rw [i_le]; omega⟩ | exact b2_f (fun z => by have z1 := z.1; have z2 := z.2; first | (rw [i_lt] at h2; rw [i_le] at z1; omega) | (rw [i_lt] at h7; rw [i_le] at z2; omega))))
    · refine j_iconst C (v := nI 1) (D 6 rfl) rfl ?_
      refine j_goto C 15 (D 7 rfl) (by decide) ?_
      exact j_zret C P rfl (by first | exact isB_1 | exact isB_0) (D 9 rfl) ⟨Nat.le_refl _, Nat.le_refl _⟩ (pv_i (by first | exact b2_t ⟨by rw [i_lt] at h2; rw [i_le]; omega, by rw [i_lt] at h7; rw [i_le]; omega⟩ | exact b2_f (fun z => by have z1 := z.1; have z2 := z.2; first | (rw [i_lt] at h2; rw [i_le] at z1; omega) | (rw [i_lt] at h7; rw [i_le] at z2; omega))))
set_option maxRecDepth 20000 in
theorem c_cellOf (l : Launch) (G : GT) (w : Wd) (a e : Int32) : Mt l G mX11_cellOf 0 0 0 [.int a, .int e] w (pV (.int (a * nI 10 + e)) w) := by
  refine mt_of (own := RX11) (by decide) rfl rfl (fun Z C P B => ?_)
  have D := @dc_of _ _ dX11_cellOf
  refine j_iload_n C (D 0 rfl) rfl ?_
  refine j_bipush C (v := nI 10) (D 1 rfl) rfl ?_
  refine j_imul C (D 2 rfl) ?_
  refine j_iload_n C (D 3 rfl) rfl ?_
  refine j_iadd C (D 4 rfl) ?_
  exact j_iret C P rfl (D 5 rfl) ⟨Nat.le_refl _, Nat.le_refl _⟩ (pv_i rfl)
