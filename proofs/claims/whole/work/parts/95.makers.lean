/-! the enum's values() -/
theorem c_values (l : Launch) (G : GT) {N : Nat} {sh : Nat → Nat × Nat} {I : Nat → Nat → Int32} {L : Nat → Nat → Int64} {R : Nat → Nat → Option Nat} (hs : sh N = (24, 42)) (hN : Nat.ble (N + 2) 1000 = true) : Mt l G mX7_values 1 1 42 [] (N, sh, I, L, R) (fun r w' => r = some (.ref (ra G N)) ∧ w' = (N + 1, sh, I, L, vR R N)) := by
  refine mt_of (own := RX7) (by decide) rfl rfl (fun Z C P B => ?_)
  have D := @dc_of _ _ dX7_values
  refine j_vals C B rfl rfl (inT_mem (i := 175) (by decide +kernel)) (inT_mem (i := 177) (by decide +kernel)) (inT_mem (i := 183) (by decide +kernel)) hs hN (by decide) (D 0 rfl) (D 1 rfl) (D 2 rfl) ?_
  exact j_aret C P rfl (Or.inr ⟨_, rfl⟩) (D 3 rfl) (by decide) ⟨rfl, rfl⟩
