/-! THE LAW: its loop -/
theorem law_body {Z : ZT} {G : GT} {b n k : Nat} {xs : Nat → Int32} {nm : String} {cs : Nat × Nat} {w : Wd} (X : LX Z G b n xs nm) (hk : k + 6 ≤ n) (hcs : cs.1 ≤ 1000 ∧ cs.2 ≤ 100000) (S : Sv w) (K : ∀ w2, Sv w2 → J Z cs 1771 (lvS G b k) [] w2) : J Z cs 27 (lvS G b k) [] w := by
  have C := X.1
  have hn := X.2.2.2.2.2
  refine j_aload_n C (@dc_of _ _ dL_law_0 16 _ _ _ rfl) rfl ?_
  refine j_iload_n C (@dc_of _ _ dL_law_0 17 _ _ _ rfl) rfl ?_
  refine j_sld X (j := k) ⟨nI_int (by omega), by omega⟩ (@dc_of _ _ dL_law_0 18 _ _ _ rfl) ?_
  refine j_bipush C (v := nI 63) (@dc_of _ _ dL_law_0 19 _ _ _ rfl) rfl ?_
  refine j_iand C (@dc_of _ _ dL_law_0 20 _ _ _ rfl) ?_
  have h63 := and63 (xs k)
  generalize xs k &&& nI 63 = x at h63 ⊢
  by_cases h48 : 48 < x.toInt
  · exact j_tableOut C 1771 (@dc_of _ _ dL_law_0 21 _ _ _ rfl) (Or.inr h48) (by decide) (K w S)
  · obtain ⟨q, hq⟩ : ∃ q : Nat, x.toInt = (q : Int) := ⟨x.toInt.toNat, by omega⟩
    have hq48 : q < 49 := by omega
    have hlo : ¬ x.toInt < 0 := by omega
    have e : (x.toInt - 0).toNat = q := by omega
    match q, hq48, e with
    | 0, _, e => exact j_tableIn C 244 (@dc_of _ _ dL_law_0 21 _ _ _ rfl) hlo h48 (by rw [e]; rfl) (by decide) (w_feed X hk hcs S K)
    | 1, _, e => exact j_tableIn C 307 (@dc_of _ _ dL_law_0 21 _ _ _ rfl) hlo h48 (by rw [e]; rfl) (by decide) (w_end X hk hcs S K)
    | 2, _, e => exact j_tableIn C 330 (@dc_of _ _ dL_law_0 21 _ _ _ rfl) hlo h48 (by rw [e]; rfl) (by decide) (w_text X hk hcs S K)
    | 3, _, e => exact j_tableIn C 343 (@dc_of _ _ dL_law_0 21 _ _ _ rfl) hlo h48 (by rw [e]; rfl) (by decide) (w_fault X hk hcs S K)
    | 4, _, e => exact j_tableIn C 366 (@dc_of _ _ dL_law_0 21 _ _ _ rfl) hlo h48 (by rw [e]; rfl) (by decide) (w_count X hk hcs S K)
    | 5, _, e => exact j_tableIn C 389 (@dc_of _ _ dL_law_0 21 _ _ _ rfl) hlo h48 (by rw [e]; rfl) (by decide) (w_event X hk hcs S K)
    | 6, _, e => exact j_tableIn C 422 (@dc_of _ _ dL_law_0 21 _ _ _ rfl) hlo h48 (by rw [e]; rfl) (by decide) (w_points X hk hcs S K)
    | 7, _, e => exact j_tableIn C 455 (@dc_of _ _ dL_law_0 21 _ _ _ rfl) hlo h48 (by rw [e]; rfl) (by decide) (w_worst X hk hcs S K)
    | 8, _, e => exact j_tableIn C 488 (@dc_of _ _ dL_law_0 21 _ _ _ rfl) hlo h48 (by rw [e]; rfl) (by decide) (w_top X hk hcs S K)
    | 9, _, e => exact j_tableIn C 511 (@dc_of _ _ dL_law_0 21 _ _ _ rfl) hlo h48 (by rw [e]; rfl) (by decide) (w_same X hk hcs S K)
    | 10, _, e => exact j_tableIn C 554 (@dc_of _ _ dL_law_0 21 _ _ _ rfl) hlo h48 (by rw [e]; rfl) (by decide) (w_step X hk hcs S K)
    | 11, _, e => exact j_tableIn C 587 (@dc_of _ _ dL_law_0 21 _ _ _ rfl) hlo h48 (by rw [e]; rfl) (by decide) (w_mark X hk hcs S K)
    | 12, _, e => exact j_tableIn C 620 (@dc_of _ _ dL_law_0 21 _ _ _ rfl) hlo h48 (by rw [e]; rfl) (by decide) (w_worth X hk hcs S K)
    | 13, _, e => exact j_tableIn C 653 (@dc_of _ _ dL_law_0 21 _ _ _ rfl) hlo h48 (by rw [e]; rfl) (by decide) (w_of X hk hcs S K)
    | 14, _, e => exact j_tableIn C 686 (@dc_of _ _ dL_law_0 21 _ _ _ rfl) hlo h48 (by rw [e]; rfl) (by decide) (w_holds X hk hcs S K)
    | 15, _, e => exact j_tableIn C 719 (@dc_of _ _ dL_law_0 21 _ _ _ rfl) hlo h48 (by rw [e]; rfl) (by decide) (w_bonus X hk hcs S K)
    | 16, _, e => exact j_tableIn C 742 (@dc_of _ _ dL_law_0 21 _ _ _ rfl) hlo h48 (by rw [e]; rfl) (by decide) (w_place X hk hcs S K)
    | 17, _, e => exact j_tableIn C 765 (@dc_of _ _ dL_law_0 21 _ _ _ rfl) hlo h48 (by rw [e]; rfl) (by decide) (w_rank X hk hcs S K)
    | 18, _, e => exact j_tableIn C 788 (@dc_of _ _ dL_law_0 21 _ _ _ rfl) hlo h48 (by rw [e]; rfl) (by decide) (w_leads X hk hcs S K)
    | 19, _, e => exact j_tableIn C 811 (@dc_of _ _ dL_law_0 21 _ _ _ rfl) hlo h48 (by rw [e]; rfl) (by decide) (w_dream X hk hcs S K)
    | 20, _, e => exact j_tableIn C 824 (@dc_of _ _ dL_law_0 21 _ _ _ rfl) hlo h48 (by rw [e]; rfl) (by decide) (w_need X hk hcs S K)
    | 21, _, e => exact j_tableIn C 857 (@dc_of _ _ dL_law_0 21 _ _ _ rfl) hlo h48 (by rw [e]; rfl) (by decide) (w_needIn X hk hcs S K)
    | 22, _, e => exact j_tableIn C 900 (@dc_of _ _ dL_law_0 21 _ _ _ rfl) hlo h48 (by rw [e]; rfl) (by decide) (w_pass X hk hcs S K)
    | 23, _, e => exact j_tableIn C 943 (@dc_of _ _ dL_law_0 21 _ _ _ rfl) hlo h48 (by rw [e]; rfl) (by decide) (w_trained X hk hcs S K)
    | 24, _, e => exact j_tableIn C 986 (@dc_of _ _ dL_law_0 21 _ _ _ rfl) hlo h48 (by rw [e]; rfl) (by decide) (w_gains X hk hcs S K)
    | 25, _, e => exact j_tableIn C 1029 (@dc_of _ _ dL_law_0 21 _ _ _ rfl) hlo h48 (by rw [e]; rfl) (by decide) (w_pays X hk hcs S K)
    | 26, _, e => exact j_tableIn C 1062 (@dc_of _ _ dL_law_0 21 _ _ _ rfl) hlo h48 (by rw [e]; rfl) (by decide) (w_spread X hk hcs S K)
    | 27, _, e => exact j_tableIn C 1105 (@dc_of _ _ dL_law_0 21 _ _ _ rfl) hlo h48 (by rw [e]; rfl) (by decide) (w_hours X hk hcs S K)
    | 28, _, e => exact j_tableIn C 1138 (@dc_of _ _ dL_law_0 21 _ _ _ rfl) hlo h48 (by rw [e]; rfl) (by decide) (w_meet X hk hcs S K)
    | 29, _, e => exact j_tableIn C 1171 (@dc_of _ _ dL_law_0 21 _ _ _ rfl) hlo h48 (by rw [e]; rfl) (by decide) (w_met X hk hcs S K)
    | 30, _, e => exact j_tableIn C 1204 (@dc_of _ _ dL_law_0 21 _ _ _ rfl) hlo h48 (by rw [e]; rfl) (by decide) (w_odds X hk hcs S K)
    | 31, _, e => exact j_tableIn C 1247 (@dc_of _ _ dL_law_0 21 _ _ _ rfl) hlo h48 (by rw [e]; rfl) (by decide) (w_sets X hk hcs S K)
    | 32, _, e => exact j_tableIn C 1290 (@dc_of _ _ dL_law_0 21 _ _ _ rfl) hlo h48 (by rw [e]; rfl) (by decide) (w_athlete X hk hcs S K)
    | 33, _, e => exact j_tableIn C 1303 (@dc_of _ _ dL_law_0 21 _ _ _ rfl) hlo h48 (by rw [e]; rfl) (by decide) (w_gain X hk hcs S K)
    | 34, _, e => exact j_tableIn C 1356 (@dc_of _ _ dL_law_0 21 _ _ _ rfl) hlo h48 (by rw [e]; rfl) (by decide) (w_trains X hk hcs S K)
    | 35, _, e => exact j_tableIn C 1399 (@dc_of _ _ dL_law_0 21 _ _ _ rfl) hlo h48 (by rw [e]; rfl) (by decide) (w_tie X hk hcs S K)
    | 36, _, e => exact j_tableIn C 1422 (@dc_of _ _ dL_law_0 21 _ _ _ rfl) hlo h48 (by rw [e]; rfl) (by decide) (w_undo X hk hcs S K)
    | 37, _, e => exact j_tableIn C 1435 (@dc_of _ _ dL_law_0 21 _ _ _ rfl) hlo h48 (by rw [e]; rfl) (by decide) (w_tell X hk hcs S K)
    | 38, _, e => exact j_tableIn C 1448 (@dc_of _ _ dL_law_0 21 _ _ _ rfl) hlo h48 (by rw [e]; rfl) (by decide) (w_card X hk hcs S K)
    | 39, _, e => exact j_tableIn C 1471 (@dc_of _ _ dL_law_0 21 _ _ _ rfl) hlo h48 (by rw [e]; rfl) (by decide) (w_octet X hk hcs S K)
    | 40, _, e => exact j_tableIn C 1494 (@dc_of _ _ dL_law_0 21 _ _ _ rfl) hlo h48 (by rw [e]; rfl) (by decide) (w_kth X hk hcs S K)
    | 41, _, e => exact j_tableIn C 1527 (@dc_of _ _ dL_law_0 21 _ _ _ rfl) hlo h48 (by rw [e]; rfl) (by decide) (w_behind X hk hcs S K)
    | 42, _, e => exact j_tableIn C 1550 (@dc_of _ _ dL_law_0 21 _ _ _ rfl) hlo h48 (by rw [e]; rfl) (by decide) (w_hour X hk hcs S K)
    | 43, _, e => exact j_tableIn C 1593 (@dc_of _ _ dL_law_0 21 _ _ _ rfl) hlo h48 (by rw [e]; rfl) (by decide) (w_squad X hk hcs S K)
    | 44, _, e => exact j_tableIn C 1626 (@dc_of _ _ dL_law_0 21 _ _ _ rfl) hlo h48 (by rw [e]; rfl) (by decide) (w_close X hk hcs S K)
    | 45, _, e => exact j_tableIn C 1639 (@dc_of _ _ dL_law_0 21 _ _ _ rfl) hlo h48 (by rw [e]; rfl) (by decide) (w_team X hk hcs S K)
    | 46, _, e => exact j_tableIn C 1662 (@dc_of _ _ dL_law_0 21 _ _ _ rfl) hlo h48 (by rw [e]; rfl) (by decide) (w_kinds X hk hcs S K)
    | 47, _, e => exact j_tableIn C 1705 (@dc_of _ _ dL_law_0 21 _ _ _ rfl) hlo h48 (by rw [e]; rfl) (by decide) (w_lent X hk hcs S K)
    | 48, _, e => exact j_tableIn C 1748 (@dc_of _ _ dL_law_0 21 _ _ _ rfl) hlo h48 (by rw [e]; rfl) (by decide) (w_even X hk hcs S K)
    | q + 49, hq48, _ => exact absurd hq48 (by omega)
theorem law_loop {Z : ZT} {G : GT} {b n : Nat} {xs : Nat → Int32} {nm : String} {cs : Nat × Nat} (X : LX Z G b n xs nm) (hcs : cs.1 ≤ 1000 ∧ cs.2 ≤ 100000) (E : ∀ (ls : LV) (w : Wd), J Z cs 1778 ls [.int 1] w) : ∀ (f k : Nat) (w : Wd), n < k + f → k ≤ n + 6 → Sv w → J Z cs 18 (lvS G b k) [] w := by
  have C := X.1
  have hn := X.2.2.2.2.2
  intro f
  induction f with
  | zero =>
    intro k w h1 h2 S
    have e1 : (nI k).toInt = k := nI_int (by omega)
    have e2 : (nI n).toInt = n := nI_int (by omega)
    have e6 : (nI 6).toInt = 6 := nI_int (by omega)
    have e3 : (nI n - nI 6).toInt = (n : Int) - 6 := by rw [i_sub (by omega) (by omega), e2, e6]
    refine j_iload_n C (@dc_of _ _ dL_law_0 10 _ _ _ rfl) rfl ?_
    refine j_aload_n C (@dc_of _ _ dL_law_0 11 _ _ _ rfl) rfl ?_
    refine j_slen X (@dc_of _ _ dL_law_0 12 _ _ _ rfl) ?_
    refine j_bipush C (v := nI 6) (@dc_of _ _ dL_law_0 13 _ _ _ rfl) rfl ?_
    refine j_isub C (@dc_of _ _ dL_law_0 14 _ _ _ rfl) ?_
    refine j_icmp_gt C 1777 (@dc_of _ _ dL_law_0 15 _ _ _ rfl) (by decide) (fun _ => ?_) (fun h => absurd ?_ h)
    · refine j_iconst C (v := 1) (@dc_of _ _ dL_law_9 87 _ _ _ rfl) (by decide) ?_
      exact E _ _
    · rw [i_lt, e1, e3]; omega
  | succ f ih =>
    intro k w h1 h2 S
    have e1 : (nI k).toInt = k := nI_int (by omega)
    have e2 : (nI n).toInt = n := nI_int (by omega)
    have e6 : (nI 6).toInt = 6 := nI_int (by omega)
    have e3 : (nI n - nI 6).toInt = (n : Int) - 6 := by rw [i_sub (by omega) (by omega), e2, e6]
    refine j_iload_n C (@dc_of _ _ dL_law_0 10 _ _ _ rfl) rfl ?_
    refine j_aload_n C (@dc_of _ _ dL_law_0 11 _ _ _ rfl) rfl ?_
    refine j_slen X (@dc_of _ _ dL_law_0 12 _ _ _ rfl) ?_
    refine j_bipush C (v := nI 6) (@dc_of _ _ dL_law_0 13 _ _ _ rfl) rfl ?_
    refine j_isub C (@dc_of _ _ dL_law_0 14 _ _ _ rfl) ?_
    refine j_icmp_gt C 1777 (@dc_of _ _ dL_law_0 15 _ _ _ rfl) (by decide) (fun _ => ?_) (fun h => ?_)
    · refine j_iconst C (v := 1) (@dc_of _ _ dL_law_9 87 _ _ _ rfl) (by decide) ?_
      exact E _ _
    · have hk : k + 6 ≤ n := by rw [i_lt, e1, e3] at h; omega
      refine law_body X hk hcs S (fun w2 S2 => ?_)
      refine j_iinc C (v := nI (k + 6)) (@dc_of _ _ dL_law_9 85 _ _ _ rfl) rfl rfl ?_ ?_
      · rw [i_eq]
        show (nI k + nI 6).toInt = _
        rw [i_add (by omega) (by omega), e1, e6, nI_int (by omega)]
        omega
      · refine j_goto C 18 (@dc_of _ _ dL_law_9 86 _ _ _ rfl) (by decide) ?_
        exact ih (k + 6) w2 (by omega) (by omega) S2
