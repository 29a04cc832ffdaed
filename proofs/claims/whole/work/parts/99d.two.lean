/-! a call on both: the same answer, and the state again -/
def Two (l : Launch) (G : GT) (m1 m2 : MI) (d1 d2 : Nat) (as : List Value) (w : Wd) : Prop := ∃ (v : Int32) (P : Wd → Prop), Mt l G m1 d1 0 0 (.ref (ra G 0) :: as) w (fun r w' => r = some (.int v) ∧ P w') ∧ ∀ w1, P w1 → ∃ P2 : Wd → Prop, w1.1 = NN ∧ w1.2.1 = SH ∧ Mt l G m2 d2 0 0 (.ref (ra G 172) :: as) w1 (fun r w' => r = some (.int v) ∧ P2 w') ∧ ∀ w2, P2 w2 → Sv w2
section TWO
variable {l : Launch} {G : GT} {m1 m2 : MI} {d1 d2 : Nat} {as : List Value} {I : Nat → Nat → Int32} {L : Nat → Nat → Int64} {R : Nat → Nat → Option Nat} {c c' : Nat} {s : STt}
theorem two_q {v : Int32} (hL : Lay R) (hO : OKx s) (hC : CRx I R c c' s) (hM : MRx I s) (h1 : Mt l G m1 d1 0 0 (.ref (ra G 0) :: as) (wd I L R) (qC v I R)) (h2 : ∀ I' L', MT I' (sV s) → I' 172 1 = b2 (sL s = true) → Mt l G m2 d2 0 0 (.ref (ra G 172) :: as) (wd I' L' R) (qM v I' R)) : Two l G m1 m2 d1 d2 as (wd I L R) := by
  refine ⟨v, fun w' => ∃ I' L', w' = wd I' L' R ∧ FrS I I', h1, ?_⟩
  rintro w1 ⟨I', L', rfl, hF⟩
  obtain ⟨hC', hM'⟩ := k_qC hO hC hM hF
  refine ⟨fun w' => ∃ I2 L2, w' = wd I2 L2 R ∧ FrM I' I2, rfl, rfl, h2 I' L' hM'.1 hM'.2.1, ?_⟩
  rintro w2 ⟨I2, L2, rfl, hF2⟩
  obtain ⟨a, b⟩ := k_qM hO.1.1 hC' hM' hF2
  exact ⟨I2, L2, R, c, c', s, rfl, hL, hO, a, b⟩
theorem two_a {v : Int32} {x : S3} (hL : Lay R) (hO : OKx s) (hC : CRx I R c c' s) (hM : MRx I s) (hx : ok3 x) (h1 : Mt l G m1 d1 0 0 (.ref (ra G 0) :: as) (wd I L R) (aC v I R c x)) (h2 : ∀ I' L', MT I' (sV s) → I' 172 1 = b2 (sL s = true) → HMo I' (sN s) (sH s) → Mt l G m2 d2 0 0 (.ref (ra G 172) :: as) (wd I' L' R) (aM v I' R x)) : Two l G m1 m2 d1 d2 as (wd I L R) := by
  refine ⟨v, _, h1, ?_⟩
  rintro w1 ⟨I', L', rfl, hT, hH, hF⟩
  obtain ⟨hC', hM'⟩ := k_aC hC hM hT hH hF
  refine ⟨_, rfl, rfl, h2 I' L' hM'.1 hM'.2.1 hM'.2.2.1, ?_⟩
  rintro w2 ⟨I2, L2, rfl, hT2, hH2, hF2⟩
  obtain ⟨a, b⟩ := k_aM hx.1.1 hC' hM' hT2 hH2 hF2
  exact ⟨I2, L2, R, c, c', aS s x, rfl, hL, OK_a hO hx, a, b⟩
theorem two_t {v : Int32} {b : BT} (hL : Lay R) (hO : OKx s) (hC : CRx I R c c' s) (hM : MRx I s) (hb : okT b) (h1 : Mt l G m1 d1 0 0 (.ref (ra G 0) :: as) (wd I L R) (fun r w' => r = some (.int v) ∧ ∃ I', w' = wd I' L R ∧ TP I' 0 1 1 b ∧ FrT 0 1 1 I I')) (h2 : ∀ I', TP I' 172 27 187 (sT s) → Mt l G m2 d2 0 0 (.ref (ra G 172) :: as) (wd I' L R) (fun r w' => r = some (.int v) ∧ ∃ I2, w' = wd I2 L R ∧ TP I2 172 27 187 b ∧ FrT 172 27 187 I' I2)) : Two l G m1 m2 d1 d2 as (wd I L R) := by
  refine ⟨v, _, h1, ?_⟩
  rintro w1 ⟨I', rfl, hT, hF⟩
  obtain ⟨hC', hM'⟩ := k_tC hO.1.1 hC hM hT hF
  refine ⟨_, rfl, rfl, h2 I' hM'.2.2.2.1, ?_⟩
  rintro w2 ⟨I2, rfl, hT2, hF2⟩
  obtain ⟨a, b'⟩ := k_tM hO.1.1 hC' hM' hT2 hF2
  exact ⟨I2, L, R, c, c', tS s b, rfl, hL, OK_t hO hb, a, b'⟩
theorem two_o {v : Int32} {b : BT} (hL : Lay R) (hO : OKx s) (hC : CRx I R c c' s) (hM : MRx I s) (hb : b.1 ≤ 64) (h1 : Mt l G m1 d1 0 0 (.ref (ra G 0) :: as) (wd I L R) (fun r w' => r = some (.int v) ∧ ∃ I' L', w' = wd I' L' R ∧ TP I' 2 1 3 b ∧ FrO 2 1 3 scr I I')) (h2 : ∀ I' L', MT I' (sV s) → I' 172 1 = b2 (sL s = true) → TP I' 172 47 196 (sO s) → Mt l G m2 d2 0 0 (.ref (ra G 172) :: as) (wd I' L' R) (fun r w' => r = some (.int v) ∧ ∃ I2 L2, w' = wd I2 L2 R ∧ TP I2 172 47 196 b ∧ FrO 172 47 196 scM I' I2)) : Two l G m1 m2 d1 d2 as (wd I L R) := by
  refine ⟨v, _, h1, ?_⟩
  rintro w1 ⟨I', L', rfl, hT, hF⟩
  obtain ⟨hC', hM'⟩ := k_oC hO.1.1 hC hM hT hF
  refine ⟨_, rfl, rfl, h2 I' L' hM'.1 hM'.2.1 hM'.2.2.2.2.1, ?_⟩
  rintro w2 ⟨I2, L2, rfl, hT2, hF2⟩
  obtain ⟨a, b'⟩ := k_oM hO.1.1 hC' hM' hT2 hF2
  exact ⟨I2, L2, R, c, c', oS s b, rfl, hL, OK_o hO hb, a, b'⟩
theorem two_p {v : Int32} (hL : Lay R) (hO : OKx s) (hC : CRx I R c c' s) (hM : MRx I s) (h1 : Mt l G m1 d1 0 0 (.ref (ra G 0) :: as) (wd I L R) (pV (.int v) (wd I L R))) (h2 : Mt l G m2 d2 0 0 (.ref (ra G 172) :: as) (wd I L R) (pV (.int v) (wd I L R))) : Two l G m1 m2 d1 d2 as (wd I L R) := by
  refine ⟨v, _, h1, ?_⟩
  rintro w1 rfl
  refine ⟨_, rfl, rfl, h2, ?_⟩
  rintro w2 rfl
  exact ⟨I, L, R, c, c', s, rfl, hL, hO, hC, hM⟩
end TWO
set_option maxRecDepth 4000 in
theorem t_feed (l : Launch) (G : GT) {w : Wd} (S : Sv w) (x1 x2 x3 x4 x5 : Int32) : Two l G mX11_feed mX12_feed 1 1 [.int x1, .int x2, .int x3, .int x4, .int x5] w := by
  obtain ⟨I, L, R, c, c', s, rfl, hL, hO, hC, hM⟩ := S
  exact two_t hL hO hC hM (ok_feed ⟨hO.2.2.1, hO.2.2.2.1⟩) (c_feedQ l G hL (sT s) hO.2.2.1 hC.2.2.2.2.2.2.1 x1 x2 x3 x4 x5) (fun I' h1 => d_feedQ l G hL (sT s) hO.2.2.1 h1 x1 x2 x3 x4 x5)
set_option maxRecDepth 4000 in
theorem t_end (l : Launch) (G : GT) {w : Wd} (S : Sv w) (x1 : Int32) : Two l G mX11_end mX12_end 1 1 [.int x1] w := by
  obtain ⟨I, L, R, c, c', s, rfl, hL, hO, hC, hM⟩ := S
  exact two_t hL hO hC hM (ok_end ⟨hO.2.2.1, hO.2.2.2.1⟩) (c_endQ l G hL (sT s) hO.2.2.1 hC.2.2.2.2.2.2.1 x1) (fun I' h1 => d_endQ l G hL (sT s) hO.2.2.1 h1 x1)
set_option maxRecDepth 4000 in
theorem t_text (l : Launch) (G : GT) {w : Wd} (S : Sv w) : Two l G mX11_text mX12_text 34 31 [] w := by
  obtain ⟨I, L, R, c, c', s, rfl, hL, hO, hC, hM⟩ := S
  refine ⟨_, _, c_textQ l G hC.1.2.1 hC.1.1 hL hC.2.1 hC.2.2.1 (sT s) hO.2.2.1 hC.2.2.2.2.2.2.1 hC.2.2.2.2.2.2.2.2.2.2, ?_⟩
  rintro w1 ⟨I1, R1, rfl, x0, xF, xe, xo⟩
  have hr := isC_rng hC.1.2.1
  have hk1 : ∀ b j, 172 ≤ b → I1 b j = I b j := fun b j z => xF b j (fun y => by unfold rBx rA at y; omega)
  have hL1 : Lay R1 := by
    rcases rs_c (pTxt (sT s)) with ⟨e, he⟩ | ⟨x, hx⟩
    · exact Lay_6 hL (xe e he).1
    · obtain ⟨e1, e2, e3, -⟩ := xo x hx
      intro a k r hrr
      by_cases q1 : a = 6
      · rw [q1, rfx6] at hrr; cases hrr
      · by_cases q2 : a = 0 ∧ k = 5
        · rw [q2.1, q2.2] at hrr; cases hrr
        · by_cases q3 : a = 4 ∧ k = 3
          · rw [q3.1, q3.2] at hrr; cases hrr
          · rw [e3 a k q1 q2 q3]; exact hL a k r hrr
  refine ⟨_, rfl, rfl, d_textQ l G hL1 (sT s) hO.2.2.1 hO.2.2.2.1 (TP_fr hM.2.2.2.1 (hk1 _ _ (by omega)) (fun j => hk1 _ _ (by omega))) (by rw [hk1 _ _ (by omega)]; exact hM.2.2.2.2.2.2.2), ?_⟩
  rintro w2 ⟨I2, rfl, y0, yF, ye, yo⟩
  obtain ⟨hLy, d, d', s', b1, b2, b3⟩ := txt_step (L := L) (L1 := L) hO hC hM x0 xF xe xo y0 yF ye yo hL
  exact ⟨I2, L, R1, d, d', s', rfl, hLy, b1, b2, b3⟩
set_option maxRecDepth 4000 in
theorem t_fault (l : Launch) (G : GT) {w : Wd} (S : Sv w) (x1 : Int32) : Two l G mX11_fault mX12_fault 0 0 [.int x1] w := by
  obtain ⟨I, L, R, c, c', s, rfl, hL, hO, hC, hM⟩ := S
  have e1 := c_faultQ l G (I := I) (L := L) hL x1
  have e2 := d_faultQ l G (I := I) (L := L) hL x1
  rw [hC.2.2.2.2.2.2.2.2.1, hC.2.2.2.2.2.2.2.2.2.1] at e1
  rw [hM.2.2.2.2.2.1, hM.2.2.2.2.2.2.1] at e2
  exact two_p hL hO hC hM e1 e2
set_option maxRecDepth 4000 in
theorem t_count (l : Launch) (G : GT) {w : Wd} (S : Sv w) (x1 : Int32) : Two l G mX11_count mX12_count 0 0 [.int x1] w := by
  obtain ⟨I, L, R, c, c', s, rfl, hL, hO, hC, hM⟩ := S
  exact two_p hL hO hC hM (c_countQ l G hC.1.1 hL hC.2.1 hO.1 hC.2.2.2.1 (sL s) hC.2.2.2.2.1 (sN s) (sT s).1 (sO s).1 hC.2.2.2.2.2.1.1 hC.2.2.2.2.2.2.1.1 hC.2.2.2.2.2.2.2.1.1 x1) (d_countQ l G hL hO.1 hM.1 (sL s) hM.2.1 (sN s) (sT s).1 (sO s).1 hM.2.2.1.1 hM.2.2.2.1.1 hM.2.2.2.2.1.1 x1)
set_option maxRecDepth 4000 in
theorem t_event (l : Launch) (G : GT) {w : Wd} (S : Sv w) (x1 x2 : Int32) : Two l G mX11_event mX12_event 5 5 [.int x1, .int x2] w := by
  obtain ⟨I, L, R, c, c', s, rfl, hL, hO, hC, hM⟩ := S
  exact two_q hL hO hC hM (c_eventQ l G hC.1.1 hL hC.2.1 hO.1 hC.2.2.2.1 (sL s) hC.2.2.2.2.1 x1 x2) (fun I' L' h1 h2 => d_eventQ l G hL hO.1 h1 (sL s) h2 x1 x2)
set_option maxRecDepth 4000 in
theorem t_points (l : Launch) (G : GT) {w : Wd} (S : Sv w) (x1 x2 : Int32) : Two l G mX11_points mX12_points 5 5 [.int x1, .int x2] w := by
  obtain ⟨I, L, R, c, c', s, rfl, hL, hO, hC, hM⟩ := S
  exact two_q hL hO hC hM (c_pointsQ l G hC.1.1 hL hC.2.1 hO.1 hC.2.2.2.1 (sL s) hC.2.2.2.2.1 x1 x2) (fun I' L' h1 h2 => d_pointsQ l G hL hO.1 h1 (sL s) h2 x1 x2)
set_option maxRecDepth 4000 in
theorem t_worst (l : Launch) (G : GT) {w : Wd} (S : Sv w) (x1 x2 : Int32) : Two l G mX11_worst mX12_worst 5 5 [.int x1, .int x2] w := by
  obtain ⟨I, L, R, c, c', s, rfl, hL, hO, hC, hM⟩ := S
  exact two_q hL hO hC hM (c_worstQ l G hC.1.1 hL hC.2.1 hO.1 hC.2.2.2.1 (sL s) hC.2.2.2.2.1 x1 x2) (fun I' L' h1 h2 => d_worstQ l G hL hO.1 h1 (sL s) h2 x1 x2)
set_option maxRecDepth 4000 in
theorem t_top (l : Launch) (G : GT) {w : Wd} (S : Sv w) (x1 : Int32) : Two l G mX11_top mX12_top 4 4 [.int x1] w := by
  obtain ⟨I, L, R, c, c', s, rfl, hL, hO, hC, hM⟩ := S
  exact two_q hL hO hC hM (c_topQ l G hC.1.1 hL hC.2.1 hO.1 hC.2.2.2.1 (sL s) hC.2.2.2.2.1 x1) (fun I' L' h1 h2 => d_topQ l G hL hO.1 h1 (sL s) h2 x1)
set_option maxRecDepth 4000 in
theorem t_same (l : Launch) (G : GT) {w : Wd} (S : Sv w) (x1 x2 x3 : Int32) : Two l G mX11_same mX12_same 5 5 [.int x1, .int x2, .int x3] w := by
  obtain ⟨I, L, R, c, c', s, rfl, hL, hO, hC, hM⟩ := S
  exact two_q hL hO hC hM (c_sameQ l G hC.1.1 hL hC.2.1 hO.1 hC.2.2.2.1 (sL s) hC.2.2.2.2.1 x1 x2 x3) (fun I' L' h1 h2 => d_sameQ l G hL hO.1 h1 (sL s) h2 x1 x2 x3)
set_option maxRecDepth 4000 in
theorem t_step (l : Launch) (G : GT) {w : Wd} (S : Sv w) (x1 x2 : Int32) : Two l G mX11_step mX12_step 5 5 [.int x1, .int x2] w := by
  obtain ⟨I, L, R, c, c', s, rfl, hL, hO, hC, hM⟩ := S
  exact two_q hL hO hC hM (c_stepQ l G hC.1.1 hL hC.2.1 hO.1 hC.2.2.2.1 (sL s) hC.2.2.2.2.1 x1 x2) (fun I' L' h1 h2 => d_stepQ l G hL hO.1 h1 (sL s) h2 x1 x2)
set_option maxRecDepth 4000 in
theorem t_mark (l : Launch) (G : GT) {w : Wd} (S : Sv w) (x1 x2 : Int32) : Two l G mX11_mark mX12_mark 2 3 [.int x1, .int x2] w := by
  obtain ⟨I, L, R, c, c', s, rfl, hL, hO, hC, hM⟩ := S
  exact two_q hL hO hC hM (c_markQ l G hC.1.1 hL hC.2.1 hO.1 hC.2.2.2.1 (sL s) hC.2.2.2.2.1 x1 x2) (fun I' L' h1 h2 => d_markQ l G hL hO.1 h1 (sL s) h2 x1 x2)
set_option maxRecDepth 4000 in
theorem t_worth (l : Launch) (G : GT) {w : Wd} (S : Sv w) (x1 x2 : Int32) : Two l G mX11_worth mX12_worth 4 3 [.int x1, .int x2] w := by
  obtain ⟨I, L, R, c, c', s, rfl, hL, hO, hC, hM⟩ := S
  exact two_q hL hO hC hM (c_worthQ l G hC.1.1 hL hC.2.1 hO.1 hC.2.2.2.1 (sL s) hC.2.2.2.2.1 x1 x2) (fun I' L' h1 h2 => d_worthQ l G hL hO.1 h1 (sL s) h2 x1 x2)
set_option maxRecDepth 4000 in
theorem t_of (l : Launch) (G : GT) {w : Wd} (S : Sv w) (x1 x2 : Int32) : Two l G mX11_of mX12_of 6 9 [.int x1, .int x2] w := by
  obtain ⟨I, L, R, c, c', s, rfl, hL, hO, hC, hM⟩ := S
  exact two_q hL hO hC hM (c_ofQ l G hC.1.1 hL hC.2.1 hO.1 hC.2.2.2.1 (sL s) hC.2.2.2.2.1 x1 x2) (fun I' L' h1 h2 => d_ofQ l G hL hO.1 h1 (sL s) h2 x1 x2)
set_option maxRecDepth 4000 in
theorem t_holds (l : Launch) (G : GT) {w : Wd} (S : Sv w) (x1 x2 : Int32) : Two l G mX11_holds mX12_holds 5 5 [.int x1, .int x2] w := by
  obtain ⟨I, L, R, c, c', s, rfl, hL, hO, hC, hM⟩ := S
  exact two_q hL hO hC hM (c_holdsQ l G hC.1.1 hL hC.2.1 hO.1 hC.2.2.2.1 (sL s) hC.2.2.2.2.1 x1 x2) (fun I' L' h1 h2 => d_holdsQ l G hL hO.1 h1 (sL s) h2 x1 x2)
set_option maxRecDepth 4000 in
theorem t_bonus (l : Launch) (G : GT) {w : Wd} (S : Sv w) (x1 : Int32) : Two l G mX11_bonus mX12_bonus 1 1 [.int x1] w := by
  obtain ⟨I, L, R, c, c', s, rfl, hL, hO, hC, hM⟩ := S
  exact two_q hL hO hC hM (c_bonusQ l G hC.1.1 hL hC.2.1 hO.1 hC.2.2.2.1 (sL s) hC.2.2.2.2.1 x1) (fun I' L' h1 h2 => d_bonusQ l G hL hO.1 h1 (sL s) h2 x1)
set_option maxRecDepth 4000 in
theorem t_place (l : Launch) (G : GT) {w : Wd} (S : Sv w) (x1 : Int32) : Two l G mX11_place mX12_place 6 9 [.int x1] w := by
  obtain ⟨I, L, R, c, c', s, rfl, hL, hO, hC, hM⟩ := S
  exact two_q hL hO hC hM (c_placeQ l G hC.1.1 hL hC.2.1 hO.1 hC.2.2.2.1 (sL s) hC.2.2.2.2.1 x1) (fun I' L' h1 h2 => d_placeQ l G hL hO.1 h1 (sL s) h2 x1)
set_option maxRecDepth 4000 in
theorem t_rank (l : Launch) (G : GT) {w : Wd} (S : Sv w) (x1 : Int32) : Two l G mX11_rank mX12_rank 6 9 [.int x1] w := by
  obtain ⟨I, L, R, c, c', s, rfl, hL, hO, hC, hM⟩ := S
  exact two_q hL hO hC hM (c_rankQ l G hC.1.1 hL hC.2.1 hO.1 hC.2.2.2.1 (sL s) hC.2.2.2.2.1 x1) (fun I' L' h1 h2 => d_rankQ l G hL hO.1 h1 (sL s) h2 x1)
set_option maxRecDepth 4000 in
theorem t_leads (l : Launch) (G : GT) {w : Wd} (S : Sv w) (x1 : Int32) : Two l G mX11_leads mX12_leads 4 4 [.int x1] w := by
  obtain ⟨I, L, R, c, c', s, rfl, hL, hO, hC, hM⟩ := S
  exact two_q hL hO hC hM (c_leadsQ l G hC.1.1 hL hC.2.1 hO.1 hC.2.2.2.1 (sL s) hC.2.2.2.2.1 x1) (fun I' L' h1 h2 => d_leadsQ l G hL hO.1 h1 (sL s) h2 x1)
set_option maxRecDepth 4000 in
theorem t_dream (l : Launch) (G : GT) {w : Wd} (S : Sv w) : Two l G mX11_dream mX12_dream 4 4 [] w := by
  obtain ⟨I, L, R, c, c', s, rfl, hL, hO, hC, hM⟩ := S
  exact two_q hL hO hC hM (c_dreamQ l G hC.1.1 hL hC.2.1 hO.1 hC.2.2.2.1 (sL s) hC.2.2.2.2.1 ) (fun I' L' h1 h2 => d_dreamQ l G hL hO.1 h1 (sL s) h2 )
set_option maxRecDepth 4000 in
theorem t_need (l : Launch) (G : GT) {w : Wd} (S : Sv w) (x1 x2 : Int32) : Two l G mX11_need mX12_need 5 9 [.int x1, .int x2] w := by
  obtain ⟨I, L, R, c, c', s, rfl, hL, hO, hC, hM⟩ := S
  exact two_q hL hO hC hM (c_needQ l G hC.1.1 hL hC.2.1 hO.1 hC.2.2.2.1 (sL s) hC.2.2.2.2.1 x1 x2) (fun I' L' h1 h2 => d_needQ l G hL hO.1 h1 (sL s) h2 x1 x2)
set_option maxRecDepth 4000 in
theorem t_needIn (l : Launch) (G : GT) {w : Wd} (S : Sv w) (x1 x2 x3 : Int32) : Two l G mX11_needIn mX12_needIn 5 9 [.int x1, .int x2, .int x3] w := by
  obtain ⟨I, L, R, c, c', s, rfl, hL, hO, hC, hM⟩ := S
  exact two_q hL hO hC hM (c_needInQ l G hC.1.1 hL hC.2.1 hO.1 hC.2.2.2.1 (sL s) hC.2.2.2.2.1 x1 x2 x3) (fun I' L' h1 h2 => d_needInQ l G hL hO.1 h1 (sL s) h2 x1 x2 x3)
set_option maxRecDepth 4000 in
theorem t_pass (l : Launch) (G : GT) {w : Wd} (S : Sv w) (x1 x2 x3 : Int32) : Two l G mX11_pass mX12_pass 6 9 [.int x1, .int x2, .int x3] w := by
  obtain ⟨I, L, R, c, c', s, rfl, hL, hO, hC, hM⟩ := S
  exact two_q hL hO hC hM (c_passQ l G hC.1.1 hL hC.2.1 hO.1 hC.2.2.2.1 (sL s) hC.2.2.2.2.1 x1 x2 x3) (fun I' L' h1 h2 => d_passQ l G hL hO.1 h1 (sL s) h2 x1 x2 x3)
set_option maxRecDepth 4000 in
theorem t_trained (l : Launch) (G : GT) {w : Wd} (S : Sv w) (x1 x2 x3 : Int32) : Two l G mX11_trained mX12_trained 3 3 [.int x1, .int x2, .int x3] w := by
  obtain ⟨I, L, R, c, c', s, rfl, hL, hO, hC, hM⟩ := S
  exact two_q hL hO hC hM (c_trainedQ l G hC.1.1 hL hC.2.1 hO.1 hC.2.2.2.1 (sL s) hC.2.2.2.2.1 x1 x2 x3) (fun I' L' h1 h2 => d_trainedQ l G hL hO.1 h1 (sL s) h2 x1 x2 x3)
set_option maxRecDepth 4000 in
theorem t_gains (l : Launch) (G : GT) {w : Wd} (S : Sv w) (x1 x2 x3 : Int32) : Two l G mX11_gains mX12_gains 3 3 [.int x1, .int x2, .int x3] w := by
  obtain ⟨I, L, R, c, c', s, rfl, hL, hO, hC, hM⟩ := S
  exact two_q hL hO hC hM (c_gainsQ l G hC.1.1 hL hC.2.1 hO.1 hC.2.2.2.1 (sL s) hC.2.2.2.2.1 x1 x2 x3) (fun I' L' h1 h2 => d_gainsQ l G hL hO.1 h1 (sL s) h2 x1 x2 x3)
set_option maxRecDepth 4000 in
theorem t_pays (l : Launch) (G : GT) {w : Wd} (S : Sv w) (x1 x2 : Int32) : Two l G mX11_pays mX12_pays 4 4 [.int x1, .int x2] w := by
  obtain ⟨I, L, R, c, c', s, rfl, hL, hO, hC, hM⟩ := S
  exact two_q hL hO hC hM (c_paysQ l G hC.1.1 hL hC.2.1 hO.1 hC.2.2.2.1 (sL s) hC.2.2.2.2.1 x1 x2) (fun I' L' h1 h2 => d_paysQ l G hL hO.1 h1 (sL s) h2 x1 x2)
set_option maxRecDepth 4000 in
theorem t_spread (l : Launch) (G : GT) {w : Wd} (S : Sv w) (x1 x2 x3 : Int32) : Two l G mX11_spread mX12_spread 6 9 [.int x1, .int x2, .int x3] w := by
  obtain ⟨I, L, R, c, c', s, rfl, hL, hO, hC, hM⟩ := S
  exact two_q hL hO hC hM (c_spreadQ l G hC.1.1 hL hC.2.1 hO.1 hC.2.2.2.1 (sL s) hC.2.2.2.2.1 x1 x2 x3) (fun I' L' h1 h2 => d_spreadQ l G hL hO.1 h1 (sL s) h2 x1 x2 x3)
set_option maxRecDepth 4000 in
theorem t_hours (l : Launch) (G : GT) {w : Wd} (S : Sv w) (x1 x2 : Int32) : Two l G mX11_hours mX12_hours 6 9 [.int x1, .int x2] w := by
  obtain ⟨I, L, R, c, c', s, rfl, hL, hO, hC, hM⟩ := S
  exact two_q hL hO hC hM (c_hoursQ l G hC.1.1 hL hC.2.1 hO.1 hC.2.2.2.1 (sL s) hC.2.2.2.2.1 x1 x2) (fun I' L' h1 h2 => d_hoursQ l G hL hO.1 h1 (sL s) h2 x1 x2)
set_option maxRecDepth 4000 in
theorem t_meet (l : Launch) (G : GT) {w : Wd} (S : Sv w) (x1 x2 : Int32) : Two l G mX11_meet mX12_meet 7 9 [.int x1, .int x2] w := by
  obtain ⟨I, L, R, c, c', s, rfl, hL, hO, hC, hM⟩ := S
  exact two_q hL hO hC hM (c_meetQ l G hC.1.1 hL hC.2.1 hO.1 hC.2.2.2.1 (sL s) hC.2.2.2.2.1 x1 x2) (fun I' L' h1 h2 => d_meetQ l G hL hO.1 h1 (sL s) h2 x1 x2)
set_option maxRecDepth 4000 in
theorem t_met (l : Launch) (G : GT) {w : Wd} (S : Sv w) (x1 x2 : Int32) : Two l G mX11_met mX12_met 7 9 [.int x1, .int x2] w := by
  obtain ⟨I, L, R, c, c', s, rfl, hL, hO, hC, hM⟩ := S
  exact two_q hL hO hC hM (c_metQ l G hC.1.1 hL hC.2.1 hO.1 hC.2.2.2.1 (sL s) hC.2.2.2.2.1 x1 x2) (fun I' L' h1 h2 => d_metQ l G hL hO.1 h1 (sL s) h2 x1 x2)
set_option maxRecDepth 4000 in
theorem t_odds (l : Launch) (G : GT) {w : Wd} (S : Sv w) (x1 x2 x3 : Int32) : Two l G mX11_odds mX12_odds 8 9 [.int x1, .int x2, .int x3] w := by
  obtain ⟨I, L, R, c, c', s, rfl, hL, hO, hC, hM⟩ := S
  exact two_q hL hO hC hM (c_oddsQ l G hC.1.1 hL hC.2.1 hO.1 hC.2.2.2.1 (sL s) hC.2.2.2.2.1 x1 x2 x3) (fun I' L' h1 h2 => d_oddsQ l G hL hO.1 h1 (sL s) h2 x1 x2 x3)
set_option maxRecDepth 4000 in
theorem t_sets (l : Launch) (G : GT) {w : Wd} (S : Sv w) (x1 x2 x3 : Int32) : Two l G mX11_sets mX12_sets 4 4 [.int x1, .int x2, .int x3] w := by
  obtain ⟨I, L, R, c, c', s, rfl, hL, hO, hC, hM⟩ := S
  exact two_a hL hO hC hM (ok_sets hO.1 hO.2.1) (c_setsQ l G hC.1.1 hL hC.2.1 hO.1 hC.2.2.2.1 (sL s) hC.2.2.2.2.1 (n := sN s) (h := sH s) hO.2.1.1 hC.2.2.2.2.2.1 x1 x2 x3) (fun I' L' h1 h2 h3 => d_setsQ l G hL hO.1 h1 (sL s) h2 (n := sN s) (h := sH s) hO.2.1.1 hO.2.1 h3 x1 x2 x3)
set_option maxRecDepth 4000 in
theorem t_athlete (l : Launch) (G : GT) {w : Wd} (S : Sv w) : Two l G mX11_athlete mX12_athlete 4 4 [] w := by
  obtain ⟨I, L, R, c, c', s, rfl, hL, hO, hC, hM⟩ := S
  exact two_a hL hO hC hM (ok_athlete hO.1 hO.2.1) (c_athleteQ l G hC.1.1 hL hC.2.1 hO.1 hC.2.2.2.1 (sL s) hC.2.2.2.2.1 (n := sN s) (h := sH s) hO.2.1.1 hC.2.2.2.2.2.1 ) (fun I' L' h1 h2 h3 => d_athleteQ l G hL hO.1 h1 (sL s) h2 (n := sN s) (h := sH s) hO.2.1.1 hO.2.1 h3 )
set_option maxRecDepth 4000 in
theorem t_gain (l : Launch) (G : GT) {w : Wd} (S : Sv w) (x1 x2 x3 x4 : Int32) : Two l G mX11_gain mX12_gain 4 4 [.int x1, .int x2, .int x3, .int x4] w := by
  obtain ⟨I, L, R, c, c', s, rfl, hL, hO, hC, hM⟩ := S
  exact two_a hL hO hC hM (ok_gain hO.1 hO.2.1) (c_gainQ l G hC.1.1 hL hC.2.1 hO.1 hC.2.2.2.1 (sL s) hC.2.2.2.2.1 (n := sN s) (h := sH s) hO.2.1.1 hC.2.2.2.2.2.1 x1 x2 x3 x4) (fun I' L' h1 h2 h3 => d_gainQ l G hL hO.1 h1 (sL s) h2 (n := sN s) (h := sH s) hO.2.1.1 hO.2.1 h3 x1 x2 x3 x4)
set_option maxRecDepth 4000 in
theorem t_trains (l : Launch) (G : GT) {w : Wd} (S : Sv w) (x1 x2 x3 : Int32) : Two l G mX11_trains mX12_trains 4 4 [.int x1, .int x2, .int x3] w := by
  obtain ⟨I, L, R, c, c', s, rfl, hL, hO, hC, hM⟩ := S
  exact two_a hL hO hC hM (ok_trains hO.1 hO.2.1) (c_trainsQ l G hC.1.1 hL hC.2.1 hO.1 hC.2.2.2.1 (sL s) hC.2.2.2.2.1 (n := sN s) (h := sH s) hO.2.1.1 hC.2.2.2.2.2.1 x1 x2 x3) (fun I' L' h1 h2 h3 => d_trainsQ l G hL hO.1 h1 (sL s) h2 (n := sN s) (h := sH s) hO.2.1.1 hO.2.1 h3 x1 x2 x3)
set_option maxRecDepth 4000 in
theorem t_tie (l : Launch) (G : GT) {w : Wd} (S : Sv w) (x1 : Int32) : Two l G mX11_tie mX12_tie 4 4 [.int x1] w := by
  obtain ⟨I, L, R, c, c', s, rfl, hL, hO, hC, hM⟩ := S
  exact two_a hL hO hC hM (ok_tie hO.1 hO.2.1) (c_tieQ l G hC.1.1 hL hC.2.1 hO.1 hC.2.2.2.1 (sL s) hC.2.2.2.2.1 (n := sN s) (h := sH s) hO.2.1.1 hC.2.2.2.2.2.1 x1) (fun I' L' h1 h2 h3 => d_tieQ l G hL hO.1 h1 (sL s) h2 (n := sN s) (h := sH s) hO.2.1.1 hO.2.1 h3 x1)
set_option maxRecDepth 4000 in
theorem t_undo (l : Launch) (G : GT) {w : Wd} (S : Sv w) : Two l G mX11_undo mX12_undo 1 0 [] w := by
  obtain ⟨I, L, R, c, c', s, rfl, hL, hO, hC, hM⟩ := S
  exact two_a hL hO hC hM (ok_undo hO.1 hO.2.1) (c_undoQ l G hC.1.1 hL hC.2.1 hO.1 hC.2.2.2.1 (sL s) hC.2.2.2.2.1 (n := sN s) (h := sH s) hO.2.1.1 hC.2.2.2.2.2.1 ) (fun I' L' h1 h2 h3 => d_undoQ l G hL hO.1 h1 (sL s) h2 (n := sN s) (h := sH s) hO.2.1.1 hO.2.1 h3 )
set_option maxRecDepth 4000 in
theorem t_tell (l : Launch) (G : GT) {w : Wd} (S : Sv w) : Two l G mX11_tell mX12_tell 6 9 [] w := by
  obtain ⟨I, L, R, c, c', s, rfl, hL, hO, hC, hM⟩ := S
  exact two_o hL hO hC hM (ok_tell hO.1 hO.2.2.2.2) (c_tellQ l G hC.1.1 hL hC.2.1 hO.1 hC.2.2.2.1 (sL s) hC.2.2.2.2.1 (sO s) hC.2.2.2.2.2.2.2.1 ) (fun I' L' h1 h2 h3 => d_tellQ l G hL hO.1 h1 (sL s) h2 (sO s) h3 )
set_option maxRecDepth 4000 in
theorem t_card (l : Launch) (G : GT) {w : Wd} (S : Sv w) (x1 : Int32) : Two l G mX11_card mX12_card 6 6 [.int x1] w := by
  obtain ⟨I, L, R, c, c', s, rfl, hL, hO, hC, hM⟩ := S
  exact two_o hL hO hC hM (ok_card hO.1 hO.2.2.2.2) (c_cardQ l G hC.1.1 hL hC.2.1 hO.1 hC.2.2.2.1 (sL s) hC.2.2.2.2.1 (sO s) hC.2.2.2.2.2.2.2.1 x1) (fun I' L' h1 h2 h3 => d_cardQ l G hL hO.1 h1 (sL s) h2 (sO s) h3 x1)
set_option maxRecDepth 4000 in
theorem t_octet (l : Launch) (G : GT) {w : Wd} (S : Sv w) (x1 : Int32) : Two l G mX11_octet mX12_octet 0 1 [.int x1] w := by
  obtain ⟨I, L, R, c, c', s, rfl, hL, hO, hC, hM⟩ := S
  exact two_p hL hO hC hM (c_octetQ l G hL (sO s) hO.2.2.2.2 hC.2.2.2.2.2.2.2.1 x1) (d_octetQ l G hL (sO s) hO.2.2.2.2 hM.2.2.2.2.1 x1)
set_option maxRecDepth 4000 in
theorem t_kth (l : Launch) (G : GT) {w : Wd} (S : Sv w) (x1 x2 : Int32) : Two l G mX11_kth mX12_kth 4 4 [.int x1, .int x2] w := by
  obtain ⟨I, L, R, c, c', s, rfl, hL, hO, hC, hM⟩ := S
  exact two_q hL hO hC hM (c_kthQ l G hC.1.1 hL hC.2.1 hO.1 hC.2.2.2.1 (sL s) hC.2.2.2.2.1 x1 x2) (fun I' L' h1 h2 => d_kthQ l G hL hO.1 h1 (sL s) h2 x1 x2)
set_option maxRecDepth 4000 in
theorem t_behind (l : Launch) (G : GT) {w : Wd} (S : Sv w) (x1 : Int32) : Two l G mX11_behind mX12_behind 6 6 [.int x1] w := by
  obtain ⟨I, L, R, c, c', s, rfl, hL, hO, hC, hM⟩ := S
  exact two_q hL hO hC hM (c_behindQ l G hC.1.1 hL hC.2.1 hO.1 hC.2.2.2.1 (sL s) hC.2.2.2.2.1 x1) (fun I' L' h1 h2 => d_behindQ l G hL hO.1 h1 (sL s) h2 x1)
set_option maxRecDepth 4000 in
theorem t_hour (l : Launch) (G : GT) {w : Wd} (S : Sv w) (x1 x2 x3 : Int32) : Two l G mX11_hour mX12_hour 4 4 [.int x1, .int x2, .int x3] w := by
  obtain ⟨I, L, R, c, c', s, rfl, hL, hO, hC, hM⟩ := S
  exact two_q hL hO hC hM (c_hourQ l G hC.1.1 hL hC.2.1 hO.1 hC.2.2.2.1 (sL s) hC.2.2.2.2.1 x1 x2 x3) (fun I' L' h1 h2 => d_hourQ l G hL hO.1 h1 (sL s) h2 x1 x2 x3)
set_option maxRecDepth 4000 in
theorem t_squad (l : Launch) (G : GT) {w : Wd} (S : Sv w) (x1 x2 : Int32) : Two l G mX11_squad mX12_squad 6 9 [.int x1, .int x2] w := by
  obtain ⟨I, L, R, c, c', s, rfl, hL, hO, hC, hM⟩ := S
  exact two_q hL hO hC hM (c_squadQ l G hC.1.1 hL hC.2.1 hO.1 hC.2.2.2.1 (sL s) hC.2.2.2.2.1 x1 x2) (fun I' L' h1 h2 => d_squadQ l G hL hO.1 h1 (sL s) h2 x1 x2)
set_option maxRecDepth 4000 in
theorem t_close (l : Launch) (G : GT) {w : Wd} (S : Sv w) : Two l G mX11_close mX12_close 6 9 [] w := by
  obtain ⟨I, L, R, c, c', s, rfl, hL, hO, hC, hM⟩ := S
  exact two_q hL hO hC hM (c_closeQ l G hC.1.1 hL hC.2.1 hO.1 hC.2.2.2.1 (sL s) hC.2.2.2.2.1 ) (fun I' L' h1 h2 => d_closeQ l G hL hO.1 h1 (sL s) h2 )
set_option maxRecDepth 4000 in
theorem t_team (l : Launch) (G : GT) {w : Wd} (S : Sv w) (x1 : Int32) : Two l G mX11_team mX12_team 6 9 [.int x1] w := by
  obtain ⟨I, L, R, c, c', s, rfl, hL, hO, hC, hM⟩ := S
  exact two_q hL hO hC hM (c_teamQ l G hC.1.1 hL hC.2.1 hO.1 hC.2.2.2.1 (sL s) hC.2.2.2.2.1 x1) (fun I' L' h1 h2 => d_teamQ l G hL hO.1 h1 (sL s) h2 x1)
set_option maxRecDepth 4000 in
theorem t_kinds (l : Launch) (G : GT) {w : Wd} (S : Sv w) (x1 x2 x3 : Int32) : Two l G mX11_kinds mX12_kinds 4 4 [.int x1, .int x2, .int x3] w := by
  obtain ⟨I, L, R, c, c', s, rfl, hL, hO, hC, hM⟩ := S
  exact two_q hL hO hC hM (c_kindsQ l G hC.1.1 hL hC.2.1 hO.1 hC.2.2.2.1 (sL s) hC.2.2.2.2.1 x1 x2 x3) (fun I' L' h1 h2 => d_kindsQ l G hL hO.1 h1 (sL s) h2 x1 x2 x3)
set_option maxRecDepth 4000 in
theorem t_lent (l : Launch) (G : GT) {w : Wd} (S : Sv w) (x1 x2 x3 : Int32) : Two l G mX11_lent mX12_lent 5 9 [.int x1, .int x2, .int x3] w := by
  obtain ⟨I, L, R, c, c', s, rfl, hL, hO, hC, hM⟩ := S
  exact two_q hL hO hC hM (c_lentQ l G hC.1.1 hL hC.2.1 hO.1 hC.2.2.2.1 (sL s) hC.2.2.2.2.1 x1 x2 x3) (fun I' L' h1 h2 => d_lentQ l G hL hO.1 h1 (sL s) h2 x1 x2 x3)
set_option maxRecDepth 4000 in
theorem t_even (l : Launch) (G : GT) {w : Wd} (S : Sv w) (x1 : Int32) : Two l G mX11_even mX12_even 5 9 [.int x1] w := by
  obtain ⟨I, L, R, c, c', s, rfl, hL, hO, hC, hM⟩ := S
  exact two_q hL hO hC hM (c_evenQ l G hC.1.1 hL hC.2.1 hO.1 hC.2.2.2.1 (sL s) hC.2.2.2.2.1 x1) (fun I' L' h1 h2 => d_evenQ l G hL hO.1 h1 (sL s) h2 x1)
