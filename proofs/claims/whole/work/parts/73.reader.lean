/-! the class' Reader: frames, answers -/
def Fx (P : Nat → Nat → Prop) (I I' : Nat → Nat → Int32) : Prop := ∀ b j, ¬ P b j → I' b j = I b j
theorem Fx.rf (P : Nat → Nat → Prop) (I : Nat → Nat → Int32) : Fx P I I := fun _ _ _ => rfl
theorem Fx.tr {P : Nat → Nat → Prop} {I I' I'' : Nat → Nat → Int32} (h : Fx P I I') (h' : Fx P I' I'') : Fx P I I'' := fun b j hk => (h' b j hk).trans (h b j hk)
theorem Fx.mo {P Q : Nat → Nat → Prop} {I I' : Nat → Nat → Int32} (h : Fx P I I') (hq : ∀ b j, P b j → Q b j) : Fx Q I I' := fun b j hk => h b j (fun z => hk (hq b j z))
theorem Fx.up {P : Nat → Nat → Prop} {I I' : Nat → Nat → Int32} {a k : Nat} {v : Int32} (h : Fx P I I') (ha : P a k) : Fx P I (up2 I' a k v) := fun b j hk => by
  rw [up2_i (fun z => hk (by rw [z.1, z.2]; exact ha))]; exact h b j hk
def okB {α : Type} : RS α → Int32
  | .inl _ => nI 0
  | .inr _ => nI 1
theorem okB_ne {α : Type} {r : RS α} (h : ¬ okB r = 0) : ∃ a, r = .inr a := by
  match r, h with
  | .inl e, h => exact absurd rfl h
  | .inr a, _ => exact ⟨a, rfl⟩
theorem okB_eq {α : Type} {r : RS α} (h : okB r = 0) : ∃ e, r = .inl e := by
  match r, h with
  | .inl e, _ => exact ⟨e, rfl⟩
  | .inr a, h => exact absurd h (by show ¬ nI 1 = 0; decide)
theorem isB_ok {α : Type} (r : RS α) : isB (okB r) := by
  match r with
  | .inl e => exact Or.inl rfl
  | .inr a => exact Or.inr rfl
def PX {α : Type} (I : Nat → Nat → Int32) (L : Nat → Nat → Int64) (R : Nat → Nat → Option Nat) (P0 P1 : Nat → Nat → Prop) (ok : α → (Nat → Nat → Int32) → Prop) (res : RS α) : Option Value → Wd → Prop := fun r w' => r = some (.int (okB res)) ∧ ∃ I', w' = wd I' L R ∧ (∀ e, res = .inl e → I' 4 0 = nI e.1 ∧ I' 4 1 = nI e.2 ∧ Fx P1 I I') ∧ (∀ a, res = .inr a → ok a I' ∧ Fx P0 I I')
theorem PX_e {α : Type} {I I' : Nat → Nat → Int32} {L : Nat → Nat → Int64} {R : Nat → Nat → Option Nat} {P0 P1 : Nat → Nat → Prop} {ok : α → (Nat → Nat → Int32) → Prop} {res : RS α} {e : Nat × Nat} (h : res = .inl e) (h0 : I' 4 0 = nI e.1) (h1 : I' 4 1 = nI e.2) (hF : Fx P1 I I') : PX I L R P0 P1 ok res (some (.int (nI 0))) (wd I' L R) := by
  subst h
  exact ⟨rfl, I', rfl, fun e' he => by cases he; exact ⟨h0, h1, hF⟩, fun a ha => by cases ha⟩
theorem PX_o {α : Type} {I I' : Nat → Nat → Int32} {L : Nat → Nat → Int64} {R : Nat → Nat → Option Nat} {P0 P1 : Nat → Nat → Prop} {ok : α → (Nat → Nat → Int32) → Prop} {res : RS α} {a : α} (h : res = .inr a) (h0 : ok a I') (hF : Fx P0 I I') : PX I L R P0 P1 ok res (some (.int (nI 1))) (wd I' L R) := by
  subst h
  exact ⟨rfl, I', rfl, fun e he => (by cases he), fun a' ha => by cases ha; exact ⟨h0, hF⟩⟩
/-- what a call brought, and what came ahead of it -/
theorem PX_t {α : Type} {I I1 I' : Nat → Nat → Int32} {L : Nat → Nat → Int64} {R : Nat → Nat → Option Nat} {P0 P1 : Nat → Nat → Prop} {ok ok' : α → (Nat → Nat → Int32) → Prop} {res : RS α} (k0 : ∀ e, res = .inl e → I' 4 0 = nI e.1 ∧ I' 4 1 = nI e.2 ∧ Fx P1 I1 I') (k1 : ∀ a, res = .inr a → ok a I' ∧ Fx P0 I1 I') (hF : Fx P0 I I1) (h01 : ∀ b j, P0 b j → P1 b j) (ho : ∀ a, ok a I' → Fx P0 I1 I' → ok' a I') : PX I L R P0 P1 ok' res (some (.int (okB res))) (wd I' L R) :=
  ⟨rfl, I', rfl, fun e he => ⟨(k0 e he).1, (k0 e he).2.1, (hF.mo h01).tr (k0 e he).2.2⟩, fun a ha => ⟨ho a (k1 a ha).1 (k1 a ha).2, hF.tr (k1 a ha).2⟩⟩
def rP0 (b j : Nat) : Prop := b = 4 ∧ (j = 4 ∨ j = 5 ∨ j = 6)
def rP1 (b j : Nat) : Prop := b = 4 ∧ (j = 0 ∨ j = 1 ∨ j = 4 ∨ j = 5 ∨ j = 6)
theorem rP01 (b j : Nat) (h : rP0 b j) : rP1 b j := ⟨h.1, by have := h.2; omega⟩
/-- TOKENS in their bounds -/
def TN (T : Nat → TK) (N : Nat) : Prop := N ≤ 1200 ∧ (∀ j, j ≤ N → ((T j).1 = 41 ↔ j = N)) ∧ ∀ j, (T j).1 < 42
/-- the Reader stands at i -/
def SE (I : Nat → Nat → Int32) (R : Nat → Nat → Option Nat) (T : Nat → TK) (N i : Nat) : Prop := TKS I R T N ∧ I 4 4 = nI i ∧ i ≤ N
theorem SE_go {I I' : Nat → Nat → Int32} {R : Nat → Nat → Option Nat} {T : Nat → TK} {N i j : Nat} {P : Nat → Nat → Prop} (h : SE I R T N i) (hF : Fx P I I') (hP : ∀ b k, P b k → ¬ b = 5 ∧ ¬ b = 7 ∧ ¬ b = 8) (h4 : I' 4 4 = nI j) (hj : j ≤ N) : SE I' R T N j := by
  refine ⟨⟨?_, fun x hx => ?_⟩, h4, hj⟩
  · rw [hF _ _ (fun z => (hP _ _ z).1 rfl)]; exact h.1.1
  · rw [hF 7 _ (fun z => (hP _ _ z).2.1 rfl), hF 8 _ (fun z => (hP _ _ z).2.2 rfl)]; exact h.1.2 x hx
set_option maxRecDepth 20000 in
theorem c_sees (l : Launch) (G : GT) {I : Nat → Nat → Int32} {L : Nat → Nat → Int64} {R : Nat → Nat → Option Nat} (hL : Lay R) {T : Nat → TK} {N i : Nat} (hN : TN T N) (hS : SE I R T N i) {s : Nat} (hs : s < 42) : Mt l G mX4_sees (0) 0 0 [.ref (ra G 4), .ref (ra G (1000 + s))] (wd I L R) (pV (.int (b2 ((T i).1 = s))) (wd I L R)) := by
  refine mt_of (own := RX4) (by decide) rfl rfl (fun Z C P B => ?_)
  have D := @dc_of _ _ dX4_sees
  have hN1 := hN.1
  have hi := hS.2.2
  have hR := (hS.1.2 i hi).1
  refine j_aload_n C (D 0 rfl) rfl ?_
  refine j_getr C f_X4_18 (lit (kd := 4) (n := 8) rfl) rfl rfl (hL _ _ _ rfl) (D 1 rfl) ?_
  refine j_getr C f_X4_66 (lit (kd := 9) (n := 5) rfl) rfl rfl (hL _ _ _ rfl) (D 2 rfl) ?_
  refine j_aload_n C (D 3 rfl) rfl ?_
  refine j_geti C f_X4_36 (lit (kd := 4) (n := 8) rfl) rfl rfl (D 4 rfl) ?_
  rw [hS.2.1]
  refine j_aaldv C (kd := 0) (lit (kd := 24) (n := 1201) rfl) rfl (ix_n (by omega) (by decide)) (D 5 rfl) ?_
  refine j_aload_n C (D 6 rfl) rfl ?_
  refine j_acmpS C hs (fun r hr => ⟨(T i).1, hN.2.2 i, by rw [hR] at hr; exact (Option.some.inj hr).symm⟩) 20 (D 7 rfl) (by decide) (fun h13 => ?_) (fun h13 => ?_)
  · refine j_iconst C (v := nI 0) (D 10 rfl) rfl ?_
    exact j_zret C P rfl (by first | exact Or.inl rfl | exact Or.inr rfl | assumption) (D 11 rfl) ⟨Nat.le_refl _, Nat.le_refl _⟩ (pv_i (b2_f (fun z => h13 (by rw [hR, z]))))
  · refine j_iconst C (v := nI 1) (D 8 rfl) rfl ?_
    refine j_goto C 21 (D 9 rfl) (by decide) ?_
    exact j_zret C P rfl (by first | exact Or.inl rfl | exact Or.inr rfl | assumption) (D 11 rfl) ⟨Nat.le_refl _, Nat.le_refl _⟩ (pv_i (b2_t (by rw [hR] at h13; have := Option.some.inj h13; omega)))
set_option maxRecDepth 20000 in
theorem c_advance (l : Launch) (G : GT) {I : Nat → Nat → Int32} {L : Nat → Nat → Int64} {R : Nat → Nat → Option Nat} (hL : Lay R) {T : Nat → TK} {N i : Nat} (hN : TN T N) (hS : SE I R T N i) (hlt : i < N) : Mt l G mX4_advance (0) 0 0 [.ref (ra G 4)] (wd I L R) (fun r w' => r = some (.int (nI 1)) ∧ w' = wd (up2 I 4 4 (nI (i + 1))) L R) := by
  refine mt_of (own := RX4) (by decide) rfl rfl (fun Z C P B => ?_)
  have D := @dc_of _ _ dX4_advance
  have hN1 := hN.1
  refine j_aload_n C (D 0 rfl) rfl ?_
  refine j_geti C f_X4_36 (lit (kd := 4) (n := 8) rfl) rfl rfl (D 1 rfl) ?_
  rw [hS.2.1]
  refine j_aload_n C (D 2 rfl) rfl ?_
  refine j_getr C f_X4_18 (lit (kd := 4) (n := 8) rfl) rfl rfl (hL _ _ _ rfl) (D 3 rfl) ?_
  refine j_geti C f_X4_70 (lit (kd := 9) (n := 5) rfl) rfl rfl (D 4 rfl) ?_
  rw [hS.1.1]
  refine j_icmp_ge C  24 (D 5 rfl) (by decide) (fun h11 => absurd h11 (fun z => by rw [nle (by omega) (by omega)] at z; omega)) (fun h11 => ?_)
  refine j_aload_n C (D 6 rfl) rfl ?_
  refine j_dup C (D 7 rfl) rfl ?_
  refine j_geti C f_X4_36 (lit (kd := 4) (n := 8) rfl) rfl rfl (D 8 rfl) ?_
  rw [hS.2.1]
  refine j_iconst C (v := nI 1) (D 9 rfl) rfl ?_
  refine j_iadd C (D 10 rfl) ?_
  rw [nI_add]
  refine j_puti C f_X4_36 (lit (kd := 4) (n := 8) rfl) rfl rfl (D 11 rfl) ?_
  refine j_iconst C (v := nI 1) (D 12 rfl) rfl ?_
  exact j_zret C P rfl (by first | exact Or.inl rfl | exact Or.inr rfl | assumption) (D 13 rfl) ⟨Nat.le_refl _, Nat.le_refl _⟩ ⟨rfl, rfl⟩
set_option maxRecDepth 20000 in
theorem c_refuse (l : Launch) (G : GT) {I : Nat → Nat → Int32} {L : Nat → Nat → Int64} {R : Nat → Nat → Option Nat} (hL : Lay R) {T : Nat → TK} {N i : Nat} (hN : TN T N) (hS : SE I R T N i) (k : Nat) : Mt l G mX4_refuse (0) 0 0 [.ref (ra G 4), .int (nI k)] (wd I L R) (fun r w' => r = some (.int (nI 0)) ∧ w' = wd (up2 (up2 I 4 0 (nI k)) 4 1 (nI (fl T i k).2)) L R) := by
  refine mt_of (own := RX4) (by decide) rfl rfl (fun Z C P B => ?_)
  have D := @dc_of _ _ dX4_refuse
  have hN1 := hN.1
  have hi := hS.2.2
  refine j_aload_n C (D 0 rfl) rfl ?_
  refine j_iload_n C (D 1 rfl) rfl ?_
  refine j_puti C f_X4_43 (lit (kd := 4) (n := 8) rfl) rfl rfl (D 2 rfl) ?_
  refine j_aload_n C (D 3 rfl) rfl ?_
  refine j_aload_n C (D 4 rfl) rfl ?_
  refine j_getr C f_X4_18 (lit (kd := 4) (n := 8) rfl) rfl rfl (hL _ _ _ rfl) (D 5 rfl) ?_
  refine j_getr C f_X4_73 (lit (kd := 9) (n := 5) rfl) rfl rfl (hL _ _ _ rfl) (D 6 rfl) ?_
  refine j_aload_n C (D 7 rfl) rfl ?_
  refine j_geti C f_X4_36 (lit (kd := 4) (n := 8) rfl) rfl rfl (D 8 rfl) ?_
  rw [up2_i (by omega), hS.2.1]
  refine j_iald C (lit (kd := 20) (n := 1201) rfl) (ix_n (by omega) (by decide)) (D 9 rfl) ?_
  rw [up2_i (by omega), (hS.1.2 i hi).2.1]
  refine j_puti C f_X4_9 (lit (kd := 4) (n := 8) rfl) rfl rfl (D 10 rfl) ?_
  refine j_iconst C (v := nI 0) (D 11 rfl) rfl ?_
  exact j_zret C P rfl (by first | exact Or.inl rfl | exact Or.inr rfl | assumption) (D 12 rfl) ⟨Nat.le_refl _, Nat.le_refl _⟩ ⟨rfl, rfl⟩
def tkO (j : Nat) (I' : Nat → Nat → Int32) : Prop := I' 4 4 = nI j
def nmO (x : Nat × Nat) (I' : Nat → Nat → Int32) : Prop := I' 4 4 = nI x.2 ∧ I' 4 5 = nI x.1
theorem flt0 {I : Nat → Nat → Int32} {e : Nat × Nat} : up2 (up2 I 4 0 (nI e.1)) 4 1 (nI e.2) 4 0 = nI e.1 := by rw [up2_i (by omega), up2_same]
set_option maxRecDepth 20000 in
theorem c_take (l : Launch) (G : GT) {I : Nat → Nat → Int32} {L : Nat → Nat → Int64} {R : Nat → Nat → Option Nat} (hL : Lay R) {T : Nat → TK} {N i : Nat} (hN : TN T N) (hS : SE I R T N i) {s : Nat} (hs : s < 41) : Mt l G mX4_take (1) 0 0 [.ref (ra G 4), .ref (ra G (1000 + s))] (wd I L R) (PX I L R rP0 rP1 tkO (pTake T i s)) := by
  refine mt_of (own := RX4) (by decide) rfl rfl (fun Z C P B => ?_)
  have D := @dc_of _ _ dX4_take
  refine j_aload_n C (D 0 rfl) rfl ?_
  refine j_aload_n C (D 1 rfl) rfl ?_
  refine j_cVp C B k_X4_52 (rc_obj C (lit (kd := 4) (n := 8) rfl) rfl rfl) (c_sees _ _ hL hN hS (by omega)) rfl rfl rfl rfl ⟨Nat.le_refl _, Nat.le_refl _⟩ (D 2 rfl) ?_
  refine j_if_eq C  15 (D 3 rfl) (by decide) (fun h5 => ?_) (fun h5 => ?_)
  · refine j_aload_n C (D 7 rfl) rfl ?_
    refine j_iconst C (v := nI 1) (D 8 rfl) rfl ?_
    refine j_callV C B k_X4_80 (rc_obj C (lit (kd := 4) (n := 8) rfl) rfl rfl) (c_refuse _ _ hL hN hS 1) rfl rfl rfl rfl ⟨Nat.le_refl _, Nat.le_refl _⟩ (D 9 rfl) ?_
    rintro r w' ⟨rfl, rfl⟩
    exact j_zret C P rfl (by first | exact Or.inl rfl | exact Or.inr rfl | assumption) (D 10 rfl) ⟨Nat.le_refl _, Nat.le_refl _⟩ (PX_e (e := fl T i 1) (by unfold pTake; rw [if_neg (b2_eq h5)]) flt0 (up2_same _ _ _ _) (Fx.up (Fx.up (Fx.rf _ _) ⟨rfl, by omega⟩) ⟨rfl, by omega⟩))
  · refine j_aload_n C (D 4 rfl) rfl ?_
    refine j_callV C B k_X4_77 (rc_obj C (lit (kd := 4) (n := 8) rfl) rfl rfl) (c_advance _ _ hL hN hS (lt_of_T hN.2.1 hS.2.2 (by have := b2_ne h5; omega))) rfl rfl rfl rfl ⟨Nat.le_refl _, Nat.le_refl _⟩ (D 5 rfl) ?_
    rintro r w' ⟨rfl, rfl⟩
    refine j_goto C 20 (D 6 rfl) (by decide) ?_
    exact j_zret C P rfl (by first | exact Or.inl rfl | exact Or.inr rfl | assumption) (D 10 rfl) ⟨Nat.le_refl _, Nat.le_refl _⟩ (PX_o (a := i + 1) (by unfold pTake; rw [if_pos (b2_ne h5)]) (up2_same _ _ _ _) (Fx.up (Fx.rf _ _) ⟨rfl, by omega⟩))
theorem min_in {v lo hx : Nat} (hh : hx ≤ 100000) : (lo ≤ min 1000000 v ∧ min 1000000 v < hx) ↔ (lo ≤ v ∧ v < hx) := by omega
theorem win_iff {lo hx v : Nat} {hi : Int32} (hlo : lo ≤ 100000) (hh : hx ≤ 100000) (hhi : hi.toInt + 1 = hx) : (nI lo ≤ nI (min 1000000 v) ∧ nI (min 1000000 v) ≤ hi) ↔ (lo ≤ v ∧ v < hx) := by
  rw [i_le, i_le, nI_int (by omega), nI_int (by omega)]
  omega
set_option maxRecDepth 20000 in
theorem c_takeNumber (l : Launch) (G : GT) {I : Nat → Nat → Int32} {L : Nat → Nat → Int64} {R : Nat → Nat → Option Nat} (hL : Lay R) {T : Nat → TK} {N i : Nat} (hN : TN T N) (hS : SE I R T N i) {lo hx : Nat} {hi : Int32} (hlo : lo ≤ 100000) (hh : hx ≤ 100000) (hhi : hi.toInt + 1 = hx) : Mt l G mX4_takeNumber (1) 0 0 [.ref (ra G 4), .int (nI lo), .int hi] (wd I L R) (PX I L R rP0 rP1 nmO (pNum T i lo hx)) := by
  refine mt_of (own := RX4) (by decide) rfl rfl (fun Z C P B => ?_)
  have D := @dc_of _ _ dX4_takeNumber
  have hN1 := hN.1
  have hi1 := hS.2.2
  refine j_aload_n C (D 0 rfl) rfl ?_
  refine j_gsgn C (i := 39) (by decide) s_X4_84 (D 1 rfl) ?_
  refine j_cVp C B k_X4_52 (rc_obj C (lit (kd := 4) (n := 8) rfl) rfl rfl) (c_sees _ _ hL hN hS (by omega)) rfl rfl rfl rfl ⟨Nat.le_refl _, Nat.le_refl _⟩ (D 2 rfl) ?_
  refine j_if_ne C  16 (D 3 rfl) (by decide) (fun h7 => ?_) (fun h7 => ?_)
  · have h39 : (T i).1 = 39 := b2_ne h7
    have hi2 := lt_of_T hN.2.1 hS.2.2 (by omega)
    have hS2 : ∀ v, SE (up2 I 4 5 v) R T N i := fun v => SE_go hS (Fx.up (Fx.rf rP0 I) ⟨rfl, by omega⟩) (fun b k z => by have := z.1; omega) (by rw [up2_i (by omega)]; exact hS.2.1) hi1
    refine j_aload_n C (D 8 rfl) rfl ?_
    refine j_aload_n C (D 9 rfl) rfl ?_
    refine j_getr C f_X4_18 (lit (kd := 4) (n := 8) rfl) rfl rfl (hL _ _ _ rfl) (D 10 rfl) ?_
    refine j_getr C f_X4_87 (lit (kd := 9) (n := 5) rfl) rfl rfl (hL _ _ _ rfl) (D 11 rfl) ?_
    refine j_aload_n C (D 12 rfl) rfl ?_
    refine j_geti C f_X4_36 (lit (kd := 4) (n := 8) rfl) rfl rfl (D 13 rfl) ?_
    rw [hS.2.1]
    refine j_iald C (lit (kd := 20) (n := 1201) rfl) (ix_n (by omega) (by decide)) (D 14 rfl) ?_
    rw [(hS.1.2 i hi1).2.2 h39]
    refine j_puti C f_X4_90 (lit (kd := 4) (n := 8) rfl) rfl rfl (D 15 rfl) ?_
    refine j_aload_n C (D 16 rfl) rfl ?_
    refine j_geti C f_X4_90 (lit (kd := 4) (n := 8) rfl) rfl rfl (D 17 rfl) ?_
    rw [up2_same]
    refine j_iload_n C (D 18 rfl) rfl ?_
    refine j_iload_n C (D 19 rfl) rfl ?_
    refine j_cSNp C B k_X4_93 (c_isWithin _ _ _ _ _ _) rfl rfl rfl rfl ⟨Nat.le_refl _, Nat.le_refl _⟩ (D 20 rfl) ?_
    refine j_if_eq C  51 (D 21 rfl) (by decide) (fun h41 => ?_) (fun h41 => ?_)
    · refine j_aload_n C (D 25 rfl) rfl ?_
      refine j_iconst C (v := nI 2) (D 26 rfl) rfl ?_
      refine j_callV C B k_X4_80 (rc_obj C (lit (kd := 4) (n := 8) rfl) rfl rfl) (c_refuse _ _ hL hN (hS2 _) 2) rfl rfl rfl rfl ⟨Nat.le_refl _, Nat.le_refl _⟩ (D 27 rfl) ?_
      rintro r w' ⟨rfl, rfl⟩
      exact j_zret C P rfl (by first | exact Or.inl rfl | exact Or.inr rfl | assumption) (D 28 rfl) ⟨Nat.le_refl _, Nat.le_refl _⟩ (PX_e (e := fl T i 2) (by unfold pNum; rw [if_pos h39, if_neg (fun z => b2_eq h41 ((win_iff hlo hh hhi).mpr z))]) flt0 (up2_same _ _ _ _) (Fx.up (Fx.up (Fx.up (Fx.rf _ _) ⟨rfl, by omega⟩) ⟨rfl, by omega⟩) ⟨rfl, by omega⟩))
    · refine j_aload_n C (D 22 rfl) rfl ?_
      refine j_callV C B k_X4_77 (rc_obj C (lit (kd := 4) (n := 8) rfl) rfl rfl) (c_advance _ _ hL hN (hS2 _) hi2) rfl rfl rfl rfl ⟨Nat.le_refl _, Nat.le_refl _⟩ (D 23 rfl) ?_
      rintro r w' ⟨rfl, rfl⟩
      refine j_goto C 56 (D 24 rfl) (by decide) ?_
      exact j_zret C P rfl (by first | exact Or.inl rfl | exact Or.inr rfl | assumption) (D 28 rfl) ⟨Nat.le_refl _, Nat.le_refl _⟩ (PX_o (a := ((T i).2.2, i + 1)) (by unfold pNum; rw [if_pos h39, if_pos ((win_iff hlo hh hhi).mp (b2_ne h41))]) ⟨up2_same _ _ _ _, by rw [up2_i (by omega), up2_same]; congr 1; have := (win_iff hlo hh hhi).mp (b2_ne h41); omega⟩ (Fx.up (Fx.up (Fx.rf _ _) ⟨rfl, by omega⟩) ⟨rfl, by omega⟩))
  · refine j_aload_n C (D 4 rfl) rfl ?_
    refine j_iconst C (v := nI 1) (D 5 rfl) rfl ?_
    refine j_callV C B k_X4_80 (rc_obj C (lit (kd := 4) (n := 8) rfl) rfl rfl) (c_refuse _ _ hL hN hS 1) rfl rfl rfl rfl ⟨Nat.le_refl _, Nat.le_refl _⟩ (D 6 rfl) ?_
    rintro r w' ⟨rfl, rfl⟩
    exact j_zret C P rfl (by first | exact Or.inl rfl | exact Or.inr rfl | assumption) (D 7 rfl) ⟨Nat.le_refl _, Nat.le_refl _⟩ (PX_e (e := fl T i 1) (by unfold pNum; rw [if_neg (b2_eq h7)]) flt0 (up2_same _ _ _ _) (Fx.up (Fx.up (Fx.rf _ _) ⟨rfl, by omega⟩) ⟨rfl, by omega⟩))
